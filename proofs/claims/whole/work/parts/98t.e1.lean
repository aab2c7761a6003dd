theorem cmp_ge {v : Int32} {n m : Nat} {f g : Nat → Nat} (h : cmpOk v n f m g) : 0 ≤ v ↔ ¬ wlt n f m g := by
  rw [← h.1, Int32.le_iff_toInt_le]
  show (0 : Int) ≤ v.toInt ↔ _
  omega
theorem cmp_eq0 {v : Int32} {n m : Nat} {f g : Nat → Nat} (h : cmpOk v n f m g) : v = 0 ↔ weq n f m g := by
  rw [← h.2, ← Int32.toInt_inj]
  exact Iff.rfl
def EnP (Λ : LY) (σ : HS) (n r m : Nat) (P : Nat → Nat → (Nat → Nat) → Prop) (g : Nat → Nat) (x : LY × HS) : Prop := ∃ n2 ar2 cp2 wf2 tx2 ln2 hd2 lt2, GL x.1 x.2 n2 ar2 cp2 wf2 tx2 ln2 hd2 lt2 ∧ n2 ≤ n + 1 ∧ GW (fun r' m' g' => P r' m' g' ∨ (r' = r ∧ weq m g m' g')) n2 ln2 hd2 lt2 ∧ Gw Λ x.1 ∧ (∀ t, t ≠ 16 → t ≠ 17 → gC x.1 t = gC Λ t) ∧ Same (fun t => t ≠ 15 ∧ t ≠ 16 ∧ t ≠ 17) σ x.2
theorem Kp_word {Λ : LY} {σ : HS} {j : Nat} {v : Int64} : Kp Λ σ (sJ (sV (nS Λ σ 17) 17 (gC Λ 17) 0 (some j)) 17 (gC Λ 17) 1 v) := Kp.sJ (Kp.sV Kp.nS (Nat.le_refl _)) (Nat.le_refl _)
theorem EnP.new {Λ L1 : LY} {σ : HS} {n ar cp s r m j q : Nat} {wf tx ln hd : Nat → Nat} {lt : Nat → Nat → Nat} {P : Nat → Nat → (Nat → Nat) → Prop} {g : Nat → Nat} {x : LY × HS} (hL : GL Λ σ n ar cp wf tx ln hd lt) (hW : GW P n ln hd lt) (hs : s ≤ n) (hr : r < 40) (hlo : ∀ a, a < s → wlt (ln a) (lt a) m g) (hup : s < n → ¬ wlt (ln s) (lt s) m g ∧ ¬ weq (ln s) (lt s) m g) (hm0 : m ≠ 0) (hj2 : 2 ≤ j) (hT : TX Λ σ j m m g) (e1 : L1 = nY Λ 17 q 0) (h : AdP L1 (sJ (sV (nS Λ σ 17) 17 (gC Λ 17) 0 (some j)) 17 (gC Λ 17) 1 (lN (2 ^ r))) n s (gC Λ 17) wf x) : EnP Λ σ n r m P g x := by
  obtain ⟨ar2, cp2, hA3, hcb3, hG3, hc3, hs3⟩ := h
  have hG1 : Gw Λ L1 := by rw [e1]; exact Gw.nY (by decide)
  have hG := hG1.tr hG3
  have hsm : Same (fun t => t ≠ 15 ∧ t ≠ 16 ∧ t ≠ 17) σ x.2 := fun t ht => by
    have a1 : Same (fun t => t ≠ 17) σ (sJ (sV (nS Λ σ 17) 17 (gC Λ 17) 0 (some j)) 17 (gC Λ 17) 1 (lN (2 ^ r))) := Same.sJ (Same.sV (Same.nS Same.rf (by omega)) (by omega)) (by omega)
    have a2 := hs3 t ⟨ht.1, ht.2.1⟩
    have a3 := a1 t ht.2.2
    exact ⟨a2.1.trans a3.1, a2.2.1.trans a3.2.1, a2.2.2.trans a3.2.2⟩
  have h17 := hs3 17 ⟨by decide, by decide⟩
  have c17 : gC x.1 17 = gC Λ 17 + 1 := by rw [hc3 17 (by decide), e1, gC_nL, if_pos rfl]
  refine ⟨n + 1, ar2, cp2, _, _, _, _, _, GL_ins hL hs hr hA3 hcb3 hG hsm (fun i hi => ?_) rfl (by omega) ?_ ?_ hj2 hT, Nat.le_refl _, GW_ins hW hs hlo hup hm0, hG, fun t h1 h2 => ?_, hsm⟩
  · have := Kp_word (Λ := Λ) (σ := σ) (j := j) (v := lN (2 ^ r)) 17 i hi
    exact ⟨by rw [h17.2.2]; exact this.2.2, by rw [h17.2.1]; exact this.2.1⟩
  · rw [h17.2.2, gV_sJ, gV_same]
  · rw [h17.2.1, gJ_same]
  · rw [hc3 t h1, e1, gC_ne h2]