/-- old things are as they were -/
def Kp (Λ : LY) (σ u : HS) : Prop := ∀ t i, i < gC Λ t → gI u t i = gI σ t i ∧ gJ u t i = gJ σ t i ∧ gV u t i = gV σ t i
theorem Kp.rf {Λ : LY} {σ : HS} : Kp Λ σ σ := fun _ _ _ => ⟨rfl, rfl, rfl⟩
theorem Kp.tr {Λ Λ1 : LY} {σ u v : HS} (h : Kp Λ σ u) (hG : Gw Λ Λ1) (g : Kp Λ1 u v) : Kp Λ σ v := fun t i hi => ⟨(g t i (Nat.lt_of_lt_of_le hi (hG.1 t))).1.trans (h t i hi).1, (g t i (Nat.lt_of_lt_of_le hi (hG.1 t))).2.1.trans (h t i hi).2.1, (g t i (Nat.lt_of_lt_of_le hi (hG.1 t))).2.2.trans (h t i hi).2.2⟩
theorem Kp.nS {Λ : LY} {σ : HS} {t : Nat} : Kp Λ σ (nS Λ σ t) := fun t' i hi => ⟨funext fun k => by rw [gI_nS, if_neg (nW_old hi)], funext fun k => by rw [gJ_nS, if_neg (nW_old hi)], funext fun k => by rw [gV_nS, if_neg (nW_old hi)]⟩
theorem Kp.sI {Λ : LY} {σ u : HS} {t i k : Nat} {x : Int32} (h : Kp Λ σ u) (hi : gC Λ t ≤ i) : Kp Λ σ (sI u t i k x) := fun t' i' hi' => ⟨by rw [gI_ne (by by_cases e : t' = t; subst e; exact Or.inr (by omega); exact Or.inl e)]; exact (h t' i' hi').1, (h t' i' hi').2⟩
theorem Kp.sV {Λ : LY} {σ u : HS} {t i k : Nat} {x : Option Nat} (h : Kp Λ σ u) (hi : gC Λ t ≤ i) : Kp Λ σ (sV u t i k x) := fun t' i' hi' => ⟨(h t' i' hi').1, (h t' i' hi').2.1, by rw [gV_ne (by by_cases e : t' = t; subst e; exact Or.inr (by omega); exact Or.inl e)]; exact (h t' i' hi').2.2⟩
theorem Kp.sJ {Λ : LY} {σ u : HS} {t i k : Nat} {x : Int64} (h : Kp Λ σ u) (hi : gC Λ t ≤ i) : Kp Λ σ (sJ u t i k x) := fun t' i' hi' => ⟨(h t' i' hi').1, by rw [gJ_ne (by by_cases e : t' = t; subst e; exact Or.inr (by omega); exact Or.inl e)]; exact (h t' i' hi').2.1, (h t' i' hi').2.2⟩
theorem Kp.gx {Λ : LY} {σ u v : HS} {i : Nat} (h : Kp Λ σ u) (g : GX u v i) (h1 : gC Λ 1 ≤ i) (h2 : gC Λ 2 ≤ i) : Kp Λ σ v := fun t j hj => ⟨(g.2.2 t j (by by_cases e1 : t = 1; subst e1; exact Or.inr (by omega); by_cases e2 : t = 2; subst e2; exact Or.inr (by omega); exact Or.inl ⟨e1, e2⟩)).trans (h t j hj).1, by rw [g.1]; exact (h t j hj).2.1, by rw [g.2.1]; exact (h t j hj).2.2⟩
theorem Same.gx {P : Nat → Prop} {σ u v : HS} {i : Nat} (h : Same P σ u) (g : GX u v i) (hP : ∀ t, P t → t ≠ 1 ∧ t ≠ 2) : Same P σ v := fun t ht => ⟨(funext fun j => g.2.2 t j (Or.inl (hP t ht))).trans (h t ht).1, by rw [g.1]; exact (h t ht).2.1, by rw [g.2.1]; exact (h t ht).2.2⟩
theorem TX.old {Λ Λ' : LY} {σ u : HS} {i n cp : Nat} {f : Nat → Nat} (h : TX Λ σ i n cp f) (hG : Gw Λ Λ') (hK : Kp Λ σ u) : TX Λ' u i n cp f := by
  obtain ⟨h1, h2, h3, h4, h5, h6, h7, h8, h9⟩ := h
  refine ⟨Nat.lt_of_lt_of_le h1 (hG.1 1), Nat.lt_of_lt_of_le h2 (hG.1 2), ?_, ?_, h5, ?_, h7, fun k hk => ?_, h9⟩
  · rw [(hK 1 i h1).2.2]; exact h3
  · rw [(hK 1 i h1).1]; exact h4
  · rw [(hG.2.1 2 i h2).2]; exact h6
  · rw [(hK 2 i h2).1]; exact h8 k hk
/-- a new text of n bytes, nothing in it yet -/
theorem TX.new {Λ L1 L2 : LY} {σ : HS} {q q2 n : Nat} {f : Nat → Nat} (he : gC Λ 2 = gC Λ 1) (hn : n ≤ 40) (e1 : L1 = nY Λ 1 q 0) (e2 : L2 = nY L1 2 q2 n) : TX L2 (sI (sV (nS L1 (nS Λ σ 1) 2) 1 (gC Λ 1) 0 (some (gC L1 2))) 1 (gC Λ 1) 1 (nI 0)) (gC Λ 1) 0 n f ∧ Kp Λ σ (sI (sV (nS L1 (nS Λ σ 1) 2) 1 (gC Λ 1) 0 (some (gC L1 2))) 1 (gC Λ 1) 1 (nI 0)) ∧ gC L2 1 = gC Λ 1 + 1 ∧ gC L2 2 = gC Λ 2 + 1 ∧ (∀ t, t ≠ 1 → t ≠ 2 → gC L2 t = gC Λ t) ∧ Same (fun t => t ≠ 1 ∧ t ≠ 2) σ (sI (sV (nS L1 (nS Λ σ 1) 2) 1 (gC Λ 1) 0 (some (gC L1 2))) 1 (gC Λ 1) 1 (nI 0)) := by
  have c2 : gC L1 2 = gC Λ 1 := by rw [e1, gC_ne (by decide)]; exact he
  have c1 : gC L1 1 = gC Λ 1 + 1 := by rw [e1, gC_nL, if_pos rfl]
  have d1 : gC L2 1 = gC Λ 1 + 1 := by rw [e2, gC_ne (by decide)]; exact c1
  have d2 : gC L2 2 = gC Λ 2 + 1 := by rw [e2, gC_nL, if_pos rfl, c2, he]
  have hG : Gw Λ L1 := by rw [e1]; exact Gw.nY (by decide)
  refine ⟨⟨by omega, by omega, ?_, gI_same _ _ _ _ _, Nat.zero_le _, ?_, hn, fun k hk => absurd hk (Nat.not_lt_zero k), fun k hk => absurd hk (Nat.not_lt_zero k)⟩, ?_, d1, d2, fun t h1 h2 => ?_, Same.sI (Same.sV (Same.nS (Same.nS Same.rf (by omega)) (by omega)) (by omega)) (by omega)⟩
  · rw [gV_sI, gV_same, c2]
  · rw [e2, gN_nL, if_pos ⟨rfl, c2.symm⟩]
  · exact Kp.sI (Kp.sV (Kp.tr Kp.nS hG Kp.nS) (Nat.le_refl _)) (Nat.le_refl _)
  · rw [e2, gC_ne h2, e1, gC_ne h1]