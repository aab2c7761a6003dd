/-! ===== WHAT THE COMPONENT'S CELLS SEE OF THE NUMBERS ===== -/
def SN (M : MM) (t k : Nat) : Prop := t ≠ 33 ∧ t ≠ 34 ∧ t ≠ 41 ∧ t ≠ 42 ∧ t ≠ 44 ∧ t ≠ 48 ∧ ¬ (t = 31 ∧ k = 0) ∧ ¬ (t = 43 ∧ M 31 18 ≤ k)
theorem CR.to {Λ : LY} {σ : HS} {M M' : MM} (h : CR noEx Λ σ M) (e : ∀ t k, SN M t k → M' t k = M t k) : CR noEx Λ σ M' := by
  have r : ∀ t, t ≠ 31 → t ≠ 33 → t ≠ 34 → t ≠ 41 → t ≠ 42 → t ≠ 43 → t ≠ 44 → t ≠ 48 → M' t = M t := fun t a b c d f g i j => funext fun k => e t k ⟨b, c, d, f, i, j, fun z => a z.1, fun z => g z.1⟩
  have q : ∀ k, k ≠ 0 → M' 31 k = M 31 k := fun k hk => e 31 k ⟨by decide, by decide, by decide, by decide, by decide, by decide, fun z => hk z.2, fun z => absurd z.1 (by decide)⟩
  have q2 := q 2 (by decide); have q5 := q 5 (by decide); have q8 := q 18 (by decide); have q22 := q 22 (by decide); have q23 := q 23 (by decide)
  have r32 := r 32 (by decide) (by decide) (by decide) (by decide) (by decide) (by decide) (by decide) (by decide)
  have r35 := r 35 (by decide) (by decide) (by decide) (by decide) (by decide) (by decide) (by decide) (by decide)
  have r36 := r 36 (by decide) (by decide) (by decide) (by decide) (by decide) (by decide) (by decide) (by decide)
  have r37 := r 37 (by decide) (by decide) (by decide) (by decide) (by decide) (by decide) (by decide) (by decide)
  have r38 := r 38 (by decide) (by decide) (by decide) (by decide) (by decide) (by decide) (by decide) (by decide)
  have r39 := r 39 (by decide) (by decide) (by decide) (by decide) (by decide) (by decide) (by decide) (by decide)
  have r40 := r 40 (by decide) (by decide) (by decide) (by decide) (by decide) (by decide) (by decide) (by decide)
  have r45 := r 45 (by decide) (by decide) (by decide) (by decide) (by decide) (by decide) (by decide) (by decide)
  have r46 := r 46 (by decide) (by decide) (by decide) (by decide) (by decide) (by decide) (by decide) (by decide)
  have r47 := r 47 (by decide) (by decide) (by decide) (by decide) (by decide) (by decide) (by decide) (by decide)
  have r60 := r 60 (by decide) (by decide) (by decide) (by decide) (by decide) (by decide) (by decide) (by decide)
  have rh : hcN M' = hcN M := hcN_congr r37 q5
  have rs : hs M' = hs M := funext fun k => hs_congr r37 q5
  have rt : tieN M' = tieN M := by funext a b; unfold tieN; rw [r35, r36]
  have rd : tdB M' = tdB M := by funext a b; unfold tdB; rw [rt]
  have rg : stg M' = stg M := by
    funext k; unfold stg
    rw [r36, q (k + 5) (by omega)]
  have oI : okI M' = okI M := by unfold okI; rw [q2, q5, q8]
  have oJ : okJ M' = okJ M := by unfold okJ; rw [q5, q22]
  have oV : okV M' = okV M := by unfold okV; rw [q5, rh]
  have vJ : cJ M' = cJ M := by unfold cJ; rw [q5, rd, r35, r45, r46]
  have vV : cV M' = cV M := by unfold cV; rw [rs, r60]
  refine ⟨by rw [q5]; exact h.1, h.2.1, fun t i k ho he => ?_, fun t i k ho he => ?_, fun t i k ho he => ?_⟩
  · rw [oI] at ho
    rw [CR.i h t i k ho he]
    by_cases t2 : t = 2
    · subst t2
      show (if i = 0 then (nI (M 32 k)).toInt8.toInt32 else nI (M 43 k)) = (if i = 0 then (nI (M' 32 k)).toInt8.toInt32 else nI (M' 43 k))
      by_cases hi : i = 0
      · rw [if_pos hi, if_pos hi, r32]
      · rw [if_neg hi, if_neg hi]
        have hk : k < M 31 18 := by rcases ho with y | y; exact absurd y.1 hi; exact y.2
        rw [e 43 k ⟨by decide, by decide, by decide, by decide, by decide, by decide, fun z => absurd z.1 (by decide), fun z => by have := z.2; omega⟩]
    · unfold cI
      rw [q2, q5, q8, rh, rg, r40, r38, r37, r35, rt, r39, q22, q23, r47]
      split <;> first | rfl | exact absurd rfl t2
  · rw [oJ] at ho
    rw [vJ]; exact CR.j h t i k ho he
  · rw [oV] at ho
    rw [vV]; exact CR.v h t i k ho he
abbrev kG : Nat → Prop := fun t => t = 1 ∨ t = 2 ∨ (14 ≤ t ∧ t ≤ 17)
theorem TX.sm {Λ : LY} {σ u : HS} {i n cp : Nat} {f : Nat → Nat} (h : TX Λ σ i n cp f) (hs : Same kG σ u) : TX Λ u i n cp f := by
  obtain ⟨a1, a2, a3, a4, a5, a6, a7, a8, a9⟩ := h
  have s1 := hs 1 (Or.inl rfl); have s2 := hs 2 (Or.inr (Or.inl rfl))
  exact ⟨a1, a2, by rw [s1.2.2]; exact a3, by rw [s1.1]; exact a4, a5, a6, a7, fun k hk => by rw [s2.1]; exact a8 k hk, a9⟩
theorem LB.to {Λ : LY} {σ u : HS} {M M' : MM} (h : LB Λ σ M) (hs : Same kG σ u) (e5 : M' 31 5 = M 31 5) (e33 : M' 33 = M 33) (e34 : M' 34 = M 34) (e60 : M' 60 = M 60) : LB Λ u M' := by
  intro r hr
  rw [e5] at hr
  have := h r hr
  unfold nmF at this ⊢
  rw [e33, e34, e60]
  exact ⟨this.1.sm hs, this.2⟩
theorem PW_to {M M' : MM} (e5 : M' 31 5 = M 31 5) (e33 : M' 33 = M 33) (e34 : M' 34 = M 34) : PW M' = PW M := by
  funext r m g
  unfold PW
  rw [e5]
  exact propext (and_congr Iff.rfl (and_congr Iff.rfl (hasW_loc (by rw [e34]) (fun k _ => by rw [e33]))))
theorem INV.same {Λ : LY} {σ u : HS} {M M' : MM} (h : INV Λ σ M) (hC : CR noEx Λ u M') (hs : Same kG σ u) (e5 : M' 31 5 = M 31 5) (e33 : M' 33 = M 33) (e34 : M' 34 = M 34) (e60 : M' 60 = M 60) : INV Λ u M' := by
  obtain ⟨n, ar, cp, wf, tx, ln, hd, lt, g1, g2, g3⟩ := h.2.2
  exact ⟨hC, h.2.1.to hs e5 e33 e34 e60, n, ar, cp, wf, tx, ln, hd, lt, g1.same hs, by rw [PW_to e5 e33 e34]; exact g2, by rw [e5]; exact g3⟩
theorem INV.gx {Λ : LY} {σ u : HS} {M M' : MM} {i : Nat} (h : INV Λ σ M) (hC : CR noEx Λ u M') (hg : GX σ u i) (hi : i < 2) (e5 : M' 31 5 = M 31 5) (e33 : M' 33 = M 33) (e34 : M' 34 = M 34) (e60 : M' 60 = M 60) : INV Λ u M' := by
  obtain ⟨n, ar, cp, wf, tx, ln, hd, lt, g1, g2, g3⟩ := h.2.2
  refine ⟨hC, fun r hr => ?_, n, ar, cp, wf, tx, ln, hd, lt, g1.gx hg hi, by rw [PW_to e5 e33 e34]; exact g2, by rw [e5]; exact g3⟩
  rw [e5] at hr
  have := h.2.1 r hr
  unfold nmF at this ⊢
  rw [e33, e34, e60]
  exact ⟨hg.tx (by omega) this.1, this.2⟩
