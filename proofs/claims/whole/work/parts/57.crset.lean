theorem okI_dom {M : MM} {t i k : Nat} (h : okI M t i k) : t = 1 ∨ t = 2 ∨ t = 3 ∨ t = 6 ∨ t = 8 ∨ t = 10 ∨ t = 11 ∨ t = 12 ∨ t = 25 ∨ t = 27 ∨ t = 28 := by
  unfold okI at h
  split at h <;> simp_all
theorem okJ_dom {M : MM} {t i k : Nat} (h : okJ M t i k) : t = 8 ∨ t = 26 := by
  unfold okJ at h
  split at h <;> simp_all
theorem okV_dom {M : MM} {t i k : Nat} (h : okV M t i k) : t = 0 ∨ t = 3 ∨ t = 4 ∨ t = 5 ∨ t = 8 ∨ t = 9 ∨ t = 14 ∨ t = 18 ∨ t = 20 ∨ t = 23 ∨ t = 25 ∨ t = 27 ∨ t = 29 := by
  unfold okV at h
  split at h <;> simp_all
/-- the list of those in rooms may be anything -/
abbrev exH : Nat → Nat → Nat → Prop := fun t _ k => (t = 3 ∧ k = 5) ∨ t = 5
theorem hsF_congr {M M2 : MM} (h : M2 37 = M 37) : ∀ (n k : Nat), hsF M2 n k = hsF M n k
  | 0, _ => rfl
  | n + 1, k => by
    show (if _ then _ else _) = (if _ then _ else _)
    unfold rkN
    rw [h, hsF_congr h n k]
theorem hs_congr {M M2 : MM} (h : M2 37 = M 37) (h5 : M2 31 5 = M 31 5) {k : Nat} : hs M2 k = hs M k := by
  unfold hs
  rw [h5, hsF_congr h]
theorem hcN_congr {M M2 : MM} (h : M2 37 = M 37) (h5 : M2 31 5 = M 31 5) : hcN M2 = hcN M := by
  unfold hcN rkN
  rw [h5, h]
theorem CR.hub {Λ : LY} {σ : HS} {M : MM} (h : CR exH Λ σ M) {r x : Nat} {v : Int32} (hv : v = nI x) : CR exH Λ (sI σ 8 r 12 v) (mS M 37 r x) := by
  refine ⟨h.1, h.2.1, fun t i k ho he => ?_, fun t i k ho he => ?_, fun t i k ho he => ?_⟩
  · rcases okI_dom ho with rfl | rfl | rfl | rfl | rfl | rfl | rfl | rfl | rfl | rfl | rfl
    · exact CR.i h 1 i k ho he
    · exact CR.i h 2 i k ho he
    · rcases ho.2 with e | e
      · subst e; exact CR.i h 3 i 4 ho he
      · exact absurd (Or.inl ⟨rfl, e⟩) he
    · exact CR.i h 6 i k ho he
    · rw [gI_sI]
      by_cases hz : i = r ∧ k = 12
      · rw [if_pos ⟨rfl, hz⟩, hz.1, hz.2]
        show v = nI (mS M 37 r x 37 r)
        rw [mS_same]
        exact hv
      · rw [if_neg (fun z => hz z.2)]
        rw [CR.i h 8 i k ho he]
        show (if k = 0 then _ else if k = 10 then _ else if k = 11 then _ else _) = (if k = 0 then _ else if k = 10 then _ else if k = 11 then _ else _)
        rcases ho.2 with e | e | e | e <;> subst e <;> first | rfl | (show nI (M 37 i) = nI (mS M 37 r x 37 i); rw [mS_ne (Or.inr (fun z => hz ⟨z, rfl⟩))])
    · exact CR.i h 10 i k ho he
    · exact CR.i h 11 i k ho he
    · exact CR.i h 12 i k ho he
    · exact CR.i h 25 i k ho he
    · exact CR.i h 27 i k ho he
    · exact CR.i h 28 i k ho he
  · rcases okJ_dom ho with rfl | rfl
    · exact CR.j h 8 i k ho he
    · exact CR.j h 26 i k ho he
  · rcases okV_dom ho with rfl | rfl | rfl | rfl | rfl | rfl | rfl | rfl | rfl | rfl | rfl | rfl | rfl
    · exact CR.v h 0 i k ho he
    · exact CR.v h 3 i k ho he
    · exact CR.v h 4 i k ho he
    · exact absurd (Or.inr rfl) he
    · exact CR.v h 8 i k ho he
    · exact CR.v h 9 i k ho he
    · exact CR.v h 14 i k ho he
    · exact CR.v h 18 i k ho he
    · exact CR.v h 20 i k ho he
    · exact CR.v h 23 i k ho he
    · exact CR.v h 25 i k ho he
    · exact CR.v h 27 i k ho he
    · exact CR.v h 29 i k ho he
theorem CR.place {ex : Nat → Nat → Nat → Prop} {Λ : LY} {σ : HS} {M : MM} (h : CR ex Λ σ M) {r x : Nat} {v : Int32} (hv : v = nI x) : CR ex Λ (sI σ 8 r 11 v) (mS M 38 r x) := by
  refine ⟨h.1, h.2.1, fun t i k ho he => ?_, fun t i k ho he => ?_, fun t i k ho he => ?_⟩
  · rcases okI_dom ho with rfl | rfl | rfl | rfl | rfl | rfl | rfl | rfl | rfl | rfl | rfl
    · exact CR.i h 1 i k ho he
    · exact CR.i h 2 i k ho he
    · exact CR.i h 3 i k ho he
    · exact CR.i h 6 i k ho he
    · rw [gI_sI]
      by_cases hz : i = r ∧ k = 11
      · rw [if_pos ⟨rfl, hz⟩, hz.1, hz.2]
        show v = nI (mS M 38 r x 38 r)
        rw [mS_same]
        exact hv
      · rw [if_neg (fun z => hz z.2)]
        rw [CR.i h 8 i k ho he]
        show (if k = 0 then _ else if k = 10 then _ else if k = 11 then _ else _) = (if k = 0 then _ else if k = 10 then _ else if k = 11 then _ else _)
        rcases ho.2 with e | e | e | e <;> subst e <;> first | rfl | (show nI (M 38 i) = nI (mS M 38 r x 38 i); rw [mS_ne (Or.inr (fun z => hz ⟨z, rfl⟩))])
    · exact CR.i h 10 i k ho he
    · exact CR.i h 11 i k ho he
    · exact CR.i h 12 i k ho he
    · exact CR.i h 25 i k ho he
    · exact CR.i h 27 i k ho he
    · exact CR.i h 28 i k ho he
  · rcases okJ_dom ho with rfl | rfl
    · exact CR.j h 8 i k ho he
    · exact CR.j h 26 i k ho he
  · rcases okV_dom ho with rfl | rfl | rfl | rfl | rfl | rfl | rfl | rfl | rfl | rfl | rfl | rfl | rfl
    · exact CR.v h 0 i k ho he
    · exact CR.v h 3 i k ho he
    · exact CR.v h 4 i k ho he
    · have e1 := hcN_congr (M := M) (M2 := mS M 38 r x) (mS_nk (by decide)) (mS_ne (Or.inl (by decide)))
      have e2 : hs _ k = hs M k := hs_congr (M := M) (M2 := mS M 38 r x) (mS_nk (by decide)) (mS_ne (Or.inl (by decide)))
      refine (CR.v h 5 i k ⟨ho.1, by rw [← e1]; exact ho.2⟩ he).trans ?_
      show some (hs M k) = some (hs _ k)
      rw [e2]
    · exact CR.v h 8 i k ho he
    · exact CR.v h 9 i k ho he
    · exact CR.v h 14 i k ho he
    · exact CR.v h 18 i k ho he
    · exact CR.v h 20 i k ho he
    · exact CR.v h 23 i k ho he
    · exact CR.v h 25 i k ho he
    · exact CR.v h 27 i k ho he
    · exact CR.v h 29 i k ho he
theorem CR.fix {ex : Nat → Nat → Nat → Prop} {Λ : LY} {σ : HS} {M : MM} (h : CR ex Λ σ M) {r x : Nat} {v : Int32} (hv : v = nI x - 1) : CR ex Λ (sI σ 8 r 10 v) (mS M 40 r x) := by
  refine ⟨h.1, h.2.1, fun t i k ho he => ?_, fun t i k ho he => ?_, fun t i k ho he => ?_⟩
  · rcases okI_dom ho with rfl | rfl | rfl | rfl | rfl | rfl | rfl | rfl | rfl | rfl | rfl
    · exact CR.i h 1 i k ho he
    · exact CR.i h 2 i k ho he
    · exact CR.i h 3 i k ho he
    · exact CR.i h 6 i k ho he
    · rw [gI_sI]
      by_cases hz : i = r ∧ k = 10
      · rw [if_pos ⟨rfl, hz⟩, hz.1, hz.2]
        show v = nI (mS M 40 r x 40 r) - 1
        rw [mS_same]
        exact hv
      · rw [if_neg (fun z => hz z.2)]
        rw [CR.i h 8 i k ho he]
        show (if k = 0 then _ else if k = 10 then _ else if k = 11 then _ else _) = (if k = 0 then _ else if k = 10 then _ else if k = 11 then _ else _)
        rcases ho.2 with e | e | e | e <;> subst e <;> first | rfl | (show nI (M 40 i) - 1 = nI (mS M 40 r x 40 i) - 1; rw [mS_ne (Or.inr (fun z => hz ⟨z, rfl⟩))])
    · exact CR.i h 10 i k ho he
    · exact CR.i h 11 i k ho he
    · exact CR.i h 12 i k ho he
    · exact CR.i h 25 i k ho he
    · exact CR.i h 27 i k ho he
    · exact CR.i h 28 i k ho he
  · rcases okJ_dom ho with rfl | rfl
    · exact CR.j h 8 i k ho he
    · exact CR.j h 26 i k ho he
  · rcases okV_dom ho with rfl | rfl | rfl | rfl | rfl | rfl | rfl | rfl | rfl | rfl | rfl | rfl | rfl
    · exact CR.v h 0 i k ho he
    · exact CR.v h 3 i k ho he
    · exact CR.v h 4 i k ho he
    · have e1 := hcN_congr (M := M) (M2 := mS M 40 r x) (mS_nk (by decide)) (mS_ne (Or.inl (by decide)))
      have e2 : hs _ k = hs M k := hs_congr (M := M) (M2 := mS M 40 r x) (mS_nk (by decide)) (mS_ne (Or.inl (by decide)))
      refine (CR.v h 5 i k ⟨ho.1, by rw [← e1]; exact ho.2⟩ he).trans ?_
      show some (hs M k) = some (hs _ k)
      rw [e2]
    · exact CR.v h 8 i k ho he
    · exact CR.v h 9 i k ho he
    · exact CR.v h 14 i k ho he
    · exact CR.v h 18 i k ho he
    · exact CR.v h 20 i k ho he
    · exact CR.v h 23 i k ho he
    · exact CR.v h 25 i k ho he
    · exact CR.v h 27 i k ho he
    · exact CR.v h 29 i k ho he
theorem CR.weak {ex ex2 : Nat → Nat → Nat → Prop} {Λ : LY} {σ : HS} {M : MM} (h : CR ex Λ σ M) (hx : ∀ t i k, ex t i k → ex2 t i k) : CR ex2 Λ σ M := ⟨h.1, h.2.1, fun t i k ho he => h.i t i k ho (fun z => he (hx t i k z)), fun t i k ho he => h.j t i k ho (fun z => he (hx t i k z)), fun t i k ho he => h.v t i k ho (fun z => he (hx t i k z))⟩
/-- the list of those in rooms stands again -/
theorem CR.full {Λ : LY} {σ : HS} {M : MM} (h : CR exH Λ σ M) (h1 : gI σ 3 0 5 = nI (hcN M)) (h2 : ∀ k, k < hcN M → gV σ 5 0 k = some (hs M k)) : CR noEx Λ σ M := by
  refine ⟨h.1, h.2.1, fun t i k ho _ => ?_, fun t i k ho _ => ?_, fun t i k ho _ => ?_⟩
  · by_cases e : t = 3 ∧ k = 5
    · obtain ⟨rfl, rfl⟩ := e
      obtain ⟨rfl, -⟩ := ho
      exact h1
    · by_cases e2 : t = 5
      · subst e2; exact ho.elim
      · exact h.i t i k ho (fun z => z.elim e e2)
  · by_cases e2 : t = 3 ∨ t = 5
    · rcases e2 with rfl | rfl <;> exact ho.elim
    · exact h.j t i k ho (fun z => e2 (z.imp (fun q => q.1) id))
  · by_cases e2 : t = 5
    · subst e2
      obtain ⟨rfl, hk⟩ := ho
      exact h2 k hk
    · by_cases e : t = 3 ∧ k = 5
      · obtain ⟨rfl, rfl⟩ := e
        exact absurd ho.2 (by decide)
      · exact h.v t i k ho (fun z => z.elim e e2)
theorem exH_no {t i k : Nat} (h1 : ¬ (t = 3 ∧ k = 5)) (h2 : t ≠ 5) : ¬ exH t i k := fun z => z.elim h1 h2
theorem exH_nt {t i k : Nat} (h1 : t ≠ 3) (h2 : t ≠ 5) : ¬ exH t i k := fun z => z.elim (fun q => h1 q.1) h2
theorem deg_pop {M : MM} (hn : M 31 5 ≤ 40) {r : Nat} : popN (bitS (tdB M r) (M 31 5)) = deg M r := pop_bitS hn
theorem bitS_40 {p : Nat → Bool} {n : Nat} (hn : n ≤ 40) : bitS p n < 2 ^ 40 := Nat.lt_of_lt_of_le bitS_lt (Nat.pow_le_pow_right (by decide) hn)
theorem settle_37 {M : MM} {i : Nat} (h : i < M 31 5) : settle M 37 i = hubN M i := by
  unfold settle settleTo
  rw [if_pos ⟨rfl, h⟩]
theorem rk_settle0 {M : MM} {i : Nat} (h : i < M 31 5) (h2 : M 31 9 < deg M i) : rkN (settle M) (i + 1) = rkN (settle M) i := by
  rw [rkN_succ, settle_37 h]
  unfold hubN
  rw [if_pos h2, if_neg (by decide)]
  rfl
theorem rk_settle1 {M : MM} {i : Nat} (h : i < M 31 5) (h2 : ¬ M 31 9 < deg M i) : rkN (settle M) (i + 1) = rkN (settle M) i + 1 := by
  rw [rkN_succ, settle_37 h]
  unfold hubN
  rw [if_neg h2, if_pos rfl]
theorem hs_settle {M : MM} {i : Nat} (h : i < M 31 5) (h2 : ¬ M 31 9 < deg M i) : hs (settle M) (rkN (settle M) i) = i := hs_of (M := settle M) h (by rw [settle_37 h]; unfold hubN; rw [if_neg h2])
/-- what settle may change -/
abbrev nSt : Nat → Prop := fun t => t ≠ 3 ∧ t ≠ 5 ∧ t ≠ 8
