/-- the reference's state at the start -/
def M0 : MM := fun t k => if t = 31 then (if k = 8 then 1 else if k = 9 then 40 else if k = 10 then 2 else 0) else if t = 36 ∨ t = 40 ∨ t = 47 then 1 else 0
theorem ci_cr {Λ : LY} {σ : HS} (k0 : gC Λ 0 = 1) (k1 : gC Λ 1 = 2) (k2 : gC Λ 2 = 2) (k3 : gC Λ 3 = 1) (k4 : gC Λ 4 = 1) (k5 : gC Λ 5 = 1) (k6 : gC Λ 6 = 1) (k7 : gC Λ 7 = 1) (k8 : gC Λ 8 = 0) (k9 : gC Λ 9 = 0) (k10 : gC Λ 10 = 0) (k11 : gC Λ 11 = 0) (k12 : gC Λ 12 = 0) (k13 : gC Λ 13 = 0) (k14 : gC Λ 14 = 1) (k15 : gC Λ 15 = 1) (k16 : gC Λ 16 = 0) (k17 : gC Λ 17 = 0) (k18 : gC Λ 18 = 1) (k19 : gC Λ 19 = 1) (k20 : gC Λ 20 = 1) (k21 : gC Λ 21 = 1) (k22 : gC Λ 22 = 1) (k23 : gC Λ 23 = 1) (k24 : gC Λ 24 = 1) (k25 : gC Λ 25 = 1) (k26 : gC Λ 26 = 1) (k27 : gC Λ 27 = 1) (k28 : gC Λ 28 = 1) (k29 : gC Λ 29 = 1) (k30 : gC Λ 30 = 6) (n4 : gN Λ 4 0 = 40) (n5 : gN Λ 5 0 = 40) (n6 : gN Λ 6 0 = 6) (n7 : gN Λ 7 0 = 6) (n19 : gN Λ 19 0 = 6) (n21 : gN Λ 21 0 = 9) (n22 : gN Λ 22 0 = 9) (n24 : gN Λ 24 0 = 6) (n26 : gN Λ 26 0 = 60) (n28 : gN Λ 28 0 = 40) (n29 : gN Λ 29 0 = 6) (n30 : ∀ i, i < 6 → gN Λ 30 i = 6) (nt0 : gN Λ 2 0 = 40) (nt1 : gN Λ 2 1 = 20) (v1_0_0 : gV σ 1 0 0 = some 0) (v1_1_0 : gV σ 1 1 0 = some 1) (v0_0_0 : gV σ 0 0 0 = some 0) (v0_0_1 : gV σ 0 0 1 = some 1) (v0_0_2 : gV σ 0 0 2 = some 0) (v0_0_3 : gV σ 0 0 3 = some 0) (v0_0_4 : gV σ 0 0 4 = some 0) (v0_0_5 : gV σ 0 0 5 = some 0) (v0_0_6 : gV σ 0 0 6 = some 0) (v0_0_7 : gV σ 0 0 7 = some 0) (v0_0_8 : gV σ 0 0 8 = some 0) (v3_0_0 : gV σ 3 0 0 = some 0) (v3_0_1 : gV σ 3 0 1 = some 0) (v3_0_2 : gV σ 3 0 2 = some 0) (v3_0_3 : gV σ 3 0 3 = some 0) (v14_0_0 : gV σ 14 0 0 = some 0) (v18_0_0 : gV σ 18 0 0 = some 0) (v18_0_1 : gV σ 18 0 1 = some 0) (v20_0_0 : gV σ 20 0 0 = some 0) (v20_0_1 : gV σ 20 0 1 = some 0) (v20_0_2 : gV σ 20 0 2 = some 0) (v23_0_0 : gV σ 23 0 0 = some 0) (v23_0_1 : gV σ 23 0 1 = some 0) (v25_0_0 : gV σ 25 0 0 = some 0) (v27_0_0 : gV σ 27 0 0 = some 0) (v27_0_1 : gV σ 27 0 1 = some 0) (v29_0_0 : gV σ 29 0 0 = some 0) (v29_0_1 : gV σ 29 0 1 = some 1) (v29_0_2 : gV σ 29 0 2 = some 2) (v29_0_3 : gV σ 29 0 3 = some 3) (v29_0_4 : gV σ 29 0 4 = some 4) (v29_0_5 : gV σ 29 0 5 = some 5) (i1_0_1 : gI σ 1 0 1 = nI 0) (i1_1_1 : gI σ 1 1 1 = nI 0) (i3_0_4 : gI σ 3 0 4 = nI 0) (i3_0_5 : gI σ 3 0 5 = nI 0) (i25_0_1 : gI σ 25 0 1 = nI 0) (i27_0_2 : gI σ 27 0 2 = nI 0) (i6_0_0 : gI σ 6 0 0 = nI 1) (i6_0_1 : gI σ 6 0 1 = nI 1) (i6_0_2 : gI σ 6 0 2 = nI 1) (i6_0_3 : gI σ 6 0 3 = nI 1) (i6_0_4 : gI σ 6 0 4 = nI 40) (i6_0_5 : gI σ 6 0 5 = nI 2) (i28 : ∀ k, gI σ 28 0 k = 0) : CR noEx Λ σ M0 := by
  refine ⟨⟨?_, k30, ?_, k10, by omega, by omega, ?_, n30, fun i hi => absurd hi (Nat.not_lt_zero i), fun i hi => absurd hi (Nat.not_lt_zero i), nt0, nt1⟩, fun i hi => ?_, fun t i k ho he => ?_, fun t i k ho he => ?_, fun t i k ho he => ?_⟩
  · simp [k0, k3, k4, k5, k6, k7, k14, k15, k18, k19, k20, k21, k22, k23, k24, k25, k26, k27, k28, k29]
  · show ∀ t ∈ [8, 9, 11, 12, 13], gC Λ t = 0
    simp [k8, k9, k11, k12, k13]
  · simp [n4, n5, n6, n7, n19, n21, n22, n24, n26, n28, n29]
  · rw [k1] at hi
    rcases (show i = 0 ∨ i = 1 by omega) with e9 | e9 <;> subst e9
    · exact v1_0_0
    · exact v1_1_0
  · rcases okI_dom ho with rfl | rfl | rfl | rfl | rfl | rfl | rfl | rfl | rfl | rfl | rfl
    · obtain ⟨h1, h2⟩ := ho
      subst h2
      rcases (show i = 0 ∨ i = 1 by omega) with e9 | e9 <;> subst e9
      · exact i1_0_1
      · exact i1_1_1
    · exact absurd (ho.elim (fun z => z.2) (fun z => z.2)) (Nat.not_lt_zero k)
    · obtain ⟨h1, h2⟩ := ho
      subst h1
      rcases h2 with e9 | e9 <;> subst e9
      · exact i3_0_4
      · exact i3_0_5
    · obtain ⟨h1, h2⟩ := ho
      subst h1
      rcases (show k = 0 ∨ k = 1 ∨ k = 2 ∨ k = 3 ∨ k = 4 ∨ k = 5 by omega) with e9 | e9 | e9 | e9 | e9 | e9 <;> subst e9
      · exact i6_0_0
      · exact i6_0_1
      · exact i6_0_2
      · exact i6_0_3
      · exact i6_0_4
      · exact i6_0_5
    · exact absurd ho.1 (Nat.not_lt_zero i)
    · exact absurd ho.1 (Nat.not_lt_zero i)
    · exact absurd ho.1 (Nat.not_lt_zero i)
    · exact absurd ho.1 (Nat.not_lt_zero i)
    · obtain ⟨h1, h2⟩ := ho
      subst h1 h2
      exact i25_0_1
    · obtain ⟨h1, h2⟩ := ho
      subst h1 h2
      exact i27_0_2
    · obtain ⟨h1, h2⟩ := ho
      subst h1
      exact (i28 k).trans (by show (0 : Int32) = nI 1 - 1; decide)
  · rcases okJ_dom ho with rfl | rfl
    · exact absurd ho.1 (Nat.not_lt_zero i)
    · exact absurd ho.2 (Nat.not_lt_zero k)
  · rcases okV_dom ho with rfl | rfl | rfl | rfl | rfl | rfl | rfl | rfl | rfl | rfl | rfl | rfl | rfl
    · obtain ⟨h1, h2⟩ := ho
      subst h1
      rcases (show k = 0 ∨ k = 1 ∨ k = 2 ∨ k = 3 ∨ k = 4 ∨ k = 5 ∨ k = 6 ∨ k = 7 ∨ k = 8 by omega) with e9 | e9 | e9 | e9 | e9 | e9 | e9 | e9 | e9 <;> subst e9
      · exact v0_0_0
      · exact v0_0_1
      · exact v0_0_2
      · exact v0_0_3
      · exact v0_0_4
      · exact v0_0_5
      · exact v0_0_6
      · exact v0_0_7
      · exact v0_0_8
    · obtain ⟨h1, h2⟩ := ho
      subst h1
      rcases (show k = 0 ∨ k = 1 ∨ k = 2 ∨ k = 3 by omega) with e9 | e9 | e9 | e9 <;> subst e9
      · exact v3_0_0
      · exact v3_0_1
      · exact v3_0_2
      · exact v3_0_3
    · exact absurd ho.2 (Nat.not_lt_zero k)
    · exact absurd ho.2 (Nat.not_lt_zero k)
    · exact absurd ho.1 (Nat.not_lt_zero i)
    · exact absurd ho.1 (Nat.not_lt_zero i)
    · obtain ⟨h1, h2⟩ := ho
      subst h1 h2
      exact v14_0_0
    · obtain ⟨h1, h2⟩ := ho
      subst h1
      rcases (show k = 0 ∨ k = 1 by omega) with e9 | e9 <;> subst e9
      · exact v18_0_0
      · exact v18_0_1
    · obtain ⟨h1, h2⟩ := ho
      subst h1
      rcases (show k = 0 ∨ k = 1 ∨ k = 2 by omega) with e9 | e9 | e9 <;> subst e9
      · exact v20_0_0
      · exact v20_0_1
      · exact v20_0_2
    · obtain ⟨h1, h2⟩ := ho
      subst h1
      rcases (show k = 0 ∨ k = 1 by omega) with e9 | e9 <;> subst e9
      · exact v23_0_0
      · exact v23_0_1
    · obtain ⟨h1, h2⟩ := ho
      subst h1 h2
      exact v25_0_0
    · obtain ⟨h1, h2⟩ := ho
      subst h1
      rcases (show k = 0 ∨ k = 1 by omega) with e9 | e9 <;> subst e9
      · exact v27_0_0
      · exact v27_0_1
    · obtain ⟨h1, h2⟩ := ho
      subst h1
      rcases (show k = 0 ∨ k = 1 ∨ k = 2 ∨ k = 3 ∨ k = 4 ∨ k = 5 by omega) with e9 | e9 | e9 | e9 | e9 | e9 <;> subst e9
      · exact v29_0_0
      · exact v29_0_1
      · exact v29_0_2
      · exact v29_0_3
      · exact v29_0_4
      · exact v29_0_5
/-- before anything is made -/
def L0 (x0 : Nat) : LY := (fun _ => 0, fun _ _ => x0, fun _ _ => 0)
def S0 : HS := (fun _ _ _ => 0, fun _ _ _ => 0, fun _ _ _ => none)
theorem gC_ne {Λ : LY} {t q n t' : Nat} (h : t' ≠ t) : gC (nY Λ t q n) t' = gC Λ t' := by rw [gC_nL, if_neg h]
theorem gC_ne2 {Λ : LY} {t tr q N K t' : Nat} {r : Nat → Nat} (h : t' ≠ t) (h2 : t' ≠ tr) : gC (nY2 Λ t tr q N K r) t' = gC Λ t' := by rw [gC_2, if_neg h, if_neg h2]
theorem gA_ne {Λ : LY} {t q n : Nat} (h : t ≠ 50) : gA (nY Λ t q n) 50 0 = gA Λ 50 0 := (Gw.nY h).2.2
theorem gA_ne2 {Λ : LY} {t tr q N K : Nat} {r : Nat → Nat} (h : t ≠ 50) (h2 : tr ≠ 50) : gA (nY2 Λ t tr q N K r) 50 0 = gA Λ 50 0 := (Gw.nY2 h h2).2.2