theorem CR.setw {Λ : LY} {σ : HS} {M : MM} (h : CR exT Λ σ M) {w x : Nat} {v : Int32} (hw : w < 3) (hv : v = nI x) : CR exT Λ (sI σ 6 0 w v) (mS M 36 w x) := by
  refine ⟨h.1, h.2.1, fun t i k ho he => ?_, fun t i k ho he => ?_, fun t i k ho he => ?_⟩
  · rcases okI_dom ho with rfl | rfl | rfl | rfl | rfl | rfl | rfl | rfl | rfl | rfl | rfl
    · exact CR.i h 1 i k ho he
    · exact CR.i h 2 i k ho he
    · exact CR.i h 3 i k ho he
    · rw [gI_sI]
      by_cases hz : k = w
      · subst hz
        rw [if_pos ⟨rfl, ho.1, rfl⟩, hv]
        show nI x = nI (stg (mS M 36 k x) k)
        unfold stg
        rw [if_pos hw, mS_same]
      · rw [if_neg (fun z => hz z.2.2), CR.i h 6 i k ho he]
        show nI (stg M k) = nI (stg (mS M 36 w x) k)
        unfold stg
        rw [mS_ne (Or.inr hz), mS_ne (Or.inl (by decide))]
    · exact CR.i h 8 i k ho he
    · exact CR.i h 10 i k ho he
    · exact absurd (Or.inl rfl) he
    · exact CR.i h 12 i k ho he
    · exact CR.i h 25 i k ho he
    · exact CR.i h 27 i k ho he
    · exact CR.i h 28 i k ho he
  · rcases okJ_dom ho with rfl | rfl
    · by_cases e7 : k = 7
      · exact absurd (Or.inr ⟨rfl, e7⟩) he
      · rw [gJ_sI, CR.j h 8 i k ho he]
        show (if k = 1 then _ else if k = 7 then _ else if k = 8 then _ else _) = (if k = 1 then _ else if k = 7 then _ else if k = 8 then _ else _)
        rw [if_neg e7, if_neg e7]
        rfl
    · exact CR.j h 26 i k ho he
  · rcases okV_dom ho with rfl | rfl | rfl | rfl | rfl | rfl | rfl | rfl | rfl | rfl | rfl | rfl | rfl
    · exact CR.v h 0 i k ho he
    · exact CR.v h 3 i k ho he
    · exact CR.v h 4 i k ho he
    · have e1 := hcN_congr (M := M) (M2 := mS M 36 w x) (mS_nk (by decide)) (mS_ne (Or.inl (by decide)))
      have e2 : hs _ k = hs M k := hs_congr (M := M) (M2 := mS M 36 w x) (mS_nk (by decide)) (mS_ne (Or.inl (by decide)))
      refine (CR.v h 5 i k ⟨ho.1, by rw [← e1]; exact ho.2⟩ he).trans ?_
      show some (hs M k) = some (hs _ k)
      rw [e2]
    · exact CR.v h 8 i k ho he
    · exact CR.v h 9 i k ho he
    · exact CR.v h 14 i k ho he
    · exact CR.v h 18 i k ho he
    · exact CR.v h 20 i k ho he
    · exact CR.v h 23 i k ho he
    · exact CR.v h 25 i k ho he
    · exact CR.v h 27 i k ho he
    · exact CR.v h 29 i k ho he
theorem CR.set3 {ex : Nat → Nat → Nat → Prop} {Λ : LY} {σ : HS} {M : MM} (h : CR ex Λ σ M) {x : Nat} {v : Int32} (hv : v = nI x) : CR ex Λ (sI σ 6 0 3 v) (mS M 31 8 x) := by
  refine ⟨h.1, h.2.1, fun t i k ho he => ?_, fun t i k ho he => ?_, fun t i k ho he => ?_⟩
  · rcases okI_dom ho with rfl | rfl | rfl | rfl | rfl | rfl | rfl | rfl | rfl | rfl | rfl
    · exact CR.i h 1 i k ho he
    · exact CR.i h 2 i k ho he
    · exact CR.i h 3 i k ho he
    · rw [gI_sI]
      by_cases hz : k = 3
      · subst hz
        rw [if_pos ⟨rfl, ho.1, rfl⟩, hv]
        rfl
      · rw [if_neg (fun z => hz z.2.2), CR.i h 6 i k ho he]
        show nI (stg M k) = nI (stg (mS M 31 8 x) k)
        unfold stg
        rw [mS_ne (Or.inl (by decide)), mS_ne (Or.inr (by omega))]
    · exact CR.i h 8 i k ho he
    · exact CR.i h 10 i k ho he
    · exact CR.i h 11 i k ho he
    · exact CR.i h 12 i k ho he
    · exact CR.i h 25 i k ho he
    · exact CR.i h 27 i k ho he
    · exact CR.i h 28 i k ho he
  · rcases okJ_dom ho with rfl | rfl
    · exact CR.j h 8 i k ho he
    · exact CR.j h 26 i k ho he
  · rcases okV_dom ho with rfl | rfl | rfl | rfl | rfl | rfl | rfl | rfl | rfl | rfl | rfl | rfl | rfl
    · exact CR.v h 0 i k ho he
    · exact CR.v h 3 i k ho he
    · exact CR.v h 4 i k ho he
    · have e1 := hcN_congr (M := M) (M2 := mS M 31 8 x) (mS_nk (by decide)) (mS_ne (Or.inr (by decide)))
      have e2 : hs _ k = hs M k := hs_congr (M := M) (M2 := mS M 31 8 x) (mS_nk (by decide)) (mS_ne (Or.inr (by decide)))
      refine (CR.v h 5 i k ⟨ho.1, by rw [← e1]; exact ho.2⟩ he).trans ?_
      show some (hs M k) = some (hs _ k)
      rw [e2]
    · exact CR.v h 8 i k ho he
    · exact CR.v h 9 i k ho he
    · exact CR.v h 14 i k ho he
    · exact CR.v h 18 i k ho he
    · exact CR.v h 20 i k ho he
    · exact CR.v h 23 i k ho he
    · exact CR.v h 25 i k ho he
    · exact CR.v h 27 i k ho he
    · exact CR.v h 29 i k ho he
theorem CR.set4 {ex : Nat → Nat → Nat → Prop} {Λ : LY} {σ : HS} {M : MM} (h : CR ex Λ σ M) {x : Nat} {v : Int32} (hv : v = nI x) : CR ex Λ (sI σ 6 0 4 v) (mS M 31 9 x) := by
  refine ⟨h.1, h.2.1, fun t i k ho he => ?_, fun t i k ho he => ?_, fun t i k ho he => ?_⟩
  · rcases okI_dom ho with rfl | rfl | rfl | rfl | rfl | rfl | rfl | rfl | rfl | rfl | rfl
    · exact CR.i h 1 i k ho he
    · exact CR.i h 2 i k ho he
    · exact CR.i h 3 i k ho he
    · rw [gI_sI]
      by_cases hz : k = 4
      · subst hz
        rw [if_pos ⟨rfl, ho.1, rfl⟩, hv]
        rfl
      · rw [if_neg (fun z => hz z.2.2), CR.i h 6 i k ho he]
        show nI (stg M k) = nI (stg (mS M 31 9 x) k)
        unfold stg
        rw [mS_ne (Or.inl (by decide)), mS_ne (Or.inr (by omega))]
    · exact CR.i h 8 i k ho he
    · exact CR.i h 10 i k ho he
    · exact CR.i h 11 i k ho he
    · exact CR.i h 12 i k ho he
    · exact CR.i h 25 i k ho he
    · exact CR.i h 27 i k ho he
    · exact CR.i h 28 i k ho he
  · rcases okJ_dom ho with rfl | rfl
    · exact CR.j h 8 i k ho he
    · exact CR.j h 26 i k ho he
  · rcases okV_dom ho with rfl | rfl | rfl | rfl | rfl | rfl | rfl | rfl | rfl | rfl | rfl | rfl | rfl
    · exact CR.v h 0 i k ho he
    · exact CR.v h 3 i k ho he
    · exact CR.v h 4 i k ho he
    · have e1 := hcN_congr (M := M) (M2 := mS M 31 9 x) (mS_nk (by decide)) (mS_ne (Or.inr (by decide)))
      have e2 : hs _ k = hs M k := hs_congr (M := M) (M2 := mS M 31 9 x) (mS_nk (by decide)) (mS_ne (Or.inr (by decide)))
      refine (CR.v h 5 i k ⟨ho.1, by rw [← e1]; exact ho.2⟩ he).trans ?_
      show some (hs M k) = some (hs _ k)
      rw [e2]
    · exact CR.v h 8 i k ho he
    · exact CR.v h 9 i k ho he
    · exact CR.v h 14 i k ho he
    · exact CR.v h 18 i k ho he
    · exact CR.v h 20 i k ho he
    · exact CR.v h 23 i k ho he
    · exact CR.v h 25 i k ho he
    · exact CR.v h 27 i k ho he
    · exact CR.v h 29 i k ho he
theorem CR.set5 {ex : Nat → Nat → Nat → Prop} {Λ : LY} {σ : HS} {M : MM} (h : CR ex Λ σ M) {x : Nat} {v : Int32} (hv : v = nI x) : CR ex Λ (sI σ 6 0 5 v) (mS M 31 10 x) := by
  refine ⟨h.1, h.2.1, fun t i k ho he => ?_, fun t i k ho he => ?_, fun t i k ho he => ?_⟩
  · rcases okI_dom ho with rfl | rfl | rfl | rfl | rfl | rfl | rfl | rfl | rfl | rfl | rfl
    · exact CR.i h 1 i k ho he
    · exact CR.i h 2 i k ho he
    · exact CR.i h 3 i k ho he
    · rw [gI_sI]
      by_cases hz : k = 5
      · subst hz
        rw [if_pos ⟨rfl, ho.1, rfl⟩, hv]
        rfl
      · rw [if_neg (fun z => hz z.2.2), CR.i h 6 i k ho he]
        show nI (stg M k) = nI (stg (mS M 31 10 x) k)
        unfold stg
        rw [mS_ne (Or.inl (by decide)), mS_ne (Or.inr (by omega))]
    · exact CR.i h 8 i k ho he
    · exact CR.i h 10 i k ho he
    · exact CR.i h 11 i k ho he
    · exact CR.i h 12 i k ho he
    · exact CR.i h 25 i k ho he
    · exact CR.i h 27 i k ho he
    · exact CR.i h 28 i k ho he
  · rcases okJ_dom ho with rfl | rfl
    · exact CR.j h 8 i k ho he
    · exact CR.j h 26 i k ho he
  · rcases okV_dom ho with rfl | rfl | rfl | rfl | rfl | rfl | rfl | rfl | rfl | rfl | rfl | rfl | rfl
    · exact CR.v h 0 i k ho he
    · exact CR.v h 3 i k ho he
    · exact CR.v h 4 i k ho he
    · have e1 := hcN_congr (M := M) (M2 := mS M 31 10 x) (mS_nk (by decide)) (mS_ne (Or.inr (by decide)))
      have e2 : hs _ k = hs M k := hs_congr (M := M) (M2 := mS M 31 10 x) (mS_nk (by decide)) (mS_ne (Or.inr (by decide)))
      refine (CR.v h 5 i k ⟨ho.1, by rw [← e1]; exact ho.2⟩ he).trans ?_
      show some (hs M k) = some (hs _ k)
      rw [e2]
    · exact CR.v h 8 i k ho he
    · exact CR.v h 9 i k ho he
    · exact CR.v h 14 i k ho he
    · exact CR.v h 18 i k ho he
    · exact CR.v h 20 i k ho he
    · exact CR.v h 23 i k ho he
    · exact CR.v h 25 i k ho he
    · exact CR.v h 27 i k ho he
    · exact CR.v h 29 i k ho he
theorem CR.call {Λ : LY} {σ : HS} {M : MM} (h : CR exT Λ σ M) {a b x : Nat} (hn : M 31 5 ≤ 40) (ha : a < M 31 5) (hb : b < M 31 5) {y1 y2 : Int64} (hy1 : y1 = lN (bitS (fun o => decide (0 < (mS M 35 ((40 * 0 + a) * 40 + b) x) 35 ((40 * 0 + a) * 40 + o))) (M 31 5))) (hy2 : y2 = lN (bitS (fun o => decide (0 < (mS M 35 ((40 * 0 + a) * 40 + b) x) 35 ((40 * 0 + o) * 40 + b))) (M 31 5))) : CR exT Λ (sJ (sJ (sI σ 10 (3 * a + 0) b (nI x)) 8 a 9 y1) 8 b 8 y2) (mS M 35 ((40 * 0 + a) * 40 + b) x) := by
  refine ⟨h.1, h.2.1, fun t i k ho he => ?_, fun t i k ho he => ?_, fun t i k ho he => ?_⟩
  · rcases okI_dom ho with rfl | rfl | rfl | rfl | rfl | rfl | rfl | rfl | rfl | rfl | rfl
    · exact CR.i h 1 i k ho he
    · exact CR.i h 2 i k ho he
    · exact CR.i h 3 i k ho he
    · exact CR.i h 6 i k ho he
    · exact CR.i h 8 i k ho he
    · have h1 : i < 3 * M 31 5 := ho.1
      have h2 : k < 40 := ho.2
      rw [gI_sJ, gI_sJ, gI_sI]
      by_cases hz : i = 3 * a + 0 ∧ k = b
      · rw [if_pos ⟨rfl, hz⟩, hz.1, hz.2, c10 (by decide), mS_same]
      · rw [if_neg (fun z => hz z.2), CR.i h 10 i k ho he]
        show nI (M 35 ((40 * (i % 3) + i / 3) * 40 + k)) = nI ((mS M 35 ((40 * 0 + a) * 40 + b) x) 35 ((40 * (i % 3) + i / 3) * 40 + k))
        rw [mS_ne (Or.inr (by omega))]
    · exact absurd (Or.inl rfl) he
    · exact CR.i h 12 i k ho he
    · exact CR.i h 25 i k ho he
    · exact CR.i h 27 i k ho he
    · exact CR.i h 28 i k ho he
  · rcases okJ_dom ho with rfl | rfl
    · have h1 : i < M 31 5 := ho.1
      by_cases e7 : k = 7
      · exact absurd (Or.inr ⟨rfl, e7⟩) he
      · rw [gJ_sJ, gJ_sJ, gJ_sI]
        by_cases e8 : i = b ∧ k = 8
        · rw [if_pos ⟨rfl, e8⟩, hy2, e8.1, e8.2]
          rfl
        · rw [if_neg (fun z => e8 z.2)]
          by_cases e9 : i = a ∧ k = 9
          · rw [if_pos ⟨rfl, e9⟩, hy1, e9.1, e9.2]
            rfl
          · rw [if_neg (fun z => e9 z.2), CR.j h 8 i k ho he]
            rcases ho.2 with e | e | e | e
            · subst e; rfl
            · exact absurd e e7
            · subst e
              show lN (bitS _ _) = lN (bitS _ _)
              exact congrArg lN (bitS_cong (fun j hj => by rw [mS_ne (Or.inr (by have : i ≠ b := fun z => e8 ⟨z, rfl⟩; omega))]))
            · subst e
              show lN (bitS _ _) = lN (bitS _ _)
              exact congrArg lN (bitS_cong (fun j hj => by have hj2 : j < M 31 5 := hj; have : i ≠ a := (fun z => e9 ⟨z, rfl⟩); rw [mS_ne (Or.inr (by omega))]))
    · exact CR.j h 26 i k ho he
  · rcases okV_dom ho with rfl | rfl | rfl | rfl | rfl | rfl | rfl | rfl | rfl | rfl | rfl | rfl | rfl
    · exact CR.v h 0 i k ho he
    · exact CR.v h 3 i k ho he
    · exact CR.v h 4 i k ho he
    · have e1 := hcN_congr (M := M) (M2 := mS M 35 ((40 * 0 + a) * 40 + b) x) (mS_nk (by decide)) (mS_ne (Or.inl (by decide)))
      have e2 : hs _ k = hs M k := hs_congr (M := M) (M2 := mS M 35 ((40 * 0 + a) * 40 + b) x) (mS_nk (by decide)) (mS_ne (Or.inl (by decide)))
      refine (CR.v h 5 i k ⟨ho.1, by rw [← e1]; exact ho.2⟩ he).trans ?_
      show some (hs M k) = some (hs _ k)
      rw [e2]
    · exact CR.v h 8 i k ho he
    · exact CR.v h 9 i k ho he
    · exact CR.v h 14 i k ho he
    · exact CR.v h 18 i k ho he
    · exact CR.v h 20 i k ho he
    · exact CR.v h 23 i k ho he
    · exact CR.v h 25 i k ho he
    · exact CR.v h 27 i k ho he
    · exact CR.v h 29 i k ho he
theorem CR.told {Λ : LY} {σ : HS} {M : MM} (h : CR exT Λ σ M) {a b x : Nat} (hn : M 31 5 ≤ 40) (ha : a < M 31 5) (hb : b < M 31 5) {kk : Nat} (hab : a ≠ b) (hk : kk = 1 ∨ kk = 2) : CR exT Λ (sI (sI σ 10 (3 * a + kk) b (nI x)) 10 (3 * b + kk) a (nI x)) (mS (mS M 35 ((40 * kk + a) * 40 + b) x) 35 ((40 * kk + b) * 40 + a) x) := by
  refine ⟨h.1, h.2.1, fun t i k ho he => ?_, fun t i k ho he => ?_, fun t i k ho he => ?_⟩
  · rcases okI_dom ho with rfl | rfl | rfl | rfl | rfl | rfl | rfl | rfl | rfl | rfl | rfl
    · exact CR.i h 1 i k ho he
    · exact CR.i h 2 i k ho he
    · exact CR.i h 3 i k ho he
    · exact CR.i h 6 i k ho he
    · exact CR.i h 8 i k ho he
    · have h1 : i < 3 * M 31 5 := ho.1
      have h2 : k < 40 := ho.2
      rw [gI_sI, gI_sI]
      by_cases hz : i = 3 * b + kk ∧ k = a
      · rw [if_pos ⟨rfl, hz⟩, hz.1, hz.2, c10 (by omega), mS_same]
      · rw [if_neg (fun z => hz z.2)]
        by_cases hy : i = 3 * a + kk ∧ k = b
        · rw [if_pos ⟨rfl, hy⟩, hy.1, hy.2, c10 (by omega), mS_ne (Or.inr (by omega)), mS_same]
        · rw [if_neg (fun z => hy z.2), CR.i h 10 i k ho he]
          show nI (M 35 ((40 * (i % 3) + i / 3) * 40 + k)) = nI ((mS (mS M 35 ((40 * kk + a) * 40 + b) x) 35 ((40 * kk + b) * 40 + a) x) 35 ((40 * (i % 3) + i / 3) * 40 + k))
          rw [mS_ne (Or.inr (by omega)), mS_ne (Or.inr (by omega))]
    · exact absurd (Or.inl rfl) he
    · exact CR.i h 12 i k ho he
    · exact CR.i h 25 i k ho he
    · exact CR.i h 27 i k ho he
    · exact CR.i h 28 i k ho he
  · rcases okJ_dom ho with rfl | rfl
    · have h1 : i < M 31 5 := ho.1
      by_cases e7 : k = 7
      · exact absurd (Or.inr ⟨rfl, e7⟩) he
      · rw [gJ_sI, gJ_sI, CR.j h 8 i k ho he]
        rcases ho.2 with e | e | e | e
        · subst e; rfl
        · exact absurd e e7
        · subst e
          show lN (bitS _ _) = lN (bitS _ _)
          exact congrArg lN (bitS_cong (fun j hj => by have hj2 : j < M 31 5 := hj; rw [mS_ne (Or.inr (by omega)), mS_ne (Or.inr (by omega))]))
        · subst e
          show lN (bitS _ _) = lN (bitS _ _)
          exact congrArg lN (bitS_cong (fun j hj => by have hj2 : j < M 31 5 := hj; rw [mS_ne (Or.inr (by omega)), mS_ne (Or.inr (by omega))]))
    · exact CR.j h 26 i k ho he
  · rcases okV_dom ho with rfl | rfl | rfl | rfl | rfl | rfl | rfl | rfl | rfl | rfl | rfl | rfl | rfl
    · exact CR.v h 0 i k ho he
    · exact CR.v h 3 i k ho he
    · exact CR.v h 4 i k ho he
    · have e1 := hcN_congr (M := M) (M2 := mS (mS M 35 ((40 * kk + a) * 40 + b) x) 35 ((40 * kk + b) * 40 + a) x) ((mS_nk (by decide)).trans (mS_nk (by decide))) ((mS_ne (Or.inl (by decide))).trans (mS_ne (Or.inl (by decide))))
      have e2 : hs _ k = hs M k := hs_congr (M := M) (M2 := mS (mS M 35 ((40 * kk + a) * 40 + b) x) 35 ((40 * kk + b) * 40 + a) x) ((mS_nk (by decide)).trans (mS_nk (by decide))) ((mS_ne (Or.inl (by decide))).trans (mS_ne (Or.inl (by decide))))
      refine (CR.v h 5 i k ⟨ho.1, by rw [← e1]; exact ho.2⟩ he).trans ?_
      show some (hs M k) = some (hs _ k)
      rw [e2]
    · exact CR.v h 8 i k ho he
    · exact CR.v h 9 i k ho he
    · exact CR.v h 14 i k ho he
    · exact CR.v h 18 i k ho he
    · exact CR.v h 20 i k ho he
    · exact CR.v h 23 i k ho he
    · exact CR.v h 25 i k ho he
    · exact CR.v h 27 i k ho he
    · exact CR.v h 29 i k ho he
theorem tieM_36 {M : MM} {i j k n x : Nat} : tieM M i j k n 36 x = M 36 x := by
  unfold tieM
  split <;> rfl
theorem tieM_ne {M : MM} {i j k n : Nat} (hn : M 31 5 ≤ 40) (hi : i < M 31 5) (hj : j < M 31 5) (hk : k < 3) {k2 a b : Nat} (hk2 : k2 < 3) (ha : a < 40) (hb : b < 40) (h : ¬ (k2 = k ∧ ((a = i ∧ b = j) ∨ (a = j ∧ b = i)))) : tieM M i j k n 35 ((40 * k2 + a) * 40 + b) = M 35 ((40 * k2 + a) * 40 + b) := by
  unfold tieM
  split
  · rw [mS_ne (Or.inr (by omega))]
  · rw [mS_ne (Or.inr (by omega)), mS_ne (Or.inr (by omega))]
theorem WT.tie {M : MM} {i j k n : Nat} (hn : M 31 5 ≤ 40) (hi : i < M 31 5) (hj : j < M 31 5) (hij : i ≠ j) (hk : k < 3) (hW : WT M) : WT (tieM M i j k n) := by
  have e5 : tieM M i j k n 31 5 = M 31 5 := by
    unfold tieM
    split <;> rfl
  refine ⟨fun k2 a b hk2 ha hb e => ?_, fun k2 a b hk2 ha hb => ?_⟩
  · rw [e5] at e
    rw [tieM_ne hn hi hj hk hk2 ha hb (by omega)]
    exact hW.1 k2 a b hk2 ha hb e
  · unfold tieM
    split
    · rw [mS_ne (Or.inr (by omega)), mS_ne (Or.inr (by omega))]
      exact hW.2 k2 a b hk2 ha hb
    · by_cases e1 : k2 = k ∧ ((a = i ∧ b = j) ∨ (a = j ∧ b = i))
      · obtain ⟨rfl, ⟨rfl, rfl⟩ | ⟨rfl, rfl⟩⟩ := e1
        · rw [mS_same, mS_ne (Or.inr (by omega)), mS_same]
        · rw [mS_same, mS_ne (Or.inr (by omega)), mS_same]
      · rw [mS_ne (Or.inr (by omega)), mS_ne (Or.inr (by omega)), mS_ne (Or.inr (by omega)), mS_ne (Or.inr (by omega))]
        exact hW.2 k2 a b hk2 ha hb
theorem tie_up {M : MM} {i j k n : Nat} (hn : M 31 5 ≤ 40) (hi : i < M 31 5) (hj : j < M 31 5) (hij : i ≠ j) (hk : k < 3) (hW : WT M) : ∀ a b, a < M 31 5 → b < 40 → upT (upT (tieN M) i j (tieN (tieM M i j k n) i j)) j i (tieN (tieM M i j k n) i j) a b = tieN (tieM M i j k n) a b := by
  intro a b ha hb
  have hW2 := WT.tie (n := n) hn hi hj hij hk hW
  unfold upT
  by_cases e1 : a = j ∧ b = i
  · rw [if_pos e1, e1.1, e1.2]
    exact WT.sy hW2 (by omega) (by omega)
  · rw [if_neg e1]
    by_cases e2 : a = i ∧ b = j
    · rw [if_pos e2, e2.1, e2.2]
    · rw [if_neg e2]
      unfold tieN
      rw [tieM_36, tieM_36, tieM_36, tieM_ne hn hi hj hk (by decide) (by omega) (by omega) (by omega), tieM_ne hn hi hj hk (by decide) (by omega) (by omega) (by omega), tieM_ne hn hi hj hk (by decide) (by omega) (by omega) (by omega), tieM_ne hn hi hj hk (by decide) (by omega) (by omega) (by omega)]
theorem WT.setw {M : MM} {w x : Nat} (h : WT M) : WT (mS M 36 w x) := h
abbrev nTe : Nat → Prop := fun t => t ≠ 3 ∧ t ≠ 5 ∧ t ≠ 6 ∧ t ≠ 8 ∧ t ≠ 10 ∧ t ≠ 11
theorem Same.mono {P Q : Nat → Prop} {σ u : HS} (h : Same P σ u) (hq : ∀ t, Q t → P t) : Same Q σ u := fun t ht => h t (hq t ht)
theorem tieV_min {M : MM} {i j k n : Nat} : min 999999 (M 35 ((40 * k + i) * 40 + j) + n) = tieV M i j k n := by
  unfold tieV
  split <;> omega
