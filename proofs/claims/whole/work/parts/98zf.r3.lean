set_option maxHeartbeats 1000000 in
theorem CR.add {Λ Ld : LY} {σ σd : HS} {M : MM} {lb nl : Nat} (h : CR noEx Λ σ M) (hW : WT M) (hZ : WZ M) (hn : M 31 5 < 40) (R : RT Λ Ld σ σd (M 31 5) lb) : CR exH Ld (sI (sV σd 4 0 (M 31 5) (some (M 31 5))) 3 0 4 (nI (M 31 5 + 1))) (newM (mS M 60 (M 31 5) lb) nl) := by
  have h5 : (newM (mS M 60 (M 31 5) lb) nl) 31 5 = M 31 5 + 1 := nr_5
  have hk : ∀ t i, i < gC Λ t → t ≠ 3 → gI (sI (sV σd 4 0 (M 31 5) (some (M 31 5))) 3 0 4 (nI (M 31 5 + 1))) t i = gI σ t i := fun t i hi ht => by rw [gI_ne (Or.inl ht), gI_sV]; exact (R.kp t i hi).1
  have hj : ∀ t i, i < gC Λ t → gJ (sI (sV σd 4 0 (M 31 5) (some (M 31 5))) 3 0 4 (nI (M 31 5 + 1))) t i = gJ σ t i := fun t i hi => (R.kp t i hi).2.1
  have hv : ∀ t i, i < gC Λ t → t ≠ 4 → gV (sI (sV σd 4 0 (M 31 5) (some (M 31 5))) 3 0 4 (nI (M 31 5 + 1))) t i = gV σ t i := fun t i hi ht => by rw [gV_sI, gV_ne (Or.inl ht)]; exact (R.kp t i hi).2.2
  have c8 : ∀ t, t = 8 ∨ t = 9 ∨ t = 11 ∨ t = 12 ∨ t = 13 → gC Λ t = M 31 5 := fun t ht => h.1.2.2.1 t (by rcases ht with e | e | e | e | e <;> subst e <;> decide)
  have c10 : gC Λ 10 = 3 * M 31 5 := h.1.2.2.2.1
  have z := hZ (M 31 5) (Nat.le_refl _) hn
  refine ⟨?_, fun i hi => ?_, fun t i k ho he => ?_, fun t i k ho he => ?_, fun t i k ho he => ?_⟩
  · rw [h5]
    obtain ⟨b1, b2, b3, b4, b5, b6, b7, b8, b9, b10, b11, b12⟩ := h.1
    have ge : ∀ t i, i < gC Λ t → gN Ld t i = gN Λ t i := fun t i hi => (R.gw.2.1 t i hi).2
    refine ⟨fun t ht => ?_, ?_, fun t ht => R.cn t (by simpa using ht), by rw [R.c10]; omega, ?_, ?_, fun q hq => ?_, fun i hi => ?_, fun i hi => ?_, fun i hi => ?_, ?_, ?_⟩
    · have ht2 := b1 t ht
      rw [R.co t (by intro e; subst e; revert ht; decide) (by intro e; subst e; revert ht; decide) (by intro e; subst e; revert ht; decide) (by intro e; subst e; revert ht; decide) (by intro e; subst e; revert ht; decide) (by intro e; subst e; revert ht; decide)]
      exact ht2
    · rw [R.co 30 (by decide) (by decide) (by decide) (by decide) (by decide) (by decide)]; exact b2
    · rw [R.co 1 (by decide) (by decide) (by decide) (by decide) (by decide) (by decide)]; exact b5
    · rw [R.co 1 (by decide) (by decide) (by decide) (by decide) (by decide) (by decide), R.co 2 (by decide) (by decide) (by decide) (by decide) (by decide) (by decide)]; exact b6
    · rw [ge q.1 0 (by rw [b1 q.1 (by revert hq; revert q; decide)]; decide)]; exact b7 q hq
    · rw [ge 30 i (by omega)]; exact b8 i hi
    · by_cases e : i = M 31 5
      · subst e; exact ⟨R.l9, R.l11, R.l12, R.l13⟩
      · have hi2 : i < M 31 5 := by omega
        rw [ge 9 i (by rw [c8 9 (by decide)]; exact hi2), ge 11 i (by rw [c8 11 (by decide)]; exact hi2), ge 12 i (by rw [c8 12 (by decide)]; exact hi2), ge 13 i (by rw [c8 13 (by decide)]; exact hi2)]
        exact b9 i hi2
    · by_cases e : i < 3 * M 31 5
      · rw [ge 10 i (by omega)]; exact b10 i e
      · exact R.l10 i (by omega) (by omega)
    · rw [ge 2 0 (by omega)]; exact b11
    · rw [ge 2 1 (by omega)]; exact b12
  · have hi2 : i < gC Λ 1 := by rw [← R.co 1 (by decide) (by decide) (by decide) (by decide) (by decide) (by decide)]; exact hi
    rw [hv 1 i hi2 (by decide)]
    exact h.2.1 i hi2
  · rcases okI_dom ho with rfl | rfl | rfl | rfl | rfl | rfl | rfl | rfl | rfl | rfl | rfl
    · rw [cI_1, nr_31 (by decide), nr_31 (by decide), hk 1 i (CR.n2 h ho.1).1 (by decide)]
      exact CR.i h 1 i k ho id
    · have ho2 : okI M 2 i k := by rcases ho with y | y; exact Or.inl ⟨y.1, by have := y.2; rw [nr_31 (by decide)] at this; exact this⟩; exact Or.inr ⟨y.1, by have := y.2; rw [nr_31 (by decide)] at this; exact this⟩
      have hi2 : i < gC Λ 2 := (CR.n2 h (by rcases ho2 with y | y <;> (have := y.1; omega))).2
      rw [cI_2, nr_t (t := 32) (by decide) (by decide) (by decide) (by decide) (by decide), nr_t (t := 43) (by decide) (by decide) (by decide) (by decide) (by decide), hk 2 i hi2 (by decide)]
      exact CR.i h 2 i k ho2 id
    · obtain ⟨y1, y2⟩ := ho
      subst y1
      rcases y2 with e | e <;> subst e
      · rw [cI_3, if_pos rfl, nr_5]; exact gI_same _ _ _ _ _
      · exact absurd (Or.inl ⟨rfl, rfl⟩) he
    · obtain ⟨y1, y2⟩ := ho
      subst y1
      rw [hk 6 0 (CR.n1 h (by decide)) (by decide), cI_6]
      refine (CR.i h 6 0 k ⟨rfl, y2⟩ id).trans ?_
      rw [cI_6]
      rcases (show k = 0 ∨ k = 1 ∨ k = 2 ∨ k = 3 ∨ k = 4 ∨ k = 5 by omega) with e | e | e | e | e | e <;> subst e
      · show nI (M 36 0) = nI ((newM (mS M 60 (M 31 5) lb) nl) 36 0); rw [nr_t (t := 36) (by decide) (by decide) (by decide) (by decide) (by decide)]
      · show nI (M 36 1) = nI ((newM (mS M 60 (M 31 5) lb) nl) 36 1); rw [nr_t (t := 36) (by decide) (by decide) (by decide) (by decide) (by decide)]
      · show nI (M 36 2) = nI ((newM (mS M 60 (M 31 5) lb) nl) 36 2); rw [nr_t (t := 36) (by decide) (by decide) (by decide) (by decide) (by decide)]
      · show nI (M 31 8) = nI ((newM (mS M 60 (M 31 5) lb) nl) 31 8); rw [nr_31 (by decide)]
      · show nI (M 31 9) = nI ((newM (mS M 60 (M 31 5) lb) nl) 31 9); rw [nr_31 (by decide)]
      · show nI (M 31 10) = nI ((newM (mS M 60 (M 31 5) lb) nl) 31 10); rw [nr_31 (by decide)]
    · obtain ⟨y1, y2⟩ := ho
      rw [h5] at y1
      rw [cI_8, nr_40, nr_t (t := 38) (by decide) (by decide) (by decide) (by decide) (by decide), nr_t (t := 37) (by decide) (by decide) (by decide) (by decide) (by decide)]
      by_cases e : i = M 31 5
      · subst e
        rw [gI_ne (Or.inl (by decide)), gI_sV, if_pos rfl]
        rcases y2 with e | e | e | e <;> subst e
        · exact R.i0
        · exact R.i10.trans (show (-1 : Int32) = nI 0 - 1 by decide)
        · rw [z.2.1]; exact R.i11
        · rw [z.1]; exact R.i12
      · have hi2 : i < M 31 5 := by omega
        rw [hk 8 i (by rw [c8 8 (by decide)]; exact hi2) (by decide), if_neg e]
        exact (CR.i h 8 i k ⟨hi2, y2⟩ id).trans (cI_8 M i k)
    · obtain ⟨y1, y2⟩ := ho
      rw [h5] at y1
      rw [cI_10, nr_t (t := 35) (by decide) (by decide) (by decide) (by decide) (by decide)]
      by_cases e : i < 3 * M 31 5
      · rw [hk 10 i (by omega) (by decide)]
        exact (CR.i h 10 i k ⟨e, y2⟩ id).trans (cI_10 M i k)
      · rw [gI_ne (Or.inl (by decide)), gI_sV, R.z10 i k (by omega), hW.1 (i % 3) (i / 3) k (by omega) (by omega) y2 (Or.inr (Or.inl (by omega)))]
        rfl
    · obtain ⟨y1, y2⟩ := ho
      rw [h5] at y1
      rw [cI_11, nr_tie]
      by_cases e : i = M 31 5
      · subst e
        rw [gI_ne (Or.inl (by decide)), gI_sV, R.z11 k, tie_z hW hn y2 (Or.inl (Nat.le_refl _))]
        rfl
      · have hi2 : i < M 31 5 := by omega
        rw [hk 11 i (by rw [c8 11 (by decide)]; exact hi2) (by decide)]
        exact (CR.i h 11 i k ⟨hi2, y2⟩ id).trans (cI_11 M i k)
    · obtain ⟨y1, y2⟩ := ho
      rw [h5] at y1
      rw [cI_12, nr_t (t := 39) (by decide) (by decide) (by decide) (by decide) (by decide)]
      by_cases e : i = M 31 5
      · subst e
        rw [gI_ne (Or.inl (by decide)), gI_sV, R.z12 k, z.2.2 k y2]
        rfl
      · have hi2 : i < M 31 5 := by omega
        rw [hk 12 i (by rw [c8 12 (by decide)]; exact hi2) (by decide)]
        exact (CR.i h 12 i k ⟨hi2, y2⟩ id).trans (cI_12 M i k)
    · obtain ⟨y1, y2⟩ := ho
      subst y1 y2
      rw [hk 25 0 (CR.n1 h (by decide)) (by decide), cI_25, nr_31 (by decide)]
      exact CR.i h 25 0 1 ⟨rfl, rfl⟩ id
    · obtain ⟨y1, y2⟩ := ho
      subst y1 y2
      rw [hk 27 0 (CR.n1 h (by decide)) (by decide), cI_27, nr_31 (by decide)]
      exact CR.i h 27 0 2 ⟨rfl, rfl⟩ id
    · obtain ⟨y1, y2⟩ := ho
      subst y1
      rw [hk 28 0 (CR.n1 h (by decide)) (by decide), cI_28, nr_t (t := 47) (by decide) (by decide) (by decide) (by decide) (by decide)]
      exact CR.i h 28 0 k ⟨rfl, y2⟩ id
  · rcases okJ_dom ho with rfl | rfl
    · obtain ⟨y1, y2⟩ := ho
      rw [h5] at y1
      have eJ : ∀ M2 : MM, cJ M2 8 i k = if k = 1 then lN (2 ^ i) else if k = 7 then lN (bitS (tdB M2 i) (M2 31 5)) else if k = 8 then lN (bitS (fun o => decide (0 < M2 35 ((40 * 0 + o) * 40 + i))) (M2 31 5)) else lN (bitS (fun o => decide (0 < M2 35 ((40 * 0 + i) * 40 + o))) (M2 31 5)) := fun _ => rfl
      have tz : ∀ o, o < M 31 5 + 1 → (i = M 31 5 ∨ o = M 31 5) → tdB (newM (mS M 60 (M 31 5) lb) nl) i o = false := fun o ho2 hio => by
        unfold tdB
        rw [nr_tie, tie_z hW (by omega) (by omega) (by omega)]
        simp
      have fz : ∀ a b, a < 40 → b < 40 → (M 31 5 ≤ a ∨ M 31 5 ≤ b) → decide (0 < (newM (mS M 60 (M 31 5) lb) nl) 35 ((40 * 0 + a) * 40 + b)) = false := fun a b ha hb hab => by
        rw [nr_t (M := M) (lb := lb) (nl := nl) (t := 35) (by decide) (by decide) (by decide) (by decide) (by decide), hW.1 0 a b (by decide) ha hb (Or.inr hab)]
        rfl
      rw [eJ, h5]
      by_cases e : i = M 31 5
      · subst e
        rw [gJ_sI, gJ_sV]
        rcases y2 with e | e | e | e <;> subst e
        · exact R.j1
        · rw [if_neg (by decide), if_pos rfl, bitS_0 (fun o ho2 => tz o ho2 (Or.inl rfl))]; exact R.j7
        · rw [if_neg (by decide), if_neg (by decide), if_pos rfl, bitS_0 (fun o ho2 => fz o _ (by omega) (by omega) (Or.inr (Nat.le_refl _)))]; exact R.j8
        · rw [if_neg (by decide), if_neg (by decide), if_neg (by decide), bitS_0 (fun o ho2 => fz _ o (by omega) (by omega) (Or.inl (Nat.le_refl _)))]; exact R.j9
      · have hi2 : i < M 31 5 := by omega
        rw [hj 8 i (by rw [c8 8 (by decide)]; exact hi2)]
        refine (CR.j h 8 i k ⟨hi2, y2⟩ id).trans ?_
        rw [eJ]
        rcases y2 with e2 | e2 | e2 | e2 <;> subst e2
        · rfl
        · rw [if_neg (by decide), if_pos rfl, if_neg (by decide), if_pos rfl, bitS_s (p := tdB M i) (fun j _ => by unfold tdB; rw [nr_tie]) (tz _ (by omega) (Or.inr rfl))]
        · rw [if_neg (by decide), if_neg (by decide), if_pos rfl, if_neg (by decide), if_neg (by decide), if_pos rfl, bitS_s (p := fun o => decide (0 < M 35 ((40 * 0 + o) * 40 + i))) (fun j _ => by rw [nr_t (M := M) (lb := lb) (nl := nl) (t := 35) (by decide) (by decide) (by decide) (by decide) (by decide)]) (fz _ _ (by omega) (by omega) (Or.inl (Nat.le_refl _)))]
        · rw [if_neg (by decide), if_neg (by decide), if_neg (by decide), if_neg (by decide), if_neg (by decide), if_neg (by decide), bitS_s (p := fun o => decide (0 < M 35 ((40 * 0 + i) * 40 + o))) (fun j _ => by rw [nr_t (M := M) (lb := lb) (nl := nl) (t := 35) (by decide) (by decide) (by decide) (by decide) (by decide)]) (fz _ _ (by omega) (by omega) (Or.inr (Nat.le_refl _)))]
    · obtain ⟨y1, y2⟩ := ho
      subst y1
      rw [nr_31 (by decide)] at y2
      rw [hj 26 0 (CR.n1 h (by decide))]
      refine (CR.j h 26 0 k ⟨rfl, y2⟩ id).trans ?_
      show lN (M 45 k + 2 ^ 20 * M 46 k) = lN ((newM (mS M 60 (M 31 5) lb) nl) 45 k + 2 ^ 20 * (newM (mS M 60 (M 31 5) lb) nl) 46 k)
      rw [nr_t (t := 45) (by decide) (by decide) (by decide) (by decide) (by decide), nr_t (t := 46) (by decide) (by decide) (by decide) (by decide) (by decide)]
  · rcases okV_dom ho with rfl | rfl | rfl | rfl | rfl | rfl | rfl | rfl | rfl | rfl | rfl | rfl | rfl
    · obtain ⟨y1, y2⟩ := ho
      subst y1
      rw [hv 0 0 (CR.n1 h (by decide)) (by decide)]
      exact CR.v h 0 0 k ⟨rfl, y2⟩ id
    · obtain ⟨y1, y2⟩ := ho
      subst y1
      rw [hv 3 0 (CR.n1 h (by decide)) (by decide)]
      exact CR.v h 3 0 k ⟨rfl, y2⟩ id
    · obtain ⟨y1, y2⟩ := ho
      subst y1
      rw [h5] at y2
      rw [gV_sI, gV_sV]
      by_cases e : k = M 31 5
      · rw [if_pos ⟨rfl, rfl, e⟩, e]; rfl
      · rw [if_neg (fun z => e z.2.2), (R.kp 4 0 (CR.n1 h (by decide))).2.2]
        exact CR.v h 4 0 k ⟨rfl, by omega⟩ id
    · exact absurd (Or.inr rfl) he
    · obtain ⟨y1, y2, y3⟩ := ho
      rw [h5] at y1
      show _ = if k = 2 then some ((newM (mS M 60 (M 31 5) lb) nl) 60 i) else some i
      rw [nr_60]
      by_cases e : i = M 31 5
      · subst e
        rw [if_pos rfl, gV_sI, gV_ne (Or.inl (by decide))]
        by_cases e2 : k = 2
        · rw [if_pos e2, e2]; exact R.v2
        · rw [if_neg e2]; exact R.v3 k (by omega) y3
      · have hi2 : i < M 31 5 := by omega
        rw [if_neg e, hv 8 i (by rw [c8 8 (by decide)]; exact hi2) (by decide)]
        exact CR.v h 8 i k ⟨hi2, y2, y3⟩ id
    · obtain ⟨y1, y2⟩ := ho
      rw [h5] at y1
      by_cases e : i = M 31 5
      · subst e
        rw [gV_sI, gV_ne (Or.inl (by decide))]
        exact R.v9 k y2
      · have hi2 : i < M 31 5 := by omega
        rw [hv 9 i (by rw [c8 9 (by decide)]; exact hi2) (by decide)]
        exact CR.v h 9 i k ⟨hi2, y2⟩ id
    · obtain ⟨y1, y2⟩ := ho
      subst y1
      rw [hv 14 0 (CR.n1 h (by decide)) (by decide)]
      exact CR.v h 14 0 k ⟨rfl, y2⟩ id
    · obtain ⟨y1, y2⟩ := ho
      subst y1
      rw [hv 18 0 (CR.n1 h (by decide)) (by decide)]
      exact CR.v h 18 0 k ⟨rfl, y2⟩ id
    · obtain ⟨y1, y2⟩ := ho
      subst y1
      rw [hv 20 0 (CR.n1 h (by decide)) (by decide)]
      exact CR.v h 20 0 k ⟨rfl, y2⟩ id
    · obtain ⟨y1, y2⟩ := ho
      subst y1
      rw [hv 23 0 (CR.n1 h (by decide)) (by decide)]
      exact CR.v h 23 0 k ⟨rfl, y2⟩ id
    · obtain ⟨y1, y2⟩ := ho
      subst y1
      rw [hv 25 0 (CR.n1 h (by decide)) (by decide)]
      exact CR.v h 25 0 k ⟨rfl, y2⟩ id
    · obtain ⟨y1, y2⟩ := ho
      subst y1
      rw [hv 27 0 (CR.n1 h (by decide)) (by decide)]
      exact CR.v h 27 0 k ⟨rfl, y2⟩ id
    · obtain ⟨y1, y2⟩ := ho
      subst y1
      rw [hv 29 0 (CR.n1 h (by decide)) (by decide)]
      exact CR.v h 29 0 k ⟨rfl, y2⟩ id