/-! ===== THE REST OF WHAT IS KEPT ===== -/
theorem feed_B {M : MM} {a b c d e : Int32} (hB : MBd M) (h : M 31 2 ≤ 20) : MBd (feedTo M (M 31 2) (fedB a b c d e) 20) := by
  intro t k hk
  unfold feedTo
  split
  · rename_i q
    obtain ⟨rfl, _, _⟩ := q
    have : fedB a b c d e (k - M 31 2) < 256 := bytN_lt _ _
    show _ ≤ 255
    omega
  · split
    · rename_i q
      obtain ⟨rfl, rfl⟩ := q
      show _ ≤ 40
      omega
    · exact hB t k hk
theorem feedTo_nk {M : MM} {tl q t : Nat} {f : Nat → Nat} (h1 : t ≠ 31) (h2 : t ≠ 32) : feedTo M tl f q t = M t := by
  funext k
  unfold feedTo
  rw [if_neg (fun z => h2 z.1), if_neg (fun z => h1 z.1)]
theorem feedTo_31 {M : MM} {tl q k : Nat} {f : Nat → Nat} (h : k ≠ 2) : feedTo M tl f q 31 k = M 31 k := by
  unfold feedTo
  rw [if_neg (fun z => absurd z.1 (by decide)), if_neg (fun z => h z.2)]
theorem WF.feed {M : MM} {a b c d e : Int32} (h : WF M) (h2 : M 31 2 ≤ 20) : WF (feedTo M (M 31 2) (fedB a b c d e) 20) :=
  h.cong (feed_B h.1.1 h2) (feedTo_31 (by decide)) (feedTo_31 (by decide)) (feedTo_31 (by decide)) (feedTo_31 (by decide)) (fun t ht => feedTo_nk (by omega) (by omega)) (fun k _ => by rw [feedTo_nk (by decide) (by decide)])
theorem WF.clr {M : MM} (h : WF M) : WF (mS M 31 2 0) :=
  h.cong (clr_B h.1.1) rfl rfl rfl rfl (fun t ht => mS_nk (by omega)) (fun _ _ => rfl)
theorem nm_20 {M : MM} {n : Nat} (h : nameB M n = true) : n ≤ 20 := by
  unfold nameB at h
  rw [Bool.and_eq_true] at h
  exact (of_decide_eq_true h.1).2
theorem nm_at {M : MM} {n k : Nat} (h : nameB M n = true) (hk : k < n) : M 32 k < 128 := by
  unfold nameB at h
  rw [Bool.and_eq_true] at h
  exact isLet_lt (allL_at h.2 hk)
theorem WF0.new {M : MM} {n lb : Nat} (h : WF M) (hn : nameB M n = true) (h40 : M 31 5 < 40) : WF0 (newM (mS M 60 (M 31 5) lb) n) := by
  obtain ⟨⟨hB, h0, h10, hT, hm, hZ, hP, h4, h3⟩, _⟩ := h
  have n20 := nm_20 hn
  have e35 : (newM (mS M 60 (M 31 5) lb) n) 35 = M 35 := funext fun k => nr_t (by decide) (by decide) (by decide) (by decide) (by decide)
  have e37 : (newM (mS M 60 (M 31 5) lb) n) 37 = M 37 := funext fun k => nr_t (by decide) (by decide) (by decide) (by decide) (by decide)
  have e38 : (newM (mS M 60 (M 31 5) lb) n) 38 = M 38 := funext fun k => nr_t (by decide) (by decide) (by decide) (by decide) (by decide)
  have e39 : (newM (mS M 60 (M 31 5) lb) n) 39 = M 39 := funext fun k => nr_t (by decide) (by decide) (by decide) (by decide) (by decide)
  have e43 : (newM (mS M 60 (M 31 5) lb) n) 43 = M 43 := funext fun k => nr_t (by decide) (by decide) (by decide) (by decide) (by decide)
  refine ⟨fun t k hk => ?_, by rw [nr_31 (by decide)]; exact h0, by rw [nr_31 (by decide)]; exact h10, ⟨fun k a b hk ha hb e => ?_, fun k a b hk ha hb => ?_⟩, by unfold WMu; rw [e39]; exact hm, fun r hr h40 => ?_, by rw [nr_31 (by decide), e43]; exact hP, fun x hx => ?_, fun x hx => ?_⟩
  · by_cases t1 : t = 31
    · subst t1
      by_cases k5 : k = 5
      · subst k5
        rw [nr_5]
        show _ ≤ 40
        omega
      · rw [nr_31 k5]; exact hB 31 k hk
    · by_cases t2 : t = 33
      · subst t2
        rw [nr_33]
        split
        · rename_i q
          have := nm_at hn (k := k - 20 * M 31 5) (by omega)
          show _ ≤ 255
          omega
        · exact hB 33 k hk
      · by_cases t3 : t = 34
        · subst t3
          rw [nr_34]
          split
          · show _ ≤ 40
            omega
          · exact hB 34 k hk
        · by_cases t4 : t = 40
          · subst t4
            rw [nr_40]
            split
            · exact Nat.zero_le _
            · exact hB 40 k hk
          · by_cases t5 : t = 60
            · subst t5
              exact absurd (of_decide_eq_true (show decide (k < mlen 60) = true from hk)) (Nat.not_lt_zero k)
            · rw [nr_t t1 t2 t3 t4 t5]; exact hB t k hk
  · rw [nr_5] at e
    rw [e35]
    exact hT.1 k a b hk ha hb (by omega)
  · rw [e35]
    exact hT.2 k a b hk ha hb
  · rw [nr_5] at hr
    rw [e37, e38, e39]
    exact hZ r (by omega) h40
  · rw [nr_34]
    split
    · exact n20
    · exact h4 x hx
  · rw [nr_33]
    split
    · rename_i q
      exact nm_at hn (by omega)
    · exact h3 x hx
theorem WF.asgn {M M2 : MM} {F : Nat → Nat} (h : WF M) (hB : MBd M2) (hv : vA (M 31 10) (hcN M) F) (e : ∀ t, t ≠ 41 → t ≠ 42 → M2 t = asg M F t) : WF M2 := by
  refine h.rooms hB (fun t h1 h2 h3 => by rw [e t h2 h3]; exact asg_nk h1) (fun r hr => ?_) (fun r hr => ?_)
  · rw [e 38 (by decide) (by decide)]
    unfold asg
    exact if_neg (fun z => by have := z.2.1; omega)
  · rw [e 38 (by decide) (by decide)]
    unfold asg
    split
    · rename_i q
      exact hv _ (rk_lt hr q.2.2)
    · exact h.2 r hr
theorem nmq_lt {M M' : MM} {room : Nat} (hB0 : MBd M) (h4 : ∀ x, x < 40 → M 34 x ≤ 20) (h3 : ∀ x, x < 800 → M 33 x < 128) (hN : NmR M room M') : M' 31 18 ≤ 20 ∧ ∀ k, k < M' 31 18 → M' 43 k < 128 := by
  obtain ⟨e, q⟩ := hN
  rcases q with ⟨q1, _⟩ | ⟨ro, k, q1, q2, q3⟩
  · rw [q1]
    exact ⟨by decide, fun k hk => absurd hk (Nat.not_lt_zero k)⟩
  · have hn : M 31 5 ≤ 40 := hB0 31 5 rfl
    have c1 : ro < M 31 5 := q1.1.1
    have c2 : k < M 34 ro := q1.1.2.2.2.1.1
    have c3 : endK M ro k ≤ M 34 ro := endK_le (Nat.le_of_lt c2)
    have c4 := h4 ro (by omega)
    have c5 : lnW M ro k = endK M ro k - k := rfl
    rw [q2]
    refine ⟨by omega, fun j hj => ?_⟩
    rw [q3 j hj]
    exact h3 _ (by omega)
theorem nm_B {M M' : MM} {room : Nat} (hB : MBd M) (h : WF M) (hN : NmR M room M') (hk : ∀ k, M' 31 18 ≤ k → M' 43 k = M 43 k) : MBd M' := by
  have z := nmq_lt hB h.1.2.2.2.2.2.2.2.1 h.1.2.2.2.2.2.2.2.2 hN
  intro t k ht
  by_cases t4 : t = 43
  · subst t4
    by_cases q : k < M' 31 18
    · have := z.2 k q
      show _ ≤ 255
      omega
    · rw [hk k (by omega)]; exact hB 43 k ht
  · by_cases t5 : t = 31 ∧ k = 18
    · obtain ⟨rfl, rfl⟩ := t5
      have := z.1
      show _ ≤ 40
      omega
    · rw [hN.1 t k t4 t5]; exact hB t k ht
theorem nm_one {M M2 M3 : MM} {room : Nat} (h2 : NmR M room M2) (h3 : NmR M room M3) : M2 31 18 = M3 31 18 ∧ ∀ k, k < M2 31 18 → M2 43 k = M3 43 k := by
  rcases h2.2 with ⟨a1, a2⟩ | ⟨r, k, a1, a2, a3⟩
  · rcases h3.2 with ⟨b1, b2⟩ | ⟨r', k', b1, b2, b3⟩
    · rw [a1, b1]; exact ⟨rfl, fun k hk => absurd hk (Nat.not_lt_zero k)⟩
    · exact absurd b1.1 (a2 _ _)
  · rcases h3.2 with ⟨b1, b2⟩ | ⟨r', k', b1, b2, b3⟩
    · exact absurd a1.1 (b2 _ _)
    · have c1 := a1.2 _ _ b1.1
      have c2 := b1.2 _ _ a1.1
      unfold bwW at c1 c2
      have e : weq (lnW M r k) (wdF M r k) (lnW M r' k') (wdF M r' k') := by
        rcases wtri (lnW M r k) (wdF M r k) (lnW M r' k') (wdF M r' k') with w | w | w
        · rcases c2 with d | ⟨d1, d2⟩
          · rcases c1 with f | ⟨f1, f2⟩
            · omega
            · omega
          · exact absurd w d2
        · exact w
        · rcases c1 with d | ⟨d1, d2⟩
          · rcases c2 with f | ⟨f1, f2⟩
            · omega
            · omega
          · exact absurd w d2
      rw [a2, b2]
      refine ⟨e.1, fun j hj => ?_⟩
      rw [a3 j hj, b3 j (by rw [← e.1]; exact hj)]
      exact e.2 j hj
theorem WF.page {M M' : MM} {room : Nat} (h : WF M) (hN : NmR M room M') (hB : MBd M') : WF M' := by
  obtain ⟨⟨hB0, h0, h10, hT, hm, hZ, hP, h4, h3⟩, hr⟩ := h
  obtain ⟨e, q⟩ := hN
  have r : ∀ t, t ≠ 31 → t ≠ 43 → M' t = M t := fun t a b => funext fun k => e t k b (fun z => a z.1)
  have g : ∀ k, k ≠ 18 → M' 31 k = M 31 k := fun k hk => e 31 k (by decide) (fun z => hk z.2)
  have r33 := r 33 (by decide) (by decide); have r34 := r 34 (by decide) (by decide); have r35 := r 35 (by decide) (by decide); have r37 := r 37 (by decide) (by decide); have r38 := r 38 (by decide) (by decide); have r39 := r 39 (by decide) (by decide)
  have g5 := g 5 (by decide); have gt := g 10 (by decide)
  refine ⟨⟨hB, by rw [g 0 (by decide)]; exact h0, by rw [gt]; exact h10, by unfold WT; rw [r35, g5]; exact hT, by unfold WMu; rw [r39]; exact hm, by unfold WZ; rw [r37, r38, r39, g5]; exact hZ, ?_, by rw [r34]; exact h4, by rw [r33]; exact h3⟩, by unfold RO; rw [g5, gt, r38]; exact hr⟩
  exact nmq_lt hB0 h4 h3 ⟨e, q⟩
theorem WF.chg {M : MM} {lo hi : Nat} (h : WF M) (hlo : lo < p2 (lmN M)) (hhi : hi < p2 (hmN M)) (hc : M 31 22 < 60) : WF (mS (mS (mS M 45 (M 31 22) lo) 46 (M 31 22) hi) 31 22 (M 31 22 + 1)) := by
  have hn : M 31 5 ≤ 40 := h.1.1 31 5 rfl
  have a1 : lmN M ≤ 20 := by unfold lmN; split <;> omega
  have a2 : hmN M ≤ 20 := by unfold hmN; split <;> omega
  have b1 := p2_lt a1; have b2 := p2_lt a2
  refine h.cong (MBd.set (MBd.set (h.1.1.set ?_) ?_) ?_) rfl rfl rfl rfl (fun t ht => by rw [mS_nk (by omega), mS_nk (by omega), mS_nk (by omega)]) (fun _ _ => rfl)
  · show _ ≤ 1048575; omega
  · show _ ≤ 1048575; omega
  · show _ ≤ 60; omega
theorem WF.kep {M : MM} (h : WF M) : WF (kpTo M 40) := by
  refine h.cong (fun t k hk => ?_) (kpTo_31 (by decide)) (kpTo_31 (by decide)) (kpTo_31 (by decide)) (kpTo_31 (by decide)) (fun t ht => kpTo_nk (by omega) (by omega)) (fun k _ => by rw [kpTo_nk (by decide) (by decide)])
  unfold kpTo
  split
  · rename_i q
    obtain ⟨rfl, hk4⟩ := q
    have := h.1.1 38 k (decide_eq_true (show k < 40 from hk4))
    have this2 : M 38 k ≤ 5 := this
    unfold kpV
    split
    · show _ ≤ 6; omega
    · exact Nat.zero_le _
  · split
    · rename_i q
      obtain ⟨rfl, rfl⟩ := q
      show _ ≤ 40; omega
    · exact h.1.1 t k hk
theorem WF.nxt {M : MM} (h : WF M) : WF (nextM M (M 31 10)) :=
  h.cong (nextM_B h.1.1 h.1.2.2.1.2 _) (by rw [nextM_nk (by decide)]) (by rw [nextM_nk (by decide)]) (by rw [nextM_nk (by decide)]) (by rw [nextM_nk (by decide)]) (fun t ht => nextM_nk (by omega)) (fun k _ => by rw [nextM_nk (by decide)])
theorem WF.tgt {M : MM} (h : WF M) : WF (tgTo M (M 31 5)) :=
  h.cong (tgTo_B h.1.1 (h.1.1 31 5 rfl) (Nat.le_refl _)) (by rw [tgTo_nk (by decide)]) (by rw [tgTo_nk (by decide)]) (by rw [tgTo_nk (by decide)]) (by rw [tgTo_nk (by decide)]) (fun t ht => tgTo_nk (by omega)) (fun k _ => by rw [tgTo_nk (by decide)])
theorem WF.sy {M : MM} (h : WF M) : ∀ a b, a < 40 → b < 40 → pulZ M a b = pulZ M b a := by
  intro a b ha hb
  unfold pulZ
  rw [WT.sy h.1.2.2.2.1 ha hb, h.1.2.2.2.2.1 a b ha hb]
theorem WF.rm {M : MM} (h : WF M) : ∀ r, r < M 31 5 → M 37 r = 0 → M 38 r < M 31 10 := fun r hr _ => h.2 r hr
