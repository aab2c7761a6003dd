/-! ===== WHAT THE NUMBERS KEEP TO BETWEEN TWO CALLS ===== -/
def WF0 (M : MM) : Prop := MBd M ∧ M 31 0 = 0 ∧ (1 ≤ M 31 10 ∧ M 31 10 ≤ 6) ∧ WT M ∧ WMu M ∧ WZ M ∧ (M 31 18 ≤ 20 ∧ ∀ k, k < M 31 18 → M 43 k < 128) ∧ (∀ x, x < 40 → M 34 x ≤ 20) ∧ ∀ x, x < 800 → M 33 x < 128
def RO (M : MM) : Prop := ∀ r, r < M 31 5 → M 38 r < M 31 10
def WF (M : MM) : Prop := WF0 M ∧ RO M
theorem WF0.cong {M M' : MM} (h : WF0 M) (hB : MBd M') (e0 : M' 31 0 = M 31 0) (e5 : M' 31 5 = M 31 5) (e10 : M' 31 10 = M 31 10) (e18 : M' 31 18 = M 31 18) (e : ∀ t, t = 33 ∨ t = 34 ∨ t = 35 ∨ t = 39 → M' t = M t) (e7 : ∀ r, M 31 5 ≤ r → r < 40 → M' 37 r = M 37 r ∧ M' 38 r = M 38 r) (e43 : ∀ k, k < M 31 18 → M' 43 k = M 43 k) : WF0 M' := by
  obtain ⟨_, h0, h10, hT, hm, hZ, hP, h4, h3⟩ := h
  have a33 := e 33 (by decide); have a34 := e 34 (by decide); have a35 := e 35 (by decide); have a39 := e 39 (by decide)
  refine ⟨hB, by rw [e0]; exact h0, by rw [e10]; exact h10, ?_, ?_, fun r hr h40 => ?_, ⟨by rw [e18]; exact hP.1, fun k hk => ?_⟩, fun x hx => by rw [a34]; exact h4 x hx, fun x hx => by rw [a33]; exact h3 x hx⟩
  · unfold WT; rw [a35, e5]; exact hT
  · unfold WMu; rw [a39]; exact hm
  · rw [e5] at hr
    rw [(e7 r hr h40).1, (e7 r hr h40).2, a39]; exact hZ r hr h40
  · rw [e18] at hk
    rw [e43 k hk]; exact hP.2 k hk
theorem WF.cong {M M' : MM} (h : WF M) (hB : MBd M') (e0 : M' 31 0 = M 31 0) (e5 : M' 31 5 = M 31 5) (e10 : M' 31 10 = M 31 10) (e18 : M' 31 18 = M 31 18) (e : ∀ t, t = 33 ∨ t = 34 ∨ t = 35 ∨ t = 39 ∨ t = 37 ∨ t = 38 → M' t = M t) (e43 : ∀ k, k < M 31 18 → M' 43 k = M 43 k) : WF M' :=
  ⟨h.1.cong hB e0 e5 e10 e18 (fun t ht => e t (by omega)) (fun r _ _ => ⟨by rw [e 37 (by decide)], by rw [e 38 (by decide)]⟩) e43, fun r hr => by rw [e5] at hr; rw [e 38 (by decide), e10]; exact h.2 r hr⟩
theorem settle_nk {M : MM} {t : Nat} (h1 : t ≠ 37) (h2 : t ≠ 38) : settle M t = M t := settleTo_nk h1 h2
theorem WF0.stl {M : MM} (h : WF0 M) : WF (settle M) := by
  have e : ∀ t, t ≠ 37 → t ≠ 38 → settle M t = M t := fun t a b => settleTo_nk a b
  refine ⟨h.cong (settleTo_B h.1 _) (by rw [e 31 (by decide) (by decide)]) (by rw [e 31 (by decide) (by decide)]) (by rw [e 31 (by decide) (by decide)]) (by rw [e 31 (by decide) (by decide)]) (fun t ht => e t (by omega) (by omega)) (fun r hr _ => ⟨settleTo_37 hr, settleTo_38 hr⟩) (fun k _ => by rw [e 43 (by decide) (by decide)]), fun r hr => ?_⟩
  rw [e 31 (by decide) (by decide)] at hr ⊢
  have h10 := h.2.2.1
  show (if 38 = 37 ∧ r < M 31 5 then hubN M r else if 38 = 38 ∧ r < M 31 5 then stR M r else M 38 r) < _
  rw [if_neg (fun z => absurd z.1 (by decide)), if_pos ⟨rfl, hr⟩]
  unfold stR
  split
  · omega
  · omega
theorem tieM_nk {M : MM} {i j k n t : Nat} (h : t ≠ 35) : tieM M i j k n t = M t := by
  unfold tieM
  split
  · exact mS_nk h
  · rw [mS_nk h, mS_nk h]
theorem WF.tie {M : MM} {i j k n : Nat} (h : WF M) (hi : i < M 31 5) (hj : j < M 31 5) (hij : i ≠ j) (hk : k < 3) : WF (settle (tieM M i j k n)) := by
  refine WF0.stl ?_
  obtain ⟨⟨hB, h0, h10, hT, hm, hZ, hP, h4, h3⟩, _⟩ := h
  have hn : M 31 5 ≤ 40 := hB 31 5 rfl
  have e : ∀ t, t ≠ 35 → tieM M i j k n t = M t := fun t a => tieM_nk a
  refine ⟨tieM_B hB, by rw [e 31 (by decide)]; exact h0, by rw [e 31 (by decide)]; exact h10, WT.tie hn hi hj hij hk hT, by unfold WMu; rw [e 39 (by decide)]; exact hm, by unfold WZ; rw [e 31 (by decide), e 37 (by decide), e 38 (by decide), e 39 (by decide)]; exact hZ, by rw [e 31 (by decide), e 43 (by decide)]; exact hP, by rw [e 34 (by decide)]; exact h4, by rw [e 33 (by decide)]; exact h3⟩
theorem WF.setw {M : MM} {w x : Nat} (h : WF M) (hx : x ≤ 9) : WF (settle (mS M 36 w x)) :=
  WF0.stl (h.1.cong (h.1.1.set hx) rfl rfl rfl rfl (fun t ht => mS_nk (by omega)) (fun _ _ _ => ⟨rfl, rfl⟩) (fun _ _ => rfl))
theorem WF.set3 {M : MM} {x : Nat} (h : WF M) (hx : x ≤ 100) : WF (settle (mS M 31 8 x)) :=
  WF0.stl (h.1.cong (h.1.1.set hx) rfl rfl rfl rfl (fun t ht => mS_nk (by omega)) (fun _ _ _ => ⟨rfl, rfl⟩) (fun _ _ => rfl))
theorem WF.set4 {M : MM} {x : Nat} (h : WF M) (hx : x ≤ 40) : WF (settle (mS M 31 9 x)) :=
  WF0.stl (h.1.cong (h.1.1.set hx) rfl rfl rfl rfl (fun t ht => mS_nk (by omega)) (fun _ _ _ => ⟨rfl, rfl⟩) (fun _ _ => rfl))
theorem WF.set5 {M : MM} {x : Nat} (h : WF M) (hx1 : 1 ≤ x) (hx : x ≤ 6) : WF (settle (mS M 31 10 x)) := by
  refine WF0.stl ?_
  obtain ⟨⟨hB, h0, h10, hT, hm, hZ, hP, h4, h3⟩, _⟩ := h
  exact ⟨hB.set (show x ≤ 40 by omega), h0, ⟨hx1, hx⟩, hT, hm, hZ, hP, h4, h3⟩
theorem WF.must {M : MM} {i j k : Nat} (h : WF M) (hi : i < M 31 5) (hj : j < M 31 5) (hk : k ≤ 2) : WF (mS (mS M 39 (40 * i + j) k) 39 (40 * j + i) k) := by
  obtain ⟨⟨hB, h0, h10, hT, hm, hZ, hP, h4, h3⟩, hr⟩ := h
  have hn : M 31 5 ≤ 40 := hB 31 5 rfl
  refine ⟨⟨MBd.set (hB.set hk) hk, h0, h10, hT, fun a b ha hb => ?_, fun r hr h40 => ⟨(hZ r hr h40).1, (hZ r hr h40).2.1, fun q hq => ?_⟩, hP, h4, h3⟩, hr⟩
  · by_cases e1 : a = i ∧ b = j
    · obtain ⟨rfl, rfl⟩ := e1
      rw [mS_same]
      by_cases e2 : a = b
      · rw [e2, mS_same]
      · rw [mS_ne (Or.inr (by omega)), mS_same]
    · by_cases e2 : a = j ∧ b = i
      · obtain ⟨rfl, rfl⟩ := e2
        rw [mS_same]
        rw [mS_ne (Or.inr (by omega)), mS_same]
      · rw [mS_ne (Or.inr (by omega)), mS_ne (Or.inr (by omega)), mS_ne (Or.inr (by omega)), mS_ne (Or.inr (by omega))]
        exact hm a b ha hb
  · have hr2 : M 31 5 ≤ r := hr
    rw [mS_ne (Or.inr (by omega)), mS_ne (Or.inr (by omega))]
    exact (hZ r hr h40).2.2 q hq
theorem WF.fix {M : MM} {j x : Nat} (h : WF M) (hx : x ≤ 6) : WF (mS M 40 j x) :=
  h.cong (h.1.1.set hx) rfl rfl rfl rfl (fun t ht => mS_nk (by omega)) (fun _ _ => rfl)
theorem WF.rooms {M M' : MM} (h : WF M) (hB : MBd M') (e : ∀ t, t ≠ 38 → t ≠ 41 → t ≠ 42 → M' t = M t) (e8 : ∀ r, M 31 5 ≤ r → M' 38 r = M 38 r) (hr : ∀ r, r < M 31 5 → M' 38 r < M 31 10) : WF M' := by
  have e31 := e 31 (by decide) (by decide) (by decide)
  refine ⟨h.1.cong hB (by rw [e31]) (by rw [e31]) (by rw [e31]) (by rw [e31]) (fun t ht => e t (by omega) (by omega) (by omega)) (fun r hr _ => ⟨by rw [e 37 (by decide) (by decide) (by decide)], e8 r hr⟩) (fun k _ => by rw [e 43 (by decide) (by decide) (by decide)]), fun r hr2 => ?_⟩
  rw [e31] at hr2 ⊢
  exact hr r hr2
theorem WF.put {M : MM} {j x : Nat} (h : WF M) (hj : j < M 31 5) (hx : x < M 31 10) : WF (mS M 38 j x) := by
  have h10 := h.1.2.2.1
  refine h.rooms (h.1.1.set (show x ≤ 5 by omega)) (fun t ht _ _ => mS_nk ht) (fun r hr => mS_ne (Or.inr (by omega))) (fun r hr => ?_)
  by_cases e : r = j
  · rw [e, mS_same]; exact hx
  · rw [mS_ne (Or.inr e)]; exact h.2 r hr
theorem WF.bet {M : MM} (h : WF M) : WF (betM M) := by
  have hB := h.1.1
  have hn : M 31 5 ≤ 40 := hB 31 5 rfl
  have hok : bsOk (M 31 5) (M 31 10) (bstS M) := swAll_ok hB hn _ (Nat.le_refl _)
  obtain ⟨h1, h2, h3, h4, h5, h6, h7⟩ := hok
  unfold betM
  split
  · exact h
  · rename_i q1
    split
    · rename_i q2
      have := h6 q1 q2
      exact h.put (by omega) (by omega)
    · rename_i q2
      exact WF.put (M := mS M 38 _ _) (h.put (by omega) (h.2 _ (by omega))) (show _ < M 31 5 by omega) (show _ < M 31 10 from h.2 _ (by omega))
theorem WF.btrF : ∀ (f : Nat) {M : MM}, WF M → WF (btr f M).2
  | 0, _, h => h
  | f + 1, M, h => by
    unfold btr
    split
    · exact WF.btrF f (WF.bet h)
    · exact h
