/-! ===== the calls with wrappers ===== -/
theorem k_tie (l : Launch) (hlt : l.stackTraces = false) (D : va_G) (cy : Nat → ClassId) (base : Nat) (Λ : LY) (σ : HS) (M : MM) (h : LI Λ σ M) (a b k n : Int32) : KC l D cy base Λ σ M yL_tie wsL_tie yX11_tie wsX11_tie [.int a, .int b, .int k, .int n] := by
  have hC := h.1.1
  have hB : MBd M := h.2.2.1.1.1
  have h00 : M 31 0 = 0 := h.2.2.1.1.2.1
  have hR6 : M 31 10 ≤ 6 := h.2.2.1.1.2.2.1.2
  have hWT : WT M := h.2.2.1.1.2.2.2.1
  have hWF := h.2.2.1
  have h40 : M 31 5 ≤ 40 := hB 31 5 rfl
  have h0 : 0 < gC Λ 0 := hC.n1 (by decide)
  have h49 : 0 < gC Λ 49 := by rw [h.2.2.2.1]; decide
  have hl49 : gN Λ 49 0 = 1 := h.2.2.2.2
  by_cases ha : inR M a = true
  · obtain ⟨i, hi, rfl⟩ := inR_of hB ha
    by_cases hb : inR M b = true
    · obtain ⟨j, hj, rfl⟩ := inR_of hB hb
      by_cases hA : i = j ∨ k.toInt < 0 ∨ 3 ≤ k.toInt ∨ n.toInt < 1 ∨ 1000 < n.toInt
      ·
        exact KC.err (kc := 2) h (by decide) (by decide) ⟨by decide, by decide, rfl, rfl⟩ (w_tie_x2 l D cy base Λ σ _ _ _ _ h0 _ (by decide) (by decide) rfl rfl (c_tie_e2 l hlt D cy base Λ σ M hC hB i j hi hj k n hA)) (c_mtie_e2 l D cy base Λ σ M h.2.1 h00 hB i j hi hj k n hA)
      · obtain ⟨k2, _, rfl, ek⟩ := i32_of (x := k) (by omega)
        obtain ⟨n2, _, rfl, en⟩ := i32_of (x := n) (by omega)
        have hij : i ≠ j := by omega
        rcases (show k2 = 0 ∨ (k2 = 1 ∨ k2 = 2) by omega) with rfl | hk
        ·
          refine KC.ok h ⟨by decide, by decide, rfl, rfl⟩ (w_tie_n l D cy base Λ σ _ _ _ _ _ h0 h49 hl49 _ (by decide) (by decide) rfl rfl (c_tie_0 l D cy base Λ σ M hC hB i j hi hj hij n2 (by omega) (by omega) hWT)) (fun rv u hp => Same.mono hp.2.2 s31_Te) (fun rv u hp u1 g0 => (c_mtie_ok l D cy base Λ u1 M g0 h00 hB i j hi hj 0 n2 hij (by decide) (by omega) (by omega)).mi (fun v w q => ⟨_, q.1, q.2.1, h.1.stl hp.2.1 hp.2.2 (congrFun (tieM_nk (by decide)) 5) (tieM_nk (by decide)) (tieM_nk (by decide)) (tieM_nk (by decide)), hWF.tie hi hj hij (by decide), (congrFun (settle_nk (by decide) (by decide)) 5).trans (congrFun (tieM_nk (by decide)) 5), q.2.2.trans hp.1.symm⟩))
        ·
          refine KC.ok h ⟨by decide, by decide, rfl, rfl⟩ (w_tie_n l D cy base Λ σ _ _ _ _ _ h0 h49 hl49 _ (by decide) (by decide) rfl rfl (c_tie_12 l D cy base Λ σ M hC hB i j hi hj hij k2 hk n2 (by omega) (by omega) hWT)) (fun rv u hp => Same.mono hp.2.2 s31_Te) (fun rv u hp u1 g0 => (c_mtie_ok l D cy base Λ u1 M g0 h00 hB i j hi hj k2 n2 hij (by omega) (by omega) (by omega)).mi (fun v w q => ⟨_, q.1, q.2.1, h.1.stl hp.2.1 hp.2.2 (congrFun (tieM_nk (by decide)) 5) (tieM_nk (by decide)) (tieM_nk (by decide)) (tieM_nk (by decide)), hWF.tie hi hj hij (by omega), (congrFun (settle_nk (by decide) (by decide)) 5).trans (congrFun (tieM_nk (by decide)) 5), q.2.2.trans hp.1.symm⟩))
    ·
      exact KC.err (kc := 1) h (by decide) (by decide) ⟨by decide, by decide, rfl, rfl⟩ (w_tie_x1 l D cy base Λ σ _ _ _ _ h0 _ (by decide) (by decide) rfl rfl (c_tie_e1b l hlt D cy base Λ σ M hC hB i hi b (Bool.eq_false_iff.mpr hb) k n)) (c_mtie_e1 l D cy base Λ σ M h.2.1 h00 hB (nI i) b (Or.inr (Bool.eq_false_iff.mpr hb)) k n)
  ·
    exact KC.err (kc := 1) h (by decide) (by decide) ⟨by decide, by decide, rfl, rfl⟩ (w_tie_x1 l D cy base Λ σ _ _ _ _ h0 _ (by decide) (by decide) rfl rfl (c_tie_e1a l hlt D cy base Λ σ M hC hB a b (Bool.eq_false_iff.mpr ha) k n)) (c_mtie_e1 l D cy base Λ σ M h.2.1 h00 hB a b (Or.inl (Bool.eq_false_iff.mpr ha)) k n)
theorem k_ties (l : Launch) (hlt : l.stackTraces = false) (D : va_G) (cy : Nat → ClassId) (base : Nat) (Λ : LY) (σ : HS) (M : MM) (h : LI Λ σ M) (a b : Int32) : KC l D cy base Λ σ M yL_ties wsL_ties yX11_ties wsX11_ties [.int a, .int b] := by
  have hC := h.1.1
  have hB : MBd M := h.2.2.1.1.1
  have h00 : M 31 0 = 0 := h.2.2.1.1.2.1
  have hR6 : M 31 10 ≤ 6 := h.2.2.1.1.2.2.1.2
  have hWT : WT M := h.2.2.1.1.2.2.2.1
  have hWF := h.2.2.1
  have h40 : M 31 5 ≤ 40 := hB 31 5 rfl
  have h0 : 0 < gC Λ 0 := hC.n1 (by decide)
  have h49 : 0 < gC Λ 49 := by rw [h.2.2.2.1]; decide
  have hl49 : gN Λ 49 0 = 1 := h.2.2.2.2
  by_cases ha : inR M a = true
  · obtain ⟨i, hi, rfl⟩ := inR_of hB ha
    by_cases hb : inR M b = true
    · obtain ⟨j, hj, rfl⟩ := inR_of hB hb
      by_cases hij : i = j
      · subst hij
        exact KC.err (kc := 2) h (by decide) (by decide) ⟨by decide, by decide, rfl, rfl⟩ (w_ties_x2 l D cy base Λ σ _ _ h0 _ (by decide) (by decide) rfl rfl (c_ties_e2 l hlt D cy base Λ σ M hC hB i hi)) (c_mties_e2 l D cy base Λ σ M h.2.1 h00 hB i hi)
      ·
        refine KC.ok h ⟨by decide, by decide, rfl, rfl⟩ (w_ties_n l D cy base Λ σ _ _ _ h0 h49 hl49 _ (by decide) (by decide) rfl rfl (c_ties_ok l D cy base Λ σ M hC hB i j hi hj hij)) (fun rv u hp => (by rw [hp.2]; exact Same.rf)) (fun rv u hp u1 g0 => (c_mties_ok l D cy base Λ u1 M g0 h00 hB i j hi hj hij).mi (fun v w q => ⟨_, q.1, q.2.1, by rw [hp.2]; exact h.1, hWF, rfl, q.2.2.trans hp.1.symm⟩))
    ·
      exact KC.err (kc := 1) h (by decide) (by decide) ⟨by decide, by decide, rfl, rfl⟩ (w_ties_x1 l D cy base Λ σ _ _ h0 _ (by decide) (by decide) rfl rfl (c_ties_e1b l hlt D cy base Λ σ M hC hB i hi b (Bool.eq_false_iff.mpr hb))) (c_mties_e1 l D cy base Λ σ M h.2.1 h00 hB (nI i) b (Or.inr (Bool.eq_false_iff.mpr hb)))
  ·
    exact KC.err (kc := 1) h (by decide) (by decide) ⟨by decide, by decide, rfl, rfl⟩ (w_ties_x1 l D cy base Λ σ _ _ h0 _ (by decide) (by decide) rfl rfl (c_ties_e1a l hlt D cy base Λ σ M hC hB a b (Bool.eq_false_iff.mpr ha))) (c_mties_e1 l D cy base Λ σ M h.2.1 h00 hB a b (Or.inl (Bool.eq_false_iff.mpr ha)))
theorem k_must (l : Launch) (hlt : l.stackTraces = false) (D : va_G) (cy : Nat → ClassId) (base : Nat) (Λ : LY) (σ : HS) (M : MM) (h : LI Λ σ M) (a b k : Int32) : KC l D cy base Λ σ M yL_must wsL_must yX11_must wsX11_must [.int a, .int b, .int k] := by
  have hC := h.1.1
  have hB : MBd M := h.2.2.1.1.1
  have h00 : M 31 0 = 0 := h.2.2.1.1.2.1
  have hR6 : M 31 10 ≤ 6 := h.2.2.1.1.2.2.1.2
  have hWT : WT M := h.2.2.1.1.2.2.2.1
  have hWF := h.2.2.1
  have h40 : M 31 5 ≤ 40 := hB 31 5 rfl
  have h0 : 0 < gC Λ 0 := hC.n1 (by decide)
  have h49 : 0 < gC Λ 49 := by rw [h.2.2.2.1]; decide
  have hl49 : gN Λ 49 0 = 1 := h.2.2.2.2
  by_cases ha : inR M a = true
  · obtain ⟨i, hi, rfl⟩ := inR_of hB ha
    by_cases hb : inR M b = true
    · obtain ⟨j, hj, rfl⟩ := inR_of hB hb
      by_cases hA : i = j ∨ k.toInt < 0 ∨ 2 < k.toInt
      ·
        exact KC.err (kc := 2) h (by decide) (by decide) ⟨by decide, by decide, rfl, rfl⟩ (w_must_x2 l D cy base Λ σ _ _ _ h0 _ (by decide) (by decide) rfl rfl (c_must_e2 l hlt D cy base Λ σ M hC hB i j hi hj k hA)) (c_mmust_e2 l D cy base Λ σ M h.2.1 h00 hB i j hi hj k hA)
      · obtain ⟨k2, _, rfl, ek⟩ := i32_of (x := k) (by omega)
        have hij : i ≠ j := by omega
        refine KC.ok h ⟨by decide, by decide, rfl, rfl⟩ (w_must_n l D cy base Λ σ _ _ _ _ h0 h49 hl49 _ (by decide) (by decide) rfl rfl (c_must_ok l D cy base Λ σ M hC hB i j hi hj k2 hij (by omega))) (fun rv u hp => (by rw [hp.2.2]; exact (Same.rf.sI (by decide)).sI (by decide))) (fun rv u hp u1 g0 => (c_mmust_ok l D cy base Λ u1 M g0 h00 hB i j hi hj k2 hij (by omega)).mi (fun v w q => ⟨_, q.1, q.2.1, h.1.same hp.2.1 (by rw [hp.2.2]; exact (Same.rf.sI (by decide)).sI (by decide)) rfl rfl rfl rfl, hWF.must hi hj (by omega), rfl, q.2.2.trans hp.1.symm⟩))
    ·
      exact KC.err (kc := 1) h (by decide) (by decide) ⟨by decide, by decide, rfl, rfl⟩ (w_must_x1 l D cy base Λ σ _ _ _ h0 _ (by decide) (by decide) rfl rfl (c_must_e1b l hlt D cy base Λ σ M hC hB i hi b (Bool.eq_false_iff.mpr hb) k)) (c_mmust_e1 l D cy base Λ σ M h.2.1 h00 hB (nI i) b (Or.inr (Bool.eq_false_iff.mpr hb)) k)
  ·
    exact KC.err (kc := 1) h (by decide) (by decide) ⟨by decide, by decide, rfl, rfl⟩ (w_must_x1 l D cy base Λ σ _ _ _ h0 _ (by decide) (by decide) rfl rfl (c_must_e1a l hlt D cy base Λ σ M hC hB a b (Bool.eq_false_iff.mpr ha) k)) (c_mmust_e1 l D cy base Λ σ M h.2.1 h00 hB a b (Or.inl (Bool.eq_false_iff.mpr ha)) k)
theorem k_set (l : Launch) (hlt : l.stackTraces = false) (D : va_G) (cy : Nat → ClassId) (base : Nat) (Λ : LY) (σ : HS) (M : MM) (h : LI Λ σ M) (w v : Int32) : KC l D cy base Λ σ M yL_set wsL_set yX11_set wsX11_set [.int w, .int v] := by
  have hC := h.1.1
  have hB : MBd M := h.2.2.1.1.1
  have h00 : M 31 0 = 0 := h.2.2.1.1.2.1
  have hR6 : M 31 10 ≤ 6 := h.2.2.1.1.2.2.1.2
  have hWT : WT M := h.2.2.1.1.2.2.2.1
  have hWF := h.2.2.1
  have h40 : M 31 5 ≤ 40 := hB 31 5 rfl
  have h0 : 0 < gC Λ 0 := hC.n1 (by decide)
  have h49 : 0 < gC Λ 49 := by rw [h.2.2.2.1]; decide
  have hl49 : gN Λ 49 0 = 1 := h.2.2.2.2
  by_cases hA : sOk w v
  · obtain ⟨w1, w2, w3, w4, w5, w6, w7, w8⟩ := hA
    obtain ⟨w', _, rfl, ew⟩ := i32_of (x := w) w1
    obtain ⟨v', _, rfl, ev⟩ := i32_of (x := v) w4
    rw [ew] at w2 w3 w5 w6 w7 w8
    rw [ev] at w3 w5 w6 w7 w8
    rcases (show w' < 3 ∨ w' = 3 ∨ w' = 4 ∨ w' = 5 by omega) with hw | rfl | rfl | rfl
    ·
      refine KC.ok h ⟨by decide, by decide, rfl, rfl⟩ (w_set_n l D cy base Λ σ _ _ _ h0 h49 hl49 _ (by decide) (by decide) rfl rfl (c_set_w l D cy base Λ σ M hC hB hWT w' v' hw (by omega))) (fun rv u hp => Same.mono hp.2.2 s31_Te) (fun rv u hp u1 g0 => (c_mset_w l D cy base Λ u1 M g0 h00 hB w' hw v' (by omega)).mi (fun v w q => ⟨_, q.1, q.2.1, h.1.stl hp.2.1 hp.2.2 rfl rfl rfl rfl, hWF.setw (by omega), (congrFun (settle_nk (by decide) (by decide)) 5), q.2.2.trans hp.1.symm⟩))
    ·
      refine KC.ok h ⟨by decide, by decide, rfl, rfl⟩ (w_set_n l D cy base Λ σ _ _ _ h0 h49 hl49 _ (by decide) (by decide) rfl rfl (c_set_3 l D cy base Λ σ M hC hB v' (by omega))) (fun rv u hp => Same.mono hp.2.2 s31_Te) (fun rv u hp u1 g0 => (c_mset_3 l D cy base Λ u1 M g0 h00 hB v' (by omega)).mi (fun v w q => ⟨_, q.1, q.2.1, h.1.stl hp.2.1 hp.2.2 rfl rfl rfl rfl, hWF.set3 (by omega), (congrFun (settle_nk (by decide) (by decide)) 5), q.2.2.trans hp.1.symm⟩))
    ·
      refine KC.ok h ⟨by decide, by decide, rfl, rfl⟩ (w_set_n l D cy base Λ σ _ _ _ h0 h49 hl49 _ (by decide) (by decide) rfl rfl (c_set_4 l D cy base Λ σ M hC hB v' (by omega))) (fun rv u hp => Same.mono hp.2.2 s31_Te) (fun rv u hp u1 g0 => (c_mset_4 l D cy base Λ u1 M g0 h00 hB v' (by omega)).mi (fun v w q => ⟨_, q.1, q.2.1, h.1.stl hp.2.1 hp.2.2 rfl rfl rfl rfl, hWF.set4 (by omega), (congrFun (settle_nk (by decide) (by decide)) 5), q.2.2.trans hp.1.symm⟩))
    ·
      refine KC.ok h ⟨by decide, by decide, rfl, rfl⟩ (w_set_n l D cy base Λ σ _ _ _ h0 h49 hl49 _ (by decide) (by decide) rfl rfl (c_set_5 l D cy base Λ σ M hC hB v' (by omega) (by omega))) (fun rv u hp => Same.mono hp.2.2 s31_Te) (fun rv u hp u1 g0 => (c_mset_5 l D cy base Λ u1 M g0 h00 hB v' (by omega) (by omega)).mi (fun v w q => ⟨_, q.1, q.2.1, h.1.stl hp.2.1 hp.2.2 rfl rfl rfl rfl, hWF.set5 (by omega) (by omega), (congrFun (settle_nk (by decide) (by decide)) 5), q.2.2.trans hp.1.symm⟩))
  ·
    exact KC.err (kc := 1) h (by decide) (by decide) ⟨by decide, by decide, rfl, rfl⟩ (w_set_x1 l D cy base Λ σ _ _ h0 _ (by decide) (by decide) rfl rfl (c_set_e l hlt D cy base Λ σ M hC hB w v hA)) (c_mset_e l D cy base Λ σ M h.2.1 h00 hB w v hA)
theorem k_fix (l : Launch) (hlt : l.stackTraces = false) (D : va_G) (cy : Nat → ClassId) (base : Nat) (Λ : LY) (σ : HS) (M : MM) (h : LI Λ σ M) (a r : Int32) : KC l D cy base Λ σ M yL_fix wsL_fix yX11_fix wsX11_fix [.int a, .int r] := by
  have hC := h.1.1
  have hB : MBd M := h.2.2.1.1.1
  have h00 : M 31 0 = 0 := h.2.2.1.1.2.1
  have hR6 : M 31 10 ≤ 6 := h.2.2.1.1.2.2.1.2
  have hWT : WT M := h.2.2.1.1.2.2.2.1
  have hWF := h.2.2.1
  have h40 : M 31 5 ≤ 40 := hB 31 5 rfl
  have h0 : 0 < gC Λ 0 := hC.n1 (by decide)
  have h49 : 0 < gC Λ 49 := by rw [h.2.2.2.1]; decide
  have hl49 : gN Λ 49 0 = 1 := h.2.2.2.2
  by_cases ha : inR M a = true
  · obtain ⟨i, hi, rfl⟩ := inR_of hB ha
    by_cases hA : r < -1 ∨ nI 6 ≤ r
    ·
      exact KC.err (kc := 2) h (by decide) (by decide) ⟨by decide, by decide, rfl, rfl⟩ (w_fix_x2 l D cy base Λ σ _ _ h0 _ (by decide) (by decide) rfl rfl (c_fix_e2 l hlt D cy base Λ σ M hC hB i hi r hA)) (c_mfix_e2 l D cy base Λ σ M h.2.1 h00 hB i hi r hA)
    · obtain ⟨x, hx, rfl⟩ := fix_of hA
      refine KC.ok h ⟨by decide, by decide, rfl, rfl⟩ (w_fix_n l D cy base Λ σ _ _ _ h0 h49 hl49 _ (by decide) (by decide) rfl rfl (c_fix_ok l D cy base Λ σ M hC hB i x hi hx)) (fun rv u hp => (by rw [hp.2.2]; exact Same.rf.sI (by decide))) (fun rv u hp u1 g0 => (c_mfix_ok l D cy base Λ u1 M g0 h00 hB i x hi hx).mi (fun v w q => ⟨_, q.1, q.2.1, h.1.same hp.2.1 (by rw [hp.2.2]; exact Same.rf.sI (by decide)) rfl rfl rfl rfl, hWF.fix hx, rfl, q.2.2.trans hp.1.symm⟩))
  ·
    exact KC.err (kc := 1) h (by decide) (by decide) ⟨by decide, by decide, rfl, rfl⟩ (w_fix_x1 l D cy base Λ σ _ _ h0 _ (by decide) (by decide) rfl rfl (c_fix_e1 l hlt D cy base Λ σ M hC hB a (Bool.eq_false_iff.mpr ha) r)) (c_mfix_e1 l D cy base Λ σ M h.2.1 h00 hB a (Bool.eq_false_iff.mpr ha) r)
theorem k_room (l : Launch) (hlt : l.stackTraces = false) (D : va_G) (cy : Nat → ClassId) (base : Nat) (Λ : LY) (σ : HS) (M : MM) (h : LI Λ σ M) (a : Int32) : KC l D cy base Λ σ M yL_room wsL_room yX11_room wsX11_room [.int a] := by
  have hC := h.1.1
  have hB : MBd M := h.2.2.1.1.1
  have h00 : M 31 0 = 0 := h.2.2.1.1.2.1
  have hR6 : M 31 10 ≤ 6 := h.2.2.1.1.2.2.1.2
  have hWT : WT M := h.2.2.1.1.2.2.2.1
  have hWF := h.2.2.1
  have h40 : M 31 5 ≤ 40 := hB 31 5 rfl
  have h0 : 0 < gC Λ 0 := hC.n1 (by decide)
  have h49 : 0 < gC Λ 49 := by rw [h.2.2.2.1]; decide
  have hl49 : gN Λ 49 0 = 1 := h.2.2.2.2
  by_cases ha : inR M a = true
  · obtain ⟨i, hi, rfl⟩ := inR_of hB ha
    refine KC.ok h ⟨by decide, by decide, rfl, rfl⟩ (w_room_n l D cy base Λ σ _ _ h0 h49 hl49 _ (by decide) (by decide) rfl rfl (c_room_ok l D cy base Λ σ M hC hB i hi)) (fun rv u hp => (by rw [hp.2]; exact Same.rf)) (fun rv u hp u1 g0 => (c_mroom_ok l D cy base Λ u1 M g0 h00 hB i hi).mi (fun v w q => ⟨_, q.1, q.2.1, by rw [hp.2]; exact h.1, hWF, rfl, q.2.2.trans hp.1.symm⟩))
  ·
    exact KC.err (kc := 1) h (by decide) (by decide) ⟨by decide, by decide, rfl, rfl⟩ (w_room_x1 l D cy base Λ σ _ h0 _ (by decide) (by decide) rfl rfl (c_room_e1 l hlt D cy base Λ σ M hC hB a (Bool.eq_false_iff.mpr ha))) (c_mroom_e1 l D cy base Λ σ M h.2.1 h00 hB a (Bool.eq_false_iff.mpr ha))
theorem k_put (l : Launch) (hlt : l.stackTraces = false) (D : va_G) (cy : Nat → ClassId) (base : Nat) (Λ : LY) (σ : HS) (M : MM) (h : LI Λ σ M) (a r : Int32) : KC l D cy base Λ σ M yL_put wsL_put yX11_put wsX11_put [.int a, .int r] := by
  have hC := h.1.1
  have hB : MBd M := h.2.2.1.1.1
  have h00 : M 31 0 = 0 := h.2.2.1.1.2.1
  have hR6 : M 31 10 ≤ 6 := h.2.2.1.1.2.2.1.2
  have hWT : WT M := h.2.2.1.1.2.2.2.1
  have hWF := h.2.2.1
  have h40 : M 31 5 ≤ 40 := hB 31 5 rfl
  have h0 : 0 < gC Λ 0 := hC.n1 (by decide)
  have h49 : 0 < gC Λ 49 := by rw [h.2.2.2.1]; decide
  have hl49 : gN Λ 49 0 = 1 := h.2.2.2.2
  by_cases ha : inR M a = true
  · obtain ⟨i, hi, rfl⟩ := inR_of hB ha
    by_cases hb : inRm M r = true
    · obtain ⟨x, hx, rfl⟩ := inRm_of hB hb
      by_cases hh : M 37 i = 0
      ·
        refine KC.ok h ⟨by decide, by decide, rfl, rfl⟩ (w_put_n l D cy base Λ σ _ _ _ h0 h49 hl49 _ (by decide) (by decide) rfl rfl (c_put_ok l D cy base Λ σ M hC hB i x hi hx hh)) (fun rv u hp => (by rw [hp.2.2]; exact Same.rf.sI (by decide))) (fun rv u hp u1 g0 => (c_mput_ok l D cy base Λ u1 M g0 h00 hB i x hi hx).mi (fun v w q => ⟨_, q.1, q.2.1, by rw [if_pos hh]; exact h.1.same hp.2.1 (by rw [hp.2.2]; exact Same.rf.sI (by decide)) rfl rfl rfl rfl, by rw [if_pos hh]; exact hWF.put hi hx, by rw [if_pos hh]; rfl, by rw [q.2.2, if_pos hh]; exact hp.1.symm⟩))
      ·
        refine KC.ok h ⟨by decide, by decide, rfl, rfl⟩ (w_put_n l D cy base Λ σ _ _ _ h0 h49 hl49 _ (by decide) (by decide) rfl rfl (c_put_hub l D cy base Λ σ M hC hB i x hi hx hh)) (fun rv u hp => (by rw [hp.2]; exact Same.rf)) (fun rv u hp u1 g0 => (c_mput_ok l D cy base Λ u1 M g0 h00 hB i x hi hx).mi (fun v w q => ⟨_, q.1, q.2.1, by rw [if_neg hh, hp.2]; exact h.1, by rw [if_neg hh]; exact hWF, by rw [if_neg hh], by rw [q.2.2, if_neg hh]; exact hp.1.symm⟩))
    ·
      exact KC.err (kc := 2) h (by decide) (by decide) ⟨by decide, by decide, rfl, rfl⟩ (w_put_x2 l D cy base Λ σ _ _ h0 _ (by decide) (by decide) rfl rfl (c_put_e2 l hlt D cy base Λ σ M hC hB i hi r (Bool.eq_false_iff.mpr hb))) (c_mput_e2 l D cy base Λ σ M h.2.1 h00 hB i hi r (Bool.eq_false_iff.mpr hb))
  ·
    exact KC.err (kc := 1) h (by decide) (by decide) ⟨by decide, by decide, rfl, rfl⟩ (w_put_x1 l D cy base Λ σ _ _ h0 _ (by decide) (by decide) rfl rfl (c_put_e1 l hlt D cy base Λ σ M hC hB a (Bool.eq_false_iff.mpr ha) r)) (c_mput_e1 l D cy base Λ σ M h.2.1 h00 hB a (Bool.eq_false_iff.mpr ha) r)
theorem k_border (l : Launch) (hlt : l.stackTraces = false) (D : va_G) (cy : Nat → ClassId) (base : Nat) (Λ : LY) (σ : HS) (M : MM) (h : LI Λ σ M) (a : Int32) : KCl l D cy base Λ σ M yL_border wsL_border yX11_border wsX11_border [.int a] := by
  have hC := h.1.1
  have hB : MBd M := h.2.2.1.1.1
  have h00 : M 31 0 = 0 := h.2.2.1.1.2.1
  have hR6 : M 31 10 ≤ 6 := h.2.2.1.1.2.2.1.2
  have hWT : WT M := h.2.2.1.1.2.2.2.1
  have hWF := h.2.2.1
  have h40 : M 31 5 ≤ 40 := hB 31 5 rfl
  have h0 : 0 < gC Λ 0 := hC.n1 (by decide)
  have h49 : 0 < gC Λ 49 := by rw [h.2.2.2.1]; decide
  have hl49 : gN Λ 49 0 = 1 := h.2.2.2.2
  by_cases ha : inR M a = true
  · obtain ⟨i, hi, rfl⟩ := inR_of hB ha
    refine KCl.ok h ⟨by decide, by decide, rfl, rfl⟩ (w_border_n l D cy base Λ σ _ _ h0 h49 hl49 _ (by decide) (by decide) rfl rfl (c_border_ok l D cy base Λ σ M hC hB hR6 hWF.rm i hi)) (fun rv u hp => hp.2.sm (by decide) (by decide) (by decide)) (fun rv u hp u1 g0 => (c_mborder_ok l D cy base Λ u1 M g0 h00 hB i hi hR6).ml (fun v w q => ⟨_, q.1, q.2.1, h.1.same (hp.2.cr h.1.1) (hp.2.sm (by decide) (by decide) (by decide)) rfl rfl rfl rfl, hWF, rfl, q.2.2.trans hp.1.symm⟩))
  ·
    exact KCl.err (kc := 1) h (by decide) (by decide) ⟨by decide, by decide, rfl, rfl⟩ (w_border_x1 l D cy base Λ σ _ h0 _ (by decide) (by decide) rfl rfl (c_border_e1 l hlt D cy base Λ σ M hC hB a (Bool.eq_false_iff.mpr ha))) (c_mborder_e1 l D cy base Λ σ M h.2.1 h00 hB a (Bool.eq_false_iff.mpr ha))
theorem k_hub (l : Launch) (hlt : l.stackTraces = false) (D : va_G) (cy : Nat → ClassId) (base : Nat) (Λ : LY) (σ : HS) (M : MM) (h : LI Λ σ M) (a : Int32) : KCz l D cy base Λ σ M yL_hub wsL_hub yX11_hub wsX11_hub [.int a] := by
  have hC := h.1.1
  have hB : MBd M := h.2.2.1.1.1
  have h00 : M 31 0 = 0 := h.2.2.1.1.2.1
  have hR6 : M 31 10 ≤ 6 := h.2.2.1.1.2.2.1.2
  have hWT : WT M := h.2.2.1.1.2.2.2.1
  have hWF := h.2.2.1
  have h40 : M 31 5 ≤ 40 := hB 31 5 rfl
  have h0 : 0 < gC Λ 0 := hC.n1 (by decide)
  have h49 : 0 < gC Λ 49 := by rw [h.2.2.2.1]; decide
  have hl49 : gN Λ 49 0 = 1 := h.2.2.2.2
  by_cases ha : inR M a = true
  · obtain ⟨i, hi, rfl⟩ := inR_of hB ha
    have hv : M 37 i ≤ 1 := hB 37 i (decide_eq_true (show i < 40 by omega))
    refine ⟨0, fun u => u = sJ σ 49 0 0 (zL (M 37 i)), ({ frames := 16, cells := 0, slots := 0, locals := 240 } : Room), by decide, ⟨by decide, by decide, rfl, rfl⟩, w_hub_n l D cy base Λ σ (nI i) (fun _ => 0) h0 h49 hl49 (M 37 i) hv _ (by decide) (by decide) rfl rfl (c_hub_ok l D cy base Λ σ M hC hB i hi), fun u1 e => ?_⟩
    · subst e
      refine (c_mhub_ok l D cy base Λ _ M (h.2.1.same (out_s Same.rf (fun z => z.2 rfl))) h00 hB i hi).mi (fun v w q => ?_)
      have z := LT.fin (M := M) h.1 q.1 q.2.1 hWF h.2.2.2 rfl
      exact ⟨z.1, fun _ => ⟨M 37 i, hv, q.2.2, z.2⟩⟩
  ·
    exact KCz.err (kc := 1) h (by decide) (by decide) ⟨by decide, by decide, rfl, rfl⟩ (w_hub_x l D cy base Λ σ _ h0 _ (by decide) (by decide) rfl rfl (c_hub_e1 l hlt D cy base Λ σ M hC hB a (Bool.eq_false_iff.mpr ha))) (c_mhub_e1 l D cy base Λ σ M h.2.1 h00 hB a (Bool.eq_false_iff.mpr ha))
theorem k_change (l : Launch) (hlt : l.stackTraces = false) (D : va_G) (cy : Nat → ClassId) (base : Nat) (Λ : LY) (σ : HS) (M : MM) (h : LI Λ σ M) (a b : Int32) : KC l D cy base Λ σ M yL_change wsL_change yX11_change wsX11_change [.int a, .int b] := by
  have hC := h.1.1
  have hB : MBd M := h.2.2.1.1.1
  have h00 : M 31 0 = 0 := h.2.2.1.1.2.1
  have hR6 : M 31 10 ≤ 6 := h.2.2.1.1.2.2.1.2
  have hWT : WT M := h.2.2.1.1.2.2.2.1
  have hWF := h.2.2.1
  have h40 : M 31 5 ≤ 40 := hB 31 5 rfl
  have h0 : 0 < gC Λ 0 := hC.n1 (by decide)
  have h49 : 0 < gC Λ 49 := by rw [h.2.2.2.1]; decide
  have hl49 : gN Λ 49 0 = 1 := h.2.2.2.2
  by_cases hA : a.toInt < 0 ∨ b.toInt < 0 ∨ (p2 (lmN M) : Int) ≤ a.toInt ∨ (p2 (hmN M) : Int) ≤ b.toInt
  ·
    exact KC.err (kc := 1) h (by decide) (by decide) ⟨by decide, by decide, rfl, rfl⟩ (w_change_x1 l D cy base Λ σ _ _ h0 _ (by decide) (by decide) rfl rfl (c_change_e1 l hlt D cy base Λ σ M hC hB a b hA)) (c_mchange_e1 l D cy base Λ σ M h.2.1 h00 hB a b hA)
  · obtain ⟨x, _, rfl, ex⟩ := i32_of (x := a) (by omega)
    obtain ⟨y, _, rfl, ey⟩ := i32_of (x := b) (by omega)
    have hx : x < p2 (lmN M) := by omega
    have hy : y < p2 (hmN M) := by omega
    have h60 : M 31 22 ≤ 60 := hB 31 22 rfl
    by_cases hc : M 31 22 = 60
    ·
      refine KC.ok h ⟨by decide, by decide, rfl, rfl⟩ (w_change_n l D cy base Λ σ _ _ _ h0 h49 hl49 _ (by decide) (by decide) rfl rfl (c_change_full l D cy base Λ σ M hC hB x y hx hy hc)) (fun rv u hp => (by rw [hp.2]; exact Same.rf)) (fun rv u hp u1 g0 => (c_mchange_full l D cy base Λ u1 M g0 h00 hB x y hx hy hc).mi (fun v w q => ⟨_, q.1, q.2.1, by rw [hp.2]; exact h.1, hWF, rfl, q.2.2.trans hp.1.symm⟩))
    ·
      refine KC.ok h ⟨by decide, by decide, rfl, rfl⟩ (w_change_n l D cy base Λ σ _ _ _ h0 h49 hl49 _ (by decide) (by decide) rfl rfl (c_change_ok l D cy base Λ σ M hC hB x y hx hy (by omega))) (fun rv u hp => Same.mono hp.2.2 s31_Pa) (fun rv u hp u1 g0 => (c_mchange_ok l D cy base Λ u1 M g0 h00 hB x y hx hy (by omega)).mi (fun v w q => ⟨_, q.1, q.2.1, h.1.same hp.2.1 (Same.mono hp.2.2 kG_Pa) rfl rfl rfl rfl, hWF.chg hx hy (by omega), rfl, q.2.2.trans hp.1.symm⟩))
theorem k_ring (l : Launch) (hlt : l.stackTraces = false) (D : va_G) (cy : Nat → ClassId) (base : Nat) (Λ : LY) (σ : HS) (M : MM) (h : LI Λ σ M) (r : Int32) : KC l D cy base Λ σ M yL_ring wsL_ring yX11_ring wsX11_ring [.int r] := by
  have hC := h.1.1
  have hB : MBd M := h.2.2.1.1.1
  have h00 : M 31 0 = 0 := h.2.2.1.1.2.1
  have hR6 : M 31 10 ≤ 6 := h.2.2.1.1.2.2.1.2
  have hWT : WT M := h.2.2.1.1.2.2.2.1
  have hWF := h.2.2.1
  have h40 : M 31 5 ≤ 40 := hB 31 5 rfl
  have h0 : 0 < gC Λ 0 := hC.n1 (by decide)
  have h49 : 0 < gC Λ 49 := by rw [h.2.2.2.1]; decide
  have hl49 : gN Λ 49 0 = 1 := h.2.2.2.2
  by_cases hb : inRm M r = true
  · obtain ⟨x, hx, rfl⟩ := inRm_of hB hb
    refine KC.ok h ⟨by decide, by decide, rfl, rfl⟩ (w_ring_n l D cy base Λ σ _ _ h0 h49 hl49 _ (by decide) (by decide) rfl rfl (c_ring_ok l D cy base Λ σ M hC hB hR6 hWF.rm x hx)) (fun rv u hp => hp.2.sm (by decide) (by decide)) (fun rv u hp u1 g0 => (c_mring_ok l D cy base Λ u1 M g0 h00 hB x hx hR6).mi (fun v w q => ⟨_, q.1, q.2.1, (h.1.same (hp.2.cr h.1.1) (hp.2.sm (by decide) (by decide)) rfl rfl rfl rfl).to (fun t k _ _ t44 _ _ _ => congrFun (nextM_nk t44) k), hWF.nxt, congrFun (nextM_nk (by decide)) 5, by obtain ⟨X, e1, e2⟩ := q.2.2; obtain ⟨⟨Y, f1, f2⟩, _⟩ := hp; rw [e1, f1, rg_one e2 f2]⟩))
  ·
    exact KC.err (kc := 1) h (by decide) (by decide) ⟨by decide, by decide, rfl, rfl⟩ (w_ring_x1 l D cy base Λ σ _ h0 _ (by decide) (by decide) rfl rfl (c_ring_e1 l hlt D cy base Λ σ M hC hB r (Bool.eq_false_iff.mpr hb))) (c_mring_e1 l D cy base Λ σ M h.2.1 h00 hB r (Bool.eq_false_iff.mpr hb))
theorem k_face (l : Launch) (hlt : l.stackTraces = false) (D : va_G) (cy : Nat → ClassId) (base : Nat) (Λ : LY) (σ : HS) (M : MM) (h : LI Λ σ M) (r k : Int32) : KC l D cy base Λ σ M yL_face wsL_face yX11_face wsX11_face [.int r, .int k] := by
  have hC := h.1.1
  have hB : MBd M := h.2.2.1.1.1
  have h00 : M 31 0 = 0 := h.2.2.1.1.2.1
  have hR6 : M 31 10 ≤ 6 := h.2.2.1.1.2.2.1.2
  have hWT : WT M := h.2.2.1.1.2.2.2.1
  have hWF := h.2.2.1
  have h40 : M 31 5 ≤ 40 := hB 31 5 rfl
  have h0 : 0 < gC Λ 0 := hC.n1 (by decide)
  have h49 : 0 < gC Λ 49 := by rw [h.2.2.2.1]; decide
  have hl49 : gN Λ 49 0 = 1 := h.2.2.2.2
  by_cases hb : inRm M r = true
  · obtain ⟨x, hx, rfl⟩ := inRm_of hB hb
    by_cases hk : k.toInt < 0
    ·
      refine KC.ok h ⟨by decide, by decide, rfl, rfl⟩ (w_face_n l D cy base Λ σ _ _ _ h0 h49 hl49 _ (by decide) (by decide) rfl rfl (c_face_ok l D cy base Λ σ M hC hB x hx hR6 k)) (fun rv u hp => hp.2.sm (by decide)) (fun rv u hp u1 g0 => (c_mface_neg l D cy base Λ u1 M g0 h00 hB x k hx hk).mi (fun v w q => ⟨_, q.1, q.2.1, h.1.same (hp.2.cr h.1.1) (hp.2.sm (by decide)) rfl rfl rfl rfl, hWF, rfl, q.2.2.trans (fc_neg hk hp.1).symm⟩))
    · obtain ⟨k2, hk2, rfl, ek⟩ := i32_of (x := k) (by omega)
      refine KC.ok h ⟨by decide, by decide, rfl, rfl⟩ (w_face_n l D cy base Λ σ _ _ _ h0 h49 hl49 _ (by decide) (by decide) rfl rfl (c_face_ok l D cy base Λ σ M hC hB x hx hR6 (nI k2))) (fun rv u hp => hp.2.sm (by decide)) (fun rv u hp u1 g0 => (c_mface_ok l D cy base Λ u1 M g0 h00 hB x k2 hx hk2).mi (fun v w q => ⟨_, q.1, q.2.1, h.1.same (hp.2.cr h.1.1) (hp.2.sm (by decide)) rfl rfl rfl rfl, hWF, rfl, fc_one q.2.2 (ek ▸ hp.1)⟩))
  ·
    exact KC.err (kc := 1) h (by decide) (by decide) ⟨by decide, by decide, rfl, rfl⟩ (w_face_x1 l D cy base Λ σ _ _ h0 _ (by decide) (by decide) rfl rfl (c_face_e1 l hlt D cy base Λ σ M hC hB r (Bool.eq_false_iff.mpr hb) k)) (c_mface_e1 l D cy base Λ σ M h.2.1 h00 hB r k (Bool.eq_false_iff.mpr hb))
theorem k_name (l : Launch) (hlt : l.stackTraces = false) (D : va_G) (cy : Nat → ClassId) (base : Nat) (Λ : LY) (σ : HS) (M : MM) (h : LI Λ σ M) (r : Int32) : KC l D cy base Λ σ M yL_name wsL_name yX11_name wsX11_name [.int r] := by
  have hC := h.1.1
  have hB : MBd M := h.2.2.1.1.1
  have h00 : M 31 0 = 0 := h.2.2.1.1.2.1
  have hR6 : M 31 10 ≤ 6 := h.2.2.1.1.2.2.1.2
  have hWT : WT M := h.2.2.1.1.2.2.2.1
  have hWF := h.2.2.1
  have h40 : M 31 5 ≤ 40 := hB 31 5 rfl
  have h0 : 0 < gC Λ 0 := hC.n1 (by decide)
  have h49 : 0 < gC Λ 49 := by rw [h.2.2.2.1]; decide
  have hl49 : gN Λ 49 0 = 1 := h.2.2.2.2
  by_cases hb : inRm M r = true
  · obtain ⟨x, hx, rfl⟩ := inRm_of hB hb
    obtain ⟨n, ar, cp, wf, tx, ln, hd, lt, g1, g2, g3⟩ := h.1.2.2
    obtain ⟨_, _, _, _, _, _, hP, h4, h3⟩ := h.2.2.1.1
    refine KC.ok h ⟨by decide, by decide, rfl, rfl⟩ (w_name_n l D cy base Λ σ _ _ h0 h49 hl49 _ (by decide) (by decide) rfl rfl (c_name_ok l D cy base Λ σ M hC hB n ar cp wf tx ln hd lt g1 g2 (by omega) hP.1 hP.2 h4 h3 x hx hR6)) (fun rv u hp => by obtain ⟨_, _, _, _, u2, z1, z2⟩ := hp; exact (z1.sm (by decide)).tr z2.sm) (fun rv u hp u1 g0 => (c_mname_ok2 l D cy base Λ u1 M g0 h00 hB x hx h4 h3).mi (fun v w q => ?_))
    obtain ⟨M2, p1, p2, p3, u2, z1, z2⟩ := hp
    obtain ⟨M3, q1, q2, q3, q4, q5⟩ := q
    have hB3 : MBd M3 := nm_B hB hWF q4 q5
    have i1 : INV Λ u2 M := h.1.same (z1.cr h.1.1) (z1.sm (by decide)) rfl rfl rfl rfl
    have e31 : ∀ t, t ≠ 31 → t ≠ 43 → M2 t = M t := fun t a b => funext fun k => p2.1 t k b (fun z => a z.1)
    have i2 : INV Λ u M2 := i1.gx p3 z2 (by decide) (p2.1 31 5 (by decide) (fun z => absurd z.2 (by decide))) (e31 33 (by decide) (by decide)) (e31 34 (by decide) (by decide)) (e31 60 (by decide) (by decide))
    have eq := nm_one p2 q4
    refine ⟨M3, q1, q2, i2.to (fun t k _ _ _ _ _ t43 => ?_), hWF.page q4 hB3, q4.1 31 5 (by decide) (fun z => absurd z.2 (by decide)), by rw [q3, p1, eq.1]⟩
    by_cases t4 : t = 43
    · subst t4
      exact (eq.2 k (by have := fun z => t43 ⟨rfl, z⟩; omega)).symm
    · by_cases t5 : t = 31 ∧ k = 18
      · obtain ⟨rfl, rfl⟩ := t5
        exact eq.1.symm
      · rw [q4.1 t k t4 t5, p2.1 t k t4 t5]
  ·
    exact KC.err (kc := 1) h (by decide) (by decide) ⟨by decide, by decide, rfl, rfl⟩ (w_name_x1 l D cy base Λ σ _ h0 _ (by decide) (by decide) rfl rfl (c_name_e1 l hlt D cy base Λ σ M hC hB r (Bool.eq_false_iff.mpr hb))) (c_mname_e1 l D cy base Λ σ M h.2.1 h00 hB r (Bool.eq_false_iff.mpr hb))
