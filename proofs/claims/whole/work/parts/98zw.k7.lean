/-! ===== the calls on which nothing is thrown ===== -/
theorem btr_nt : ∀ (f : Nat) {M : MM} {t : Nat}, t ≠ 38 → (btr f M).2 t = M t
  | 0, _, _, _ => rfl
  | f + 1, M, t, h => by
    unfold btr
    split
    · exact (btr_nt f h).trans (betM_nk h)
    · rfl
theorem kpq_ct {M : MM} (hn : M 31 5 ≤ 40) : fb_ct (fun r => decide (kpV M r ≠ 0)) 40 = hcN M := by
  have e : 40 = M 31 5 + (40 - M 31 5) := by omega
  rw [e, fb_ct_split, fb_ct_skip (n := 40 - M 31 5) (fun k hk => decide_eq_false (fun z => z (by unfold kpV; rw [if_neg (fun y => by have := y.1; omega)])))]
  show _ = fb_ct _ (M 31 5)
  rw [Nat.add_zero]
  refine fb_ct_cong (fun k hk => ?_)
  unfold kpV
  by_cases q : M 37 k = 0
  · rw [if_pos ⟨hk, q⟩, decide_eq_true q]
    exact decide_eq_true (by omega)
  · rw [if_neg (fun y => q y.2), decide_eq_false q]
    exact decide_eq_false (fun z => z rfl)
theorem k_feed (l : Launch) (D : va_G) (cy : Nat → ClassId) (base : Nat) (Λ : LY) (σ : HS) (M : MM) (h : LI Λ σ M) (a1 a2 a3 a4 a5 : Int32) : KD l D cy base Λ σ M yX10_feed wsX10_feed yX11_feed wsX11_feed [.int a1, .int a2, .int a3, .int a4, .int a5] := by
  have hC := h.1.1
  have hB : MBd M := h.2.2.1.1.1
  have h00 : M 31 0 = 0 := h.2.2.1.1.2.1
  have hR6 : M 31 10 ≤ 6 := h.2.2.1.1.2.2.1.2
  have hWT : WT M := h.2.2.1.1.2.2.2.1
  have hWF := h.2.2.1
  have h40 : M 31 5 ≤ 40 := hB 31 5 rfl
  have h0 : 0 < gC Λ 0 := hC.n1 (by decide)
  have h49 : 0 < gC Λ 49 := by rw [h.2.2.2.1]; decide
  have hl49 : gN Λ 49 0 = 1 := h.2.2.2.2
  by_cases hA : M 31 2 ≤ 20
  ·
    exact KD.ok h ⟨by decide, by decide, rfl, rfl⟩ ⟨by decide, by decide, rfl, rfl⟩ (c_feed_ok l D cy base Λ σ M hC hB a1 a2 a3 a4 a5 hA) (fun rv u hp => hp.2.2.sm) (fun rv u hp u1 g0 => (c_mfeed_ok l D cy base Λ u1 M g0 h00 hB a1 a2 a3 a4 a5 hA).mi (fun v w q => ⟨_, q.1, q.2.1, h.1.gx hp.2.1 hp.2.2 (by decide) (feedTo_31 (by decide)) (feedTo_nk (by decide) (by decide)) (feedTo_nk (by decide) (by decide)) (feedTo_nk (by decide) (by decide)), hWF.feed hA, feedTo_31 (by decide), q.2.2.trans hp.1.symm⟩))
  ·
    exact KD.ok h ⟨by decide, by decide, rfl, rfl⟩ ⟨by decide, by decide, rfl, rfl⟩ (c_feed_no l D cy base Λ σ M hC hB a1 a2 a3 a4 a5 (by omega)) (fun rv u hp => (by rw [hp.2]; exact Same.rf)) (fun rv u hp u1 g0 => (c_mfeed_no l D cy base Λ u1 M g0 h00 hB a1 a2 a3 a4 a5 (by omega)).mi (fun v w q => ⟨_, q.1, q.2.1, by rw [hp.2]; exact h.1, hWF, rfl, q.2.2.trans hp.1.symm⟩))
theorem k_cost (l : Launch) (D : va_G) (cy : Nat → ClassId) (base : Nat) (Λ : LY) (σ : HS) (M : MM) (h : LI Λ σ M) : KDl l D cy base Λ σ M yX10_cost wsX10_cost yX11_cost wsX11_cost [] := by
  have hC := h.1.1
  have hB : MBd M := h.2.2.1.1.1
  have h00 : M 31 0 = 0 := h.2.2.1.1.2.1
  have hR6 : M 31 10 ≤ 6 := h.2.2.1.1.2.2.1.2
  have hWT : WT M := h.2.2.1.1.2.2.2.1
  have hWF := h.2.2.1
  have h40 : M 31 5 ≤ 40 := hB 31 5 rfl
  have h0 : 0 < gC Λ 0 := hC.n1 (by decide)
  have h49 : 0 < gC Λ 49 := by rw [h.2.2.2.1]; decide
  have hl49 : gN Λ 49 0 = 1 := h.2.2.2.2
  exact KDl.ok h ⟨by decide, by decide, rfl, rfl⟩ ⟨by decide, by decide, rfl, rfl⟩ (c_X10_cost l D cy base Λ σ M hC hB hWF.rm hR6) (fun rv u hp => hp.2.sm (by decide)) (fun rv u hp u1 g0 => (c_mcost l D cy base Λ u1 M g0 h00 hB).ml (fun v w q => ⟨_, q.1, q.2.1, h.1.same (hp.2.cr h.1.1) (hp.2.sm (by decide)) rfl rfl rfl rfl, hWF, rfl, q.2.2.trans hp.1.symm⟩))
theorem k_better (l : Launch) (D : va_G) (cy : Nat → ClassId) (base : Nat) (Λ : LY) (σ : HS) (M : MM) (h : LI Λ σ M) : KD l D cy base Λ σ M yX10_better wsX10_better yX11_better wsX11_better [] := by
  have hC := h.1.1
  have hB : MBd M := h.2.2.1.1.1
  have h00 : M 31 0 = 0 := h.2.2.1.1.2.1
  have hR6 : M 31 10 ≤ 6 := h.2.2.1.1.2.2.1.2
  have hWT : WT M := h.2.2.1.1.2.2.2.1
  have hWF := h.2.2.1
  have h40 : M 31 5 ≤ 40 := hB 31 5 rfl
  have h0 : 0 < gC Λ 0 := hC.n1 (by decide)
  have h49 : 0 < gC Λ 49 := by rw [h.2.2.2.1]; decide
  have hl49 : gN Λ 49 0 = 1 := h.2.2.2.2
  exact KD.ok h ⟨by decide, by decide, rfl, rfl⟩ ⟨by decide, by decide, rfl, rfl⟩ (c_X10_better l D cy base Λ σ M hC hB hR6 hWF.sy) (fun rv u hp => Same.mono hp.2.2 s31_Me) (fun rv u hp u1 g0 => (c_mbetter l D cy base Λ u1 M g0 h00 hB hR6 hWF.1.2.2.1.1).mi (fun v w q => ⟨_, q.1, q.2.1, h.1.same hp.2.1 (Same.mono hp.2.2 kG_Me) (congrFun (btr_nt 100 (by decide)) 5) (btr_nt 100 (by decide)) (btr_nt 100 (by decide)) (btr_nt 100 (by decide)), WF.btrF 100 hWF, congrFun (btr_nt 100 (by decide)) 5, q.2.2.trans hp.1.symm⟩))
theorem k_best (l : Launch) (D : va_G) (cy : Nat → ClassId) (base : Nat) (Λ : LY) (σ : HS) (M : MM) (h : LI Λ σ M) : KDl l D cy base Λ σ M yX10_best wsX10_best yX11_best wsX11_best [] := by
  have hC := h.1.1
  have hB : MBd M := h.2.2.1.1.1
  have h00 : M 31 0 = 0 := h.2.2.1.1.2.1
  have hR6 : M 31 10 ≤ 6 := h.2.2.1.1.2.2.1.2
  have hWT : WT M := h.2.2.1.1.2.2.2.1
  have hWF := h.2.2.1
  have h40 : M 31 5 ≤ 40 := hB 31 5 rfl
  have h0 : 0 < gC Λ 0 := hC.n1 (by decide)
  have h49 : 0 < gC Λ 49 := by rw [h.2.2.2.1]; decide
  have hl49 : gN Λ 49 0 = 1 := h.2.2.2.2
  have hR1 : 1 ≤ M 31 10 := hWF.1.2.2.1.1
  by_cases hA : 9 < hcN M ∨ 3 < M 31 10
  · refine KDl.ok h ⟨by decide, by decide, rfl, rfl⟩ ⟨by decide, by decide, rfl, rfl⟩ (c_best_no l D cy base Λ σ M hC hB hA) (fun rv u hp => by rw [hp.2]; exact Same.rf) (fun rv u hp u1 g0 => (c_mbest_no l D cy base Λ u1 M g0 h00 hB hA).ml (fun v w q => ?_))
    obtain ⟨q1, q2, M2, q3, q4, q5⟩ := q
    obtain ⟨p1, rfl⟩ := hp
    refine ⟨M2, q3, q2, h.1.to (fun t k t41 _ _ _ _ _ => congrFun (q5 t t41) k), hWF.cong q4 (congrFun (q5 31 (by decide)) 0) (congrFun (q5 31 (by decide)) 5) (congrFun (q5 31 (by decide)) 10) (congrFun (q5 31 (by decide)) 18) (fun t ht => q5 t (by omega)) (fun k _ => congrFun (q5 43 (by decide)) k), congrFun (q5 31 (by decide)) 5, q1.trans p1.symm⟩
  · refine KDl.ok h ⟨by decide, by decide, rfl, rfl⟩ ⟨by decide, by decide, rfl, rfl⟩ (c_best_ok l D cy base Λ σ M hC hB (by omega) hR1 (by omega)) (fun rv u hp => by obtain ⟨_, _, _, _, _, z⟩ := hp; exact Same.mono z s31_Se) (fun rv u hp u1 g0 => (c_mbest_ok l D cy base Λ u1 M g0 h00 hB (by omega) hR1 (by omega) hWT hWF.1.2.2.2.2.1).ml (fun v w q => ?_))
    obtain ⟨b2, F2, p1, p2, p3, p4⟩ := hp
    obtain ⟨q1, b, F, M2, q2, q3, q4, q5, q6⟩ := q
    have hK : 0 < M 31 10 ^ hcN M := Nat.pow_pos hR1
    have e := FM.one hK q3 p2
    have ea : ∀ t k, asg M F t k = asg M F2 t k := fun t k => by
      unfold asg
      by_cases z : t = 38 ∧ k < M 31 5 ∧ M 37 k = 0
      · rw [if_pos z, if_pos z, e.2 _ (rk_lt z.2.1 z.2.2)]
      · rw [if_neg z, if_neg z]
    have i1 : INV Λ u (asg M F2) := h.1.same p3 (Same.mono p4 kG_Se) (congrFun (asg_nk (by decide)) 5) (asg_nk (by decide)) (asg_nk (by decide)) (asg_nk (by decide))
    exact ⟨M2, q4, q1, i1.to (fun t k t41 t42 _ _ _ _ => (congrFun (q6 t t41 t42) k).trans (ea t k)), hWF.asgn q5 (q3.2.1 hK).1 q6, (congrFun (q6 31 (by decide) (by decide)) 5).trans (congrFun (asg_nk (by decide)) 5), by rw [q2, p1, e.1]⟩
theorem k_octet (l : Launch) (D : va_G) (cy : Nat → ClassId) (base : Nat) (Λ : LY) (σ : HS) (M : MM) (h : LI Λ σ M) (k : Int32) : KD l D cy base Λ σ M yX10_octet wsX10_octet yX11_octet wsX11_octet [.int k] := by
  have hC := h.1.1
  have hB : MBd M := h.2.2.1.1.1
  have h00 : M 31 0 = 0 := h.2.2.1.1.2.1
  have hR6 : M 31 10 ≤ 6 := h.2.2.1.1.2.2.1.2
  have hWT : WT M := h.2.2.1.1.2.2.2.1
  have hWF := h.2.2.1
  have h40 : M 31 5 ≤ 40 := hB 31 5 rfl
  have h0 : 0 < gC Λ 0 := hC.n1 (by decide)
  have h49 : 0 < gC Λ 49 := by rw [h.2.2.2.1]; decide
  have hl49 : gN Λ 49 0 = 1 := h.2.2.2.2
  obtain ⟨_, _, _, _, _, _, hP, _, _⟩ := h.2.2.1.1
  by_cases hk : k.toInt < 0 ∨ (M 31 18 : Int) ≤ k.toInt
  ·
    exact KD.ok h ⟨by decide, by decide, rfl, rfl⟩ ⟨by decide, by decide, rfl, rfl⟩ (c_octet_no l D cy base Λ σ M hC hB hP.1 hP.2 k hk) (fun rv u hp => (by rw [hp.2]; exact Same.rf)) (fun rv u hp u1 g0 => (c_moctet_no l D cy base Λ u1 M g0 h00 hB k hk).mi (fun v w q => ⟨_, q.1, q.2.1, by rw [hp.2]; exact h.1, hWF, rfl, q.2.2.trans hp.1.symm⟩))
  · obtain ⟨k2, _, rfl, ek⟩ := i32_of (x := k) (by omega)
    exact KD.ok h ⟨by decide, by decide, rfl, rfl⟩ ⟨by decide, by decide, rfl, rfl⟩ (c_octet_ok l D cy base Λ σ M hC hB hP.1 hP.2 k2 (by omega)) (fun rv u hp => (by rw [hp.2]; exact Same.rf)) (fun rv u hp u1 g0 => (c_moctet_ok l D cy base Λ u1 M g0 h00 hB k2 (by omega) hP.1).mi (fun v w q => ⟨_, q.1, q.2.1, by rw [hp.2]; exact h.1, hWF, rfl, q.2.2.trans hp.1.symm⟩))
theorem k_alone (l : Launch) (D : va_G) (cy : Nat → ClassId) (base : Nat) (Λ : LY) (σ : HS) (M : MM) (h : LI Λ σ M) : KD l D cy base Λ σ M yX10_alone wsX10_alone yX11_alone wsX11_alone [] := by
  have hC := h.1.1
  have hB : MBd M := h.2.2.1.1.1
  have h00 : M 31 0 = 0 := h.2.2.1.1.2.1
  have hR6 : M 31 10 ≤ 6 := h.2.2.1.1.2.2.1.2
  have hWT : WT M := h.2.2.1.1.2.2.2.1
  have hWF := h.2.2.1
  have h40 : M 31 5 ≤ 40 := hB 31 5 rfl
  have h0 : 0 < gC Λ 0 := hC.n1 (by decide)
  have h49 : 0 < gC Λ 49 := by rw [h.2.2.2.1]; decide
  have hl49 : gN Λ 49 0 = 1 := h.2.2.2.2
  exact KD.ok h ⟨by decide, by decide, rfl, rfl⟩ ⟨by decide, by decide, rfl, rfl⟩ (c_X10_alone l D cy base Λ σ M hC hB) (fun rv u hp => hp.2.sm (by decide)) (fun rv u hp u1 g0 => (c_malone l D cy base Λ u1 M g0 h00 hB).mi (fun v w q => ⟨_, q.1, q.2.1, h.1.same (hp.2.cr h.1.1) (hp.2.sm (by decide)) rfl rfl rfl rfl, hWF, rfl, q.2.2.trans hp.1.symm⟩))
theorem k_keep (l : Launch) (D : va_G) (cy : Nat → ClassId) (base : Nat) (Λ : LY) (σ : HS) (M : MM) (h : LI Λ σ M) : KD l D cy base Λ σ M yX10_keep wsX10_keep yX11_keep wsX11_keep [] := by
  have hC := h.1.1
  have hB : MBd M := h.2.2.1.1.1
  have h00 : M 31 0 = 0 := h.2.2.1.1.2.1
  have hR6 : M 31 10 ≤ 6 := h.2.2.1.1.2.2.1.2
  have hWT : WT M := h.2.2.1.1.2.2.2.1
  have hWF := h.2.2.1
  have h40 : M 31 5 ≤ 40 := hB 31 5 rfl
  have h0 : 0 < gC Λ 0 := hC.n1 (by decide)
  have h49 : 0 < gC Λ 49 := by rw [h.2.2.2.1]; decide
  have hl49 : gN Λ 49 0 = 1 := h.2.2.2.2
  exact KD.ok h ⟨by decide, by decide, rfl, rfl⟩ ⟨by decide, by decide, rfl, rfl⟩ (c_X10_keep l D cy base Λ σ M hC hB) (fun rv u hp => Same.mono hp.2.2 s31_Ke) (fun rv u hp u1 g0 => (c_mkeep l D cy base Λ u1 M g0 h00 hB).mi (fun v w q => ⟨_, q.1, q.2.1, h.1.same hp.2.1 (Same.mono hp.2.2 kG_Ke) (kpTo_31 (by decide)) (kpTo_nk (by decide) (by decide)) (kpTo_nk (by decide) (by decide)) (kpTo_nk (by decide) (by decide)), hWF.kep, kpTo_31 (by decide), by rw [q.2.2, hp.1, kpq_ct h40]⟩))
theorem k_moves (l : Launch) (D : va_G) (cy : Nat → ClassId) (base : Nat) (Λ : LY) (σ : HS) (M : MM) (h : LI Λ σ M) : KD l D cy base Λ σ M yX10_moves wsX10_moves yX11_moves wsX11_moves [] := by
  have hC := h.1.1
  have hB : MBd M := h.2.2.1.1.1
  have h00 : M 31 0 = 0 := h.2.2.1.1.2.1
  have hR6 : M 31 10 ≤ 6 := h.2.2.1.1.2.2.1.2
  have hWT : WT M := h.2.2.1.1.2.2.2.1
  have hWF := h.2.2.1
  have h40 : M 31 5 ≤ 40 := hB 31 5 rfl
  have h0 : 0 < gC Λ 0 := hC.n1 (by decide)
  have h49 : 0 < gC Λ 49 := by rw [h.2.2.2.1]; decide
  have hl49 : gN Λ 49 0 = 1 := h.2.2.2.2
  by_cases hk : M 31 23 = 0
  ·
    exact KD.ok h ⟨by decide, by decide, rfl, rfl⟩ ⟨by decide, by decide, rfl, rfl⟩ (c_moves_no l D cy base Λ σ M hC hB hk) (fun rv u hp => (by rw [hp.2]; exact Same.rf)) (fun rv u hp u1 g0 => (c_mmoves_no l D cy base Λ u1 M g0 h00 hB hk).mi (fun v w q => ⟨_, q.1, q.2.1, by rw [hp.2]; exact h.1, hWF, rfl, q.2.2.trans hp.1.symm⟩))
  ·
    exact KD.ok h ⟨by decide, by decide, rfl, rfl⟩ ⟨by decide, by decide, rfl, rfl⟩ (c_moves_ok l D cy base Λ σ M hC hB hk) (fun rv u hp => hp.2.sm (by decide)) (fun rv u hp u1 g0 => (c_mmoves_ok l D cy base Λ u1 M g0 h00 hB hk).mi (fun v w q => ⟨_, q.1, q.2.1, (h.1.same (hp.2.cr h.1.1) (hp.2.sm (by decide)) rfl rfl rfl rfl).to (fun t k _ _ _ t48 _ _ => congrFun (tgTo_nk t48) k), hWF.tgt, congrFun (tgTo_nk (by decide)) 5, q.2.2.trans hp.1.symm⟩))
theorem k_count (l : Launch) (D : va_G) (cy : Nat → ClassId) (base : Nat) (Λ : LY) (σ : HS) (M : MM) (h : LI Λ σ M) (w : Int32) : KD l D cy base Λ σ M yX10_count wsX10_count yX11_count wsX11_count [.int w] := by
  have hC := h.1.1
  have hB : MBd M := h.2.2.1.1.1
  have h00 : M 31 0 = 0 := h.2.2.1.1.2.1
  have hR6 : M 31 10 ≤ 6 := h.2.2.1.1.2.2.1.2
  have hWT : WT M := h.2.2.1.1.2.2.2.1
  have hWF := h.2.2.1
  have h40 : M 31 5 ≤ 40 := hB 31 5 rfl
  have h0 : 0 < gC Λ 0 := hC.n1 (by decide)
  have h49 : 0 < gC Λ 49 := by rw [h.2.2.2.1]; decide
  have hl49 : gN Λ 49 0 = 1 := h.2.2.2.2
  by_cases hw : w.toInt < 0 ∨ 5 < w.toInt
  ·
    exact KD.ok h ⟨by decide, by decide, rfl, rfl⟩ ⟨by decide, by decide, rfl, rfl⟩ (c_count_x l D cy base Λ σ M hC hB w hw) (fun rv u hp => (by rw [hp.2]; exact Same.rf)) (fun rv u hp u1 g0 => (c_mcount_x l D cy base Λ u1 M g0 h00 hB w hw).mi (fun v w q => ⟨_, q.1, q.2.1, by rw [hp.2]; exact h.1, hWF, rfl, q.2.2.trans hp.1.symm⟩))
  · obtain ⟨k2, _, rfl, ek⟩ := i32_of (x := w) (by omega)
    rcases (show k2 = 0 ∨ k2 = 1 ∨ k2 = 2 ∨ k2 = 3 ∨ k2 = 4 ∨ k2 = 5 by omega) with rfl | rfl | rfl | rfl | rfl | rfl
    ·
      exact KD.ok h ⟨by decide, by decide, rfl, rfl⟩ ⟨by decide, by decide, rfl, rfl⟩ (c_count_0 l D cy base Λ σ M hC hB) (fun rv u hp => (by rw [hp.2]; exact Same.rf)) (fun rv u hp u1 g0 => (c_mcount_0 l D cy base Λ u1 M g0 h00 hB).mi (fun v w q => ⟨_, q.1, q.2.1, by rw [hp.2]; exact h.1, hWF, rfl, q.2.2.trans hp.1.symm⟩))
    ·
      exact KD.ok h ⟨by decide, by decide, rfl, rfl⟩ ⟨by decide, by decide, rfl, rfl⟩ (c_count_1 l D cy base Λ σ M hC hB) (fun rv u hp => (by rw [hp.2]; exact Same.rf)) (fun rv u hp u1 g0 => (c_mcount_1 l D cy base Λ u1 M g0 h00 hB).mi (fun v w q => ⟨_, q.1, q.2.1, by rw [hp.2]; exact h.1, hWF, rfl, q.2.2.trans hp.1.symm⟩))
    ·
      exact KD.ok h ⟨by decide, by decide, rfl, rfl⟩ ⟨by decide, by decide, rfl, rfl⟩ (c_count_2 l D cy base Λ σ M hC hB) (fun rv u hp => (by rw [hp.2]; exact Same.rf)) (fun rv u hp u1 g0 => (c_mcount_2 l D cy base Λ u1 M g0 h00 hB).mi (fun v w q => ⟨_, q.1, q.2.1, by rw [hp.2]; exact h.1, hWF, rfl, q.2.2.trans hp.1.symm⟩))
    ·
      exact KD.ok h ⟨by decide, by decide, rfl, rfl⟩ ⟨by decide, by decide, rfl, rfl⟩ (c_count_3 l D cy base Λ σ M hC hB) (fun rv u hp => (by rw [hp.2]; exact Same.rf)) (fun rv u hp u1 g0 => (c_mcount_3 l D cy base Λ u1 M g0 h00 hB).mi (fun v w q => ⟨_, q.1, q.2.1, by rw [hp.2]; exact h.1, hWF, rfl, q.2.2.trans hp.1.symm⟩))
    ·
      exact KD.ok h ⟨by decide, by decide, rfl, rfl⟩ ⟨by decide, by decide, rfl, rfl⟩ (c_count_4 l D cy base Λ σ M hC hB) (fun rv u hp => (by rw [hp.2]; exact Same.rf)) (fun rv u hp u1 g0 => (c_mcount_4 l D cy base Λ u1 M g0 h00 hB).mi (fun v w q => ⟨_, q.1, q.2.1, by rw [hp.2]; exact h.1, hWF, rfl, q.2.2.trans hp.1.symm⟩))
    ·
      exact KD.ok h ⟨by decide, by decide, rfl, rfl⟩ ⟨by decide, by decide, rfl, rfl⟩ (c_count_5 l D cy base Λ σ M hC hB) (fun rv u hp => (by rw [hp.2]; exact Same.rf)) (fun rv u hp u1 g0 => (c_mcount_5 l D cy base Λ u1 M g0 h00 hB).mi (fun v w q => ⟨_, q.1, q.2.1, by rw [hp.2]; exact h.1, hWF, rfl, q.2.2.trans hp.1.symm⟩))
