set_option maxHeartbeats 4000000 in
set_option maxRecDepth 100000 in
theorem c_take_m (l : Launch) (D : va_G) (cy : Nat → ClassId) (base : Nat) (Λ : LY) (σ : HS) (M : MM) (hC : CR noEx Λ σ M) (hB : MBd M) (hR : M 31 10 ≤ 6) (hS : PS σ M) (hP : ∀ i, i < hcN M → PP σ M (hs M i)) (hz : BSR σ (bstS M)) (hm : (bstS M).2.1 ≠ 0) (h0 : (bstS M).2.2.1 = 0) : Met l yX2_takeStep wsX2_takeStep ({ frames := 12, cells := 0, slots := 0, locals := 180 }) (va_Pc [.ref (gA Λ 18 0)] (Wd D cy base Λ σ)) (va_Qv (fun u => CR noEx Λ u (betM M) ∧ PS u (betM M) ∧ (∀ i, i < hcN M → PP u (betM M) (hs M i)) ∧ Same nMe σ u) (Wd D cy base Λ) (Ab base)) 0 0 (Ab base) := by
  refine j_start (cc := cX2_takeStep) (nL := 2) (ret := none) (lv := [(0, .ref (gA Λ 18 0))]) (by decide) rfl (Nat.le_of_ble_eq_true rfl) rfl ?_
  intro p e s m below meth c C hr hlk hnm
  have C : Cx p s m ([.ref (gA Λ 18 0)] : List Value).toArray c cX2_takeStep 2 RX2 wsX2_takeStep D cy base := C
  have hts := C.2.2.2.2.1
  have hwX2 : ∀ w ∈ u_ws RX2 TX2 6, w ∈ wsX2_takeStep := by decide +kernel
  have hM81 : (Cond.fieldLink RX2 81 (TX2 3).1 (TX2 3).2.1 (TX2 3).2.2.1).before ([.ref (gA Λ 18 0)] : List Value).toArray s = true := hts (.fieldLink RX2 81 "CodeRooms$Mender" "mover" "LCodeRooms$Routine;") (by decide +kernel)
  have hL81 : FL RX2 81 (TX2 3).1 (TX2 3).2.1 (TX2 3).2.2.1 ([.ref (gA Λ 18 0)] : List Value).toArray s := Or.inl hM81
  have hM85 : (Cond.fieldLink RX2 85 (TX2 4).1 (TX2 4).2.1 (TX2 4).2.2.1).before ([.ref (gA Λ 18 0)] : List Value).toArray s = true := hts (.fieldLink RX2 85 "CodeRooms$Mender" "partner" "LCodeRooms$Routine;") (by decide +kernel)
  have hL85 : FL RX2 85 (TX2 4).1 (TX2 4).2.1 (TX2 4).2.2.1 ([.ref (gA Λ 18 0)] : List Value).toArray s := Or.inl hM85
  have hM94 : (Cond.fieldLink RX2 94 (TX2 5).1 (TX2 5).2.1 (TX2 5).2.2.1).before ([.ref (gA Λ 18 0)] : List Value).toArray s = true := hts (.fieldLink RX2 94 "CodeRooms$Mender" "target" "I") (by decide +kernel)
  have hL94 : FL RX2 94 (TX2 5).1 (TX2 5).2.1 (TX2 5).2.2.1 ([.ref (gA Λ 18 0)] : List Value).toArray s := Or.inl hM94
  have hn : M 31 5 ≤ 40 := hB 31 5 rfl
  have hhc0 := hcN_le M
  obtain ⟨q1, q2, q3, q4, q5, q6, q7⟩ := bst_ok hB hn
  obtain ⟨g1, g2, g3⟩ := bst_g (M := M) hm
  have hR6 := hR
  have q8 := q6 hm h0
  have g4 := g2 h0
  have eb : betM M = mS M 38 ((bstS M).2.1 - 1) ((bstS M).2.2.2 - 1) := by unfold betM; rw [if_neg hm, if_pos h0]
  refine j_aload_n C dX2_takeStep_0 rfl 0 rfl ?_
  refine j_getV C hwX2 18 0 3 (CR.n1 hC (by decide)) rfl rfl (by decide) rfl ((bstS M).2.1 - 1) (hz.2.1.trans (if_neg hm)) hL81 dX2_takeStep_1 ?_
  refine j_ifnonnull (tgt := 8) C dX2_takeStep_4 (by decide) ?_
  refine j_aload_n C dX2_takeStep_8 rfl 0 rfl ?_
  refine j_getVn C hwX2 18 0 4 (CR.n1 hC (by decide)) rfl rfl (by decide) rfl (hz.2.2.1.trans (if_pos h0)) hL85 dX2_takeStep_9 ?_
  refine j_ifnonnullN C dX2_takeStep_12 ?_
  refine j_aload_n C dX2_takeStep_15 rfl 0 rfl ?_
  refine j_aload_n C dX2_takeStep_16 rfl 0 rfl ?_
  refine j_getV C hwX2 18 0 3 (CR.n1 hC (by decide)) rfl rfl (by decide) rfl ((bstS M).2.1 - 1) (hz.2.1.trans (if_neg hm)) hL81 dX2_takeStep_17 ?_
  refine j_aload_n C dX2_takeStep_20 rfl 0 rfl ?_
  refine j_getI C hwX2 18 0 5 (CR.n1 hC (by decide)) rfl rfl (by decide) rfl (nI ((bstS M).2.2.2 - 1)) (hz.2.2.2 q8) hL94 dX2_takeStep_21 ?_
  refine c_v0 C (r_V C 18 0 [.ref (gA Λ 8 ((bstS M).2.1 - 1)), .int (nI ((bstS M).2.2.2 - 1))] (c_X2_carry l D cy base Λ σ M hC hB ((bstS M).2.1 - 1) ((bstS M).2.2.2 - 1) (by omega) g1 (by omega) g4 hS hP) (cwV 2 hts gX2_takeStep_X2_carry rfl rfl rfl (by decide +kernel) ⟨by decide, by decide⟩) (CR.n1 hC (by decide)) rfl rfl rfl rfl (Nat.le_of_ble_eq_true rfl) dX2_takeStep_24 ⟨by decide, by decide⟩) (fun u1 hp => ?_)
  obtain ⟨hC1, hS1, hP1, hg1⟩ := hp
  exact j_vret C hr hlk (⟨by rw [eb]; exact hC1, by rw [eb]; exact hS1, fun i hi => by rw [eb]; exact hP1 i hi, hg1.2.2.2⟩) dX2_takeStep_27

set_option maxHeartbeats 4000000 in
set_option maxRecDepth 100000 in
theorem c_take_s (l : Launch) (D : va_G) (cy : Nat → ClassId) (base : Nat) (Λ : LY) (σ : HS) (M : MM) (hC : CR noEx Λ σ M) (hB : MBd M) (hR : M 31 10 ≤ 6) (hS : PS σ M) (hP : ∀ i, i < hcN M → PP σ M (hs M i)) (hz : BSR σ (bstS M)) (hm : (bstS M).2.1 ≠ 0) (h0 : (bstS M).2.2.1 ≠ 0) : Met l yX2_takeStep wsX2_takeStep ({ frames := 12, cells := 0, slots := 0, locals := 180 }) (va_Pc [.ref (gA Λ 18 0)] (Wd D cy base Λ σ)) (va_Qv (fun u => CR noEx Λ u (betM M) ∧ PS u (betM M) ∧ (∀ i, i < hcN M → PP u (betM M) (hs M i)) ∧ Same nMe σ u) (Wd D cy base Λ) (Ab base)) 0 0 (Ab base) := by
  refine j_start (cc := cX2_takeStep) (nL := 2) (ret := none) (lv := [(0, .ref (gA Λ 18 0))]) (by decide) rfl (Nat.le_of_ble_eq_true rfl) rfl ?_
  intro p e s m below meth c C hr hlk hnm
  have C : Cx p s m ([.ref (gA Λ 18 0)] : List Value).toArray c cX2_takeStep 2 RX2 wsX2_takeStep D cy base := C
  have hts := C.2.2.2.2.1
  have hwX2 : ∀ w ∈ u_ws RX2 TX2 6, w ∈ wsX2_takeStep := by decide +kernel
  have hwX5 : ∀ w ∈ u_ws RX5 TX5 13, w ∈ wsX2_takeStep := by decide +kernel
  have hL49 : FL RX2 49 (TX5 11).1 (TX5 11).2.1 (TX5 11).2.2.1 ([.ref (gA Λ 18 0)] : List Value).toArray s := Or.inr ⟨_, Ex.nestF C.2.2.2.2.2.2 nf_X2_49⟩
  have hM81 : (Cond.fieldLink RX2 81 (TX2 3).1 (TX2 3).2.1 (TX2 3).2.2.1).before ([.ref (gA Λ 18 0)] : List Value).toArray s = true := hts (.fieldLink RX2 81 "CodeRooms$Mender" "mover" "LCodeRooms$Routine;") (by decide +kernel)
  have hL81 : FL RX2 81 (TX2 3).1 (TX2 3).2.1 (TX2 3).2.2.1 ([.ref (gA Λ 18 0)] : List Value).toArray s := Or.inl hM81
  have hM85 : (Cond.fieldLink RX2 85 (TX2 4).1 (TX2 4).2.1 (TX2 4).2.2.1).before ([.ref (gA Λ 18 0)] : List Value).toArray s = true := hts (.fieldLink RX2 85 "CodeRooms$Mender" "partner" "LCodeRooms$Routine;") (by decide +kernel)
  have hL85 : FL RX2 85 (TX2 4).1 (TX2 4).2.1 (TX2 4).2.2.1 ([.ref (gA Λ 18 0)] : List Value).toArray s := Or.inl hM85
  have hn : M 31 5 ≤ 40 := hB 31 5 rfl
  have hhc0 := hcN_le M
  obtain ⟨q1, q2, q3, q4, q5, q6, q7⟩ := bst_ok hB hn
  obtain ⟨g1, g2, g3⟩ := bst_g (M := M) hm
  have hR6 := hR
  obtain ⟨g4, g5⟩ := g3 h0
  have hne : (bstS M).2.1 - 1 ≠ (bstS M).2.2.1 - 1 := fun z => g5 (by rw [z])
  have b1 : M 38 ((bstS M).2.1 - 1) ≤ 5 := hB 38 _ (decide_eq_true (show (bstS M).2.1 - 1 < 40 by omega))
  have b2 : M 38 ((bstS M).2.2.1 - 1) ≤ 5 := hB 38 _ (decide_eq_true (show (bstS M).2.2.1 - 1 < 40 by omega))
  have eb : betM M = mS (mS M 38 ((bstS M).2.1 - 1) (M 38 ((bstS M).2.2.1 - 1))) 38 ((bstS M).2.2.1 - 1) (M 38 ((bstS M).2.1 - 1)) := by unfold betM; rw [if_neg hm, if_neg h0]
  have hB1 : MBd (mS M 38 ((bstS M).2.1 - 1) (M 38 ((bstS M).2.2.1 - 1))) := MBd.set hB b2
  have e38 : (mS M 38 ((bstS M).2.1 - 1) (M 38 ((bstS M).2.2.1 - 1))) 38 ((bstS M).2.2.1 - 1) = M 38 ((bstS M).2.2.1 - 1) := mS_ne (Or.inr (Ne.symm hne))
  refine j_aload_n C dX2_takeStep_0 rfl 0 rfl ?_
  refine j_getV C hwX2 18 0 3 (CR.n1 hC (by decide)) rfl rfl (by decide) rfl ((bstS M).2.1 - 1) (hz.2.1.trans (if_neg hm)) hL81 dX2_takeStep_1 ?_
  refine j_ifnonnull (tgt := 8) C dX2_takeStep_4 (by decide) ?_
  refine j_aload_n C dX2_takeStep_8 rfl 0 rfl ?_
  refine j_getV C hwX2 18 0 4 (CR.n1 hC (by decide)) rfl rfl (by decide) rfl ((bstS M).2.2.1 - 1) (hz.2.2.1.trans (if_neg h0)) hL85 dX2_takeStep_9 ?_
  refine j_ifnonnull (tgt := 28) C dX2_takeStep_12 (by decide) ?_
  refine j_aload_n C dX2_takeStep_28 rfl 0 rfl ?_
  refine j_getV C hwX2 18 0 3 (CR.n1 hC (by decide)) rfl rfl (by decide) rfl ((bstS M).2.1 - 1) (hz.2.1.trans (if_neg hm)) hL81 dX2_takeStep_29 ?_
  have hb32 : M 38 ((bstS M).2.1 - 1) ≤ 5 := hB 38 ((bstS M).2.1 - 1) (decide_eq_true (show (bstS M).2.1 - 1 < 40 by omega))
  refine j_getI C hwX5 8 ((bstS M).2.1 - 1) 11 (CR.n8 hC (by decide) (show (bstS M).2.1 - 1 < M 31 5 by omega)) rfl rfl (by decide) rfl (nI (M 38 ((bstS M).2.1 - 1))) (CR.i hC 8 ((bstS M).2.1 - 1) 11 ⟨show (bstS M).2.1 - 1 < M 31 5 by omega, Or.inr (Or.inr (Or.inl rfl))⟩ id) hL49 dX2_takeStep_32 ?_
  refine j_istore_n C [(1, .int (nI (M 38 ((bstS M).2.1 - 1)))), (0, .ref (gA Λ 18 0))] dX2_takeStep_35 rfl (by decide) rfl ?_
  refine j_aload_n C dX2_takeStep_36 rfl 1 rfl ?_
  refine j_aload_n C dX2_takeStep_37 rfl 1 rfl ?_
  refine j_getV C hwX2 18 0 3 (CR.n1 hC (by decide)) rfl rfl (by decide) rfl ((bstS M).2.1 - 1) (hz.2.1.trans (if_neg hm)) hL81 dX2_takeStep_38 ?_
  refine j_aload_n C dX2_takeStep_41 rfl 1 rfl ?_
  refine j_getV C hwX2 18 0 4 (CR.n1 hC (by decide)) rfl rfl (by decide) rfl ((bstS M).2.2.1 - 1) (hz.2.2.1.trans (if_neg h0)) hL85 dX2_takeStep_42 ?_
  have hb45 : M 38 ((bstS M).2.2.1 - 1) ≤ 5 := hB 38 ((bstS M).2.2.1 - 1) (decide_eq_true (show (bstS M).2.2.1 - 1 < 40 by omega))
  refine j_getI C hwX5 8 ((bstS M).2.2.1 - 1) 11 (CR.n8 hC (by decide) (show (bstS M).2.2.1 - 1 < M 31 5 by omega)) rfl rfl (by decide) rfl (nI (M 38 ((bstS M).2.2.1 - 1))) (CR.i hC 8 ((bstS M).2.2.1 - 1) 11 ⟨show (bstS M).2.2.1 - 1 < M 31 5 by omega, Or.inr (Or.inr (Or.inl rfl))⟩ id) hL49 dX2_takeStep_45 ?_
  refine c_v0 C (r_V C 18 0 [.ref (gA Λ 8 ((bstS M).2.1 - 1)), .int (nI (M 38 ((bstS M).2.2.1 - 1)))] (c_X2_carry l D cy base Λ σ M hC hB ((bstS M).2.1 - 1) (M 38 ((bstS M).2.2.1 - 1)) (by omega) g1 (by omega) (Ne.symm g5) hS hP) (cwV 2 hts gX2_takeStep_X2_carry rfl rfl rfl (by decide +kernel) ⟨by decide, by decide⟩) (CR.n1 hC (by decide)) rfl rfl rfl rfl (Nat.le_of_ble_eq_true rfl) dX2_takeStep_48 ⟨by decide, by decide⟩) (fun u1 hp => ?_)
  obtain ⟨hC1, hS1, hP1, hg1⟩ := hp
  refine j_aload_n C dX2_takeStep_51 rfl 1 rfl ?_
  refine j_aload_n C dX2_takeStep_52 rfl 1 rfl ?_
  refine j_getV C hwX2 18 0 4 (CR.n1 hC1 (by decide)) rfl rfl (by decide) rfl ((bstS M).2.2.1 - 1) (by rw [hg1.1]; exact hz.2.2.1.trans (if_neg h0)) hL85 dX2_takeStep_53 ?_
  refine j_iload_n C dX2_takeStep_56 rfl 0 rfl ?_
  refine c_v0 C (r_V C 18 0 [.ref (gA Λ 8 ((bstS M).2.2.1 - 1)), .int (nI (M 38 ((bstS M).2.1 - 1)))] (c_X2_carry l D cy base Λ u1 (mS M 38 ((bstS M).2.1 - 1) (M 38 ((bstS M).2.2.1 - 1))) hC1 hB1 ((bstS M).2.2.1 - 1) (M 38 ((bstS M).2.1 - 1)) (show _ < M 31 5 by omega) (show M 37 _ = 0 from g4) (by omega) (by rw [e38]; exact g5) hS1 (fun i hi => by rw [hs_38]; rw [hcN_38] at hi; exact hP1 i hi)) (cwV 2 hts gX2_takeStep_X2_carry rfl rfl rfl (by decide +kernel) ⟨by decide, by decide⟩) (CR.n1 hC1 (by decide)) rfl rfl rfl rfl (Nat.le_of_ble_eq_true rfl) dX2_takeStep_57 ⟨by decide, by decide⟩) (fun u2 hp => ?_)
  obtain ⟨hC2, hS2, hP2, hg2⟩ := hp
  exact j_vret C hr hlk (⟨by rw [eb]; exact hC2, by rw [eb]; exact hS2, fun i hi => by rw [eb]; have q := hP2 i (by rw [hcN_38]; exact hi); rw [hs_38] at q; exact q, Same.tr hg1.2.2.2 hg2.2.2.2⟩) dX2_takeStep_60

theorem betM_nt {M : MM} {t : Nat} (h : t ≠ 38) : betM M t = M t := betM_nk h
theorem hs_bet {M : MM} {k : Nat} : hs (betM M) k = hs M k := hs_congr (betM_nk (by decide)) (by rw [betM_nk (by decide)])
theorem hcN_bet {M : MM} : hcN (betM M) = hcN M := hcN_congr (betM_nk (by decide)) (by rw [betM_nk (by decide)])
theorem pul_bet {M : MM} {a b : Nat} : pulZ (betM M) a b = pulZ M a b := by
  unfold pulZ tieN
  rw [betM_nk (t := 39) (by decide), betM_nk (t := 36) (by decide), betM_nk (t := 35) (by decide)]
set_option maxHeartbeats 8000000 in
set_option maxRecDepth 100000 in
theorem c_X2_mend (l : Launch) (D : va_G) (cy : Nat → ClassId) (base : Nat) (Λ : LY) (σ : HS) (M : MM) (hC : CR noEx Λ σ M) (hB : MBd M) (hR : M 31 10 ≤ 6) (hY : ∀ a b, a < 40 → b < 40 → pulZ M a b = pulZ M b a) : Met l yX2_mend wsX2_mend ({ frames := 20, cells := 0, slots := 0, locals := 300 }) (va_Pc [.ref (gA Λ 18 0)] (Wd D cy base Λ σ)) (va_Qi (fun v u => v = nI (btr 100 M).1 ∧ CR noEx Λ u (btr 100 M).2 ∧ Same nMe σ u) (Wd D cy base Λ) (Ab base)) 0 0 (Ab base) := by
  refine j_start (cc := cX2_mend) (nL := 2) (ret := (some .int)) (lv := [(0, .ref (gA Λ 18 0))]) (by decide) rfl (Nat.le_of_ble_eq_true rfl) rfl ?_
  intro p e s m below meth c C hr hlk hnm
  have C : Cx p s m ([.ref (gA Λ 18 0)] : List Value).toArray c cX2_mend 2 RX2 wsX2_mend D cy base := C
  have hts := C.2.2.2.2.1
  have hwX2 : ∀ w ∈ u_ws RX2 TX2 6, w ∈ wsX2_mend := by decide +kernel
  have hwX4 : ∀ w ∈ u_ws RX4 TX4 6, w ∈ wsX2_mend := by decide +kernel
  have hM15 : (Cond.fieldLink RX2 15 (TX2 0).1 (TX2 0).2.1 (TX2 0).2.2.1).before ([.ref (gA Λ 18 0)] : List Value).toArray s = true := hts (.fieldLink RX2 15 "CodeRooms$Mender" "plan" "LCodeRooms$Plan;") (by decide +kernel)
  have hL15 : FL RX2 15 (TX2 0).1 (TX2 0).2.1 (TX2 0).2.2.1 ([.ref (gA Λ 18 0)] : List Value).toArray s := Or.inl hM15
  have hL22 : FL RX2 22 (TX4 5).1 (TX4 5).2.1 (TX4 5).2.2.1 ([.ref (gA Λ 18 0)] : List Value).toArray s := Or.inr ⟨_, Ex.nestF C.2.2.2.2.2.2 nf_X2_22⟩
  have hL28 : FL RX2 28 (TX4 1).1 (TX4 1).2.1 (TX4 1).2.2.1 ([.ref (gA Λ 18 0)] : List Value).toArray s := Or.inr ⟨_, Ex.nestF C.2.2.2.2.2.2 nf_X2_28⟩
  have hn : M 31 5 ≤ 40 := hB 31 5 rfl
  have hhc0 := hcN_le M
  refine j_aload_n C dX2_mend_0 rfl 0 rfl ?_
  refine c_v0 C (r_V C 18 0 [] (c_X2_countSizes l D cy base Λ σ M hC hB) (cwV 0 hts gX2_mend_X2_countSizes rfl rfl rfl (by decide +kernel) ⟨by decide, by decide⟩) (CR.n1 hC (by decide)) rfl rfl rfl rfl (Nat.le_of_ble_eq_true rfl) dX2_mend_1 ⟨by decide, by decide⟩) (fun u0 hp => ?_)
  obtain ⟨hG0, hS0, hj0, hv0⟩ := hp
  refine j_iconst C (nI 0) dX2_mend_4 (by decide) ?_
  refine j_istore_n C [(1, .int (nI 0)), (0, .ref (gA Λ 18 0))] dX2_mend_5 rfl (by decide) rfl ?_
  have lb6 : ∀ (fu : Nat) (σ1 : HS) (i : Nat), (hcN M - i) < fu → (i ≤ hcN M) → (GM σ σ1) → (PS σ1 M) → (∀ k, k < i → PP σ1 M (hs M k)) → J p l e ({ frames := 20, cells := 0, slots := 0, locals := 300 }) s m ([.ref (gA Λ 18 0)] : List Value).toArray below meth c 2 D cy base (MQ below (va_Qi (fun v u => v = nI (btr 100 M).1 ∧ CR noEx Λ u (btr 100 M).2 ∧ Same nMe σ u) (Wd D cy base Λ) (Ab base)) ([.ref (gA Λ 18 0)] : List Value).toArray s 0 0 (Ab base)) 0 0 Λ 6 [(0, .ref (gA Λ 18 0)), (1, .int (nI i))] [] σ1 := by
    intro fu
    induction fu with
    | zero => intro σ1 i hfu; exact absurd hfu (Nat.not_lt_zero _)
    | succ fu ih =>
      intro σ1 i hfu hi hG1 hS1 hP1
      have ih6 := ih
      refine j_iload_n C dX2_mend_6 rfl 1 rfl ?_
      refine j_aload_n C dX2_mend_7 rfl 0 rfl ?_
      refine j_getV C hwX2 18 0 0 (CR.n1 (hG1.cr hC) (by decide)) rfl rfl (by decide) rfl 0 (CR.v (hG1.cr hC) 18 0 0 ⟨rfl, by decide⟩ id) hL15 dX2_mend_8 ?_
      have hhc11 := hcN_le M
      refine j_getI C hwX4 3 0 5 (CR.n1 (hG1.cr hC) (by decide)) rfl rfl (by decide) rfl (nI (hcN M)) (CR.i (hG1.cr hC) 3 0 5 ⟨rfl, Or.inr rfl⟩ id) hL22 dX2_mend_11 ?_
      refine j_icmp_ge (tgt := 36) C dX2_mend_14 (by decide) (nI_leI (by omega) (by omega)) (fun h14 => ?_) (fun h14 => ?_)
      · refine j_iconst C (nI 0) dX2_mend_36 (by decide) ?_
        refine j_istore_n C [(1, .int (nI 0)), (0, .ref (gA Λ 18 0))] dX2_mend_37 rfl (by decide) rfl ?_
        have lb38 : ∀ (fu : Nat) (σ2 : HS) (M2 : MM) (t : Nat), (100 - t) < fu → (t ≤ 100) → (CR noEx Λ σ2 M2) → (MBd M2) → (M2 31 10 ≤ 6) → (∀ a b, a < 40 → b < 40 → pulZ M2 a b = pulZ M2 b a) → (PS σ2 M2) → (∀ i, i < hcN M2 → PP σ2 M2 (hs M2 i)) → (Same nMe σ σ2) → (btr 100 M = ((btr (100 - t) M2).1 + t, (btr (100 - t) M2).2)) → J p l e ({ frames := 20, cells := 0, slots := 0, locals := 300 }) s m ([.ref (gA Λ 18 0)] : List Value).toArray below meth c 2 D cy base (MQ below (va_Qi (fun v u => v = nI (btr 100 M).1 ∧ CR noEx Λ u (btr 100 M).2 ∧ Same nMe σ u) (Wd D cy base Λ) (Ab base)) ([.ref (gA Λ 18 0)] : List Value).toArray s 0 0 (Ab base)) 0 0 Λ 38 [(0, .ref (gA Λ 18 0)), (1, .int (nI t))] [] σ2 := by
          intro fu
          induction fu with
          | zero => intro σ2 M2 t hfu; exact absurd hfu (Nat.not_lt_zero _)
          | succ fu ih =>
            intro σ2 M2 t hfu ht hC2 hB2 hR2 hY2 hS2 hP2 hs2 hb2
            have ih38 := ih
            refine j_iload_n C dX2_mend_38 rfl 1 rfl ?_
            refine j_bipush C (nI 100) dX2_mend_39 (by decide) ?_
            refine j_icmp_ge (tgt := 61) C dX2_mend_41 (by decide) (nI_leI (by omega) (by omega)) (fun h41 => ?_) (fun h41 => ?_)
            · refine j_iload_n C dX2_mend_61 rfl 1 rfl ?_
              exact j_iret C hr hlk (⟨by rw [hb2, show 100 - t = 0 by omega]; exact congrArg nI (by show t = 0 + t; omega), by rw [hb2, show 100 - t = 0 by omega]; exact hC2, hs2⟩) dX2_mend_62
            · refine j_aload_n C dX2_mend_44 rfl 0 rfl ?_
              refine c_i0 C (r_V C 18 0 [] (c_X2_findStep l D cy base Λ σ2 M2 hC2 hB2 hR2 hY2 hS2 hP2) (cwV 0 hts gX2_mend_X2_findStep rfl rfl rfl (by decide +kernel) ⟨by decide, by decide⟩) (CR.n1 hC2 (by decide)) rfl rfl rfl rfl (Nat.le_of_ble_eq_true rfl) dX2_mend_45 ⟨by decide, by decide⟩) (fun rv u3 hp => ?_)
              obtain ⟨hp1, hF3, hz3⟩ := hp
              rw [hp1]
              refine j_ifeq_b (tgt := 61) C dX2_mend_48 (by decide) (fun h48 => ?_) (fun h48 => ?_)
              · refine j_iload_n C dX2_mend_61 rfl 1 rfl ?_
                exact j_iret C hr hlk (⟨by rw [hb2, btr_no _ h48]; exact congrArg nI (by omega), by rw [hb2, btr_no _ h48]; exact hF3.gm.cr hC2, Same.tr hs2 hF3.gm.same⟩) dX2_mend_62
              · refine j_aload_n C dX2_mend_51 rfl 0 rfl ?_
                have hm3 : (bstS M2).2.1 ≠ 0 := by simpa [betB] using h48
                have hS3 := hF3.ps hS2
                have hP3 : ∀ i, i < hcN M2 → PP u3 M2 (hs M2 i) := fun i hi => hF3.pp (hP2 i hi)
                by_cases h03 : (bstS M2).2.2.1 = 0
                · refine c_v0 C (r_V C 18 0 [] (c_take_m l D cy base Λ u3 M2 (hF3.gm.cr hC2) hB2 hR2 hS3 hP3 hz3 hm3 h03) (cwV 0 hts gX2_mend_X2_takeStep rfl rfl rfl (by decide +kernel) ⟨by decide, by decide⟩) (CR.n1 (hF3.gm.cr hC2) (by decide)) rfl rfl rfl rfl (Nat.le_of_ble_eq_true rfl) dX2_mend_52 ⟨by decide, by decide⟩) (fun u4 hp => ?_)
                  obtain ⟨hC4, hS4, hP4, hs4⟩ := hp
                  refine j_iinc C [(1, .int (nI (t + 1))), (0, .ref (gA Λ 18 0))] (nI (t + 1)) dX2_mend_55 1 rfl (nI_add _ 1) (by decide) rfl ?_
                  refine j_goto (tgt := 38) C dX2_mend_58 (by decide) ?_
                  refine j_lv [1, 0] rfl ?_
                  exact ih38 u4 (betM M2) (t + 1) (by omega) (by omega) hC4 (betM_B hB2 hR2) (by rw [betM_nk (by decide)]; exact hR2) (fun a b ha hb => by rw [pul_bet, pul_bet]; exact hY2 a b ha hb) hS4 (fun i hi => by rw [hs_bet]; rw [hcN_bet] at hi; exact hP4 i hi) (Same.tr (Same.tr hs2 hF3.gm.same) hs4) (by rw [hb2, show 100 - t = (100 - (t + 1)) + 1 by omega, btr_yes _ h48]; congr 1; omega)
                · refine c_v0 C (r_V C 18 0 [] (c_take_s l D cy base Λ u3 M2 (hF3.gm.cr hC2) hB2 hR2 hS3 hP3 hz3 hm3 h03) (cwV 0 hts gX2_mend_X2_takeStep rfl rfl rfl (by decide +kernel) ⟨by decide, by decide⟩) (CR.n1 (hF3.gm.cr hC2) (by decide)) rfl rfl rfl rfl (Nat.le_of_ble_eq_true rfl) dX2_mend_52 ⟨by decide, by decide⟩) (fun u4 hp => ?_)
                  obtain ⟨hC4, hS4, hP4, hs4⟩ := hp
                  refine j_iinc C [(1, .int (nI (t + 1))), (0, .ref (gA Λ 18 0))] (nI (t + 1)) dX2_mend_55 1 rfl (nI_add _ 1) (by decide) rfl ?_
                  refine j_goto (tgt := 38) C dX2_mend_58 (by decide) ?_
                  refine j_lv [1, 0] rfl ?_
                  exact ih38 u4 (betM M2) (t + 1) (by omega) (by omega) hC4 (betM_B hB2 hR2) (by rw [betM_nk (by decide)]; exact hR2) (fun a b ha hb => by rw [pul_bet, pul_bet]; exact hY2 a b ha hb) hS4 (fun i hi => by rw [hs_bet]; rw [hcN_bet] at hi; exact hP4 i hi) (Same.tr (Same.tr hs2 hF3.gm.same) hs4) (by rw [hb2, show 100 - t = (100 - (t + 1)) + 1 by omega, btr_yes _ h48]; congr 1; omega)
        refine j_lv [1, 0] rfl ?_
        exact lb38 _ σ1 M 0 (Nat.lt_succ_self _) (by omega) (hG1.cr hC) hB hR hY hS1 (fun i2 hi2 => hP1 i2 (by omega)) hG1.same rfl
      · refine j_aload_n C dX2_mend_17 rfl 0 rfl ?_
        refine j_aload_n C dX2_mend_18 rfl 0 rfl ?_
        refine j_getV C hwX2 18 0 0 (CR.n1 (hG1.cr hC) (by decide)) rfl rfl (by decide) rfl 0 (CR.v (hG1.cr hC) 18 0 0 ⟨rfl, by decide⟩ id) hL15 dX2_mend_19 ?_
        refine j_getV C hwX4 3 0 1 (CR.n1 (hG1.cr hC) (by decide)) rfl rfl (by decide) rfl 0 (CR.v (hG1.cr hC) 3 0 1 ⟨rfl, by decide⟩ id) hL28 dX2_mend_22 ?_
        refine j_iload_n C dX2_mend_25 rfl 1 rfl ?_
        have hhs26 := hs_lt (M := M) (k := i) (by omega)
        have hhn26 := hs_nh (M := M) (k := i) (by omega)
        refine j_aald C 5 0 i (CR.n1 (hG1.cr hC) (by decide)) rfl (by decide) (by decide) 40 (CR.l1 (hG1.cr hC) (by decide)) (by omega) (by omega) (hs M i) (CR.v (hG1.cr hC) 5 0 i ⟨rfl, by omega⟩ id) dX2_mend_26 ?_
        refine c_v0 C (r_V C 18 0 [.ref (gA Λ 8 (hs M i))] (c_X2_weighPulls l D cy base Λ σ1 M (hG1.cr hC) hB (hs M i) (by omega)) (cwV 1 hts gX2_mend_X2_weighPulls rfl rfl rfl (by decide +kernel) ⟨by decide, by decide⟩) (CR.n1 (hG1.cr hC) (by decide)) rfl rfl rfl rfl (Nat.le_of_ble_eq_true rfl) dX2_mend_27 ⟨by decide, by decide⟩) (fun u7 hp => ?_)
        obtain ⟨hG7, hp7, hx7, hi7, hv7⟩ := hp
        have hGG7 := GM.tr hG1 hG7
        refine j_iinc C [(1, .int (nI (i + 1))), (0, .ref (gA Λ 18 0))] (nI (i + 1)) dX2_mend_30 1 rfl (nI_add _ 1) (by decide) rfl ?_
        refine j_goto (tgt := 6) C dX2_mend_33 (by decide) ?_
        refine j_lv [1, 0] rfl ?_
        exact ih6 u7 (i + 1) (by omega) (by omega) hGG7 (fun k hk => by rw [hi7]; exact hS1 k hk) (fun k hk q hq => by by_cases e : k = i; rw [e]; exact hp7 q hq; rw [hx7 _ (fun z => e (hs_inj (by omega) (by omega) z))]; exact hP1 k (by omega) q hq)
  refine j_lv [1, 0] rfl ?_
  exact lb6 _ u0 0 (Nat.lt_succ_self _) (by omega) hG0 hS0 (fun k hk => absurd hk (Nat.not_lt_zero _))
