set_option maxHeartbeats 4000000 in
set_option maxRecDepth 100000 in
theorem c_X4_squares (l : Launch) (D : va_G) (cy : Nat → ClassId) (base : Nat) (Λ : LY) (σ : HS) (M : MM) (hC : CR noEx Λ σ M) (hB : MBd M) : Met l yX4_squares wsX4_squares ({ frames := 8, cells := 0, slots := 0, locals := 120 }) (va_Pc [.ref (gA Λ 3 0)] (Wd D cy base Λ σ)) (va_Qi (fun v u => v = nI (fb_sm (fun room => szN M room * szN M room) 6) ∧ G7 σ u) (Wd D cy base Λ) (Ab base)) 0 0 (Ab base) := by
  refine j_start (cc := cX4_squares) (nL := 4) (ret := (some .int)) (lv := [(0, .ref (gA Λ 3 0))]) (by decide) rfl (Nat.le_of_ble_eq_true rfl) rfl ?_
  intro p e s m below meth c C hr hlk hnm
  have C : Cx p s m ([.ref (gA Λ 3 0)] : List Value).toArray c cX4_squares 4 RX4 wsX4_squares D cy base := C
  have hts := C.2.2.2.2.1
  have hwX4 : ∀ w ∈ u_ws RX4 TX4 6, w ∈ wsX4_squares := by decide +kernel
  have hM24 : (Cond.fieldLink RX4 24 (TX4 3).1 (TX4 3).2.1 (TX4 3).2.2.1).before ([.ref (gA Λ 3 0)] : List Value).toArray s = true := hts (.fieldLink RX4 24 "CodeRooms$Plan" "members" "[J") (by decide +kernel)
  have hL24 : FL RX4 24 (TX4 3).1 (TX4 3).2.1 (TX4 3).2.2.1 ([.ref (gA Λ 3 0)] : List Value).toArray s := Or.inl hM24
  have hn : M 31 5 ≤ 40 := hB 31 5 rfl
  refine j_aload_n C dX4_squares_0 rfl 0 rfl ?_
  refine c_v0 C (r_V C 3 0 [] (c_X4_gather l D cy base Λ σ M hC hB) (cwV 0 hts gX4_squares_X4_gather rfl rfl rfl (by decide +kernel) ⟨by decide, by decide⟩) (CR.n1 hC (by decide)) rfl rfl rfl rfl (Nat.le_of_ble_eq_true rfl) dX4_squares_1 ⟨by decide, by decide⟩) (fun ug_1 hp => ?_)
  obtain ⟨hGg_1, hmg_1⟩ := hp
  have hCg_1 := hGg_1.cr hC
  refine j_iconst C (nI 0) dX4_squares_4 (by decide) ?_
  refine j_istore_n C [(1, .int (nI 0)), (0, .ref (gA Λ 3 0))] dX4_squares_5 rfl (by decide) rfl ?_
  refine j_iconst C (nI 0) dX4_squares_6 (by decide) ?_
  refine j_istore_n C [(2, .int (nI 0)), (1, .int (nI 0)), (0, .ref (gA Λ 3 0))] dX4_squares_7 rfl (by decide) rfl ?_
  have lb8 : ∀ (fu : Nat) (a k : Nat), (6 - k) < fu → (k ≤ 6) → (a = fb_sm (fun room => szN M room * szN M room) k) → J p l e ({ frames := 8, cells := 0, slots := 0, locals := 120 }) s m ([.ref (gA Λ 3 0)] : List Value).toArray below meth c 4 D cy base (MQ below (va_Qi (fun v u => v = nI (fb_sm (fun room => szN M room * szN M room) 6) ∧ G7 σ u) (Wd D cy base Λ) (Ab base)) ([.ref (gA Λ 3 0)] : List Value).toArray s 0 0 (Ab base)) 0 0 Λ 8 [(0, .ref (gA Λ 3 0)), (1, .int (nI a)), (2, .int (nI k))] [] ug_1 := by
    intro fu
    induction fu with
    | zero => intro a k hfu; exact absurd hfu (Nat.not_lt_zero _)
    | succ fu ih =>
      intro a k hfu hk ha
      have ih8 := ih
      refine j_iload_n C dX4_squares_8 rfl 2 rfl ?_
      refine j_bipush C (nI 6) dX4_squares_9 (by decide) ?_
      refine j_icmp_ge (tgt := 36) C dX4_squares_11 (by decide) (nI_leI (by omega) (by omega)) (fun h11 => ?_) (fun h11 => ?_)
      · refine j_iload_n C dX4_squares_36 rfl 1 rfl ?_
        exact j_iret C hr hlk (⟨by rw [ha, show k = 6 by omega], hGg_1⟩) dX4_squares_37
      · refine j_aload_n C dX4_squares_14 rfl 0 rfl ?_
        refine j_getV C hwX4 3 0 3 (CR.n1 hCg_1 (by decide)) rfl rfl (by decide) rfl 0 (CR.v hCg_1 3 0 3 ⟨rfl, by decide⟩ id) hL24 dX4_squares_15 ?_
        refine j_iload_n C dX4_squares_18 rfl 2 rfl ?_
        refine j_lald C 7 0 k (CR.n1 hCg_1 (by decide)) rfl rfl 6 (CR.l1 hCg_1 (by decide)) (by omega) (by omega) (lN (memS M k)) (hmg_1 _ (by omega)) dX4_squares_19 ?_
        refine c_i0 C (r_S C [.long (lN (memS M k))] (c_J13_bitCount_95d88 l D cy base Λ ug_1 (memS M k) (bitS_40 hn)) (va_cwS 1 hts gX4_squares_J13_bitCount_95d88 rfl rfl rfl (by decide +kernel) ⟨by decide, by decide⟩) rfl rfl (Nat.le_of_ble_eq_true rfl) dX4_squares_20 ⟨by decide, by decide⟩) (fun rv uu hp => ?_)
        rw [hp.1, hp.2, szN_mem hn]
        refine j_istore_n C [(3, .int (nI (szN M k))), (0, .ref (gA Λ 3 0)), (1, .int (nI a)), (2, .int (nI k))] dX4_squares_23 rfl (by decide) rfl ?_
        refine j_iload_n C dX4_squares_24 rfl 2 rfl ?_
        refine j_iload_n C dX4_squares_25 rfl 0 rfl ?_
        refine j_iload_n C dX4_squares_26 rfl 0 rfl ?_
        refine j_imul C (nI ((szN M k) * (szN M k))) dX4_squares_27 (pk_mul _ _) ?_
        refine j_iadd C (nI (a + ((szN M k) * (szN M k)))) dX4_squares_28 (nI_add _ _) ?_
        refine j_istore_n C [(1, .int (nI (a + ((szN M k) * (szN M k))))), (3, .int (nI (szN M k))), (0, .ref (gA Λ 3 0)), (2, .int (nI k))] dX4_squares_29 rfl (by decide) rfl ?_
        refine j_iinc C [(2, .int (nI (k + 1))), (1, .int (nI (a + ((szN M k) * (szN M k))))), (3, .int (nI (szN M k))), (0, .ref (gA Λ 3 0))] (nI (k + 1)) dX4_squares_30 3 rfl (nI_add _ 1) (by decide) rfl ?_
        refine j_goto (tgt := 8) C dX4_squares_33 (by decide) ?_
        refine j_lv [3, 1, 0] rfl ?_
        exact ih8 (a + ((szN M k) * (szN M k))) (k + 1) (by omega) (by omega) (by rw [fb_sm_succ, ha])
  refine j_lv [2, 1, 0] rfl ?_
  exact lb8 _ 0 0 (Nat.lt_succ_self _) (by omega) rfl

set_option maxHeartbeats 4000000 in
set_option maxRecDepth 100000 in
theorem c_X4_price (l : Launch) (D : va_G) (cy : Nat → ClassId) (base : Nat) (Λ : LY) (σ : HS) (M : MM) (hC : CR noEx Λ σ M) (hB : MBd M) (hW : ∀ r, r < M 31 5 → M 37 r = 0 → M 38 r < M 31 10) (hR : M 31 10 ≤ 6) : Met l yX4_price wsX4_price ({ frames := 12, cells := 0, slots := 0, locals := 180 }) (va_Pc [.ref (gA Λ 3 0)] (Wd D cy base Λ σ)) (va_Ql (fun v u => v = zL (costN M : Int) ∧ G7 σ u) (Wd D cy base Λ) (Ab base)) 0 0 (Ab base) := by
  refine j_start (cc := cX4_price) (nL := 1) (ret := (some .long)) (lv := [(0, .ref (gA Λ 3 0))]) (by decide) rfl (Nat.le_of_ble_eq_true rfl) rfl ?_
  intro p e s m below meth c C hr hlk hnm
  have C : Cx p s m ([.ref (gA Λ 3 0)] : List Value).toArray c cX4_price 1 RX4 wsX4_price D cy base := C
  have hts := C.2.2.2.2.1
  have hC106 : (Jvm.Cond.constantLong RX4 106 1000000).before ([.ref (gA Λ 3 0)] : List Value).toArray s = true := hts _ (by decide +kernel)
  have hn : M 31 5 ≤ 40 := hB 31 5 rfl
  have hbk := brkN_le hn
  have hev : M 31 8 ≤ 100 := hB 31 8 rfl
  have hsq := sq_le hn
  refine j_ldc2 C (zL 1000000) hC106 dX4_price_0 (by decide) ?_
  refine j_aload_n C dX4_price_3 rfl 0 rfl ?_
  refine c_i0 C (r_V C 3 0 [] (c_X4_brokenMusts l D cy base Λ σ M hC hB) (cwV 0 hts gX4_price_X4_brokenMusts rfl rfl rfl (by decide +kernel) ⟨by decide, by decide⟩) (CR.n1 hC (by decide)) rfl rfl rfl rfl (Nat.le_of_ble_eq_true rfl) dX4_price_4 ⟨by decide, by decide⟩) (fun rv uu hp => ?_)
  rw [hp.1, hp.2]
  refine j_i2l C (zL (brkN M : Int)) dX4_price_7 (nI_zL (by omega)) ?_
  refine j_lmul C (zL (1000000 * (brkN M : Int))) dX4_price_8 (zL_mul _ _) ?_
  refine j_aload_n C dX4_price_9 rfl 0 rfl ?_
  refine c_i0 C (r_V C 3 0 [] (c_X4_even l D cy base Λ σ M hC hB) (cwV 0 hts gX4_price_X4_even rfl rfl rfl (by decide +kernel) ⟨by decide, by decide⟩) (CR.n1 hC (by decide)) rfl rfl rfl rfl (Nat.le_of_ble_eq_true rfl) dX4_price_10 ⟨by decide, by decide⟩) (fun rv uu hp => ?_)
  rw [hp.1, hp.2]
  refine j_i2l C (zL (M 31 8 : Int)) dX4_price_13 (nI_zL (by omega)) ?_
  refine j_aload_n C dX4_price_14 rfl 0 rfl ?_
  refine c_i0 C (r_V C 3 0 [] (c_X4_squares l D cy base Λ σ M hC hB) (cwV 0 hts gX4_price_X4_squares rfl rfl rfl (by decide +kernel) ⟨by decide, by decide⟩) (CR.n1 hC (by decide)) rfl rfl rfl rfl (Nat.le_of_ble_eq_true rfl) dX4_price_15 ⟨by decide, by decide⟩) (fun rv ug hp => ?_)
  obtain ⟨hp1, hGg⟩ := hp
  have hCg := hGg.cr hC
  rw [hp1]
  refine j_i2l C (zL (fb_sm (fun room => szN M room * szN M room) 6 : Int)) dX4_price_18 (nI_zL (by omega)) ?_
  refine j_lmul C (zL ((M 31 8 : Int) * (fb_sm (fun room => szN M room * szN M room) 6 : Int))) dX4_price_19 (zL_mul _ _) ?_
  refine j_ladd C (zL ((1000000 * (brkN M : Int)) + ((M 31 8 : Int) * (fb_sm (fun room => szN M room * szN M room) 6 : Int)))) dX4_price_20 (zL_add _ _) ?_
  refine j_aload_n C dX4_price_21 rfl 0 rfl ?_
  refine c_l0 C (r_V C 3 0 [] (c_X4_tiesBetweenRooms l D cy base Λ ug M hCg hB) (cwV 0 hts gX4_price_X4_tiesBetweenRooms rfl rfl rfl (by decide +kernel) ⟨by decide, by decide⟩) (CR.n1 hCg (by decide)) rfl rfl rfl rfl (Nat.le_of_ble_eq_true rfl) dX4_price_22 ⟨by decide, by decide⟩) (fun rv uu hp => ?_)
  rw [hp.1, hp.2]
  refine j_ladd C (zL (((1000000 * (brkN M : Int)) + ((M 31 8 : Int) * (fb_sm (fun room => szN M room * szN M room) 6 : Int))) + ((fb_sm (fun a => fb_sm (cutT M a) (M 31 5)) (M 31 5) : Nat) : Int))) dX4_price_25 (zL_add _ _) ?_
  exact j_lret C hr hlk (⟨by congr 1; unfold costN; rw [← sq_all hR hW]; simp only [Int.natCast_add, Int.natCast_mul]; omega, hGg⟩) dX4_price_26

set_option maxHeartbeats 4000000 in
set_option maxRecDepth 100000 in
theorem c_roomCountH (l : Launch) (D : va_G) (cy : Nat → ClassId) (base : Nat) (Λ : LY) (σ : HS) (M : MM) (hC : CR exH Λ σ M) (hB : MBd M) : Met l yX4_roomCount wsX4_roomCount ({ frames := 4, cells := 0, slots := 0, locals := 60 }) (va_Pc [.ref (gA Λ 3 0)] (Wd D cy base Λ σ)) (va_Qi (fun v u => v = nI (M 31 10) ∧ u = σ) (Wd D cy base Λ) (Ab base)) 0 0 (Ab base) := by
  refine j_start (cc := cX4_roomCount) (nL := 1) (ret := (some .int)) (lv := [(0, .ref (gA Λ 3 0))]) (by decide) rfl (Nat.le_of_ble_eq_true rfl) rfl ?_
  intro p e s m below meth c C hr hlk hnm
  have C : Cx p s m ([.ref (gA Λ 3 0)] : List Value).toArray c cX4_roomCount 1 RX4 wsX4_roomCount D cy base := C
  have hts := C.2.2.2.2.1
  have hwX4 : ∀ w ∈ u_ws RX4 TX4 6, w ∈ wsX4_roomCount := by decide +kernel
  have hM20 : (Cond.fieldLink RX4 20 (TX4 2).1 (TX4 2).2.1 (TX4 2).2.2.1).before ([.ref (gA Λ 3 0)] : List Value).toArray s = true := hts (.fieldLink RX4 20 "CodeRooms$Plan" "settings" "[I") (by decide +kernel)
  have hL20 : FL RX4 20 (TX4 2).1 (TX4 2).2.1 (TX4 2).2.2.1 ([.ref (gA Λ 3 0)] : List Value).toArray s := Or.inl hM20
  refine j_aload_n C dX4_roomCount_0 rfl 0 rfl ?_
  refine j_getV C hwX4 3 0 2 (CR.n1 hC (by decide)) rfl rfl (by decide) rfl 0 (CR.v hC 3 0 2 ⟨rfl, by decide⟩ (exH_no (by decide) (by decide))) hL20 dX4_roomCount_1 ?_
  refine j_iconst C (nI 5) dX4_roomCount_4 (by decide) ?_
  have hb5 : M 31 10 ≤ 40 := hB 31 10 rfl
  refine j_iald C 6 0 5 (CR.n1 hC (by decide)) rfl rfl 6 (CR.l1 hC (by decide)) (by omega) (by omega) (nI (M 31 10)) (CR.i hC 6 0 5 ⟨rfl, by decide⟩ (exH_nt (by decide) (by decide))) dX4_roomCount_5 ?_
  exact j_iret C hr hlk (⟨rfl, rfl⟩) dX4_roomCount_6

set_option maxHeartbeats 8000000 in
set_option maxRecDepth 100000 in
theorem c_X4_settle (l : Launch) (D : va_G) (cy : Nat → ClassId) (base : Nat) (Λ : LY) (σ : HS) (M : MM) (hC : CR exH Λ σ M) (hB : MBd M) : Met l yX4_settle wsX4_settle ({ frames := 8, cells := 0, slots := 0, locals := 120 }) (va_Pc [.ref (gA Λ 3 0)] (Wd D cy base Λ σ)) (va_Qv (fun u => CR noEx Λ u (settle M) ∧ Same nSt σ u ∧ ∀ t, t ≠ 5 → gV u t = gV σ t) (Wd D cy base Λ) (Ab base)) 0 0 (Ab base) := by
  refine j_start (cc := cX4_settle) (nL := 3) (ret := none) (lv := [(0, .ref (gA Λ 3 0))]) (by decide) rfl (Nat.le_of_ble_eq_true rfl) rfl ?_
  intro p e s m below meth c C hr hlk hnm
  have C : Cx p s m ([.ref (gA Λ 3 0)] : List Value).toArray c cX4_settle 3 RX4 wsX4_settle D cy base := C
  have hts := C.2.2.2.2.1
  have hwX4 : ∀ w ∈ u_ws RX4 TX4 6, w ∈ wsX4_settle := by decide +kernel
  have hwX5 : ∀ w ∈ u_ws RX5 TX5 13, w ∈ wsX4_settle := by decide +kernel
  have hM11 : (Cond.fieldLink RX4 11 (TX4 0).1 (TX4 0).2.1 (TX4 0).2.2.1).before ([.ref (gA Λ 3 0)] : List Value).toArray s = true := hts (.fieldLink RX4 11 "CodeRooms$Plan" "routines" "[LCodeRooms$Routine;") (by decide +kernel)
  have hL11 : FL RX4 11 (TX4 0).1 (TX4 0).2.1 (TX4 0).2.2.1 ([.ref (gA Λ 3 0)] : List Value).toArray s := Or.inl hM11
  have hM17 : (Cond.fieldLink RX4 17 (TX4 1).1 (TX4 1).2.1 (TX4 1).2.2.1).before ([.ref (gA Λ 3 0)] : List Value).toArray s = true := hts (.fieldLink RX4 17 "CodeRooms$Plan" "housed" "[LCodeRooms$Routine;") (by decide +kernel)
  have hL17 : FL RX4 17 (TX4 1).1 (TX4 1).2.1 (TX4 1).2.2.1 ([.ref (gA Λ 3 0)] : List Value).toArray s := Or.inl hM17
  have hM20 : (Cond.fieldLink RX4 20 (TX4 2).1 (TX4 2).2.1 (TX4 2).2.2.1).before ([.ref (gA Λ 3 0)] : List Value).toArray s = true := hts (.fieldLink RX4 20 "CodeRooms$Plan" "settings" "[I") (by decide +kernel)
  have hL20 : FL RX4 20 (TX4 2).1 (TX4 2).2.1 (TX4 2).2.2.1 ([.ref (gA Λ 3 0)] : List Value).toArray s := Or.inl hM20
  have hM28 : (Cond.fieldLink RX4 28 (TX4 4).1 (TX4 4).2.1 (TX4 4).2.2.1).before ([.ref (gA Λ 3 0)] : List Value).toArray s = true := hts (.fieldLink RX4 28 "CodeRooms$Plan" "size" "I") (by decide +kernel)
  have hL28 : FL RX4 28 (TX4 4).1 (TX4 4).2.1 (TX4 4).2.2.1 ([.ref (gA Λ 3 0)] : List Value).toArray s := Or.inl hM28
  have hM83 : (Cond.fieldLink RX4 83 (TX4 5).1 (TX4 5).2.1 (TX4 5).2.2.1).before ([.ref (gA Λ 3 0)] : List Value).toArray s = true := hts (.fieldLink RX4 83 "CodeRooms$Plan" "housedCount" "I") (by decide +kernel)
  have hL83 : FL RX4 83 (TX4 5).1 (TX4 5).2.1 (TX4 5).2.2.1 ([.ref (gA Λ 3 0)] : List Value).toArray s := Or.inl hM83
  have hL86 : FL RX4 86 (TX5 7).1 (TX5 7).2.1 (TX5 7).2.2.1 ([.ref (gA Λ 3 0)] : List Value).toArray s := Or.inr ⟨_, Ex.nestF C.2.2.2.2.2.2 nf_X4_86⟩
  have hL95 : FL RX4 95 (TX5 12).1 (TX5 12).2.1 (TX5 12).2.2.1 ([.ref (gA Λ 3 0)] : List Value).toArray s := Or.inr ⟨_, Ex.nestF C.2.2.2.2.2.2 nf_X4_95⟩
  have hL99 : FL RX4 99 (TX5 11).1 (TX5 11).2.1 (TX5 11).2.2.1 ([.ref (gA Λ 3 0)] : List Value).toArray s := Or.inr ⟨_, Ex.nestF C.2.2.2.2.2.2 nf_X4_99⟩
  have hn : M 31 5 ≤ 40 := hB 31 5 rfl
  refine j_aload_n C dX4_settle_0 rfl 0 rfl ?_
  refine j_iconst C (nI 0) dX4_settle_1 (by decide) ?_
  refine j_putI C hwX4 3 0 5 (CR.n1 hC (by decide)) rfl rfl (by decide) rfl tyX4 tyX4_ok nmX4 rfl rfl rfl hL83 dX4_settle_2 ?_
  have hC_1 := CR.wI (t := 3) (i := 0) (k := 5) (x := nI 0) hC (Or.inl (Or.inl ⟨rfl, rfl⟩))
  have hs_2 := Same.sI (t := 3) (i := 0) (k := 5) (x := nI 0) (Same.rf : Same nSt σ σ) (by decide)
  refine j_iconst C (nI 0) dX4_settle_5 (by decide) ?_
  refine j_istore_n C [(1, .int (nI 0)), (0, .ref (gA Λ 3 0))] dX4_settle_6 rfl (by decide) rfl ?_
  have lb7 : ∀ (fu : Nat) (σ1 : HS) (i : Nat), (M 31 5 - i) < fu → (i ≤ M 31 5) → (CR exH Λ σ1 (settleTo M i)) → (gI σ1 3 0 5 = nI (rkN (settle M) i)) → (∀ k, k < rkN (settle M) i → gV σ1 5 0 k = some (hs (settle M) k)) → (Same nSt σ σ1) → (∀ t, t ≠ 5 → gV σ1 t = gV σ t) → J p l e ({ frames := 8, cells := 0, slots := 0, locals := 120 }) s m ([.ref (gA Λ 3 0)] : List Value).toArray below meth c 3 D cy base (MQ below (va_Qv (fun u => CR noEx Λ u (settle M) ∧ Same nSt σ u ∧ ∀ t, t ≠ 5 → gV u t = gV σ t) (Wd D cy base Λ) (Ab base)) ([.ref (gA Λ 3 0)] : List Value).toArray s 0 0 (Ab base)) 0 0 Λ 7 [(0, .ref (gA Λ 3 0)), (1, .int (nI i))] [] σ1 := by
    intro fu
    induction fu with
    | zero => intro σ1 i hfu; exact absurd hfu (Nat.not_lt_zero _)
    | succ fu ih =>
      intro σ1 i hfu hi hC1 hcn hvv hs1 hv1
      have hrk := rkN_le (settle M) i
      have ih7 := ih
      refine j_iload_n C dX4_settle_7 rfl 1 rfl ?_
      refine j_aload_n C dX4_settle_8 rfl 0 rfl ?_
      refine j_getI C hwX4 3 0 4 (CR.n1 hC1 (by decide)) rfl rfl (by decide) rfl (nI (M 31 5)) (CR.i hC1 3 0 4 ⟨rfl, Or.inl rfl⟩ (exH_no (by decide) (by decide))) hL28 dX4_settle_9 ?_
      refine j_icmp_ge (tgt := 103) C dX4_settle_12 (by decide) (nI_leI (by omega) (by omega)) (fun h12 => ?_) (fun h12 => ?_)
      · exact j_vret C hr hlk (⟨by have q := hC1; rw [show i = M 31 5 by omega] at q hcn hvv; exact CR.full q hcn hvv, hs1, hv1⟩) dX4_settle_103
      · refine j_aload_n C dX4_settle_15 rfl 0 rfl ?_
        refine j_getV C hwX4 3 0 0 (CR.n1 hC1 (by decide)) rfl rfl (by decide) rfl 0 (CR.v hC1 3 0 0 ⟨rfl, by decide⟩ (exH_no (by decide) (by decide))) hL11 dX4_settle_16 ?_
        refine j_iload_n C dX4_settle_19 rfl 1 rfl ?_
        refine j_aald C 4 0 i (CR.n1 hC1 (by decide)) rfl (by decide) (by decide) 40 (CR.l1 hC1 (by decide)) (by omega) (by omega) i (CR.v hC1 4 0 i ⟨rfl, show i < M 31 5 by omega⟩ (exH_nt (by decide) (by decide))) dX4_settle_20 ?_
        refine j_astore_n C [(2, .ref (gA Λ 8 i)), (0, .ref (gA Λ 3 0)), (1, .int (nI i))] dX4_settle_21 rfl (by decide) rfl ?_
        refine j_aload_n C dX4_settle_22 rfl 0 rfl ?_
        refine j_aload_n C dX4_settle_23 rfl 0 rfl ?_
        refine j_getJ C hwX5 8 i 7 (CR.n8 hC1 (by decide) (show i < M 31 5 by omega)) rfl rfl (by decide) rfl (lN (bitS (tdB M i) (M 31 5))) (CR.j hC1 8 i 7 ⟨show i < M 31 5 by omega, Or.inr (Or.inl rfl)⟩ (exH_nt (by decide) (by decide))) hL86 dX4_settle_24 ?_
        refine c_i0 C (r_S C [.long (lN (bitS (tdB M i) (M 31 5)))] (c_J13_bitCount_95d88 l D cy base Λ σ1 (bitS (tdB M i) (M 31 5)) (bitS_40 hn)) (va_cwS 1 hts gX4_settle_J13_bitCount_95d88 rfl rfl rfl (by decide +kernel) ⟨by decide, by decide⟩) rfl rfl (Nat.le_of_ble_eq_true rfl) dX4_settle_27 ⟨by decide, by decide⟩) (fun rv uu hp => ?_)
        rw [hp.1, hp.2, deg_pop hn]
        have hdg := fb_ct_le (fun o => decide (o ≠ i) && decide (0 < tieN M i o)) (M 31 5)
        change deg M i ≤ M 31 5 at hdg
        refine j_aload_n C dX4_settle_30 rfl 1 rfl ?_
        refine j_getV C hwX4 3 0 2 (CR.n1 hC1 (by decide)) rfl rfl (by decide) rfl 0 (CR.v hC1 3 0 2 ⟨rfl, by decide⟩ (exH_no (by decide) (by decide))) hL20 dX4_settle_31 ?_
        refine j_iconst C (nI 4) dX4_settle_34 (by decide) ?_
        have hb35 : M 31 9 ≤ 40 := hB 31 9 rfl
        refine j_iald C 6 0 4 (CR.n1 hC1 (by decide)) rfl rfl 6 (CR.l1 hC1 (by decide)) (by omega) (by omega) (nI (M 31 9)) (CR.i hC1 6 0 4 ⟨rfl, by decide⟩ (exH_nt (by decide) (by decide))) dX4_settle_35 ?_
        refine j_icmp_le (tgt := 43) C dX4_settle_36 (by decide) (nI_leI (by omega) (by omega)) (fun h36 => ?_) (fun h36 => ?_)
        · refine j_iconst C (nI 0) dX4_settle_43 (by decide) ?_
          refine j_putI C hwX5 8 i 12 (CR.n8 hC1 (by decide) (show i < M 31 5 by omega)) rfl rfl (by decide) rfl tyX5 tyX5_ok nmX5 rfl (by first | rfl | exact nz_b _) (by first | rfl | exact fz_b _) hL95 dX4_settle_44 ?_
          have hC_7 := CR.hub (r := i) (x := 0) (v := nI 0) hC1 rfl
          have hs_8 := Same.sI (t := 8) (i := i) (k := 12) (x := nI 0) hs1 (by decide)
          refine j_aload_n C dX4_settle_47 rfl 0 rfl ?_
          refine j_getI C hwX5 8 i 12 (CR.n8 hC_7 (by decide) (show i < M 31 5 by omega)) rfl rfl (by decide) rfl (nI 0) (by rw [gI_same]) hL95 dX4_settle_48 ?_
          refine j_if_ne (tgt := 65) C (P := True) dX4_settle_51 (by decide) (by decide) (fun z => ?_) (fun z => ?_)
          · exact absurd trivial z
          · refine j_aload_n C dX4_settle_54 rfl 0 rfl ?_
            refine j_getI C hwX5 8 i 11 (CR.n8 hC_7 (by decide) (show i < M 31 5 by omega)) rfl rfl (by decide) rfl (nI (M 38 i)) (by rw [gI_sI, if_neg (by omega)]; exact (CR.i hC1 8 i 11 ⟨show i < M 31 5 by omega, Or.inr (Or.inr (Or.inl rfl))⟩ (exH_nt (by decide) (by decide))).trans (congrArg nI (settleTo_38 (Nat.le_refl _)))) hL99 dX4_settle_55 ?_
            refine j_aload_n C dX4_settle_58 rfl 1 rfl ?_
            refine c_i0 C (r_V C 3 0 [] (c_roomCountH l D cy base Λ (sI σ1 8 i 12 (nI 0)) _ hC_7 (MBd.set (settleTo_B hB i) (show 0 ≤ 1 by omega))) (cwV 0 hts gX4_settle_X4_roomCount rfl rfl rfl (by decide +kernel) ⟨by decide, by decide⟩) (CR.n1 hC_7 (by decide)) rfl rfl rfl rfl (Nat.le_of_ble_eq_true rfl) dX4_settle_59 ⟨by decide, by decide⟩) (fun rv uu hp => ?_)
            rw [hp.1.trans (show _ = nI (M 31 10) from rfl), hp.2]
            have hR40 : M 31 10 ≤ 40 := hB 31 10 rfl
            have hb38 : M 38 i ≤ 5 := hB 38 i (decide_eq_true (show i < 40 by omega))
            refine j_icmp_lt (tgt := 70) C dX4_settle_62 (by decide) (nI_ltI (by omega) (by omega)) (fun h62 => ?_) (fun h62 => ?_)
            · refine j_aload_n C dX4_settle_70 rfl 0 rfl ?_
              refine j_getI C hwX5 8 i 12 (CR.n8 hC_7 (by decide) (show i < M 31 5 by omega)) rfl rfl (by decide) rfl (nI 0) (by rw [gI_same]) hL95 dX4_settle_71 ?_
              refine j_if_ne (tgt := 97) C (P := True) dX4_settle_74 (by decide) (by decide) (fun z => ?_) (fun z => ?_)
              · exact absurd trivial z
              · refine j_aload_n C dX4_settle_77 rfl 1 rfl ?_
                refine j_getV C hwX4 3 0 1 (CR.n1 hC_7 (by decide)) rfl rfl (by decide) rfl 0 (CR.v hC_7 3 0 1 ⟨rfl, by decide⟩ (exH_no (by decide) (by decide))) hL17 dX4_settle_78 ?_
                refine j_aload_n C dX4_settle_81 rfl 1 rfl ?_
                refine j_getI C hwX4 3 0 5 (CR.n1 hC_7 (by decide)) rfl rfl (by decide) rfl (nI (rkN (settle M) i)) (by show gI (sI σ1 8 i 12 (nI 0)) 3 0 5 = _; rw [gI_sI, if_neg (by omega)]; exact hcn) hL83 dX4_settle_82 ?_
                refine j_aload_n C dX4_settle_85 rfl 0 rfl ?_
                refine j_aast C 5 0 (rkN (settle M) i) (CR.n1 hC_7 (by decide)) rfl rfl 40 (CR.l1 hC_7 (by decide)) (by omega) (by omega) rfl (CR.n8 hC_7 (by decide) (show i < M 31 5 by omega)) dX4_settle_86 ?_
                have hC_12 := CR.wV (t := 5) (i := 0) (k := (rkN (settle M) i)) (x := some i) hC_7 (by decide) (Or.inl (Or.inr rfl))
                have hs_13 := Same.sV (t := 5) (i := 0) (k := (rkN (settle M) i)) (x := some i) hs_8 (by decide)
                refine j_aload_n C dX4_settle_87 rfl 1 rfl ?_
                refine j_dup C dX4_settle_88 rfl ?_
                refine j_getI C hwX4 3 0 5 (CR.n1 hC_12 (by decide)) rfl rfl (by decide) rfl (nI (rkN (settle M) i)) (by show gI (sV (sI σ1 8 i 12 (nI 0)) 5 0 (rkN (settle M) i) (some i)) 3 0 5 = _; rw [gI_sV]; rw [gI_sI, if_neg (by omega)]; exact hcn) hL83 dX4_settle_89 ?_
                refine j_iconst C (nI 1) dX4_settle_92 (by decide) ?_
                refine j_iadd C (nI (rkN (settle M) i + 1)) dX4_settle_93 (nI_add _ _) ?_
                refine j_putI C hwX4 3 0 5 (CR.n1 hC_12 (by decide)) rfl rfl (by decide) rfl tyX4 tyX4_ok nmX4 rfl rfl rfl hL83 dX4_settle_94 ?_
                have hC_14 := CR.wI (t := 3) (i := 0) (k := 5) (x := nI (rkN (settle M) i + 1)) hC_12 (Or.inl (Or.inl ⟨rfl, rfl⟩))
                have hs_15 := Same.sI (t := 3) (i := 0) (k := 5) (x := nI (rkN (settle M) i + 1)) hs_13 (by decide)
                refine j_iinc C [(1, .int (nI (i + 1))), (2, .ref (gA Λ 8 i)), (0, .ref (gA Λ 3 0))] (nI (i + 1)) dX4_settle_97 2 rfl (nI_add _ 1) (by decide) rfl ?_
                refine j_goto (tgt := 7) C dX4_settle_100 (by decide) ?_
                refine j_lv [2, 0] rfl ?_
                exact ih7 (sI (sV (sI σ1 8 i 12 (nI 0)) 5 0 (rkN (settle M) i) (some i)) 3 0 5 (nI (rkN (settle M) i + 1))) (i + 1) (by omega) (by omega) (by rw [← settle_3 (by omega) (by omega)]; exact hC_14) (by rw [rk_settle1 (by omega) (by omega)]; exact gI_same _ _ _ _ _) (fun k hk => by rw [rk_settle1 (by omega) (by omega)] at hk; rw [gV_sI, gV_sV]; by_cases e9 : k = rkN (settle M) i; rw [if_pos ⟨rfl, rfl, e9⟩, e9, hs_settle (by omega) (by omega)]; rw [if_neg (fun z => e9 z.2.2)]; exact hvv k (by omega)) hs_15 (fun t9 ht => by rw [gV_sI, gV_nk ht]; exact hv1 t9 ht)
            · refine j_aload_n C dX4_settle_65 rfl 0 rfl ?_
              refine j_iconst C (nI 0) dX4_settle_66 (by decide) ?_
              refine j_putI C hwX5 8 i 11 (CR.n8 hC_7 (by decide) (show i < M 31 5 by omega)) rfl rfl (by decide) rfl tyX5 tyX5_ok nmX5 rfl rfl rfl hL99 dX4_settle_67 ?_
              have hC_17 := CR.place (r := i) (x := 0) (v := nI 0) hC_7 rfl
              have hs_18 := Same.sI (t := 8) (i := i) (k := 11) (x := nI 0) hs_8 (by decide)
              refine j_aload_n C dX4_settle_70 rfl 0 rfl ?_
              refine j_getI C hwX5 8 i 12 (CR.n8 hC_17 (by decide) (show i < M 31 5 by omega)) rfl rfl (by decide) rfl (nI 0) (by rw [gI_sI, if_neg (by omega), gI_same]) hL95 dX4_settle_71 ?_
              refine j_if_ne (tgt := 97) C (P := True) dX4_settle_74 (by decide) (by decide) (fun z => ?_) (fun z => ?_)
              · exact absurd trivial z
              · refine j_aload_n C dX4_settle_77 rfl 1 rfl ?_
                refine j_getV C hwX4 3 0 1 (CR.n1 hC_17 (by decide)) rfl rfl (by decide) rfl 0 (CR.v hC_17 3 0 1 ⟨rfl, by decide⟩ (exH_no (by decide) (by decide))) hL17 dX4_settle_78 ?_
                refine j_aload_n C dX4_settle_81 rfl 1 rfl ?_
                refine j_getI C hwX4 3 0 5 (CR.n1 hC_17 (by decide)) rfl rfl (by decide) rfl (nI (rkN (settle M) i)) (by show gI (sI (sI σ1 8 i 12 (nI 0)) 8 i 11 (nI 0)) 3 0 5 = _; rw [gI_sI, if_neg (by omega)]; rw [gI_sI, if_neg (by omega)]; exact hcn) hL83 dX4_settle_82 ?_
                refine j_aload_n C dX4_settle_85 rfl 0 rfl ?_
                refine j_aast C 5 0 (rkN (settle M) i) (CR.n1 hC_17 (by decide)) rfl rfl 40 (CR.l1 hC_17 (by decide)) (by omega) (by omega) rfl (CR.n8 hC_17 (by decide) (show i < M 31 5 by omega)) dX4_settle_86 ?_
                have hC_20 := CR.wV (t := 5) (i := 0) (k := (rkN (settle M) i)) (x := some i) hC_17 (by decide) (Or.inl (Or.inr rfl))
                have hs_21 := Same.sV (t := 5) (i := 0) (k := (rkN (settle M) i)) (x := some i) hs_18 (by decide)
                refine j_aload_n C dX4_settle_87 rfl 1 rfl ?_
                refine j_dup C dX4_settle_88 rfl ?_
                refine j_getI C hwX4 3 0 5 (CR.n1 hC_20 (by decide)) rfl rfl (by decide) rfl (nI (rkN (settle M) i)) (by show gI (sV (sI (sI σ1 8 i 12 (nI 0)) 8 i 11 (nI 0)) 5 0 (rkN (settle M) i) (some i)) 3 0 5 = _; rw [gI_sV]; rw [gI_sI, if_neg (by omega)]; rw [gI_sI, if_neg (by omega)]; exact hcn) hL83 dX4_settle_89 ?_
                refine j_iconst C (nI 1) dX4_settle_92 (by decide) ?_
                refine j_iadd C (nI (rkN (settle M) i + 1)) dX4_settle_93 (nI_add _ _) ?_
                refine j_putI C hwX4 3 0 5 (CR.n1 hC_20 (by decide)) rfl rfl (by decide) rfl tyX4 tyX4_ok nmX4 rfl rfl rfl hL83 dX4_settle_94 ?_
                have hC_22 := CR.wI (t := 3) (i := 0) (k := 5) (x := nI (rkN (settle M) i + 1)) hC_20 (Or.inl (Or.inl ⟨rfl, rfl⟩))
                have hs_23 := Same.sI (t := 3) (i := 0) (k := 5) (x := nI (rkN (settle M) i + 1)) hs_21 (by decide)
                refine j_iinc C [(1, .int (nI (i + 1))), (2, .ref (gA Λ 8 i)), (0, .ref (gA Λ 3 0))] (nI (i + 1)) dX4_settle_97 2 rfl (nI_add _ 1) (by decide) rfl ?_
                refine j_goto (tgt := 7) C dX4_settle_100 (by decide) ?_
                refine j_lv [2, 0] rfl ?_
                exact ih7 (sI (sV (sI (sI σ1 8 i 12 (nI 0)) 8 i 11 (nI 0)) 5 0 (rkN (settle M) i) (some i)) 3 0 5 (nI (rkN (settle M) i + 1))) (i + 1) (by omega) (by omega) (by rw [← settle_2 (by omega) (by omega)]; exact hC_22) (by rw [rk_settle1 (by omega) (by omega)]; exact gI_same _ _ _ _ _) (fun k hk => by rw [rk_settle1 (by omega) (by omega)] at hk; rw [gV_sI, gV_sV]; by_cases e9 : k = rkN (settle M) i; rw [if_pos ⟨rfl, rfl, e9⟩, e9, hs_settle (by omega) (by omega)]; rw [if_neg (fun z => e9 z.2.2)]; exact hvv k (by omega)) hs_23 (fun t9 ht => by rw [gV_sI, gV_nk ht]; exact hv1 t9 ht)
        · refine j_iconst C (nI 1) dX4_settle_39 (by decide) ?_
          refine j_goto (tgt := 44) C dX4_settle_40 (by decide) ?_
          refine j_putI C hwX5 8 i 12 (CR.n8 hC1 (by decide) (show i < M 31 5 by omega)) rfl rfl (by decide) rfl tyX5 tyX5_ok nmX5 rfl (by first | rfl | exact nz_b _) (by first | rfl | exact fz_b _) hL95 dX4_settle_44 ?_
          have hC_25 := CR.hub (r := i) (x := 1) (v := nI 1) hC1 rfl
          have hs_26 := Same.sI (t := 8) (i := i) (k := 12) (x := nI 1) hs1 (by decide)
          refine j_aload_n C dX4_settle_47 rfl 0 rfl ?_
          refine j_getI C hwX5 8 i 12 (CR.n8 hC_25 (by decide) (show i < M 31 5 by omega)) rfl rfl (by decide) rfl (nI 1) (by rw [gI_same]) hL95 dX4_settle_48 ?_
          refine j_if_ne (tgt := 65) C (P := False) dX4_settle_51 (by decide) (by decide) (fun z => ?_) (fun z => ?_)
          · refine j_aload_n C dX4_settle_65 rfl 0 rfl ?_
            refine j_iconst C (nI 0) dX4_settle_66 (by decide) ?_
            refine j_putI C hwX5 8 i 11 (CR.n8 hC_25 (by decide) (show i < M 31 5 by omega)) rfl rfl (by decide) rfl tyX5 tyX5_ok nmX5 rfl rfl rfl hL99 dX4_settle_67 ?_
            have hC_29 := CR.place (r := i) (x := 0) (v := nI 0) hC_25 rfl
            have hs_30 := Same.sI (t := 8) (i := i) (k := 11) (x := nI 0) hs_26 (by decide)
            refine j_aload_n C dX4_settle_70 rfl 0 rfl ?_
            refine j_getI C hwX5 8 i 12 (CR.n8 hC_29 (by decide) (show i < M 31 5 by omega)) rfl rfl (by decide) rfl (nI 1) (by rw [gI_sI, if_neg (by omega), gI_same]) hL95 dX4_settle_71 ?_
            refine j_if_ne (tgt := 97) C (P := False) dX4_settle_74 (by decide) (by decide) (fun z => ?_) (fun z => ?_)
            · refine j_iinc C [(1, .int (nI (i + 1))), (2, .ref (gA Λ 8 i)), (0, .ref (gA Λ 3 0))] (nI (i + 1)) dX4_settle_97 2 rfl (nI_add _ 1) (by decide) rfl ?_
              refine j_goto (tgt := 7) C dX4_settle_100 (by decide) ?_
              refine j_lv [2, 0] rfl ?_
              exact ih7 (sI (sI σ1 8 i 12 (nI 1)) 8 i 11 (nI 0)) (i + 1) (by omega) (by omega) (by rw [← settle_1 (by omega)]; exact hC_29) (by rw [rk_settle0 (by omega) (by omega), gI_sI, if_neg (by omega), gI_sI, if_neg (by omega)]; exact hcn) (fun k hk => hvv k (by rw [rk_settle0 (by omega) (by omega)] at hk; exact hk)) hs_30 hv1
            · exact z.elim
          · exact z.elim
  refine j_lv [1, 0] rfl ?_
  exact lb7 _ (sI σ 3 0 5 (nI 0)) 0 (Nat.lt_succ_self _) (by omega) (by rw [settleTo_0]; exact hC_1) (gI_same _ _ _ _ _) (fun k hk => absurd hk (Nat.not_lt_zero _)) hs_2 (fun _ _ => rfl)
