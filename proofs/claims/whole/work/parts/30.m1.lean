set_option maxHeartbeats 4000000 in
set_option maxRecDepth 100000 in
theorem c_X11_thrown (l : Launch) (D : va_G) (cy : Nat → ClassId) (base : Nat) (Λ : LY) (σ : HS) (M : MM) (hM : MR Λ σ M) : Met l yX11_thrown wsX11_thrown ({ frames := 4, cells := 0, slots := 0, locals := 60 }) (va_Pc [.ref (gA Λ 31 0)] (Wd D cy base Λ σ)) (va_Qi (fun r u => r = nI (M 31 0) ∧ u = σ) (Wd D cy base Λ) (Ab base)) 0 0 (Ab base) := by
  refine j_start (cc := cX11_thrown) (nL := 1) (ret := (some .int)) (lv := [(0, .ref (gA Λ 31 0))]) (by decide) rfl (Nat.le_of_ble_eq_true rfl) rfl ?_
  intro p e s m below meth c C hr hlk hnm
  have C : Cx p s m ([.ref (gA Λ 31 0)] : List Value).toArray c cX11_thrown 1 RX11 wsX11_thrown D cy base := C
  have hts := C.2.2.2.2.1
  have hwX11 : ∀ w ∈ u_ws RX11 TX11 26, w ∈ wsX11_thrown := by decide +kernel
  have hM73 : (Cond.fieldLink RX11 73 (TX11 0).1 (TX11 0).2.1 (TX11 0).2.2.1).before ([.ref (gA Λ 31 0)] : List Value).toArray s = true := hts (.fieldLink RX11 73 "CodeRoomsModel" "thrown" "I") (by decide +kernel)
  have hL73 : FL RX11 73 (TX11 0).1 (TX11 0).2.1 (TX11 0).2.2.1 ([.ref (gA Λ 31 0)] : List Value).toArray s := Or.inl hM73
  refine j_aload_n C dX11_thrown_0 rfl 0 rfl ?_
  refine j_getI C hwX11 31 0 0 (MR.in0 hM (by decide) (by decide)) rfl rfl (by decide) rfl (nI (M 31 0)) (hM.1 31 0 rfl) hL73 dX11_thrown_1 ?_
  exact j_iret C hr hlk (⟨rfl, rfl⟩) dX11_thrown_4

set_option maxHeartbeats 4000000 in
set_option maxRecDepth 100000 in
theorem c_X11_isRoutine (l : Launch) (D : va_G) (cy : Nat → ClassId) (base : Nat) (Λ : LY) (σ : HS) (M : MM) (hM : MR Λ σ M) (hB : MBd M) (r : Int32) : Met l yX11_isRoutine wsX11_isRoutine ({ frames := 4, cells := 0, slots := 0, locals := 60 }) (va_Pc [.ref (gA Λ 31 0), .int (r)] (Wd D cy base Λ σ)) (va_Qi (fun a u => a = bI (inR M r) ∧ u = σ) (Wd D cy base Λ) (Ab base)) 0 0 (Ab base) := by
  refine j_start (cc := cX11_isRoutine) (nL := 2) (ret := (some .boolean)) (lv := [(0, .ref (gA Λ 31 0)), (1, .int (r))]) (by decide) rfl (Nat.le_of_ble_eq_true rfl) rfl ?_
  intro p e s m below meth c C hr hlk hnm
  have C : Cx p s m ([.ref (gA Λ 31 0), .int (r)] : List Value).toArray c cX11_isRoutine 2 RX11 wsX11_isRoutine D cy base := C
  have hts := C.2.2.2.2.1
  have hwX11 : ∀ w ∈ u_ws RX11 TX11 26, w ∈ wsX11_isRoutine := by decide +kernel
  have hM83 : (Cond.fieldLink RX11 83 (TX11 5).1 (TX11 5).2.1 (TX11 5).2.2.1).before ([.ref (gA Λ 31 0), .int (r)] : List Value).toArray s = true := hts (.fieldLink RX11 83 "CodeRoomsModel" "many" "I") (by decide +kernel)
  have hL83 : FL RX11 83 (TX11 5).1 (TX11 5).2.1 (TX11 5).2.2.1 ([.ref (gA Λ 31 0), .int (r)] : List Value).toArray s := Or.inl hM83
  refine j_iload_n C dX11_isRoutine_0 rfl 1 rfl ?_
  refine j_if_lt (tgt := 16) C dX11_isRoutine_1 (by decide) Iff.rfl (fun h1 => ?_) (fun h1 => ?_)
  · refine j_iconst C (nI 0) dX11_isRoutine_16 (by decide) ?_
    exact j_zret C (by first | rfl | exact nz_b _ | exact nz_n (by omega)) hr hlk (⟨rt0 (decide_eq_false (fun z => absurd h1 (Int32.not_lt.mpr z.1))), rfl⟩) dX11_isRoutine_17
  · refine j_iload_n C dX11_isRoutine_4 rfl 1 rfl ?_
    refine j_aload_n C dX11_isRoutine_5 rfl 0 rfl ?_
    have hb6 : M 31 5 ≤ 40 := hB 31 5 rfl
    refine j_getI C hwX11 31 0 5 (MR.in0 hM (by decide) (by decide)) rfl rfl (by decide) rfl (nI (M 31 5)) (hM.1 31 5 rfl) hL83 dX11_isRoutine_6 ?_
    refine j_icmp_ge (tgt := 16) C dX11_isRoutine_9 (by decide) Iff.rfl (fun h9 => ?_) (fun h9 => ?_)
    · refine j_iconst C (nI 0) dX11_isRoutine_16 (by decide) ?_
      exact j_zret C (by first | rfl | exact nz_b _ | exact nz_n (by omega)) hr hlk (⟨rt0 (decide_eq_false (fun z => absurd z.2 (Int32.not_lt.mpr h9))), rfl⟩) dX11_isRoutine_17
    · refine j_iconst C (nI 1) dX11_isRoutine_12 (by decide) ?_
      refine j_goto (tgt := 17) C dX11_isRoutine_13 (by decide) ?_
      exact j_zret C (by first | rfl | exact nz_b _ | exact nz_n (by omega)) hr hlk (⟨rt1 (decide_eq_true ⟨Int32.not_lt.mp h1, Int32.not_le.mp h9⟩), rfl⟩) dX11_isRoutine_17

set_option maxHeartbeats 4000000 in
set_option maxRecDepth 100000 in
theorem c_X11_isRoom (l : Launch) (D : va_G) (cy : Nat → ClassId) (base : Nat) (Λ : LY) (σ : HS) (M : MM) (hM : MR Λ σ M) (hB : MBd M) (r : Int32) : Met l yX11_isRoom wsX11_isRoom ({ frames := 4, cells := 0, slots := 0, locals := 60 }) (va_Pc [.ref (gA Λ 31 0), .int (r)] (Wd D cy base Λ σ)) (va_Qi (fun a u => a = bI (inRm M r) ∧ u = σ) (Wd D cy base Λ) (Ab base)) 0 0 (Ab base) := by
  refine j_start (cc := cX11_isRoom) (nL := 2) (ret := (some .boolean)) (lv := [(0, .ref (gA Λ 31 0)), (1, .int (r))]) (by decide) rfl (Nat.le_of_ble_eq_true rfl) rfl ?_
  intro p e s m below meth c C hr hlk hnm
  have C : Cx p s m ([.ref (gA Λ 31 0), .int (r)] : List Value).toArray c cX11_isRoom 2 RX11 wsX11_isRoom D cy base := C
  have hts := C.2.2.2.2.1
  have hwX11 : ∀ w ∈ u_ws RX11 TX11 26, w ∈ wsX11_isRoom := by decide +kernel
  have hM33 : (Cond.fieldLink RX11 33 (TX11 10).1 (TX11 10).2.1 (TX11 10).2.2.1).before ([.ref (gA Λ 31 0), .int (r)] : List Value).toArray s = true := hts (.fieldLink RX11 33 "CodeRoomsModel" "rooms" "I") (by decide +kernel)
  have hL33 : FL RX11 33 (TX11 10).1 (TX11 10).2.1 (TX11 10).2.2.1 ([.ref (gA Λ 31 0), .int (r)] : List Value).toArray s := Or.inl hM33
  refine j_iload_n C dX11_isRoom_0 rfl 1 rfl ?_
  refine j_if_lt (tgt := 16) C dX11_isRoom_1 (by decide) Iff.rfl (fun h1 => ?_) (fun h1 => ?_)
  · refine j_iconst C (nI 0) dX11_isRoom_16 (by decide) ?_
    exact j_zret C (by first | rfl | exact nz_b _ | exact nz_n (by omega)) hr hlk (⟨rt0 (decide_eq_false (fun z => absurd h1 (Int32.not_lt.mpr z.1))), rfl⟩) dX11_isRoom_17
  · refine j_iload_n C dX11_isRoom_4 rfl 1 rfl ?_
    refine j_aload_n C dX11_isRoom_5 rfl 0 rfl ?_
    have hb6 : M 31 10 ≤ 40 := hB 31 10 rfl
    refine j_getI C hwX11 31 0 10 (MR.in0 hM (by decide) (by decide)) rfl rfl (by decide) rfl (nI (M 31 10)) (hM.1 31 10 rfl) hL33 dX11_isRoom_6 ?_
    refine j_icmp_ge (tgt := 16) C dX11_isRoom_9 (by decide) Iff.rfl (fun h9 => ?_) (fun h9 => ?_)
    · refine j_iconst C (nI 0) dX11_isRoom_16 (by decide) ?_
      exact j_zret C (by first | rfl | exact nz_b _ | exact nz_n (by omega)) hr hlk (⟨rt0 (decide_eq_false (fun z => absurd z.2 (Int32.not_lt.mpr h9))), rfl⟩) dX11_isRoom_17
    · refine j_iconst C (nI 1) dX11_isRoom_12 (by decide) ?_
      refine j_goto (tgt := 17) C dX11_isRoom_13 (by decide) ?_
      exact j_zret C (by first | rfl | exact nz_b _ | exact nz_n (by omega)) hr hlk (⟨rt1 (decide_eq_true ⟨Int32.not_lt.mp h1, Int32.not_le.mp h9⟩), rfl⟩) dX11_isRoom_17

set_option maxHeartbeats 4000000 in
set_option maxRecDepth 100000 in
theorem c_X11_cell (l : Launch) (D : va_G) (cy : Nat → ClassId) (base : Nat) (Λ : LY) (σ : HS) (k a b : Nat) : Met l yX11_cell wsX11_cell ({ frames := 4, cells := 0, slots := 0, locals := 60 }) (va_Pc [.int (nI k), .int (nI a), .int (nI b)] (Wd D cy base Λ σ)) (va_Qi (fun r u => r = nI ((40 * k + a) * 40 + b) ∧ u = σ) (Wd D cy base Λ) (Ab base)) 0 0 (Ab base) := by
  refine j_start (cc := cX11_cell) (nL := 3) (ret := (some .int)) (lv := [(0, .int (nI k)), (1, .int (nI a)), (2, .int (nI b))]) (by decide) rfl (Nat.le_of_ble_eq_true rfl) rfl ?_
  intro p e s m below meth c C hr hlk hnm
  have C : Cx p s m ([.int (nI k), .int (nI a), .int (nI b)] : List Value).toArray c cX11_cell 3 RX11 wsX11_cell D cy base := C
  have hts := C.2.2.2.2.1
  refine j_bipush C (nI 40) dX11_cell_0 (by decide) ?_
  refine j_iload_n C dX11_cell_2 rfl 0 rfl ?_
  refine j_imul C (nI (40 * k)) dX11_cell_3 (pk_mul _ _) ?_
  refine j_iload_n C dX11_cell_4 rfl 1 rfl ?_
  refine j_iadd C (nI (40 * k + a)) dX11_cell_5 (nI_add _ _) ?_
  refine j_bipush C (nI 40) dX11_cell_6 (by decide) ?_
  refine j_imul C (nI ((40 * k + a) * 40)) dX11_cell_8 (pk_mul _ _) ?_
  refine j_iload_n C dX11_cell_9 rfl 2 rfl ?_
  refine j_iadd C (nI ((40 * k + a) * 40 + b)) dX11_cell_10 (nI_add _ _) ?_
  exact j_iret C hr hlk (⟨rfl, rfl⟩) dX11_cell_11

set_option maxHeartbeats 4000000 in
set_option maxRecDepth 100000 in
theorem c_X11_tieOf (l : Launch) (D : va_G) (cy : Nat → ClassId) (base : Nat) (Λ : LY) (σ : HS) (M : MM) (hM : MR Λ σ M) (hB : MBd M) (a b : Nat) (ha : a < 40) (hb : b < 40) (v : Nat) (hv : tieN M a b = v) : Met l yX11_tieOf wsX11_tieOf ({ frames := 8, cells := 0, slots := 0, locals := 120 }) (va_Pc [.ref (gA Λ 31 0), .int (nI a), .int (nI b)] (Wd D cy base Λ σ)) (va_Qi (fun r u => r = nI v ∧ u = σ) (Wd D cy base Λ) (Ab base)) 0 0 (Ab base) := by
  refine j_start (cc := cX11_tieOf) (nL := 4) (ret := (some .int)) (lv := [(0, .ref (gA Λ 31 0)), (1, .int (nI a)), (2, .int (nI b))]) (by decide) rfl (Nat.le_of_ble_eq_true rfl) rfl ?_
  intro p e s m below meth c C hr hlk hnm
  have C : Cx p s m ([.ref (gA Λ 31 0), .int (nI a), .int (nI b)] : List Value).toArray c cX11_tieOf 4 RX11 wsX11_tieOf D cy base := C
  have hts := C.2.2.2.2.1
  have hwX11 : ∀ w ∈ u_ws RX11 TX11 26, w ∈ wsX11_tieOf := by decide +kernel
  have hM20 : (Cond.fieldLink RX11 20 (TX11 6).1 (TX11 6).2.1 (TX11 6).2.2.1).before ([.ref (gA Λ 31 0), .int (nI a), .int (nI b)] : List Value).toArray s = true := hts (.fieldLink RX11 20 "CodeRoomsModel" "numbers" "[I") (by decide +kernel)
  have hL20 : FL RX11 20 (TX11 6).1 (TX11 6).2.1 (TX11 6).2.2.1 ([.ref (gA Λ 31 0), .int (nI a), .int (nI b)] : List Value).toArray s := Or.inl hM20
  have hM23 : (Cond.fieldLink RX11 23 (TX11 7).1 (TX11 7).2.1 (TX11 7).2.2.1).before ([.ref (gA Λ 31 0), .int (nI a), .int (nI b)] : List Value).toArray s = true := hts (.fieldLink RX11 23 "CodeRoomsModel" "weights" "[I") (by decide +kernel)
  have hL23 : FL RX11 23 (TX11 7).1 (TX11 7).2.1 (TX11 7).2.2.1 ([.ref (gA Λ 31 0), .int (nI a), .int (nI b)] : List Value).toArray s := Or.inl hM23
  refine j_aload_n C dX11_tieOf_0 rfl 0 rfl ?_
  refine j_getV C hwX11 31 0 6 (MR.in0 hM (by decide) (by decide)) rfl rfl (by decide) rfl 0 (hM.2.2.2 6 rfl) hL20 dX11_tieOf_1 ?_
  refine j_iconst C (nI 0) dX11_tieOf_4 (by decide) ?_
  refine j_iload_n C dX11_tieOf_5 rfl 1 rfl ?_
  refine j_iload_n C dX11_tieOf_6 rfl 2 rfl ?_
  refine c_i0 C (r_S C [.int (nI 0), .int (nI a), .int (nI b)] (c_X11_cell l D cy base Λ σ 0 a b) (va_cwS 3 hts gX11_tieOf_X11_cell rfl rfl rfl (by decide +kernel) ⟨by decide, by decide⟩) rfl rfl (Nat.le_of_ble_eq_true rfl) dX11_tieOf_7 ⟨by decide, by decide⟩) (fun rv uu hp => ?_)
  rw [hp.1, hp.2]
  have hb10 : M 35 ((40 * 0 + a) * 40 + b) ≤ 999999 := hB 35 ((40 * 0 + a) * 40 + b) (decide_eq_true (show (40 * 0 + a) * 40 + b < 4800 by omega))
  refine j_iald C 35 0 ((40 * 0 + a) * 40 + b) (MR.in0 hM (by decide) (by decide)) rfl rfl 4800 (hM.2.2.1 35 (by decide) (by decide)) (by omega) (by omega) (nI (M 35 ((40 * 0 + a) * 40 + b))) (hM.1 35 ((40 * 0 + a) * 40 + b) (decide_eq_true (show (40 * 0 + a) * 40 + b < 4800 by omega))) dX11_tieOf_10 ?_
  refine j_aload_n C dX11_tieOf_11 rfl 0 rfl ?_
  refine j_getV C hwX11 31 0 6 (MR.in0 hM (by decide) (by decide)) rfl rfl (by decide) rfl 0 (hM.2.2.2 6 rfl) hL20 dX11_tieOf_12 ?_
  refine j_iconst C (nI 0) dX11_tieOf_15 (by decide) ?_
  refine j_iload_n C dX11_tieOf_16 rfl 2 rfl ?_
  refine j_iload_n C dX11_tieOf_17 rfl 1 rfl ?_
  refine c_i0 C (r_S C [.int (nI 0), .int (nI b), .int (nI a)] (c_X11_cell l D cy base Λ σ 0 b a) (va_cwS 3 hts gX11_tieOf_X11_cell rfl rfl rfl (by decide +kernel) ⟨by decide, by decide⟩) rfl rfl (Nat.le_of_ble_eq_true rfl) dX11_tieOf_18 ⟨by decide, by decide⟩) (fun rv uu hp => ?_)
  rw [hp.1, hp.2]
  have hb21 : M 35 ((40 * 0 + b) * 40 + a) ≤ 999999 := hB 35 ((40 * 0 + b) * 40 + a) (decide_eq_true (show (40 * 0 + b) * 40 + a < 4800 by omega))
  refine j_iald C 35 0 ((40 * 0 + b) * 40 + a) (MR.in0 hM (by decide) (by decide)) rfl rfl 4800 (hM.2.2.1 35 (by decide) (by decide)) (by omega) (by omega) (nI (M 35 ((40 * 0 + b) * 40 + a))) (hM.1 35 ((40 * 0 + b) * 40 + a) (decide_eq_true (show (40 * 0 + b) * 40 + a < 4800 by omega))) dX11_tieOf_21 ?_
  refine j_iadd C (nI (M 35 ((40 * 0 + a) * 40 + b) + (M 35 ((40 * 0 + b) * 40 + a)))) dX11_tieOf_22 (nI_add _ _) ?_
  refine j_istore_n C [(3, .int (nI (M 35 ((40 * 0 + a) * 40 + b) + (M 35 ((40 * 0 + b) * 40 + a))))), (0, .ref (gA Λ 31 0)), (1, .int (nI a)), (2, .int (nI b))] dX11_tieOf_23 rfl (by decide) rfl ?_
  refine j_aload_n C dX11_tieOf_24 rfl 1 rfl ?_
  refine j_getV C hwX11 31 0 7 (MR.in0 hM (by decide) (by decide)) rfl rfl (by decide) rfl 0 (hM.2.2.2 7 rfl) hL23 dX11_tieOf_25 ?_
  refine j_iconst C (nI 0) dX11_tieOf_28 (by decide) ?_
  have hb29 : M 36 0 ≤ 9 := hB 36 0 (decide_eq_true (show 0 < 3 by omega))
  refine j_iald C 36 0 0 (MR.in0 hM (by decide) (by decide)) rfl rfl 3 (hM.2.2.1 36 (by decide) (by decide)) (by omega) (by omega) (nI (M 36 0)) (hM.1 36 0 (decide_eq_true (show 0 < 3 by omega))) dX11_tieOf_29 ?_
  refine j_iload_n C dX11_tieOf_30 rfl 0 rfl ?_
  refine j_imul C (nI ((M 36 0) * (M 35 ((40 * 0 + a) * 40 + b) + (M 35 ((40 * 0 + b) * 40 + a))))) dX11_tieOf_31 (pk_mul _ _) ?_
  refine j_aload_n C dX11_tieOf_32 rfl 1 rfl ?_
  refine j_getV C hwX11 31 0 7 (MR.in0 hM (by decide) (by decide)) rfl rfl (by decide) rfl 0 (hM.2.2.2 7 rfl) hL23 dX11_tieOf_33 ?_
  refine j_iconst C (nI 1) dX11_tieOf_36 (by decide) ?_
  have hb37 : M 36 1 ≤ 9 := hB 36 1 (decide_eq_true (show 1 < 3 by omega))
  refine j_iald C 36 0 1 (MR.in0 hM (by decide) (by decide)) rfl rfl 3 (hM.2.2.1 36 (by decide) (by decide)) (by omega) (by omega) (nI (M 36 1)) (hM.1 36 1 (decide_eq_true (show 1 < 3 by omega))) dX11_tieOf_37 ?_
  refine j_aload_n C dX11_tieOf_38 rfl 1 rfl ?_
  refine j_getV C hwX11 31 0 6 (MR.in0 hM (by decide) (by decide)) rfl rfl (by decide) rfl 0 (hM.2.2.2 6 rfl) hL20 dX11_tieOf_39 ?_
  refine j_iconst C (nI 1) dX11_tieOf_42 (by decide) ?_
  refine j_iload_n C dX11_tieOf_43 rfl 2 rfl ?_
  refine j_iload_n C dX11_tieOf_44 rfl 3 rfl ?_
  refine c_i0 C (r_S C [.int (nI 1), .int (nI a), .int (nI b)] (c_X11_cell l D cy base Λ σ 1 a b) (va_cwS 3 hts gX11_tieOf_X11_cell rfl rfl rfl (by decide +kernel) ⟨by decide, by decide⟩) rfl rfl (Nat.le_of_ble_eq_true rfl) dX11_tieOf_45 ⟨by decide, by decide⟩) (fun rv uu hp => ?_)
  rw [hp.1, hp.2]
  have hb48 : M 35 ((40 * 1 + a) * 40 + b) ≤ 999999 := hB 35 ((40 * 1 + a) * 40 + b) (decide_eq_true (show (40 * 1 + a) * 40 + b < 4800 by omega))
  refine j_iald C 35 0 ((40 * 1 + a) * 40 + b) (MR.in0 hM (by decide) (by decide)) rfl rfl 4800 (hM.2.2.1 35 (by decide) (by decide)) (by omega) (by omega) (nI (M 35 ((40 * 1 + a) * 40 + b))) (hM.1 35 ((40 * 1 + a) * 40 + b) (decide_eq_true (show (40 * 1 + a) * 40 + b < 4800 by omega))) dX11_tieOf_48 ?_
  refine j_imul C (nI ((M 36 1) * (M 35 ((40 * 1 + a) * 40 + b)))) dX11_tieOf_49 (pk_mul _ _) ?_
  refine j_iadd C (nI ((M 36 0) * (M 35 ((40 * 0 + a) * 40 + b) + (M 35 ((40 * 0 + b) * 40 + a))) + ((M 36 1) * (M 35 ((40 * 1 + a) * 40 + b))))) dX11_tieOf_50 (nI_add _ _) ?_
  refine j_aload_n C dX11_tieOf_51 rfl 1 rfl ?_
  refine j_getV C hwX11 31 0 7 (MR.in0 hM (by decide) (by decide)) rfl rfl (by decide) rfl 0 (hM.2.2.2 7 rfl) hL23 dX11_tieOf_52 ?_
  refine j_iconst C (nI 2) dX11_tieOf_55 (by decide) ?_
  have hb56 : M 36 2 ≤ 9 := hB 36 2 (decide_eq_true (show 2 < 3 by omega))
  refine j_iald C 36 0 2 (MR.in0 hM (by decide) (by decide)) rfl rfl 3 (hM.2.2.1 36 (by decide) (by decide)) (by omega) (by omega) (nI (M 36 2)) (hM.1 36 2 (decide_eq_true (show 2 < 3 by omega))) dX11_tieOf_56 ?_
  refine j_aload_n C dX11_tieOf_57 rfl 1 rfl ?_
  refine j_getV C hwX11 31 0 6 (MR.in0 hM (by decide) (by decide)) rfl rfl (by decide) rfl 0 (hM.2.2.2 6 rfl) hL20 dX11_tieOf_58 ?_
  refine j_iconst C (nI 2) dX11_tieOf_61 (by decide) ?_
  refine j_iload_n C dX11_tieOf_62 rfl 2 rfl ?_
  refine j_iload_n C dX11_tieOf_63 rfl 3 rfl ?_
  refine c_i0 C (r_S C [.int (nI 2), .int (nI a), .int (nI b)] (c_X11_cell l D cy base Λ σ 2 a b) (va_cwS 3 hts gX11_tieOf_X11_cell rfl rfl rfl (by decide +kernel) ⟨by decide, by decide⟩) rfl rfl (Nat.le_of_ble_eq_true rfl) dX11_tieOf_64 ⟨by decide, by decide⟩) (fun rv uu hp => ?_)
  rw [hp.1, hp.2]
  have hb67 : M 35 ((40 * 2 + a) * 40 + b) ≤ 999999 := hB 35 ((40 * 2 + a) * 40 + b) (decide_eq_true (show (40 * 2 + a) * 40 + b < 4800 by omega))
  refine j_iald C 35 0 ((40 * 2 + a) * 40 + b) (MR.in0 hM (by decide) (by decide)) rfl rfl 4800 (hM.2.2.1 35 (by decide) (by decide)) (by omega) (by omega) (nI (M 35 ((40 * 2 + a) * 40 + b))) (hM.1 35 ((40 * 2 + a) * 40 + b) (decide_eq_true (show (40 * 2 + a) * 40 + b < 4800 by omega))) dX11_tieOf_67 ?_
  refine j_imul C (nI ((M 36 2) * (M 35 ((40 * 2 + a) * 40 + b)))) dX11_tieOf_68 (pk_mul _ _) ?_
  refine j_iadd C (nI ((M 36 0) * (M 35 ((40 * 0 + a) * 40 + b) + (M 35 ((40 * 0 + b) * 40 + a))) + ((M 36 1) * (M 35 ((40 * 1 + a) * 40 + b))) + ((M 36 2) * (M 35 ((40 * 2 + a) * 40 + b))))) dX11_tieOf_69 (nI_add _ _) ?_
  exact j_iret C hr hlk (⟨congrArg nI hv, rfl⟩) dX11_tieOf_70

set_option maxHeartbeats 4000000 in
set_option maxRecDepth 100000 in
theorem c_X11_sizeOf (l : Launch) (D : va_G) (cy : Nat → ClassId) (base : Nat) (Λ : LY) (σ : HS) (M : MM) (hM : MR Λ σ M) (hB : MBd M) (room : Nat) (hr0 : room < 2 ^ 31) : Met l yX11_sizeOf wsX11_sizeOf ({ frames := 4, cells := 0, slots := 0, locals := 60 }) (va_Pc [.ref (gA Λ 31 0), .int (nI room)] (Wd D cy base Λ σ)) (va_Qi (fun r u => r = nI (szN M room) ∧ u = σ) (Wd D cy base Λ) (Ab base)) 0 0 (Ab base) := by
  refine j_start (cc := cX11_sizeOf) (nL := 4) (ret := (some .int)) (lv := [(0, .ref (gA Λ 31 0)), (1, .int (nI room))]) (by decide) rfl (Nat.le_of_ble_eq_true rfl) rfl ?_
  intro p e s m below meth c C hr hlk hnm
  have C : Cx p s m ([.ref (gA Λ 31 0), .int (nI room)] : List Value).toArray c cX11_sizeOf 4 RX11 wsX11_sizeOf D cy base := C
  have hts := C.2.2.2.2.1
  have hwX11 : ∀ w ∈ u_ws RX11 TX11 26, w ∈ wsX11_sizeOf := by decide +kernel
  have hM36 : (Cond.fieldLink RX11 36 (TX11 11).1 (TX11 11).2.1 (TX11 11).2.2.1).before ([.ref (gA Λ 31 0), .int (nI room)] : List Value).toArray s = true := hts (.fieldLink RX11 36 "CodeRoomsModel" "isHub" "[Z") (by decide +kernel)
  have hL36 : FL RX11 36 (TX11 11).1 (TX11 11).2.1 (TX11 11).2.2.1 ([.ref (gA Λ 31 0), .int (nI room)] : List Value).toArray s := Or.inl hM36
  have hM40 : (Cond.fieldLink RX11 40 (TX11 12).1 (TX11 12).2.1 (TX11 12).2.2.1).before ([.ref (gA Λ 31 0), .int (nI room)] : List Value).toArray s = true := hts (.fieldLink RX11 40 "CodeRoomsModel" "roomOf" "[I") (by decide +kernel)
  have hL40 : FL RX11 40 (TX11 12).1 (TX11 12).2.1 (TX11 12).2.2.1 ([.ref (gA Λ 31 0), .int (nI room)] : List Value).toArray s := Or.inl hM40
  have hM83 : (Cond.fieldLink RX11 83 (TX11 5).1 (TX11 5).2.1 (TX11 5).2.2.1).before ([.ref (gA Λ 31 0), .int (nI room)] : List Value).toArray s = true := hts (.fieldLink RX11 83 "CodeRoomsModel" "many" "I") (by decide +kernel)
  have hL83 : FL RX11 83 (TX11 5).1 (TX11 5).2.1 (TX11 5).2.2.1 ([.ref (gA Λ 31 0), .int (nI room)] : List Value).toArray s := Or.inl hM83
  refine j_iconst C (nI 0) dX11_sizeOf_0 (by decide) ?_
  refine j_istore_n C [(2, .int (nI 0)), (0, .ref (gA Λ 31 0)), (1, .int (nI room))] dX11_sizeOf_1 rfl (by decide) rfl ?_
  refine j_iconst C (nI 0) dX11_sizeOf_2 (by decide) ?_
  refine j_istore_n C [(3, .int (nI 0)), (2, .int (nI 0)), (0, .ref (gA Λ 31 0)), (1, .int (nI room))] dX11_sizeOf_3 rfl (by decide) rfl ?_
  have lb4 : ∀ (fu : Nat) (i a : Nat), (M 31 5 - i) < fu → (i ≤ M 31 5) → (a = fb_ct (fun r => decide (M 37 r = 0) && decide (M 38 r = room)) i) → J p l e ({ frames := 4, cells := 0, slots := 0, locals := 60 }) s m ([.ref (gA Λ 31 0), .int (nI room)] : List Value).toArray below meth c 4 D cy base (MQ below (va_Qi (fun r u => r = nI (szN M room) ∧ u = σ) (Wd D cy base Λ) (Ab base)) ([.ref (gA Λ 31 0), .int (nI room)] : List Value).toArray s 0 0 (Ab base)) 0 0 Λ 4 [(0, .ref (gA Λ 31 0)), (1, .int (nI room)), (2, .int (nI a)), (3, .int (nI i))] [] σ := by
    intro fu
    induction fu with
    | zero => intro i a hfu; exact absurd hfu (Nat.not_lt_zero _)
    | succ fu ih =>
      intro i a hfu hi ha
      have hn : M 31 5 ≤ 40 := hB 31 5 rfl
      have ih4 := ih
      refine j_iload_n C dX11_sizeOf_4 rfl 3 rfl ?_
      refine j_aload_n C dX11_sizeOf_5 rfl 0 rfl ?_
      have hb6 : M 31 5 ≤ 40 := hB 31 5 rfl
      refine j_getI C hwX11 31 0 5 (MR.in0 hM (by decide) (by decide)) rfl rfl (by decide) rfl (nI (M 31 5)) (hM.1 31 5 rfl) hL83 dX11_sizeOf_6 ?_
      refine j_icmp_ge (tgt := 45) C dX11_sizeOf_9 (by decide) (nI_leI (by omega) (by omega)) (fun h9 => ?_) (fun h9 => ?_)
      · refine j_iload_n C dX11_sizeOf_45 rfl 2 rfl ?_
        exact j_iret C hr hlk (⟨by rw [ha, show i = M 31 5 by omega]; rfl, rfl⟩) dX11_sizeOf_46
      · refine j_iload_n C dX11_sizeOf_12 rfl 2 rfl ?_
        refine j_aload_n C dX11_sizeOf_13 rfl 0 rfl ?_
        refine j_getV C hwX11 31 0 11 (MR.in0 hM (by decide) (by decide)) rfl rfl (by decide) rfl 0 (hM.2.2.2 11 rfl) hL36 dX11_sizeOf_14 ?_
        refine j_iload_n C dX11_sizeOf_17 rfl 3 rfl ?_
        have hb18 : M 37 i ≤ 1 := hB 37 i (decide_eq_true (show i < 40 by omega))
        refine j_zald C 37 0 i (MR.in0 hM (by decide) (by decide)) rfl rfl 40 (hM.2.2.1 37 (by decide) (by decide)) (by omega) (by omega) (nI (M 37 i)) (hM.1 37 i (decide_eq_true (show i < 40 by omega))) dX11_sizeOf_18 ?_
        refine j_if_ne (tgt := 36) C dX11_sizeOf_19 (by decide) (nJ_ne0 (by omega)) (fun h19 => ?_) (fun h19 => ?_)
        · refine j_iconst C (nI 0) dX11_sizeOf_36 (by decide) ?_
          refine j_iadd C (nI (a + 0)) dX11_sizeOf_37 (nI_add _ _) ?_
          refine j_istore_n C [(2, .int (nI (a + 0))), (0, .ref (gA Λ 31 0)), (1, .int (nI room)), (3, .int (nI i))] dX11_sizeOf_38 rfl (by decide) rfl ?_
          refine j_iinc C [(3, .int (nI (i + 1))), (2, .int (nI (a + 0))), (0, .ref (gA Λ 31 0)), (1, .int (nI room))] (nI (i + 1)) dX11_sizeOf_39 3 rfl (nI_add _ 1) (by decide) rfl ?_
          refine j_goto (tgt := 4) C dX11_sizeOf_42 (by decide) ?_
          refine j_lv [2, 3, 1, 0] rfl ?_
          exact ih4 (i + 1) (a + 0) (by omega) (by omega) (by rw [fb_ct_succ, ← ha]; simp [h9, h19])
        · refine j_aload_n C dX11_sizeOf_22 rfl 0 rfl ?_
          refine j_getV C hwX11 31 0 12 (MR.in0 hM (by decide) (by decide)) rfl rfl (by decide) rfl 0 (hM.2.2.2 12 rfl) hL40 dX11_sizeOf_23 ?_
          refine j_iload_n C dX11_sizeOf_26 rfl 3 rfl ?_
          have hb27 : M 38 i ≤ 5 := hB 38 i (decide_eq_true (show i < 40 by omega))
          refine j_iald C 38 0 i (MR.in0 hM (by decide) (by decide)) rfl rfl 40 (hM.2.2.1 38 (by decide) (by decide)) (by omega) (by omega) (nI (M 38 i)) (hM.1 38 i (decide_eq_true (show i < 40 by omega))) dX11_sizeOf_27 ?_
          refine j_iload_n C dX11_sizeOf_28 rfl 1 rfl ?_
          refine j_icmp_ne (tgt := 36) C dX11_sizeOf_29 (by decide) (nI_eq (by omega) (by omega)) (fun h29 => ?_) (fun h29 => ?_)
          · refine j_iconst C (nI 0) dX11_sizeOf_36 (by decide) ?_
            refine j_iadd C (nI (a + 0)) dX11_sizeOf_37 (nI_add _ _) ?_
            refine j_istore_n C [(2, .int (nI (a + 0))), (0, .ref (gA Λ 31 0)), (1, .int (nI room)), (3, .int (nI i))] dX11_sizeOf_38 rfl (by decide) rfl ?_
            refine j_iinc C [(3, .int (nI (i + 1))), (2, .int (nI (a + 0))), (0, .ref (gA Λ 31 0)), (1, .int (nI room))] (nI (i + 1)) dX11_sizeOf_39 3 rfl (nI_add _ 1) (by decide) rfl ?_
            refine j_goto (tgt := 4) C dX11_sizeOf_42 (by decide) ?_
            refine j_lv [2, 3, 1, 0] rfl ?_
            exact ih4 (i + 1) (a + 0) (by omega) (by omega) (by rw [fb_ct_succ, ← ha]; simp [h9, h19, h29])
          · refine j_iconst C (nI 1) dX11_sizeOf_32 (by decide) ?_
            refine j_goto (tgt := 37) C dX11_sizeOf_33 (by decide) ?_
            refine j_iadd C (nI (a + 1)) dX11_sizeOf_37 (nI_add _ _) ?_
            refine j_istore_n C [(2, .int (nI (a + 1))), (0, .ref (gA Λ 31 0)), (1, .int (nI room)), (3, .int (nI i))] dX11_sizeOf_38 rfl (by decide) rfl ?_
            refine j_iinc C [(3, .int (nI (i + 1))), (2, .int (nI (a + 1))), (0, .ref (gA Λ 31 0)), (1, .int (nI room))] (nI (i + 1)) dX11_sizeOf_39 3 rfl (nI_add _ 1) (by decide) rfl ?_
            refine j_goto (tgt := 4) C dX11_sizeOf_42 (by decide) ?_
            refine j_lv [2, 3, 1, 0] rfl ?_
            exact ih4 (i + 1) (a + 1) (by omega) (by omega) (by rw [fb_ct_succ, ← ha]; simp [h9, h19, h29])
  refine j_lv [2, 3, 1, 0] rfl ?_
  exact lb4 _ 0 0 (Nat.lt_succ_self _) (by omega) rfl
