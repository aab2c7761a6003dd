set_option maxHeartbeats 4000000 in
set_option maxRecDepth 100000 in
theorem c_X11_moved (l : Launch) (D : va_G) (cy : Nat → ClassId) (base : Nat) (Λ : LY) (σ : HS) (M : MM) (hM : MR Λ σ M) (hB : MBd M) (r room : Nat) (hr0 : r < 40) (hrm : room < 40) : Met l yX11_moved wsX11_moved ({ frames := 16, cells := 0, slots := 0, locals := 240 }) (va_Pc [.ref (gA Λ 31 0), .int (nI r), .int (nI room)] (Wd D cy base Λ σ)) (va_Ql (fun v u => v = zL (movZ M r room) ∧ u = σ) (Wd D cy base Λ) (Ab base)) 0 0 (Ab base) := by
  refine j_start (cc := cX11_moved) (nL := 5) (ret := (some .long)) (lv := [(0, .ref (gA Λ 31 0)), (1, .int (nI r)), (2, .int (nI room))]) (by decide) rfl (Nat.le_of_ble_eq_true rfl) rfl ?_
  intro p e s m below meth c C hr hlk hnm
  have C : Cx p s m ([.ref (gA Λ 31 0), .int (nI r), .int (nI room)] : List Value).toArray c cX11_moved 5 RX11 wsX11_moved D cy base := C
  have hts := C.2.2.2.2.1
  have hwX11 : ∀ w ∈ u_ws RX11 TX11 26, w ∈ wsX11_moved := by decide +kernel
  have hM26 : (Cond.fieldLink RX11 26 (TX11 8).1 (TX11 8).2.1 (TX11 8).2.2.1).before ([.ref (gA Λ 31 0), .int (nI r), .int (nI room)] : List Value).toArray s = true := hts (.fieldLink RX11 26 "CodeRoomsModel" "even" "I") (by decide +kernel)
  have hL26 : FL RX11 26 (TX11 8).1 (TX11 8).2.1 (TX11 8).2.2.1 ([.ref (gA Λ 31 0), .int (nI r), .int (nI room)] : List Value).toArray s := Or.inl hM26
  have hM40 : (Cond.fieldLink RX11 40 (TX11 12).1 (TX11 12).2.1 (TX11 12).2.2.1).before ([.ref (gA Λ 31 0), .int (nI r), .int (nI room)] : List Value).toArray s = true := hts (.fieldLink RX11 40 "CodeRoomsModel" "roomOf" "[I") (by decide +kernel)
  have hL40 : FL RX11 40 (TX11 12).1 (TX11 12).2.1 (TX11 12).2.2.1 ([.ref (gA Λ 31 0), .int (nI r), .int (nI room)] : List Value).toArray s := Or.inl hM40
  have hn : M 31 5 ≤ 40 := hB 31 5 rfl
  have hs1 := szN_le M room
  have hs2 := szN_le M (M 38 r)
  refine j_aload_n C dX11_moved_0 rfl 0 rfl ?_
  refine j_aload_n C dX11_moved_1 rfl 0 rfl ?_
  refine j_getV C hwX11 31 0 12 (MR.in0 hM (by decide) (by decide)) rfl rfl (by decide) rfl 0 (hM.2.2.2 12 rfl) hL40 dX11_moved_2 ?_
  refine j_iload_n C dX11_moved_5 rfl 1 rfl ?_
  have hb6 : M 38 r ≤ 5 := hB 38 r (decide_eq_true (show r < 40 by omega))
  refine j_iald C 38 0 r (MR.in0 hM (by decide) (by decide)) rfl rfl 40 (hM.2.2.1 38 (by decide) (by decide)) (by omega) (by omega) (nI (M 38 r)) (hM.1 38 r (decide_eq_true (show r < 40 by omega))) dX11_moved_6 ?_
  refine c_i0 C (r_V C 31 0 [.int (nI (M 38 r))] (c_X11_sizeOf l D cy base Λ σ M hM hB (M 38 r) (by omega)) (cwV 1 hts gX11_moved_X11_sizeOf rfl rfl rfl (by decide +kernel) ⟨by decide, by decide⟩) (MR.in0 hM (by decide) (by decide)) rfl rfl rfl rfl (Nat.le_of_ble_eq_true rfl) dX11_moved_7 ⟨by decide, by decide⟩) (fun rv uu hp => ?_)
  rw [hp.1, hp.2]
  refine j_istore_n C [(3, .int (nI (szN M (M 38 r)))), (0, .ref (gA Λ 31 0)), (1, .int (nI r)), (2, .int (nI room))] dX11_moved_10 rfl (by decide) rfl ?_
  refine j_aload_n C dX11_moved_11 rfl 1 rfl ?_
  refine j_iload_n C dX11_moved_12 rfl 3 rfl ?_
  refine c_i0 C (r_V C 31 0 [.int (nI room)] (c_X11_sizeOf l D cy base Λ σ M hM hB room (by omega)) (cwV 1 hts gX11_moved_X11_sizeOf rfl rfl rfl (by decide +kernel) ⟨by decide, by decide⟩) (MR.in0 hM (by decide) (by decide)) rfl rfl rfl rfl (Nat.le_of_ble_eq_true rfl) dX11_moved_13 ⟨by decide, by decide⟩) (fun rv uu hp => ?_)
  rw [hp.1, hp.2]
  refine j_istore C [(4, .int (nI (szN M room))), (3, .int (nI (szN M (M 38 r)))), (0, .ref (gA Λ 31 0)), (1, .int (nI r)), (2, .int (nI room))] dX11_moved_16 (by decide) rfl ?_
  refine j_aload_n C dX11_moved_18 rfl 2 rfl ?_
  refine j_iload_n C dX11_moved_19 rfl 3 rfl ?_
  refine j_iload_n C dX11_moved_20 rfl 4 rfl ?_
  refine j_iconst C ((-1)) dX11_moved_21 (by decide) ?_
  refine c_l0 C (r_V C 31 0 [.int (nI r), .int (nI room), .int ((-1))] (c_X11_hangs l D cy base Λ σ M hM hB r room ((-1)) (by omega) (by omega)) (cwV 3 hts gX11_moved_X11_hangs rfl rfl rfl (by decide +kernel) ⟨by decide, by decide⟩) (MR.in0 hM (by decide) (by decide)) rfl rfl rfl rfl (Nat.le_of_ble_eq_true rfl) dX11_moved_22 ⟨by decide, by decide⟩) (fun rv uu hp => ?_)
  rw [hp.1, hp.2]
  refine j_aload_n C dX11_moved_25 rfl 2 rfl ?_
  refine j_iload_n C dX11_moved_26 rfl 3 rfl ?_
  refine j_aload_n C dX11_moved_27 rfl 2 rfl ?_
  refine j_getV C hwX11 31 0 12 (MR.in0 hM (by decide) (by decide)) rfl rfl (by decide) rfl 0 (hM.2.2.2 12 rfl) hL40 dX11_moved_28 ?_
  refine j_iload_n C dX11_moved_31 rfl 3 rfl ?_
  have hb32 : M 38 r ≤ 5 := hB 38 r (decide_eq_true (show r < 40 by omega))
  refine j_iald C 38 0 r (MR.in0 hM (by decide) (by decide)) rfl rfl 40 (hM.2.2.1 38 (by decide) (by decide)) (by omega) (by omega) (nI (M 38 r)) (hM.1 38 r (decide_eq_true (show r < 40 by omega))) dX11_moved_32 ?_
  refine j_iconst C ((-1)) dX11_moved_33 (by decide) ?_
  refine c_l0 C (r_V C 31 0 [.int (nI r), .int (nI (M 38 r)), .int ((-1))] (c_X11_hangs l D cy base Λ σ M hM hB r (M 38 r) ((-1)) (by omega) (by omega)) (cwV 3 hts gX11_moved_X11_hangs rfl rfl rfl (by decide +kernel) ⟨by decide, by decide⟩) (MR.in0 hM (by decide) (by decide)) rfl rfl rfl rfl (Nat.le_of_ble_eq_true rfl) dX11_moved_34 ⟨by decide, by decide⟩) (fun rv uu hp => ?_)
  rw [hp.1, hp.2]
  refine j_lsub C (zL ((hangN M r room ((-1)) : Int) - (hangN M r (M 38 r) ((-1)) : Int))) dX11_moved_37 (zL_sub _ _) ?_
  refine j_aload_n C dX11_moved_38 rfl 2 rfl ?_
  have hb39 : M 31 8 ≤ 100 := hB 31 8 rfl
  refine j_getI C hwX11 31 0 8 (MR.in0 hM (by decide) (by decide)) rfl rfl (by decide) rfl (nI (M 31 8)) (hM.1 31 8 rfl) hL26 dX11_moved_39 ?_
  refine j_i2l C (zL (M 31 8 : Int)) dX11_moved_42 (nI_zL (by omega)) ?_
  refine j_iconst C (nI 2) dX11_moved_43 (by decide) ?_
  refine j_iload C dX11_moved_44 0 rfl ?_
  refine j_imul C (nI (2 * (szN M room))) dX11_moved_46 (pk_mul _ _) ?_
  refine j_iconst C (nI 2) dX11_moved_47 (by decide) ?_
  refine j_iload_n C dX11_moved_48 rfl 1 rfl ?_
  refine j_imul C (nI (2 * (szN M (M 38 r)))) dX11_moved_49 (pk_mul _ _) ?_
  refine j_isub C ((nI (2 * (szN M room))) - (nI (2 * (szN M (M 38 r))))) dX11_moved_50 rfl ?_
  refine j_iconst C (nI 2) dX11_moved_51 (by decide) ?_
  refine j_iadd C (((nI (2 * (szN M room))) - (nI (2 * (szN M (M 38 r))))) + (nI 2)) dX11_moved_52 rfl ?_
  refine j_i2l C (zL (2 * (szN M room : Int) - 2 * szN M (M 38 r) + 2)) dX11_moved_53 (nI_sub_zL (by omega) (by omega)) ?_
  refine j_lmul C (zL ((M 31 8 : Int) * (2 * (szN M room : Int) - 2 * szN M (M 38 r) + 2))) dX11_moved_54 (zL_mul _ _) ?_
  refine j_ladd C (zL (((hangN M r room ((-1)) : Int) - (hangN M r (M 38 r) ((-1)) : Int)) + ((M 31 8 : Int) * (2 * (szN M room : Int) - 2 * szN M (M 38 r) + 2)))) dX11_moved_55 (zL_add _ _) ?_
  exact j_lret C hr hlk (⟨rfl, rfl⟩) dX11_moved_56

set_option maxHeartbeats 4000000 in
set_option maxRecDepth 100000 in
theorem c_X11_swapped (l : Launch) (D : va_G) (cy : Nat → ClassId) (base : Nat) (Λ : LY) (σ : HS) (M : MM) (hM : MR Λ σ M) (hB : MBd M) (a b : Nat) (ha0 : a < 40) (hb0 : b < 40) : Met l yX11_swapped wsX11_swapped ({ frames := 16, cells := 0, slots := 0, locals := 240 }) (va_Pc [.ref (gA Λ 31 0), .int (nI a), .int (nI b)] (Wd D cy base Λ σ)) (va_Ql (fun v u => v = zL (swpZ M a b) ∧ u = σ) (Wd D cy base Λ) (Ab base)) 0 0 (Ab base) := by
  refine j_start (cc := cX11_swapped) (nL := 3) (ret := (some .long)) (lv := [(0, .ref (gA Λ 31 0)), (1, .int (nI a)), (2, .int (nI b))]) (by decide) rfl (Nat.le_of_ble_eq_true rfl) rfl ?_
  intro p e s m below meth c C hr hlk hnm
  have C : Cx p s m ([.ref (gA Λ 31 0), .int (nI a), .int (nI b)] : List Value).toArray c cX11_swapped 3 RX11 wsX11_swapped D cy base := C
  have hts := C.2.2.2.2.1
  have hwX11 : ∀ w ∈ u_ws RX11 TX11 26, w ∈ wsX11_swapped := by decide +kernel
  have hM40 : (Cond.fieldLink RX11 40 (TX11 12).1 (TX11 12).2.1 (TX11 12).2.2.1).before ([.ref (gA Λ 31 0), .int (nI a), .int (nI b)] : List Value).toArray s = true := hts (.fieldLink RX11 40 "CodeRoomsModel" "roomOf" "[I") (by decide +kernel)
  have hL40 : FL RX11 40 (TX11 12).1 (TX11 12).2.1 (TX11 12).2.2.1 ([.ref (gA Λ 31 0), .int (nI a), .int (nI b)] : List Value).toArray s := Or.inl hM40
  have hn : M 31 5 ≤ 40 := hB 31 5 rfl
  refine j_aload_n C dX11_swapped_0 rfl 0 rfl ?_
  refine j_iload_n C dX11_swapped_1 rfl 1 rfl ?_
  refine j_aload_n C dX11_swapped_2 rfl 0 rfl ?_
  refine j_getV C hwX11 31 0 12 (MR.in0 hM (by decide) (by decide)) rfl rfl (by decide) rfl 0 (hM.2.2.2 12 rfl) hL40 dX11_swapped_3 ?_
  refine j_iload_n C dX11_swapped_6 rfl 2 rfl ?_
  have hb7 : M 38 b ≤ 5 := hB 38 b (decide_eq_true (show b < 40 by omega))
  refine j_iald C 38 0 b (MR.in0 hM (by decide) (by decide)) rfl rfl 40 (hM.2.2.1 38 (by decide) (by decide)) (by omega) (by omega) (nI (M 38 b)) (hM.1 38 b (decide_eq_true (show b < 40 by omega))) dX11_swapped_7 ?_
  refine j_iload_n C dX11_swapped_8 rfl 2 rfl ?_
  refine c_l0 C (r_V C 31 0 [.int (nI a), .int (nI (M 38 b)), .int (nI b)] (c_X11_hangs l D cy base Λ σ M hM hB a (M 38 b) (nI b) (by omega) (by omega)) (cwV 3 hts gX11_swapped_X11_hangs rfl rfl rfl (by decide +kernel) ⟨by decide, by decide⟩) (MR.in0 hM (by decide) (by decide)) rfl rfl rfl rfl (Nat.le_of_ble_eq_true rfl) dX11_swapped_9 ⟨by decide, by decide⟩) (fun rv uu hp => ?_)
  rw [hp.1, hp.2]
  refine j_aload_n C dX11_swapped_12 rfl 0 rfl ?_
  refine j_iload_n C dX11_swapped_13 rfl 1 rfl ?_
  refine j_aload_n C dX11_swapped_14 rfl 0 rfl ?_
  refine j_getV C hwX11 31 0 12 (MR.in0 hM (by decide) (by decide)) rfl rfl (by decide) rfl 0 (hM.2.2.2 12 rfl) hL40 dX11_swapped_15 ?_
  refine j_iload_n C dX11_swapped_18 rfl 1 rfl ?_
  have hb19 : M 38 a ≤ 5 := hB 38 a (decide_eq_true (show a < 40 by omega))
  refine j_iald C 38 0 a (MR.in0 hM (by decide) (by decide)) rfl rfl 40 (hM.2.2.1 38 (by decide) (by decide)) (by omega) (by omega) (nI (M 38 a)) (hM.1 38 a (decide_eq_true (show a < 40 by omega))) dX11_swapped_19 ?_
  refine j_iload_n C dX11_swapped_20 rfl 2 rfl ?_
  refine c_l0 C (r_V C 31 0 [.int (nI a), .int (nI (M 38 a)), .int (nI b)] (c_X11_hangs l D cy base Λ σ M hM hB a (M 38 a) (nI b) (by omega) (by omega)) (cwV 3 hts gX11_swapped_X11_hangs rfl rfl rfl (by decide +kernel) ⟨by decide, by decide⟩) (MR.in0 hM (by decide) (by decide)) rfl rfl rfl rfl (Nat.le_of_ble_eq_true rfl) dX11_swapped_21 ⟨by decide, by decide⟩) (fun rv uu hp => ?_)
  rw [hp.1, hp.2]
  refine j_lsub C (zL ((hangN M a (M 38 b) (nI b) : Int) - (hangN M a (M 38 a) (nI b) : Int))) dX11_swapped_24 (zL_sub _ _) ?_
  refine j_aload_n C dX11_swapped_25 rfl 0 rfl ?_
  refine j_iload_n C dX11_swapped_26 rfl 2 rfl ?_
  refine j_aload_n C dX11_swapped_27 rfl 0 rfl ?_
  refine j_getV C hwX11 31 0 12 (MR.in0 hM (by decide) (by decide)) rfl rfl (by decide) rfl 0 (hM.2.2.2 12 rfl) hL40 dX11_swapped_28 ?_
  refine j_iload_n C dX11_swapped_31 rfl 1 rfl ?_
  have hb32 : M 38 a ≤ 5 := hB 38 a (decide_eq_true (show a < 40 by omega))
  refine j_iald C 38 0 a (MR.in0 hM (by decide) (by decide)) rfl rfl 40 (hM.2.2.1 38 (by decide) (by decide)) (by omega) (by omega) (nI (M 38 a)) (hM.1 38 a (decide_eq_true (show a < 40 by omega))) dX11_swapped_32 ?_
  refine j_iload_n C dX11_swapped_33 rfl 1 rfl ?_
  refine c_l0 C (r_V C 31 0 [.int (nI b), .int (nI (M 38 a)), .int (nI a)] (c_X11_hangs l D cy base Λ σ M hM hB b (M 38 a) (nI a) (by omega) (by omega)) (cwV 3 hts gX11_swapped_X11_hangs rfl rfl rfl (by decide +kernel) ⟨by decide, by decide⟩) (MR.in0 hM (by decide) (by decide)) rfl rfl rfl rfl (Nat.le_of_ble_eq_true rfl) dX11_swapped_34 ⟨by decide, by decide⟩) (fun rv uu hp => ?_)
  rw [hp.1, hp.2]
  refine j_ladd C (zL (((hangN M a (M 38 b) (nI b) : Int) - (hangN M a (M 38 a) (nI b) : Int)) + (hangN M b (M 38 a) (nI a) : Int))) dX11_swapped_37 (zL_add _ _) ?_
  refine j_aload_n C dX11_swapped_38 rfl 0 rfl ?_
  refine j_iload_n C dX11_swapped_39 rfl 2 rfl ?_
  refine j_aload_n C dX11_swapped_40 rfl 0 rfl ?_
  refine j_getV C hwX11 31 0 12 (MR.in0 hM (by decide) (by decide)) rfl rfl (by decide) rfl 0 (hM.2.2.2 12 rfl) hL40 dX11_swapped_41 ?_
  refine j_iload_n C dX11_swapped_44 rfl 2 rfl ?_
  have hb45 : M 38 b ≤ 5 := hB 38 b (decide_eq_true (show b < 40 by omega))
  refine j_iald C 38 0 b (MR.in0 hM (by decide) (by decide)) rfl rfl 40 (hM.2.2.1 38 (by decide) (by decide)) (by omega) (by omega) (nI (M 38 b)) (hM.1 38 b (decide_eq_true (show b < 40 by omega))) dX11_swapped_45 ?_
  refine j_iload_n C dX11_swapped_46 rfl 1 rfl ?_
  refine c_l0 C (r_V C 31 0 [.int (nI b), .int (nI (M 38 b)), .int (nI a)] (c_X11_hangs l D cy base Λ σ M hM hB b (M 38 b) (nI a) (by omega) (by omega)) (cwV 3 hts gX11_swapped_X11_hangs rfl rfl rfl (by decide +kernel) ⟨by decide, by decide⟩) (MR.in0 hM (by decide) (by decide)) rfl rfl rfl rfl (Nat.le_of_ble_eq_true rfl) dX11_swapped_47 ⟨by decide, by decide⟩) (fun rv uu hp => ?_)
  rw [hp.1, hp.2]
  refine j_lsub C (zL ((((hangN M a (M 38 b) (nI b) : Int) - (hangN M a (M 38 a) (nI b) : Int)) + (hangN M b (M 38 a) (nI a) : Int)) - (hangN M b (M 38 b) (nI a) : Int))) dX11_swapped_50 (zL_sub _ _) ?_
  exact j_lret C hr hlk (⟨rfl, rfl⟩) dX11_swapped_51

set_option maxHeartbeats 4000000 in
set_option maxRecDepth 100000 in
theorem c_X11_isBetter (l : Launch) (D : va_G) (cy : Nat → ClassId) (base : Nat) (Λ : LY) (σ : HS) (M : MM) (hM : MR Λ σ M) (hB : MBd M) (hR : M 31 10 ≤ 6) (hR1 : 1 ≤ M 31 10) : Met l yX11_isBetter wsX11_isBetter ({ frames := 20, cells := 0, slots := 0, locals := 300 }) (va_Pc [.ref (gA Λ 31 0)] (Wd D cy base Λ σ)) (va_Qi (fun v u => v = bI (betB M) ∧ MR Λ u (betM M) ∧ Same nMo σ u) (Wd D cy base Λ) (Ab base)) 0 0 (Ab base) := by
  refine j_start (cc := cX11_isBetter) (nL := 10) (ret := (some .boolean)) (lv := [(0, .ref (gA Λ 31 0))]) (by decide) rfl (Nat.le_of_ble_eq_true rfl) rfl ?_
  intro p e s m below meth c C hr hlk hnm
  have C : Cx p s m ([.ref (gA Λ 31 0)] : List Value).toArray c cX11_isBetter 10 RX11 wsX11_isBetter D cy base := C
  have hts := C.2.2.2.2.1
  have hwX11 : ∀ w ∈ u_ws RX11 TX11 26, w ∈ wsX11_isBetter := by decide +kernel
  have hM33 : (Cond.fieldLink RX11 33 (TX11 10).1 (TX11 10).2.1 (TX11 10).2.2.1).before ([.ref (gA Λ 31 0)] : List Value).toArray s = true := hts (.fieldLink RX11 33 "CodeRoomsModel" "rooms" "I") (by decide +kernel)
  have hL33 : FL RX11 33 (TX11 10).1 (TX11 10).2.1 (TX11 10).2.2.1 ([.ref (gA Λ 31 0)] : List Value).toArray s := Or.inl hM33
  have hM36 : (Cond.fieldLink RX11 36 (TX11 11).1 (TX11 11).2.1 (TX11 11).2.2.1).before ([.ref (gA Λ 31 0)] : List Value).toArray s = true := hts (.fieldLink RX11 36 "CodeRoomsModel" "isHub" "[Z") (by decide +kernel)
  have hL36 : FL RX11 36 (TX11 11).1 (TX11 11).2.1 (TX11 11).2.2.1 ([.ref (gA Λ 31 0)] : List Value).toArray s := Or.inl hM36
  have hM40 : (Cond.fieldLink RX11 40 (TX11 12).1 (TX11 12).2.1 (TX11 12).2.2.1).before ([.ref (gA Λ 31 0)] : List Value).toArray s = true := hts (.fieldLink RX11 40 "CodeRoomsModel" "roomOf" "[I") (by decide +kernel)
  have hL40 : FL RX11 40 (TX11 12).1 (TX11 12).2.1 (TX11 12).2.2.1 ([.ref (gA Λ 31 0)] : List Value).toArray s := Or.inl hM40
  have hM83 : (Cond.fieldLink RX11 83 (TX11 5).1 (TX11 5).2.1 (TX11 5).2.2.1).before ([.ref (gA Λ 31 0)] : List Value).toArray s = true := hts (.fieldLink RX11 83 "CodeRoomsModel" "many" "I") (by decide +kernel)
  have hL83 : FL RX11 83 (TX11 5).1 (TX11 5).2.1 (TX11 5).2.2.1 ([.ref (gA Λ 31 0)] : List Value).toArray s := Or.inl hM83
  have hn : M 31 5 ≤ 40 := hB 31 5 rfl
  refine j_lconst C (zL 0) dX11_isBetter_0 (by decide) ?_
  refine j_lstore_n C [(1, .long (zL 0)), (0, .ref (gA Λ 31 0))] dX11_isBetter_1 rfl (by decide) rfl ?_
  refine j_iconst C ((-1)) dX11_isBetter_2 (by decide) ?_
  refine j_istore_n C [(3, .int ((-1))), (1, .long (zL 0)), (0, .ref (gA Λ 31 0))] dX11_isBetter_3 rfl (by decide) rfl ?_
  refine j_iconst C ((-1)) dX11_isBetter_4 (by decide) ?_
  refine j_istore C [(4, .int ((-1))), (3, .int ((-1))), (1, .long (zL 0)), (0, .ref (gA Λ 31 0))] dX11_isBetter_5 (by decide) rfl ?_
  refine j_iconst C ((-1)) dX11_isBetter_7 (by decide) ?_
  refine j_istore C [(5, .int ((-1))), (4, .int ((-1))), (3, .int ((-1))), (1, .long (zL 0)), (0, .ref (gA Λ 31 0))] dX11_isBetter_8 (by decide) rfl ?_
  refine j_iconst C (nI 0) dX11_isBetter_10 (by decide) ?_
  refine j_istore C [(6, .int (nI 0)), (5, .int ((-1))), (4, .int ((-1))), (3, .int ((-1))), (1, .long (zL 0)), (0, .ref (gA Λ 31 0))] dX11_isBetter_11 (by decide) rfl ?_
  have lb13 : ∀ (fu : Nat) (s1 : BS) (x3 x5 : Int32) (i : Nat), (M 31 5 - i) < fu → (i ≤ M 31 5) → (s1 = mvAll M i) → (x3 = nI s1.2.1 - 1) → (x5 = nI s1.2.2.2 - 1) → J p l e ({ frames := 20, cells := 0, slots := 0, locals := 300 }) s m ([.ref (gA Λ 31 0)] : List Value).toArray below meth c 10 D cy base (MQ below (va_Qi (fun v u => v = bI (betB M) ∧ MR Λ u (betM M) ∧ Same nMo σ u) (Wd D cy base Λ) (Ab base)) ([.ref (gA Λ 31 0)] : List Value).toArray s 0 0 (Ab base)) 0 0 Λ 13 [(0, .ref (gA Λ 31 0)), (1, .long (zL s1.1)), (3, .int (x3)), (4, .int ((-1))), (5, .int (x5)), (6, .int (nI i))] [] σ := by
    intro fu
    induction fu with
    | zero => intro s1 x3 x5 i hfu; exact absurd hfu (Nat.not_lt_zero _)
    | succ fu ih =>
      intro s1 x3 x5 i hfu hi hs1 h3 h5
      have hok1 : bsOk (M 31 5) (M 31 10) s1 := by rw [hs1]; exact mvAll_ok hB hn i hi
      have ih13 := ih
      refine j_iload C dX11_isBetter_13 5 rfl ?_
      refine j_aload_n C dX11_isBetter_15 rfl 0 rfl ?_
      have hb16 : M 31 5 ≤ 40 := hB 31 5 rfl
      refine j_getI C hwX11 31 0 5 (MR.in0 hM (by decide) (by decide)) rfl rfl (by decide) rfl (nI (M 31 5)) (hM.1 31 5 rfl) hL83 dX11_isBetter_16 ?_
      refine j_icmp_ge (tgt := 101) C dX11_isBetter_19 (by decide) (nI_leI (by omega) (by omega)) (fun h19 => ?_) (fun h19 => ?_)
      · refine j_iconst C (nI 0) dX11_isBetter_101 (by decide) ?_
        refine j_istore C [(6, .int (nI 0)), (0, .ref (gA Λ 31 0)), (1, .long (zL s1.1)), (3, .int (x3)), (4, .int ((-1))), (5, .int (x5))] dX11_isBetter_102 (by decide) rfl ?_
        have lb104 : ∀ (fu : Nat) (s3 : BS) (x3 x4 : Int32) (a : Nat), (M 31 5 - a) < fu → (a ≤ M 31 5) → (s3 = swAll M a) → (x3 = nI s3.2.1 - 1) → (x4 = nI s3.2.2.1 - 1) → J p l e ({ frames := 20, cells := 0, slots := 0, locals := 300 }) s m ([.ref (gA Λ 31 0)] : List Value).toArray below meth c 10 D cy base (MQ below (va_Qi (fun v u => v = bI (betB M) ∧ MR Λ u (betM M) ∧ Same nMo σ u) (Wd D cy base Λ) (Ab base)) ([.ref (gA Λ 31 0)] : List Value).toArray s 0 0 (Ab base)) 0 0 Λ 104 [(0, .ref (gA Λ 31 0)), (1, .long (zL s3.1)), (3, .int (x3)), (4, .int (x4)), (5, .int (x5)), (6, .int (nI a))] [] σ := by
          intro fu
          induction fu with
          | zero => intro s3 x3 x4 a hfu; exact absurd hfu (Nat.not_lt_zero _)
          | succ fu ih =>
            intro s3 x3 x4 a hfu ha hs3 h3 h4
            have hok3 : bsOk (M 31 5) (M 31 10) s3 := by rw [hs3]; exact swAll_ok hB hn a ha
            have ih104 := ih
            refine j_iload C dX11_isBetter_104 5 rfl ?_
            refine j_aload_n C dX11_isBetter_106 rfl 0 rfl ?_
            have hb107 : M 31 5 ≤ 40 := hB 31 5 rfl
            refine j_getI C hwX11 31 0 5 (MR.in0 hM (by decide) (by decide)) rfl rfl (by decide) rfl (nI (M 31 5)) (hM.1 31 5 rfl) hL83 dX11_isBetter_107 ?_
            refine j_icmp_ge (tgt := 210) C dX11_isBetter_110 (by decide) (nI_leI (by omega) (by omega)) (fun h110 => ?_) (fun h110 => ?_)
            · have hsB : s3 = bstS M := by rw [hs3, show a = M 31 5 by omega]; rfl
              have hok : bsOk (M 31 5) (M 31 10) (bstS M) := swAll_ok hB hn _ (Nat.le_refl _)
              have hq1 := hok.2.2.1
              have hq2 := hok.2.2.2.1
              have h5b : x5 = nI (bstS M).2.2.2 - 1 := by rw [h5, hs1, show i = M 31 5 by omega, ← swAll_to (i := M 31 5)]; rfl
              refine j_iload_n C dX11_isBetter_210 rfl 2 rfl ?_
              refine j_if_ge (tgt := 216) C dX11_isBetter_211 (by decide) (show (0 ≤ x3) ↔ (bstS M).2.1 ≠ 0 by rw [h3, hsB]; exact m1_ge (by omega)) (fun h211 => ?_) (fun h211 => ?_)
              · refine j_iload C dX11_isBetter_216 3 rfl ?_
                refine j_if_ge (tgt := 231) C dX11_isBetter_218 (by decide) (show (0 ≤ x4) ↔ (bstS M).2.2.1 ≠ 0 by rw [h4, hsB]; exact m1_ge (by omega)) (fun h218 => ?_) (fun h218 => ?_)
                · rw [h3, h4, hsB, m1_nI h211, m1_nI h218]
                  refine j_aload_n C dX11_isBetter_231 rfl 0 rfl ?_
                  refine j_getV C hwX11 31 0 12 (MR.in0 hM (by decide) (by decide)) rfl rfl (by decide) rfl 0 (hM.2.2.2 12 rfl) hL40 dX11_isBetter_232 ?_
                  refine j_iload_n C dX11_isBetter_235 rfl 2 rfl ?_
                  have hb236 : M 38 ((bstS M).2.1 - 1) ≤ 5 := hB 38 ((bstS M).2.1 - 1) (decide_eq_true (show (bstS M).2.1 - 1 < 40 by omega))
                  refine j_iald C 38 0 ((bstS M).2.1 - 1) (MR.in0 hM (by decide) (by decide)) rfl rfl 40 (hM.2.2.1 38 (by decide) (by decide)) (by omega) (by omega) (nI (M 38 ((bstS M).2.1 - 1))) (hM.1 38 ((bstS M).2.1 - 1) (decide_eq_true (show (bstS M).2.1 - 1 < 40 by omega))) dX11_isBetter_236 ?_
                  refine j_istore C [(6, .int (nI (M 38 ((bstS M).2.1 - 1)))), (0, .ref (gA Λ 31 0)), (1, .long (zL (bstS M).1)), (3, .int (nI ((bstS M).2.1 - 1))), (4, .int (nI ((bstS M).2.2.1 - 1))), (5, .int (x5))] dX11_isBetter_237 (by decide) rfl ?_
                  refine j_aload_n C dX11_isBetter_239 rfl 1 rfl ?_
                  refine j_getV C hwX11 31 0 12 (MR.in0 hM (by decide) (by decide)) rfl rfl (by decide) rfl 0 (hM.2.2.2 12 rfl) hL40 dX11_isBetter_240 ?_
                  refine j_iload_n C dX11_isBetter_243 rfl 3 rfl ?_
                  refine j_aload_n C dX11_isBetter_244 rfl 1 rfl ?_
                  refine j_getV C hwX11 31 0 12 (MR.in0 hM (by decide) (by decide)) rfl rfl (by decide) rfl 0 (hM.2.2.2 12 rfl) hL40 dX11_isBetter_245 ?_
                  refine j_iload C dX11_isBetter_248 4 rfl ?_
                  have hb250 : M 38 ((bstS M).2.2.1 - 1) ≤ 5 := hB 38 ((bstS M).2.2.1 - 1) (decide_eq_true (show (bstS M).2.2.1 - 1 < 40 by omega))
                  refine j_iald C 38 0 ((bstS M).2.2.1 - 1) (MR.in0 hM (by decide) (by decide)) rfl rfl 40 (hM.2.2.1 38 (by decide) (by decide)) (by omega) (by omega) (nI (M 38 ((bstS M).2.2.1 - 1))) (hM.1 38 ((bstS M).2.2.1 - 1) (decide_eq_true (show (bstS M).2.2.1 - 1 < 40 by omega))) dX11_isBetter_250 ?_
                  refine j_iast C 38 0 ((bstS M).2.1 - 1) (MR.in0 hM (by decide) (by decide)) rfl rfl 40 (hM.2.2.1 38 (by decide) (by decide)) (by omega) (by omega) (nI (M 38 ((bstS M).2.2.1 - 1))) rfl dX11_isBetter_251 ?_
                  have hM_7 := MR.set (t := 38) (k := ((bstS M).2.1 - 1)) (x := (M 38 ((bstS M).2.2.1 - 1))) (v := (nI (M 38 ((bstS M).2.2.1 - 1)))) hM rfl
                  have hs_8 := Same.sI (t := 38) (i := 0) (k := ((bstS M).2.1 - 1)) (x := (nI (M 38 ((bstS M).2.2.1 - 1)))) (Same.rf : Same nMo σ σ) (by decide)
                  refine j_aload_n C dX11_isBetter_252 rfl 1 rfl ?_
                  refine j_getV C hwX11 31 0 12 (MR.in0 hM_7 (by decide) (by decide)) rfl rfl (by decide) rfl 0 (hM_7.2.2.2 12 rfl) hL40 dX11_isBetter_253 ?_
                  refine j_iload C dX11_isBetter_256 4 rfl ?_
                  refine j_iload C dX11_isBetter_258 0 rfl ?_
                  refine j_iast C 38 0 ((bstS M).2.2.1 - 1) (MR.in0 hM_7 (by decide) (by decide)) rfl rfl 40 (hM_7.2.2.1 38 (by decide) (by decide)) (by omega) (by omega) (nI (M 38 ((bstS M).2.1 - 1))) rfl dX11_isBetter_260 ?_
                  have hM_9 := MR.set (t := 38) (k := ((bstS M).2.2.1 - 1)) (x := (M 38 ((bstS M).2.1 - 1))) (v := (nI (M 38 ((bstS M).2.1 - 1)))) hM_7 rfl
                  have hs_10 := Same.sI (t := 38) (i := 0) (k := ((bstS M).2.2.1 - 1)) (x := (nI (M 38 ((bstS M).2.1 - 1)))) hs_8 (by decide)
                  refine j_iconst C (nI 1) dX11_isBetter_261 (by decide) ?_
                  exact j_zret C (by first | rfl | exact nz_b _ | exact nz_n (by omega)) hr hlk (⟨rt1 (decide_eq_true h211), by unfold betM; rw [if_neg h211, if_neg h218]; exact hM_9, hs_10⟩) dX11_isBetter_262
                · have h218 := Decidable.of_not_not h218
                  have hk1 := hok.2.2.2.2.2.1 h211 h218
                  have hok5 := hok.2.2.2.2.1
                  rw [h3, h5b, hsB, m1_nI h211, m1_nI hk1]
                  refine j_aload_n C dX11_isBetter_221 rfl 0 rfl ?_
                  refine j_getV C hwX11 31 0 12 (MR.in0 hM (by decide) (by decide)) rfl rfl (by decide) rfl 0 (hM.2.2.2 12 rfl) hL40 dX11_isBetter_222 ?_
                  refine j_iload_n C dX11_isBetter_225 rfl 2 rfl ?_
                  refine j_iload C dX11_isBetter_226 4 rfl ?_
                  refine j_iast C 38 0 ((bstS M).2.1 - 1) (MR.in0 hM (by decide) (by decide)) rfl rfl 40 (hM.2.2.1 38 (by decide) (by decide)) (by omega) (by omega) (nI ((bstS M).2.2.2 - 1)) rfl dX11_isBetter_228 ?_
                  have hM_11 := MR.set (t := 38) (k := ((bstS M).2.1 - 1)) (x := ((bstS M).2.2.2 - 1)) (v := (nI ((bstS M).2.2.2 - 1))) hM rfl
                  have hs_12 := Same.sI (t := 38) (i := 0) (k := ((bstS M).2.1 - 1)) (x := (nI ((bstS M).2.2.2 - 1))) (Same.rf : Same nMo σ σ) (by decide)
                  refine j_iconst C (nI 1) dX11_isBetter_229 (by decide) ?_
                  exact j_zret C (by first | rfl | exact nz_b _ | exact nz_n (by omega)) hr hlk (⟨rt1 (decide_eq_true h211), by unfold betM; rw [if_neg h211, if_pos h218]; exact hM_11, hs_12⟩) dX11_isBetter_230
              · refine j_iconst C (nI 0) dX11_isBetter_214 (by decide) ?_
                exact j_zret C (by first | rfl | exact nz_b _ | exact nz_n (by omega)) hr hlk (⟨rt0 (decide_eq_false h211), by unfold betM; rw [if_pos (Decidable.of_not_not h211)]; exact hM, Same.rf⟩) dX11_isBetter_215
            · refine j_iload C dX11_isBetter_113 5 rfl ?_
              refine j_iconst C (nI 1) dX11_isBetter_115 (by decide) ?_
              refine j_iadd C (nI (a + 1)) dX11_isBetter_116 (nI_add _ _) ?_
              refine j_istore C [(7, .int (nI (a + 1))), (0, .ref (gA Λ 31 0)), (1, .long (zL s3.1)), (3, .int (x3)), (4, .int (x4)), (5, .int (x5)), (6, .int (nI a))] dX11_isBetter_117 (by decide) rfl ?_
              have lb119 : ∀ (fu : Nat) (s4 : BS) (x3 x4 : Int32) (b : Nat), (M 31 5 - b) < fu → (b ≤ M 31 5) → (a < b) → (a + 1 < b → M 37 a = 0) → (s4 = swRow M a s3 b) → (x3 = nI s4.2.1 - 1) → (x4 = nI s4.2.2.1 - 1) → J p l e ({ frames := 20, cells := 0, slots := 0, locals := 300 }) s m ([.ref (gA Λ 31 0)] : List Value).toArray below meth c 10 D cy base (MQ below (va_Qi (fun v u => v = bI (betB M) ∧ MR Λ u (betM M) ∧ Same nMo σ u) (Wd D cy base Λ) (Ab base)) ([.ref (gA Λ 31 0)] : List Value).toArray s 0 0 (Ab base)) 0 0 Λ 119 [(0, .ref (gA Λ 31 0)), (1, .long (zL s4.1)), (3, .int (x3)), (4, .int (x4)), (5, .int (x5)), (6, .int (nI a)), (7, .int (nI b))] [] σ := by
                intro fu
                induction fu with
                | zero => intro s4 x3 x4 b hfu; exact absurd hfu (Nat.not_lt_zero _)
                | succ fu ih =>
                  intro s4 x3 x4 b hfu hb hab hb0 hs4 h3 h4
                  have hok4 : bsOk (M 31 5) (M 31 10) s4 := by rw [hs4]; exact swRow_ok hB hn (by omega) hok3 b hb
                  have hok41 := hok4.1
                  have hok42 := hok4.2.1
                  have ih119 := ih
                  refine j_iload C dX11_isBetter_119 6 rfl ?_
                  refine j_aload_n C dX11_isBetter_121 rfl 0 rfl ?_
                  have hb122 : M 31 5 ≤ 40 := hB 31 5 rfl
                  refine j_getI C hwX11 31 0 5 (MR.in0 hM (by decide) (by decide)) rfl rfl (by decide) rfl (nI (M 31 5)) (hM.1 31 5 rfl) hL83 dX11_isBetter_122 ?_
                  refine j_icmp_ge (tgt := 204) C dX11_isBetter_125 (by decide) (nI_leI (by omega) (by omega)) (fun h125 => ?_) (fun h125 => ?_)
                  · refine j_iinc C [(6, .int (nI (a + 1))), (0, .ref (gA Λ 31 0)), (1, .long (zL s4.1)), (3, .int (x3)), (4, .int (x4)), (5, .int (x5)), (7, .int (nI b))] (nI (a + 1)) dX11_isBetter_204 5 rfl (nI_add _ 1) (by decide) rfl ?_
                    refine j_goto (tgt := 104) C dX11_isBetter_207 (by decide) ?_
                    refine j_lv [1, 2, 3, 4, 5, 0] rfl ?_
                    exact ih104 s4 x3 x4 (a + 1) (by omega) (by omega) (by rw [hs4, hs3, show b = M 31 5 by omega]; exact swAll_exit (fun z => hb0 (by omega))) h3 h4
                  · refine j_aload_n C dX11_isBetter_128 rfl 0 rfl ?_
                    refine j_getV C hwX11 31 0 11 (MR.in0 hM (by decide) (by decide)) rfl rfl (by decide) rfl 0 (hM.2.2.2 11 rfl) hL36 dX11_isBetter_129 ?_
                    refine j_iload C dX11_isBetter_132 5 rfl ?_
                    have hb134 : M 37 a ≤ 1 := hB 37 a (decide_eq_true (show a < 40 by omega))
                    refine j_zald C 37 0 a (MR.in0 hM (by decide) (by decide)) rfl rfl 40 (hM.2.2.1 37 (by decide) (by decide)) (by omega) (by omega) (nI (M 37 a)) (hM.1 37 a (decide_eq_true (show a < 40 by omega))) dX11_isBetter_134 ?_
                    refine j_if_ne (tgt := 204) C dX11_isBetter_135 (by decide) (nJ_ne0 (by omega)) (fun h135 => ?_) (fun h135 => ?_)
                    · refine j_iinc C [(6, .int (nI (a + 1))), (0, .ref (gA Λ 31 0)), (1, .long (zL s4.1)), (3, .int (x3)), (4, .int (x4)), (5, .int (x5)), (7, .int (nI b))] (nI (a + 1)) dX11_isBetter_204 5 rfl (nI_add _ 1) (by decide) rfl ?_
                      refine j_goto (tgt := 104) C dX11_isBetter_207 (by decide) ?_
                      refine j_lv [1, 2, 3, 4, 5, 0] rfl ?_
                      exact ih104 s4 x3 x4 (a + 1) (by omega) (by omega) (by rw [hs4, hs3]; exact swAll_exit2 hb0 h135) h3 h4
                    · refine j_aload_n C dX11_isBetter_138 rfl 0 rfl ?_
                      refine j_getV C hwX11 31 0 11 (MR.in0 hM (by decide) (by decide)) rfl rfl (by decide) rfl 0 (hM.2.2.2 11 rfl) hL36 dX11_isBetter_139 ?_
                      refine j_iload C dX11_isBetter_142 6 rfl ?_
                      have hb144 : M 37 b ≤ 1 := hB 37 b (decide_eq_true (show b < 40 by omega))
                      refine j_zald C 37 0 b (MR.in0 hM (by decide) (by decide)) rfl rfl 40 (hM.2.2.1 37 (by decide) (by decide)) (by omega) (by omega) (nI (M 37 b)) (hM.1 37 b (decide_eq_true (show b < 40 by omega))) dX11_isBetter_144 ?_
                      refine j_if_ne (tgt := 198) C dX11_isBetter_145 (by decide) (nJ_ne0 (by omega)) (fun h145 => ?_) (fun h145 => ?_)
                      · refine j_iinc C [(7, .int (nI (b + 1))), (0, .ref (gA Λ 31 0)), (1, .long (zL s4.1)), (3, .int (x3)), (4, .int (x4)), (5, .int (x5)), (6, .int (nI a))] (nI (b + 1)) dX11_isBetter_198 6 rfl (nI_add _ 1) (by decide) rfl ?_
                        refine j_goto (tgt := 119) C dX11_isBetter_201 (by decide) ?_
                        refine j_lv [1, 2, 3, 4, 5, 6, 0] rfl ?_
                        exact ih119 s4 x3 x4 (b + 1) (by omega) (by omega) (by omega) (fun _ => h135) (by show _ = swStep M a (swRow M a s3 b) b; rw [← hs4]; unfold swStep; rw [if_neg (fun z => h145 z.2.1)]) h3 h4
                      · refine j_aload_n C dX11_isBetter_148 rfl 0 rfl ?_
                        refine j_getV C hwX11 31 0 12 (MR.in0 hM (by decide) (by decide)) rfl rfl (by decide) rfl 0 (hM.2.2.2 12 rfl) hL40 dX11_isBetter_149 ?_
                        refine j_iload C dX11_isBetter_152 5 rfl ?_
                        have hb154 : M 38 a ≤ 5 := hB 38 a (decide_eq_true (show a < 40 by omega))
                        refine j_iald C 38 0 a (MR.in0 hM (by decide) (by decide)) rfl rfl 40 (hM.2.2.1 38 (by decide) (by decide)) (by omega) (by omega) (nI (M 38 a)) (hM.1 38 a (decide_eq_true (show a < 40 by omega))) dX11_isBetter_154 ?_
                        refine j_aload_n C dX11_isBetter_155 rfl 0 rfl ?_
                        refine j_getV C hwX11 31 0 12 (MR.in0 hM (by decide) (by decide)) rfl rfl (by decide) rfl 0 (hM.2.2.2 12 rfl) hL40 dX11_isBetter_156 ?_
                        refine j_iload C dX11_isBetter_159 6 rfl ?_
                        have hb161 : M 38 b ≤ 5 := hB 38 b (decide_eq_true (show b < 40 by omega))
                        refine j_iald C 38 0 b (MR.in0 hM (by decide) (by decide)) rfl rfl 40 (hM.2.2.1 38 (by decide) (by decide)) (by omega) (by omega) (nI (M 38 b)) (hM.1 38 b (decide_eq_true (show b < 40 by omega))) dX11_isBetter_161 ?_
                        refine j_icmp_ne (tgt := 168) C dX11_isBetter_162 (by decide) (nI_eq (by omega) (by omega)) (fun h162 => ?_) (fun h162 => ?_)
                        · refine j_aload_n C dX11_isBetter_168 rfl 0 rfl ?_
                          refine j_iload C dX11_isBetter_169 5 rfl ?_
                          refine j_iload C dX11_isBetter_171 6 rfl ?_
                          have hmb := swpZ_bd hB hn (a := a) (b := b) (by omega) (by omega)
                          refine c_l0 C (r_V C 31 0 [.int (nI a), .int (nI b)] (c_X11_swapped l D cy base Λ σ M hM hB a b (by omega) (by omega)) (cwV 2 hts gX11_isBetter_X11_swapped rfl rfl rfl (by decide +kernel) ⟨by decide, by decide⟩) (MR.in0 hM (by decide) (by decide)) rfl rfl rfl rfl (Nat.le_of_ble_eq_true rfl) dX11_isBetter_173 ⟨by decide, by decide⟩) (fun rv uu hp => ?_)
                          rw [hp.1, hp.2]
                          refine j_lstore C [(8, .long (zL (swpZ M a b))), (0, .ref (gA Λ 31 0)), (1, .long (zL s4.1)), (3, .int (x3)), (4, .int (x4)), (5, .int (x5)), (6, .int (nI a)), (7, .int (nI b))] dX11_isBetter_176 (by decide) rfl ?_
                          refine j_lload C dX11_isBetter_178 0 rfl ?_
                          refine j_lload_n C dX11_isBetter_180 rfl 2 rfl ?_
                          refine j_lcmp_lt (tgt := 188) C dX11_isBetter_181 dX11_isBetter_182 (by decide) (zL_lt (by omega) (by omega) (by omega) (by omega)) (fun h181 => ?_) (fun h181 => ?_)
                          · refine j_lload C dX11_isBetter_188 0 rfl ?_
                            refine j_lstore_n C [(1, .long (zL (swpZ M a b))), (8, .long (zL (swpZ M a b))), (0, .ref (gA Λ 31 0)), (3, .int (x3)), (4, .int (x4)), (5, .int (x5)), (6, .int (nI a)), (7, .int (nI b))] dX11_isBetter_190 rfl (by decide) rfl ?_
                            refine j_iload C dX11_isBetter_191 6 rfl ?_
                            refine j_istore_n C [(3, .int (nI a)), (1, .long (zL (swpZ M a b))), (8, .long (zL (swpZ M a b))), (0, .ref (gA Λ 31 0)), (4, .int (x4)), (5, .int (x5)), (6, .int (nI a)), (7, .int (nI b))] dX11_isBetter_193 rfl (by decide) rfl ?_
                            refine j_iload C dX11_isBetter_194 7 rfl ?_
                            refine j_istore C [(4, .int (nI b)), (3, .int (nI a)), (1, .long (zL (swpZ M a b))), (8, .long (zL (swpZ M a b))), (0, .ref (gA Λ 31 0)), (5, .int (x5)), (6, .int (nI a)), (7, .int (nI b))] dX11_isBetter_196 (by decide) rfl ?_
                            refine j_iinc C [(7, .int (nI (b + 1))), (4, .int (nI b)), (3, .int (nI a)), (1, .long (zL (swpZ M a b))), (8, .long (zL (swpZ M a b))), (0, .ref (gA Λ 31 0)), (5, .int (x5)), (6, .int (nI a))] (nI (b + 1)) dX11_isBetter_198 7 rfl (nI_add _ 1) (by decide) rfl ?_
                            refine j_goto (tgt := 119) C dX11_isBetter_201 (by decide) ?_
                            refine j_lv [5, 3, 2, 1, 6, 7, 0] rfl ?_
                            exact ih119 (swpZ M a b, a + 1, b + 1, s4.2.2.2) (nI a) (nI b) (b + 1) (by omega) (by omega) (by omega) (fun _ => h135) (by show _ = swStep M a (swRow M a s3 b) b; rw [← hs4]; unfold swStep; rw [if_pos ⟨hab, h145, h162, h181⟩]) (by rw [nI_pred]) (by rw [nI_pred])
                          · refine j_goto (tgt := 198) C dX11_isBetter_185 (by decide) ?_
                            refine j_iinc C [(7, .int (nI (b + 1))), (8, .long (zL (swpZ M a b))), (0, .ref (gA Λ 31 0)), (1, .long (zL s4.1)), (3, .int (x3)), (4, .int (x4)), (5, .int (x5)), (6, .int (nI a))] (nI (b + 1)) dX11_isBetter_198 7 rfl (nI_add _ 1) (by decide) rfl ?_
                            refine j_goto (tgt := 119) C dX11_isBetter_201 (by decide) ?_
                            refine j_lv [2, 3, 4, 5, 6, 7, 0] rfl ?_
                            exact ih119 s4 x3 x4 (b + 1) (by omega) (by omega) (by omega) (fun _ => h135) (by show _ = swStep M a (swRow M a s3 b) b; rw [← hs4]; unfold swStep; rw [if_neg (fun z => h181 z.2.2.2)]) h3 h4
                        · refine j_goto (tgt := 198) C dX11_isBetter_165 (by decide) ?_
                          refine j_iinc C [(7, .int (nI (b + 1))), (0, .ref (gA Λ 31 0)), (1, .long (zL s4.1)), (3, .int (x3)), (4, .int (x4)), (5, .int (x5)), (6, .int (nI a))] (nI (b + 1)) dX11_isBetter_198 6 rfl (nI_add _ 1) (by decide) rfl ?_
                          refine j_goto (tgt := 119) C dX11_isBetter_201 (by decide) ?_
                          refine j_lv [1, 2, 3, 4, 5, 6, 0] rfl ?_
                          exact ih119 s4 x3 x4 (b + 1) (by omega) (by omega) (by omega) (fun _ => h135) (by show _ = swStep M a (swRow M a s3 b) b; rw [← hs4]; unfold swStep; rw [if_neg (fun z => z.2.2.1 h162)]) h3 h4
              refine j_lv [1, 2, 3, 4, 5, 6, 0] rfl ?_
              exact lb119 _ s3 x3 x4 (a + 1) (Nat.lt_succ_self _) (by omega) (by omega) (fun z => absurd z (by omega)) (by rw [swRow_skip (Nat.le_refl _)]) h3 h4
        refine j_lv [1, 2, 3, 4, 5, 0] rfl ?_
        exact lb104 _ s1 x3 (-1) 0 (Nat.lt_succ_self _) (by omega) (by rw [hs1, show i = M 31 5 by omega]; rfl) h3 (by rw [hs1, mvAll_zero]; exact m1_0.symm)
      · refine j_iconst C (nI 0) dX11_isBetter_22 (by decide) ?_
        refine j_istore C [(7, .int (nI 0)), (0, .ref (gA Λ 31 0)), (1, .long (zL s1.1)), (3, .int (x3)), (4, .int ((-1))), (5, .int (x5)), (6, .int (nI i))] dX11_isBetter_23 (by decide) rfl ?_
        have lb25 : ∀ (fu : Nat) (s2 : BS) (x3 x5 : Int32) (k : Nat), (M 31 10 - k) < fu → (k ≤ M 31 10) → (k ≠ 0 → M 37 i = 0) → (s2 = mvRow M i s1 k) → (x3 = nI s2.2.1 - 1) → (x5 = nI s2.2.2.2 - 1) → J p l e ({ frames := 20, cells := 0, slots := 0, locals := 300 }) s m ([.ref (gA Λ 31 0)] : List Value).toArray below meth c 10 D cy base (MQ below (va_Qi (fun v u => v = bI (betB M) ∧ MR Λ u (betM M) ∧ Same nMo σ u) (Wd D cy base Λ) (Ab base)) ([.ref (gA Λ 31 0)] : List Value).toArray s 0 0 (Ab base)) 0 0 Λ 25 [(0, .ref (gA Λ 31 0)), (1, .long (zL s2.1)), (3, .int (x3)), (4, .int ((-1))), (5, .int (x5)), (6, .int (nI i)), (7, .int (nI k))] [] σ := by
          intro fu
          induction fu with
          | zero => intro s2 x3 x5 k hfu; exact absurd hfu (Nat.not_lt_zero _)
          | succ fu ih =>
            intro s2 x3 x5 k hfu hk hk0 hs2 h3 h5
            have hok2 : bsOk (M 31 5) (M 31 10) s2 := by rw [hs2]; exact mvRow_ok hB hn (by omega) hok1 k hk
            have hok21 := hok2.1
            have hok22 := hok2.2.1
            have ih25 := ih
            refine j_iload C dX11_isBetter_25 6 rfl ?_
            refine j_aload_n C dX11_isBetter_27 rfl 0 rfl ?_
            have hb28 : M 31 10 ≤ 40 := hB 31 10 rfl
            refine j_getI C hwX11 31 0 10 (MR.in0 hM (by decide) (by decide)) rfl rfl (by decide) rfl (nI (M 31 10)) (hM.1 31 10 rfl) hL33 dX11_isBetter_28 ?_
            refine j_icmp_ge (tgt := 95) C dX11_isBetter_31 (by decide) (nI_leI (by omega) (by omega)) (fun h31 => ?_) (fun h31 => ?_)
            · refine j_iinc C [(6, .int (nI (i + 1))), (0, .ref (gA Λ 31 0)), (1, .long (zL s2.1)), (3, .int (x3)), (4, .int ((-1))), (5, .int (x5)), (7, .int (nI k))] (nI (i + 1)) dX11_isBetter_95 5 rfl (nI_add _ 1) (by decide) rfl ?_
              refine j_goto (tgt := 13) C dX11_isBetter_98 (by decide) ?_
              refine j_lv [1, 2, 3, 4, 5, 0] rfl ?_
              exact ih13 s2 x3 x5 (i + 1) (by omega) (by omega) (by rw [hs2, hs1, show k = M 31 10 by omega]; show _ = (if M 37 i = 0 then mvRow M i (mvAll M i) (M 31 10) else mvAll M i); rw [if_pos (hk0 (by omega))]) h3 h5
            · refine j_aload_n C dX11_isBetter_34 rfl 0 rfl ?_
              refine j_getV C hwX11 31 0 11 (MR.in0 hM (by decide) (by decide)) rfl rfl (by decide) rfl 0 (hM.2.2.2 11 rfl) hL36 dX11_isBetter_35 ?_
              refine j_iload C dX11_isBetter_38 5 rfl ?_
              have hb40 : M 37 i ≤ 1 := hB 37 i (decide_eq_true (show i < 40 by omega))
              refine j_zald C 37 0 i (MR.in0 hM (by decide) (by decide)) rfl rfl 40 (hM.2.2.1 37 (by decide) (by decide)) (by omega) (by omega) (nI (M 37 i)) (hM.1 37 i (decide_eq_true (show i < 40 by omega))) dX11_isBetter_40 ?_
              refine j_if_ne (tgt := 95) C dX11_isBetter_41 (by decide) (nJ_ne0 (by omega)) (fun h41 => ?_) (fun h41 => ?_)
              · refine j_iinc C [(6, .int (nI (i + 1))), (0, .ref (gA Λ 31 0)), (1, .long (zL s2.1)), (3, .int (x3)), (4, .int ((-1))), (5, .int (x5)), (7, .int (nI k))] (nI (i + 1)) dX11_isBetter_95 5 rfl (nI_add _ 1) (by decide) rfl ?_
                refine j_goto (tgt := 13) C dX11_isBetter_98 (by decide) ?_
                refine j_lv [1, 2, 3, 4, 5, 0] rfl ?_
                exact ih13 s2 x3 x5 (i + 1) (by omega) (by omega) (by rw [hs2, show k = 0 from Classical.byContradiction (fun z => h41 (hk0 z))]; unfold mvAll mvRow; rw [if_neg h41]; exact hs1) h3 h5
              · refine j_iload C dX11_isBetter_44 6 rfl ?_
                refine j_aload_n C dX11_isBetter_46 rfl 0 rfl ?_
                refine j_getV C hwX11 31 0 12 (MR.in0 hM (by decide) (by decide)) rfl rfl (by decide) rfl 0 (hM.2.2.2 12 rfl) hL40 dX11_isBetter_47 ?_
                refine j_iload C dX11_isBetter_50 5 rfl ?_
                have hb52 : M 38 i ≤ 5 := hB 38 i (decide_eq_true (show i < 40 by omega))
                refine j_iald C 38 0 i (MR.in0 hM (by decide) (by decide)) rfl rfl 40 (hM.2.2.1 38 (by decide) (by decide)) (by omega) (by omega) (nI (M 38 i)) (hM.1 38 i (decide_eq_true (show i < 40 by omega))) dX11_isBetter_52 ?_
                refine j_icmp_ne (tgt := 59) C dX11_isBetter_53 (by decide) (nI_eq (by omega) (by omega)) (fun h53 => ?_) (fun h53 => ?_)
                · refine j_aload_n C dX11_isBetter_59 rfl 0 rfl ?_
                  refine j_iload C dX11_isBetter_60 5 rfl ?_
                  refine j_iload C dX11_isBetter_62 6 rfl ?_
                  have hmb := movZ_bd hB hn (r := i) (room := k) (by omega)
                  refine c_l0 C (r_V C 31 0 [.int (nI i), .int (nI k)] (c_X11_moved l D cy base Λ σ M hM hB i k (by omega) (by omega)) (cwV 2 hts gX11_isBetter_X11_moved rfl rfl rfl (by decide +kernel) ⟨by decide, by decide⟩) (MR.in0 hM (by decide) (by decide)) rfl rfl rfl rfl (Nat.le_of_ble_eq_true rfl) dX11_isBetter_64 ⟨by decide, by decide⟩) (fun rv uu hp => ?_)
                  rw [hp.1, hp.2]
                  refine j_lstore C [(8, .long (zL (movZ M i k))), (0, .ref (gA Λ 31 0)), (1, .long (zL s2.1)), (3, .int (x3)), (4, .int ((-1))), (5, .int (x5)), (6, .int (nI i)), (7, .int (nI k))] dX11_isBetter_67 (by decide) rfl ?_
                  refine j_lload C dX11_isBetter_69 0 rfl ?_
                  refine j_lload_n C dX11_isBetter_71 rfl 2 rfl ?_
                  refine j_lcmp_lt (tgt := 79) C dX11_isBetter_72 dX11_isBetter_73 (by decide) (zL_lt (by omega) (by omega) (by omega) (by omega)) (fun h72 => ?_) (fun h72 => ?_)
                  · refine j_lload C dX11_isBetter_79 0 rfl ?_
                    refine j_lstore_n C [(1, .long (zL (movZ M i k))), (8, .long (zL (movZ M i k))), (0, .ref (gA Λ 31 0)), (3, .int (x3)), (4, .int ((-1))), (5, .int (x5)), (6, .int (nI i)), (7, .int (nI k))] dX11_isBetter_81 rfl (by decide) rfl ?_
                    refine j_iload C dX11_isBetter_82 6 rfl ?_
                    refine j_istore_n C [(3, .int (nI i)), (1, .long (zL (movZ M i k))), (8, .long (zL (movZ M i k))), (0, .ref (gA Λ 31 0)), (4, .int ((-1))), (5, .int (x5)), (6, .int (nI i)), (7, .int (nI k))] dX11_isBetter_84 rfl (by decide) rfl ?_
                    refine j_iload C dX11_isBetter_85 7 rfl ?_
                    refine j_istore C [(5, .int (nI k)), (3, .int (nI i)), (1, .long (zL (movZ M i k))), (8, .long (zL (movZ M i k))), (0, .ref (gA Λ 31 0)), (4, .int ((-1))), (6, .int (nI i)), (7, .int (nI k))] dX11_isBetter_87 (by decide) rfl ?_
                    refine j_iinc C [(7, .int (nI (k + 1))), (5, .int (nI k)), (3, .int (nI i)), (1, .long (zL (movZ M i k))), (8, .long (zL (movZ M i k))), (0, .ref (gA Λ 31 0)), (4, .int ((-1))), (6, .int (nI i))] (nI (k + 1)) dX11_isBetter_89 7 rfl (nI_add _ 1) (by decide) rfl ?_
                    refine j_goto (tgt := 25) C dX11_isBetter_92 (by decide) ?_
                    refine j_lv [5, 3, 2, 6, 1, 7, 0] rfl ?_
                    exact ih25 (movZ M i k, i + 1, s2.2.2.1, k + 1) (nI i) (nI k) (k + 1) (by omega) (by omega) (fun _ => h41) (by show _ = mvStep M i (mvRow M i s1 k) k; rw [← hs2]; unfold mvStep; rw [if_pos ⟨h53, h72⟩]) (by rw [nI_pred]) (by rw [nI_pred])
                  · refine j_goto (tgt := 89) C dX11_isBetter_76 (by decide) ?_
                    refine j_iinc C [(7, .int (nI (k + 1))), (8, .long (zL (movZ M i k))), (0, .ref (gA Λ 31 0)), (1, .long (zL s2.1)), (3, .int (x3)), (4, .int ((-1))), (5, .int (x5)), (6, .int (nI i))] (nI (k + 1)) dX11_isBetter_89 7 rfl (nI_add _ 1) (by decide) rfl ?_
                    refine j_goto (tgt := 25) C dX11_isBetter_92 (by decide) ?_
                    refine j_lv [2, 3, 4, 5, 6, 7, 0] rfl ?_
                    exact ih25 s2 x3 x5 (k + 1) (by omega) (by omega) (fun _ => h41) (by show _ = mvStep M i (mvRow M i s1 k) k; rw [← hs2]; unfold mvStep; rw [if_neg (fun z => h72 z.2)]) h3 h5
                · refine j_goto (tgt := 89) C dX11_isBetter_56 (by decide) ?_
                  refine j_iinc C [(7, .int (nI (k + 1))), (0, .ref (gA Λ 31 0)), (1, .long (zL s2.1)), (3, .int (x3)), (4, .int ((-1))), (5, .int (x5)), (6, .int (nI i))] (nI (k + 1)) dX11_isBetter_89 6 rfl (nI_add _ 1) (by decide) rfl ?_
                  refine j_goto (tgt := 25) C dX11_isBetter_92 (by decide) ?_
                  refine j_lv [1, 2, 3, 4, 5, 6, 0] rfl ?_
                  exact ih25 s2 x3 x5 (k + 1) (by omega) (by omega) (fun _ => h41) (by show _ = mvStep M i (mvRow M i s1 k) k; rw [← hs2]; unfold mvStep; rw [if_neg (fun z => z.1 h53)]) h3 h5
        refine j_lv [1, 2, 3, 4, 5, 6, 0] rfl ?_
        exact lb25 _ s1 x3 x5 0 (Nat.lt_succ_self _) (by omega) (fun z => absurd rfl z) (by unfold mvRow; rfl) h3 h5
  refine j_lv [5, 4, 3, 2, 1, 0] rfl ?_
  exact lb13 _ (0, 0, 0, 0) (-1) (-1) 0 (Nat.lt_succ_self _) (by omega) rfl m1_0.symm m1_0.symm
