set_option maxHeartbeats 20000000 in
set_option maxRecDepth 100000 in
theorem c_X10_init2 (l : Launch) (D : va_G) (cy : Nat → ClassId) (base : Nat) (Λ : LY) (σ : HS) (x0 q0 : Nat) (hL : Λ = nY (L0 x0) 0 q0 0) (hS : σ = nS (L0 x0) S0 0) : Met l yX10_init wsX10_init ({ frames := 24, cells := 29, slots := 375, locals := 360 }) (va_Pc [.ref (gA Λ 0 0)] (Wg D cy base Λ σ)) (va_Qv (fun u => CR noEx u.1 u.2 M0 ∧ AL u.1 u.2 0 0 0 (fun _ => 0) ∧ (0 < gC u.1 14 ∧ gV u.2 14 0 0 = some 0) ∧ gC u.1 16 = 0 ∧ gC u.1 17 = 0 ∧ gC u.1 1 = 2 ∧ (∀ t, 31 ≤ t → gC u.1 t = 0) ∧ gA u.1 50 0 = gA Λ 50 0 ∧ gA u.1 0 0 = gA Λ 0 0) (Wx D cy base) (Ab base)) 29 375 (Ab base) := by
  refine j_startG (cc := cX10_init) (nL := 1) (ret := none) (lv := [(0, .ref (gA Λ 0 0))]) (by decide) rfl (Nat.le_of_ble_eq_true rfl) rfl ?_
  intro p e s m below meth c C hr hlk hnm hZ
  have C : Cx p s m ([.ref (gA Λ 0 0)] : List Value).toArray c cX10_init 1 RX10 wsX10_init D cy base := C
  have hts := C.2.2.2.2.1
  have hwX0 : ∀ w ∈ u_ws RX0 TX0 1, w ∈ wsX10_init := by decide +kernel
  have hwX1 : ∀ w ∈ u_ws RX1 TX1 3, w ∈ wsX10_init := by decide +kernel
  have hwX10 : ∀ w ∈ u_ws RX10 TX10 9, w ∈ wsX10_init := by decide +kernel
  have hwX2 : ∀ w ∈ u_ws RX2 TX2 6, w ∈ wsX10_init := by decide +kernel
  have hwX3 : ∀ w ∈ u_ws RX3 TX3 2, w ∈ wsX10_init := by decide +kernel
  have hwX4 : ∀ w ∈ u_ws RX4 TX4 6, w ∈ wsX10_init := by decide +kernel
  have hwX6 : ∀ w ∈ u_ws RX6 TX6 4, w ∈ wsX10_init := by decide +kernel
  have hwX7 : ∀ w ∈ u_ws RX7 TX7 2, w ∈ wsX10_init := by decide +kernel
  have hwX8 : ∀ w ∈ u_ws RX8 TX8 2, w ∈ wsX10_init := by decide +kernel
  have hM14 : (Cond.fieldLink RX10 14 (TX10 0).1 (TX10 0).2.1 (TX10 0).2.2.1).before ([.ref (gA Λ 0 0)] : List Value).toArray s = true := hts (.fieldLink RX10 14 "CodeRooms" "tape" "LCodeRooms$Text;") (by decide +kernel)
  have hL14 : FL RX10 14 (TX10 0).1 (TX10 0).2.1 (TX10 0).2.2.1 ([.ref (gA Λ 0 0)] : List Value).toArray s := Or.inl hM14
  have hM18 : (Cond.fieldLink RX10 18 (TX10 1).1 (TX10 1).2.1 (TX10 1).2.2.1).before ([.ref (gA Λ 0 0)] : List Value).toArray s = true := hts (.fieldLink RX10 18 "CodeRooms" "page" "LCodeRooms$Text;") (by decide +kernel)
  have hL18 : FL RX10 18 (TX10 1).1 (TX10 1).2.1 (TX10 1).2.2.1 ([.ref (gA Λ 0 0)] : List Value).toArray s := Or.inl hM18
  have hM24 : (Cond.fieldLink RX10 24 (TX10 2).1 (TX10 2).2.1 (TX10 2).2.2.1).before ([.ref (gA Λ 0 0)] : List Value).toArray s = true := hts (.fieldLink RX10 24 "CodeRooms" "plan" "LCodeRooms$Plan;") (by decide +kernel)
  have hL24 : FL RX10 24 (TX10 2).1 (TX10 2).2.1 (TX10 2).2.2.1 ([.ref (gA Λ 0 0)] : List Value).toArray s := Or.inl hM24
  have hM31 : (Cond.fieldLink RX10 31 (TX10 3).1 (TX10 3).2.1 (TX10 3).2.2.1).before ([.ref (gA Λ 0 0)] : List Value).toArray s = true := hts (.fieldLink RX10 31 "CodeRooms" "glossary" "LCodeRooms$Glossary;") (by decide +kernel)
  have hL31 : FL RX10 31 (TX10 3).1 (TX10 3).2.1 (TX10 3).2.2.1 ([.ref (gA Λ 0 0)] : List Value).toArray s := Or.inl hM31
  have hM40 : (Cond.fieldLink RX10 40 (TX10 4).1 (TX10 4).2.1 (TX10 4).2.2.1).before ([.ref (gA Λ 0 0)] : List Value).toArray s = true := hts (.fieldLink RX10 40 "CodeRooms" "mender" "LCodeRooms$Mender;") (by decide +kernel)
  have hL40 : FL RX10 40 (TX10 4).1 (TX10 4).2.1 (TX10 4).2.2.1 ([.ref (gA Λ 0 0)] : List Value).toArray s := Or.inl hM40
  have hM47 : (Cond.fieldLink RX10 47 (TX10 5).1 (TX10 5).2.1 (TX10 5).2.2.1).before ([.ref (gA Λ 0 0)] : List Value).toArray s = true := hts (.fieldLink RX10 47 "CodeRooms" "search" "LCodeRooms$Search;") (by decide +kernel)
  have hL47 : FL RX10 47 (TX10 5).1 (TX10 5).2.1 (TX10 5).2.2.1 ([.ref (gA Λ 0 0)] : List Value).toArray s := Or.inl hM47
  have hM54 : (Cond.fieldLink RX10 54 (TX10 6).1 (TX10 6).2.1 (TX10 6).2.2.1).before ([.ref (gA Λ 0 0)] : List Value).toArray s = true := hts (.fieldLink RX10 54 "CodeRooms" "traffic" "LCodeRooms$Traffic;") (by decide +kernel)
  have hL54 : FL RX10 54 (TX10 6).1 (TX10 6).2.1 (TX10 6).2.2.1 ([.ref (gA Λ 0 0)] : List Value).toArray s := Or.inl hM54
  have hM61 : (Cond.fieldLink RX10 61 (TX10 7).1 (TX10 7).2.1 (TX10 7).2.2.1).before ([.ref (gA Λ 0 0)] : List Value).toArray s = true := hts (.fieldLink RX10 61 "CodeRooms" "past" "LCodeRooms$Past;") (by decide +kernel)
  have hL61 : FL RX10 61 (TX10 7).1 (TX10 7).2.1 (TX10 7).2.2.1 ([.ref (gA Λ 0 0)] : List Value).toArray s := Or.inl hM61
  have hM68 : (Cond.fieldLink RX10 68 (TX10 8).1 (TX10 8).2.1 (TX10 8).2.2.1).before ([.ref (gA Λ 0 0)] : List Value).toArray s = true := hts (.fieldLink RX10 68 "CodeRooms" "kept" "LCodeRooms$Kept;") (by decide +kernel)
  have hL68 : FL RX10 68 (TX10 8).1 (TX10 8).2.1 (TX10 8).2.2.1 ([.ref (gA Λ 0 0)] : List Value).toArray s := Or.inl hM68
  have hb0 : 0 < gC Λ 0 := by rw [hL, gC_nL, if_pos rfl]; omega
  refine j_aload_n C dX10_init_0 rfl 0 rfl ?_
  refine j_oinit C (hts (.methodLink RX10 3 Lib.objectInit) (by decide +kernel)) (hts (.instanceMethod Lib.objectInit) (by decide +kernel)) (hts (.code Lib.objectInit ⟨#[0xb1]⟩ 1 none) (by decide +kernel)) dX10_init_1 (by decide) (by decide) ?_
  refine j_aload_n C dX10_init_4 rfl 0 rfl ?_
  refine j_new C hwX7 1 (by decide) rfl rfl tyX7 tyX7_ok (hts (.classLink RX10 9 RX7) (by decide +kernel)) (hts (.instantiable RX7 2) (by decide +kernel)) (hts (.initialized RX7) (by decide +kernel)) (by decide +kernel) (by decide) (by decide) dX10_init_5 (fun Λ_1 qΛ_1 hyΛ_1 => ?_)
  have hGΛ_1 : Gw Λ Λ_1 := by rw [hyΛ_1]; exact Gw.nY (by decide)
  have hb_2 : 0 < gC Λ_1 0 := Nat.lt_of_lt_of_le hb0 (hGΛ_1.1 0)
  have hz_3 : Zx base (gA Λ_1 50 0) s := by rw [hGΛ_1.2.2]; exact hZ
  have he_4 : gA Λ_1 0 0 = gA Λ 0 0 := (hGΛ_1.2.1 0 0 (by first | assumption | omega)).1
  refine j_eq (lv' := [(0, .ref (gA Λ_1 0 0))]) (st' := [.ref (gA Λ_1 1 (gC Λ 1)), .ref (gA Λ_1 0 0)]) (by simp only [he_4]) (by simp only [he_4]) ?_
  have hb_5 : gC Λ 1 < gC Λ_1 1 := by rw [hyΛ_1, gC_nL, if_pos rfl]; omega
  refine j_dup C dX10_init_8 rfl ?_
  refine j_bipush C (nI 40) dX10_init_9 (by decide) ?_
  refine c_vx C (r_I C 1 (gC Λ 1) [.int (nI 40)] (c_X7_init l D cy base Λ_1 (nS Λ σ 1) (gC Λ 1) 40 hb_5 (by decide)) (cwI 1 hts gX10_init_X7_init rfl rfl rfl (hts (.initialized RX7) (by decide +kernel)) (hts (.methodLink RX10 11 yX7_init) (by decide +kernel)) (hts (.instanceMethod yX7_init) (by decide +kernel)) rfl (by decide +kernel) ⟨by decide, by decide⟩) rfl rfl (Nat.le_of_ble_eq_true rfl) dX10_init_11 ⟨by decide, by decide⟩) (fun Λ_6 σ_7 hp => ?_)
  obtain ⟨qΛ_1v6, Λ_1v6, hyΛ_1v6, hu6⟩ := hp
  obtain ⟨hl6, hs6⟩ := Prod.mk.inj hu6
  have hGΛ_6 : Gw Λ_1 Λ_6 := by rw [hl6]; exact (by rw [hyΛ_1v6]; exact Gw.nY (by decide) : Gw _ Λ_1v6)
  have hb_8 : 0 < gC Λ_6 0 := Nat.lt_of_lt_of_le hb_2 (hGΛ_6.1 0)
  have hb_9 : (gC Λ 1) < gC Λ_6 1 := Nat.lt_of_lt_of_le hb_5 (hGΛ_6.1 1)
  have hz_10 : Zx base (gA Λ_6 50 0) s := by rw [hGΛ_6.2.2]; exact hz_3
  have he_11 : gA Λ_6 0 0 = gA Λ_1 0 0 := (hGΛ_6.2.1 0 0 (by first | assumption | omega)).1
  have he_12 : gA Λ_6 1 (gC Λ 1) = gA Λ_1 1 (gC Λ 1) := (hGΛ_6.2.1 1 (gC Λ 1) (by first | assumption | omega)).1
  refine j_eq (lv' := [(0, .ref (gA Λ_6 0 0))]) (st' := [.ref (gA Λ_6 1 (gC Λ 1)), .ref (gA Λ_6 0 0)]) (by simp only [he_11, he_12]) (by simp only [he_11, he_12]) ?_
  refine j_putFV C hwX10 0 0 0 hb_8 rfl rfl (by decide) rfl hb_9 tyX10 tyX10_ok nmX10 rfl hnm rfl rfl rfl hM14 dX10_init_14 ?_
  refine j_aload_n C dX10_init_17 rfl 0 rfl ?_
  refine j_new C hwX7 1 (by decide) rfl rfl tyX7 tyX7_ok (hts (.classLink RX10 9 RX7) (by decide +kernel)) (hts (.instantiable RX7 2) (by decide +kernel)) (hts (.initialized RX7) (by decide +kernel)) (by decide +kernel) (by decide) (by decide) dX10_init_18 (fun Λ_13 qΛ_13 hyΛ_13 => ?_)
  have hGΛ_13 : Gw Λ_6 Λ_13 := by rw [hyΛ_13]; exact Gw.nY (by decide)
  have hb_14 : 0 < gC Λ_13 0 := Nat.lt_of_lt_of_le hb_8 (hGΛ_13.1 0)
  have hb_15 : (gC Λ 1) < gC Λ_13 1 := Nat.lt_of_lt_of_le hb_9 (hGΛ_13.1 1)
  have hz_16 : Zx base (gA Λ_13 50 0) s := by rw [hGΛ_13.2.2]; exact hz_10
  have he_17 : gA Λ_13 0 0 = gA Λ_6 0 0 := (hGΛ_13.2.1 0 0 (by first | assumption | omega)).1
  refine j_eq (lv' := [(0, .ref (gA Λ_13 0 0))]) (st' := [.ref (gA Λ_13 1 (gC Λ_6 1)), .ref (gA Λ_13 0 0)]) (by simp only [he_17]) (by simp only [he_17]) ?_
  have hb_18 : gC Λ_6 1 < gC Λ_13 1 := by rw [hyΛ_13, gC_nL, if_pos rfl]; omega
  refine j_dup C dX10_init_21 rfl ?_
  refine j_bipush C (nI 20) dX10_init_22 (by decide) ?_
  refine c_vx C (r_I C 1 (gC Λ_6 1) [.int (nI 20)] (c_X7_init l D cy base Λ_13 (nS Λ_6 (sV σ_7 0 0 0 (some (gC Λ 1))) 1) (gC Λ_6 1) 20 hb_18 (by decide)) (cwI 1 hts gX10_init_X7_init rfl rfl rfl (hts (.initialized RX7) (by decide +kernel)) (hts (.methodLink RX10 11 yX7_init) (by decide +kernel)) (hts (.instanceMethod yX7_init) (by decide +kernel)) rfl (by decide +kernel) ⟨by decide, by decide⟩) rfl rfl (Nat.le_of_ble_eq_true rfl) dX10_init_24 ⟨by decide, by decide⟩) (fun Λ_19 σ_20 hp => ?_)
  obtain ⟨qΛ_1v19, Λ_1v19, hyΛ_1v19, hu19⟩ := hp
  obtain ⟨hl19, hs19⟩ := Prod.mk.inj hu19
  have hGΛ_19 : Gw Λ_13 Λ_19 := by rw [hl19]; exact (by rw [hyΛ_1v19]; exact Gw.nY (by decide) : Gw _ Λ_1v19)
  have hb_21 : 0 < gC Λ_19 0 := Nat.lt_of_lt_of_le hb_14 (hGΛ_19.1 0)
  have hb_22 : (gC Λ 1) < gC Λ_19 1 := Nat.lt_of_lt_of_le hb_15 (hGΛ_19.1 1)
  have hb_23 : (gC Λ_6 1) < gC Λ_19 1 := Nat.lt_of_lt_of_le hb_18 (hGΛ_19.1 1)
  have hz_24 : Zx base (gA Λ_19 50 0) s := by rw [hGΛ_19.2.2]; exact hz_16
  have he_25 : gA Λ_19 0 0 = gA Λ_13 0 0 := (hGΛ_19.2.1 0 0 (by first | assumption | omega)).1
  have he_26 : gA Λ_19 1 (gC Λ_6 1) = gA Λ_13 1 (gC Λ_6 1) := (hGΛ_19.2.1 1 (gC Λ_6 1) (by first | assumption | omega)).1
  refine j_eq (lv' := [(0, .ref (gA Λ_19 0 0))]) (st' := [.ref (gA Λ_19 1 (gC Λ_6 1)), .ref (gA Λ_19 0 0)]) (by simp only [he_25, he_26]) (by simp only [he_25, he_26]) ?_
  refine j_putFV C hwX10 0 0 1 hb_21 rfl rfl (by decide) rfl hb_23 tyX10 tyX10_ok nmX10 rfl hnm rfl rfl rfl hM18 dX10_init_27 ?_
  refine j_aload_n C dX10_init_30 rfl 0 rfl ?_
  refine j_new C hwX4 3 (by decide) rfl rfl tyX4 tyX4_ok (hts (.classLink RX10 21 RX4) (by decide +kernel)) (hts (.instantiable RX4 6) (by decide +kernel)) (hts (.initialized RX4) (by decide +kernel)) (by decide +kernel) (by decide) (by decide) dX10_init_31 (fun Λ_27 qΛ_27 hyΛ_27 => ?_)
  have hGΛ_27 : Gw Λ_19 Λ_27 := by rw [hyΛ_27]; exact Gw.nY (by decide)
  have hb_28 : 0 < gC Λ_27 0 := Nat.lt_of_lt_of_le hb_21 (hGΛ_27.1 0)
  have hb_29 : (gC Λ 1) < gC Λ_27 1 := Nat.lt_of_lt_of_le hb_22 (hGΛ_27.1 1)
  have hb_30 : (gC Λ_6 1) < gC Λ_27 1 := Nat.lt_of_lt_of_le hb_23 (hGΛ_27.1 1)
  have hz_31 : Zx base (gA Λ_27 50 0) s := by rw [hGΛ_27.2.2]; exact hz_24
  have he_32 : gA Λ_27 0 0 = gA Λ_19 0 0 := (hGΛ_27.2.1 0 0 (by first | assumption | omega)).1
  refine j_eq (lv' := [(0, .ref (gA Λ_27 0 0))]) (st' := [.ref (gA Λ_27 3 (gC Λ_19 3)), .ref (gA Λ_27 0 0)]) (by simp only [he_32]) (by simp only [he_32]) ?_
  have hb_33 : gC Λ_19 3 < gC Λ_27 3 := by rw [hyΛ_27, gC_nL, if_pos rfl]; omega
  refine j_dup C dX10_init_34 rfl ?_
  refine c_vx C (r_IN C 3 (gC Λ_19 3) [] (c_X4_init l D cy base Λ_27 (nS Λ_19 (sV σ_20 0 0 1 (some (gC Λ_6 1))) 3) (gC Λ_19 3) hb_33) ⟨va_cnB 0 hts gX10_init_X4_init_n23 rfl rfl rfl (Ex.nestM C.2.2.2.2.2.2 nm_X10_23) (hts (.initialized RX4) (by decide +kernel)) (by decide +kernel) ⟨by decide, by decide⟩, rfl, hts (.instanceMethod yX4_init) (by decide +kernel)⟩ rfl rfl (Nat.le_of_ble_eq_true rfl) dX10_init_35 ⟨by decide, by decide⟩) (fun Λ_34 σ_35 hp => ?_)
  obtain ⟨qΛ_1v34, qΛ_6v34, qΛ_13v34, qΛ_22v34, Λ_1v34, Λ_6v34, Λ_13v34, Λ_22v34, hyΛ_1v34, hyΛ_6v34, hyΛ_13v34, hyΛ_22v34, hu34⟩ := hp
  obtain ⟨hl34, hs34⟩ := Prod.mk.inj hu34
  have hGΛ_34 : Gw Λ_27 Λ_34 := by rw [hl34]; exact Gw.tr (Gw.tr (Gw.tr ((by rw [hyΛ_1v34]; exact Gw.nY (by decide) : Gw _ Λ_1v34)) (by rw [hyΛ_6v34]; exact Gw.nY (by decide) : Gw _ Λ_6v34)) (by rw [hyΛ_13v34]; exact Gw.nY (by decide) : Gw _ Λ_13v34)) (by rw [hyΛ_22v34]; exact Gw.nY (by decide) : Gw _ Λ_22v34)
  have hb_36 : 0 < gC Λ_34 0 := Nat.lt_of_lt_of_le hb_28 (hGΛ_34.1 0)
  have hb_37 : (gC Λ 1) < gC Λ_34 1 := Nat.lt_of_lt_of_le hb_29 (hGΛ_34.1 1)
  have hb_38 : (gC Λ_6 1) < gC Λ_34 1 := Nat.lt_of_lt_of_le hb_30 (hGΛ_34.1 1)
  have hb_39 : (gC Λ_19 3) < gC Λ_34 3 := Nat.lt_of_lt_of_le hb_33 (hGΛ_34.1 3)
  have hz_40 : Zx base (gA Λ_34 50 0) s := by rw [hGΛ_34.2.2]; exact hz_31
  have he_41 : gA Λ_34 0 0 = gA Λ_27 0 0 := (hGΛ_34.2.1 0 0 (by first | assumption | omega)).1
  have he_42 : gA Λ_34 3 (gC Λ_19 3) = gA Λ_27 3 (gC Λ_19 3) := (hGΛ_34.2.1 3 (gC Λ_19 3) (by first | assumption | omega)).1
  refine j_eq (lv' := [(0, .ref (gA Λ_34 0 0))]) (st' := [.ref (gA Λ_34 3 (gC Λ_19 3)), .ref (gA Λ_34 0 0)]) (by simp only [he_41, he_42]) (by simp only [he_41, he_42]) ?_
  refine j_putFV C hwX10 0 0 2 hb_36 rfl rfl (by decide) rfl hb_39 tyX10 tyX10_ok nmX10 rfl hnm rfl rfl rfl hM24 dX10_init_38 ?_
  refine j_aload_n C dX10_init_41 rfl 0 rfl ?_
  refine j_new C hwX0 14 (by decide) rfl rfl tyX0 tyX0_ok (hts (.classLink RX10 28 RX0) (by decide +kernel)) (hts (.instantiable RX0 1) (by decide +kernel)) (hts (.initialized RX0) (by decide +kernel)) (by decide +kernel) (by decide) (by decide) dX10_init_42 (fun Λ_43 qΛ_43 hyΛ_43 => ?_)
  have hGΛ_43 : Gw Λ_34 Λ_43 := by rw [hyΛ_43]; exact Gw.nY (by decide)
  have hb_44 : 0 < gC Λ_43 0 := Nat.lt_of_lt_of_le hb_36 (hGΛ_43.1 0)
  have hb_45 : (gC Λ 1) < gC Λ_43 1 := Nat.lt_of_lt_of_le hb_37 (hGΛ_43.1 1)
  have hb_46 : (gC Λ_6 1) < gC Λ_43 1 := Nat.lt_of_lt_of_le hb_38 (hGΛ_43.1 1)
  have hb_47 : (gC Λ_19 3) < gC Λ_43 3 := Nat.lt_of_lt_of_le hb_39 (hGΛ_43.1 3)
  have hz_48 : Zx base (gA Λ_43 50 0) s := by rw [hGΛ_43.2.2]; exact hz_40
  have he_49 : gA Λ_43 0 0 = gA Λ_34 0 0 := (hGΛ_43.2.1 0 0 (by first | assumption | omega)).1
  refine j_eq (lv' := [(0, .ref (gA Λ_43 0 0))]) (st' := [.ref (gA Λ_43 14 (gC Λ_34 14)), .ref (gA Λ_43 0 0)]) (by simp only [he_49]) (by simp only [he_49]) ?_
  have hb_50 : gC Λ_34 14 < gC Λ_43 14 := by rw [hyΛ_43, gC_nL, if_pos rfl]; omega
  refine j_dup C dX10_init_45 rfl ?_
  refine c_vx C (r_INg C hz_48 14 (gC Λ_34 14) [] (c_X0_init l D cy base Λ_43 (nS Λ_34 (sV σ_35 0 0 2 (some (gC Λ_19 3))) 14) (gC Λ_34 14) hb_50) ⟨va_cnB 0 hts gX10_init_X0_init_n30 rfl rfl rfl (Ex.nestM C.2.2.2.2.2.2 nm_X10_30) (hts (.initialized RX0) (by decide +kernel)) (by decide +kernel) ⟨by decide, by decide⟩, rfl, hts (.instanceMethod yX0_init) (by decide +kernel)⟩ rfl rfl (Nat.le_of_ble_eq_true rfl) dX10_init_46 ⟨by decide, by decide⟩) (fun Λ_51 σ_52 hp => ?_)
  obtain ⟨qΛ_1v51, Λ_1v51, hyΛ_1v51, hu51⟩ := hp
  obtain ⟨hl51, hs51⟩ := Prod.mk.inj hu51
  have hGΛ_51 : Gw Λ_43 Λ_51 := by rw [hl51]; exact (by rw [hyΛ_1v51]; exact Gw.nY (by decide) : Gw _ Λ_1v51)
  have hb_53 : 0 < gC Λ_51 0 := Nat.lt_of_lt_of_le hb_44 (hGΛ_51.1 0)
  have hb_54 : (gC Λ 1) < gC Λ_51 1 := Nat.lt_of_lt_of_le hb_45 (hGΛ_51.1 1)
  have hb_55 : (gC Λ_6 1) < gC Λ_51 1 := Nat.lt_of_lt_of_le hb_46 (hGΛ_51.1 1)
  have hb_56 : (gC Λ_19 3) < gC Λ_51 3 := Nat.lt_of_lt_of_le hb_47 (hGΛ_51.1 3)
  have hb_57 : (gC Λ_34 14) < gC Λ_51 14 := Nat.lt_of_lt_of_le hb_50 (hGΛ_51.1 14)
  have hz_58 : Zx base (gA Λ_51 50 0) s := by rw [hGΛ_51.2.2]; exact hz_48
  have he_59 : gA Λ_51 0 0 = gA Λ_43 0 0 := (hGΛ_51.2.1 0 0 (by first | assumption | omega)).1
  have he_60 : gA Λ_51 14 (gC Λ_34 14) = gA Λ_43 14 (gC Λ_34 14) := (hGΛ_51.2.1 14 (gC Λ_34 14) (by first | assumption | omega)).1
  refine j_eq (lv' := [(0, .ref (gA Λ_51 0 0))]) (st' := [.ref (gA Λ_51 14 (gC Λ_34 14)), .ref (gA Λ_51 0 0)]) (by simp only [he_59, he_60]) (by simp only [he_59, he_60]) ?_
  refine j_putFV C hwX10 0 0 3 hb_53 rfl rfl (by decide) rfl hb_57 tyX10 tyX10_ok nmX10 rfl hnm rfl rfl rfl hM31 dX10_init_49 ?_
  refine j_aload_n C dX10_init_52 rfl 0 rfl ?_
  refine j_new C hwX2 18 (by decide) rfl rfl tyX2 tyX2_ok (hts (.classLink RX10 35 RX2) (by decide +kernel)) (hts (.instantiable RX2 6) (by decide +kernel)) (hts (.initialized RX2) (by decide +kernel)) (by decide +kernel) (by decide) (by decide) dX10_init_53 (fun Λ_61 qΛ_61 hyΛ_61 => ?_)
  have hGΛ_61 : Gw Λ_51 Λ_61 := by rw [hyΛ_61]; exact Gw.nY (by decide)
  have hb_62 : 0 < gC Λ_61 0 := Nat.lt_of_lt_of_le hb_53 (hGΛ_61.1 0)
  have hb_63 : (gC Λ 1) < gC Λ_61 1 := Nat.lt_of_lt_of_le hb_54 (hGΛ_61.1 1)
  have hb_64 : (gC Λ_6 1) < gC Λ_61 1 := Nat.lt_of_lt_of_le hb_55 (hGΛ_61.1 1)
  have hb_65 : (gC Λ_19 3) < gC Λ_61 3 := Nat.lt_of_lt_of_le hb_56 (hGΛ_61.1 3)
  have hb_66 : (gC Λ_34 14) < gC Λ_61 14 := Nat.lt_of_lt_of_le hb_57 (hGΛ_61.1 14)
  have hz_67 : Zx base (gA Λ_61 50 0) s := by rw [hGΛ_61.2.2]; exact hz_58
  have he_68 : gA Λ_61 0 0 = gA Λ_51 0 0 := (hGΛ_61.2.1 0 0 (by first | assumption | omega)).1
  refine j_eq (lv' := [(0, .ref (gA Λ_61 0 0))]) (st' := [.ref (gA Λ_61 18 (gC Λ_51 18)), .ref (gA Λ_61 0 0)]) (by simp only [he_68]) (by simp only [he_68]) ?_
  have hb_69 : gC Λ_51 18 < gC Λ_61 18 := by rw [hyΛ_61, gC_nL, if_pos rfl]; omega
  refine j_dup C dX10_init_56 rfl ?_
  refine j_aload_n C dX10_init_57 rfl 0 rfl ?_
  refine j_getV C hwX10 0 0 2 hb_62 rfl rfl (by decide) rfl (gC Λ_19 3) (by simp [hs6, hs19, hs34, hs51, gV_sV, gV_sI, gV_sJ, gV_nS, gV_2]) hL24 dX10_init_58 ?_
  refine c_vx C (r_I C 18 (gC Λ_51 18) [.ref (gA Λ_61 3 (gC Λ_19 3))] (c_X2_init l D cy base Λ_61 (nS Λ_51 (sV σ_52 0 0 3 (some (gC Λ_34 14))) 18) (gC Λ_51 18) (gC Λ_19 3) hb_69 hb_65) (cwI 1 hts gX10_init_X2_init rfl rfl rfl (hts (.initialized RX2) (by decide +kernel)) (hts (.methodLink RX10 37 yX2_init) (by decide +kernel)) (hts (.instanceMethod yX2_init) (by decide +kernel)) rfl (by decide +kernel) ⟨by decide, by decide⟩) rfl rfl (Nat.le_of_ble_eq_true rfl) dX10_init_61 ⟨by decide, by decide⟩) (fun Λ_70 σ_71 hp => ?_)
  obtain ⟨qΛ_1v70, Λ_1v70, hyΛ_1v70, hu70⟩ := hp
  obtain ⟨hl70, hs70⟩ := Prod.mk.inj hu70
  have hGΛ_70 : Gw Λ_61 Λ_70 := by rw [hl70]; exact (by rw [hyΛ_1v70]; exact Gw.nY (by decide) : Gw _ Λ_1v70)
  have hb_72 : 0 < gC Λ_70 0 := Nat.lt_of_lt_of_le hb_62 (hGΛ_70.1 0)
  have hb_73 : (gC Λ 1) < gC Λ_70 1 := Nat.lt_of_lt_of_le hb_63 (hGΛ_70.1 1)
  have hb_74 : (gC Λ_6 1) < gC Λ_70 1 := Nat.lt_of_lt_of_le hb_64 (hGΛ_70.1 1)
  have hb_75 : (gC Λ_19 3) < gC Λ_70 3 := Nat.lt_of_lt_of_le hb_65 (hGΛ_70.1 3)
  have hb_76 : (gC Λ_34 14) < gC Λ_70 14 := Nat.lt_of_lt_of_le hb_66 (hGΛ_70.1 14)
  have hb_77 : (gC Λ_51 18) < gC Λ_70 18 := Nat.lt_of_lt_of_le hb_69 (hGΛ_70.1 18)
  have hz_78 : Zx base (gA Λ_70 50 0) s := by rw [hGΛ_70.2.2]; exact hz_67
  have he_79 : gA Λ_70 0 0 = gA Λ_61 0 0 := (hGΛ_70.2.1 0 0 (by first | assumption | omega)).1
  have he_80 : gA Λ_70 18 (gC Λ_51 18) = gA Λ_61 18 (gC Λ_51 18) := (hGΛ_70.2.1 18 (gC Λ_51 18) (by first | assumption | omega)).1
  refine j_eq (lv' := [(0, .ref (gA Λ_70 0 0))]) (st' := [.ref (gA Λ_70 18 (gC Λ_51 18)), .ref (gA Λ_70 0 0)]) (by simp only [he_79, he_80]) (by simp only [he_79, he_80]) ?_
  refine j_putFV C hwX10 0 0 4 hb_72 rfl rfl (by decide) rfl hb_77 tyX10 tyX10_ok nmX10 rfl hnm rfl rfl rfl hM40 dX10_init_64 ?_
  refine j_aload_n C dX10_init_67 rfl 0 rfl ?_
  refine j_new C hwX6 20 (by decide) rfl rfl tyX6 tyX6_ok (hts (.classLink RX10 44 RX6) (by decide +kernel)) (hts (.instantiable RX6 4) (by decide +kernel)) (hts (.initialized RX6) (by decide +kernel)) (by decide +kernel) (by decide) (by decide) dX10_init_68 (fun Λ_81 qΛ_81 hyΛ_81 => ?_)
  have hGΛ_81 : Gw Λ_70 Λ_81 := by rw [hyΛ_81]; exact Gw.nY (by decide)
  have hb_82 : 0 < gC Λ_81 0 := Nat.lt_of_lt_of_le hb_72 (hGΛ_81.1 0)
  have hb_83 : (gC Λ 1) < gC Λ_81 1 := Nat.lt_of_lt_of_le hb_73 (hGΛ_81.1 1)
  have hb_84 : (gC Λ_6 1) < gC Λ_81 1 := Nat.lt_of_lt_of_le hb_74 (hGΛ_81.1 1)
  have hb_85 : (gC Λ_19 3) < gC Λ_81 3 := Nat.lt_of_lt_of_le hb_75 (hGΛ_81.1 3)
  have hb_86 : (gC Λ_34 14) < gC Λ_81 14 := Nat.lt_of_lt_of_le hb_76 (hGΛ_81.1 14)
  have hb_87 : (gC Λ_51 18) < gC Λ_81 18 := Nat.lt_of_lt_of_le hb_77 (hGΛ_81.1 18)
  have hz_88 : Zx base (gA Λ_81 50 0) s := by rw [hGΛ_81.2.2]; exact hz_78
  have he_89 : gA Λ_81 0 0 = gA Λ_70 0 0 := (hGΛ_81.2.1 0 0 (by first | assumption | omega)).1
  refine j_eq (lv' := [(0, .ref (gA Λ_81 0 0))]) (st' := [.ref (gA Λ_81 20 (gC Λ_70 20)), .ref (gA Λ_81 0 0)]) (by simp only [he_89]) (by simp only [he_89]) ?_
  have hb_90 : gC Λ_70 20 < gC Λ_81 20 := by rw [hyΛ_81, gC_nL, if_pos rfl]; omega
  refine j_dup C dX10_init_71 rfl ?_
  refine j_aload_n C dX10_init_72 rfl 0 rfl ?_
  refine j_getV C hwX10 0 0 2 hb_82 rfl rfl (by decide) rfl (gC Λ_19 3) (by simp [hs6, hs19, hs34, hs51, hs70, gV_sV, gV_sI, gV_sJ, gV_nS, gV_2]) hL24 dX10_init_73 ?_
  refine c_vx C (r_I C 20 (gC Λ_70 20) [.ref (gA Λ_81 3 (gC Λ_19 3))] (c_X6_init l D cy base Λ_81 (nS Λ_70 (sV σ_71 0 0 4 (some (gC Λ_51 18))) 20) (gC Λ_70 20) (gC Λ_19 3) hb_90 hb_85) (cwI 1 hts gX10_init_X6_init rfl rfl rfl (hts (.initialized RX6) (by decide +kernel)) (hts (.methodLink RX10 46 yX6_init) (by decide +kernel)) (hts (.instanceMethod yX6_init) (by decide +kernel)) rfl (by decide +kernel) ⟨by decide, by decide⟩) rfl rfl (Nat.le_of_ble_eq_true rfl) dX10_init_76 ⟨by decide, by decide⟩) (fun Λ_91 σ_92 hp => ?_)
  obtain ⟨qΛ_1v91, qΛ_8v91, Λ_1v91, Λ_8v91, hyΛ_1v91, hyΛ_8v91, hu91⟩ := hp
  obtain ⟨hl91, hs91⟩ := Prod.mk.inj hu91
  have hGΛ_91 : Gw Λ_81 Λ_91 := by rw [hl91]; exact Gw.tr ((by rw [hyΛ_1v91]; exact Gw.nY (by decide) : Gw _ Λ_1v91)) (by rw [hyΛ_8v91]; exact Gw.nY (by decide) : Gw _ Λ_8v91)
  have hb_93 : 0 < gC Λ_91 0 := Nat.lt_of_lt_of_le hb_82 (hGΛ_91.1 0)
  have hb_94 : (gC Λ 1) < gC Λ_91 1 := Nat.lt_of_lt_of_le hb_83 (hGΛ_91.1 1)
  have hb_95 : (gC Λ_6 1) < gC Λ_91 1 := Nat.lt_of_lt_of_le hb_84 (hGΛ_91.1 1)
  have hb_96 : (gC Λ_19 3) < gC Λ_91 3 := Nat.lt_of_lt_of_le hb_85 (hGΛ_91.1 3)
  have hb_97 : (gC Λ_34 14) < gC Λ_91 14 := Nat.lt_of_lt_of_le hb_86 (hGΛ_91.1 14)
  have hb_98 : (gC Λ_51 18) < gC Λ_91 18 := Nat.lt_of_lt_of_le hb_87 (hGΛ_91.1 18)
  have hb_99 : (gC Λ_70 20) < gC Λ_91 20 := Nat.lt_of_lt_of_le hb_90 (hGΛ_91.1 20)
  have hz_100 : Zx base (gA Λ_91 50 0) s := by rw [hGΛ_91.2.2]; exact hz_88
  have he_101 : gA Λ_91 0 0 = gA Λ_81 0 0 := (hGΛ_91.2.1 0 0 (by first | assumption | omega)).1
  have he_102 : gA Λ_91 20 (gC Λ_70 20) = gA Λ_81 20 (gC Λ_70 20) := (hGΛ_91.2.1 20 (gC Λ_70 20) (by first | assumption | omega)).1
  refine j_eq (lv' := [(0, .ref (gA Λ_91 0 0))]) (st' := [.ref (gA Λ_91 20 (gC Λ_70 20)), .ref (gA Λ_91 0 0)]) (by simp only [he_101, he_102]) (by simp only [he_101, he_102]) ?_
  refine j_putFV C hwX10 0 0 5 hb_93 rfl rfl (by decide) rfl hb_99 tyX10 tyX10_ok nmX10 rfl hnm rfl rfl rfl hM47 dX10_init_79 ?_
  refine j_aload_n C dX10_init_82 rfl 0 rfl ?_
  refine j_new C hwX8 23 (by decide) rfl rfl tyX8 tyX8_ok (hts (.classLink RX10 51 RX8) (by decide +kernel)) (hts (.instantiable RX8 2) (by decide +kernel)) (hts (.initialized RX8) (by decide +kernel)) (by decide +kernel) (by decide) (by decide) dX10_init_83 (fun Λ_103 qΛ_103 hyΛ_103 => ?_)
  have hGΛ_103 : Gw Λ_91 Λ_103 := by rw [hyΛ_103]; exact Gw.nY (by decide)
  have hb_104 : 0 < gC Λ_103 0 := Nat.lt_of_lt_of_le hb_93 (hGΛ_103.1 0)
  have hb_105 : (gC Λ 1) < gC Λ_103 1 := Nat.lt_of_lt_of_le hb_94 (hGΛ_103.1 1)
  have hb_106 : (gC Λ_6 1) < gC Λ_103 1 := Nat.lt_of_lt_of_le hb_95 (hGΛ_103.1 1)
  have hb_107 : (gC Λ_19 3) < gC Λ_103 3 := Nat.lt_of_lt_of_le hb_96 (hGΛ_103.1 3)
  have hb_108 : (gC Λ_34 14) < gC Λ_103 14 := Nat.lt_of_lt_of_le hb_97 (hGΛ_103.1 14)
  have hb_109 : (gC Λ_51 18) < gC Λ_103 18 := Nat.lt_of_lt_of_le hb_98 (hGΛ_103.1 18)
  have hb_110 : (gC Λ_70 20) < gC Λ_103 20 := Nat.lt_of_lt_of_le hb_99 (hGΛ_103.1 20)
  have hz_111 : Zx base (gA Λ_103 50 0) s := by rw [hGΛ_103.2.2]; exact hz_100
  have he_112 : gA Λ_103 0 0 = gA Λ_91 0 0 := (hGΛ_103.2.1 0 0 (by first | assumption | omega)).1
  refine j_eq (lv' := [(0, .ref (gA Λ_103 0 0))]) (st' := [.ref (gA Λ_103 23 (gC Λ_91 23)), .ref (gA Λ_103 0 0)]) (by simp only [he_112]) (by simp only [he_112]) ?_
  have hb_113 : gC Λ_91 23 < gC Λ_103 23 := by rw [hyΛ_103, gC_nL, if_pos rfl]; omega
  refine j_dup C dX10_init_86 rfl ?_
  refine j_aload_n C dX10_init_87 rfl 0 rfl ?_
  refine j_getV C hwX10 0 0 2 hb_104 rfl rfl (by decide) rfl (gC Λ_19 3) (by simp [hs6, hs19, hs34, hs51, hs70, hs91, gV_sV, gV_sI, gV_sJ, gV_nS, gV_2]) hL24 dX10_init_88 ?_
  refine c_vx C (r_I C 23 (gC Λ_91 23) [.ref (gA Λ_103 3 (gC Λ_19 3))] (c_X8_init l D cy base Λ_103 (nS Λ_91 (sV σ_92 0 0 5 (some (gC Λ_70 20))) 23) (gC Λ_91 23) (gC Λ_19 3) hb_113 hb_107) (cwI 1 hts gX10_init_X8_init rfl rfl rfl (hts (.initialized RX8) (by decide +kernel)) (hts (.methodLink RX10 53 yX8_init) (by decide +kernel)) (hts (.instanceMethod yX8_init) (by decide +kernel)) rfl (by decide +kernel) ⟨by decide, by decide⟩) rfl rfl (Nat.le_of_ble_eq_true rfl) dX10_init_91 ⟨by decide, by decide⟩) (fun Λ_114 σ_115 hp => ?_)
  obtain ⟨qΛ_1v114, Λ_1v114, hyΛ_1v114, hu114⟩ := hp
  obtain ⟨hl114, hs114⟩ := Prod.mk.inj hu114
  have hGΛ_114 : Gw Λ_103 Λ_114 := by rw [hl114]; exact (by rw [hyΛ_1v114]; exact Gw.nY (by decide) : Gw _ Λ_1v114)
  have hb_116 : 0 < gC Λ_114 0 := Nat.lt_of_lt_of_le hb_104 (hGΛ_114.1 0)
  have hb_117 : (gC Λ 1) < gC Λ_114 1 := Nat.lt_of_lt_of_le hb_105 (hGΛ_114.1 1)
  have hb_118 : (gC Λ_6 1) < gC Λ_114 1 := Nat.lt_of_lt_of_le hb_106 (hGΛ_114.1 1)
  have hb_119 : (gC Λ_19 3) < gC Λ_114 3 := Nat.lt_of_lt_of_le hb_107 (hGΛ_114.1 3)
  have hb_120 : (gC Λ_34 14) < gC Λ_114 14 := Nat.lt_of_lt_of_le hb_108 (hGΛ_114.1 14)
  have hb_121 : (gC Λ_51 18) < gC Λ_114 18 := Nat.lt_of_lt_of_le hb_109 (hGΛ_114.1 18)
  have hb_122 : (gC Λ_70 20) < gC Λ_114 20 := Nat.lt_of_lt_of_le hb_110 (hGΛ_114.1 20)
  have hb_123 : (gC Λ_91 23) < gC Λ_114 23 := Nat.lt_of_lt_of_le hb_113 (hGΛ_114.1 23)
  have hz_124 : Zx base (gA Λ_114 50 0) s := by rw [hGΛ_114.2.2]; exact hz_111
  have he_125 : gA Λ_114 0 0 = gA Λ_103 0 0 := (hGΛ_114.2.1 0 0 (by first | assumption | omega)).1
  have he_126 : gA Λ_114 23 (gC Λ_91 23) = gA Λ_103 23 (gC Λ_91 23) := (hGΛ_114.2.1 23 (gC Λ_91 23) (by first | assumption | omega)).1
  refine j_eq (lv' := [(0, .ref (gA Λ_114 0 0))]) (st' := [.ref (gA Λ_114 23 (gC Λ_91 23)), .ref (gA Λ_114 0 0)]) (by simp only [he_125, he_126]) (by simp only [he_125, he_126]) ?_
  refine j_putFV C hwX10 0 0 6 hb_116 rfl rfl (by decide) rfl hb_123 tyX10 tyX10_ok nmX10 rfl hnm rfl rfl rfl hM54 dX10_init_94 ?_
  refine j_aload_n C dX10_init_97 rfl 0 rfl ?_
  refine j_new C hwX3 25 (by decide) rfl rfl tyX3 tyX3_ok (hts (.classLink RX10 58 RX3) (by decide +kernel)) (hts (.instantiable RX3 2) (by decide +kernel)) (hts (.initialized RX3) (by decide +kernel)) (by decide +kernel) (by decide) (by decide) dX10_init_98 (fun Λ_127 qΛ_127 hyΛ_127 => ?_)
  have hGΛ_127 : Gw Λ_114 Λ_127 := by rw [hyΛ_127]; exact Gw.nY (by decide)
  have hb_128 : 0 < gC Λ_127 0 := Nat.lt_of_lt_of_le hb_116 (hGΛ_127.1 0)
  have hb_129 : (gC Λ 1) < gC Λ_127 1 := Nat.lt_of_lt_of_le hb_117 (hGΛ_127.1 1)
  have hb_130 : (gC Λ_6 1) < gC Λ_127 1 := Nat.lt_of_lt_of_le hb_118 (hGΛ_127.1 1)
  have hb_131 : (gC Λ_19 3) < gC Λ_127 3 := Nat.lt_of_lt_of_le hb_119 (hGΛ_127.1 3)
  have hb_132 : (gC Λ_34 14) < gC Λ_127 14 := Nat.lt_of_lt_of_le hb_120 (hGΛ_127.1 14)
  have hb_133 : (gC Λ_51 18) < gC Λ_127 18 := Nat.lt_of_lt_of_le hb_121 (hGΛ_127.1 18)
  have hb_134 : (gC Λ_70 20) < gC Λ_127 20 := Nat.lt_of_lt_of_le hb_122 (hGΛ_127.1 20)
  have hb_135 : (gC Λ_91 23) < gC Λ_127 23 := Nat.lt_of_lt_of_le hb_123 (hGΛ_127.1 23)
  have hz_136 : Zx base (gA Λ_127 50 0) s := by rw [hGΛ_127.2.2]; exact hz_124
  have he_137 : gA Λ_127 0 0 = gA Λ_114 0 0 := (hGΛ_127.2.1 0 0 (by first | assumption | omega)).1
  refine j_eq (lv' := [(0, .ref (gA Λ_127 0 0))]) (st' := [.ref (gA Λ_127 25 (gC Λ_114 25)), .ref (gA Λ_127 0 0)]) (by simp only [he_137]) (by simp only [he_137]) ?_
  have hb_138 : gC Λ_114 25 < gC Λ_127 25 := by rw [hyΛ_127, gC_nL, if_pos rfl]; omega
  refine j_dup C dX10_init_101 rfl ?_
  refine c_vx C (r_IN C 25 (gC Λ_114 25) [] (c_X3_init l D cy base Λ_127 (nS Λ_114 (sV σ_115 0 0 6 (some (gC Λ_91 23))) 25) (gC Λ_114 25) hb_138) ⟨va_cnB 0 hts gX10_init_X3_init_n60 rfl rfl rfl (Ex.nestM C.2.2.2.2.2.2 nm_X10_60) (hts (.initialized RX3) (by decide +kernel)) (by decide +kernel) ⟨by decide, by decide⟩, rfl, hts (.instanceMethod yX3_init) (by decide +kernel)⟩ rfl rfl (Nat.le_of_ble_eq_true rfl) dX10_init_102 ⟨by decide, by decide⟩) (fun Λ_139 σ_140 hp => ?_)
  obtain ⟨qΛ_1v139, Λ_1v139, hyΛ_1v139, hu139⟩ := hp
  obtain ⟨hl139, hs139⟩ := Prod.mk.inj hu139
  have hGΛ_139 : Gw Λ_127 Λ_139 := by rw [hl139]; exact (by rw [hyΛ_1v139]; exact Gw.nY (by decide) : Gw _ Λ_1v139)
  have hb_141 : 0 < gC Λ_139 0 := Nat.lt_of_lt_of_le hb_128 (hGΛ_139.1 0)
  have hb_142 : (gC Λ 1) < gC Λ_139 1 := Nat.lt_of_lt_of_le hb_129 (hGΛ_139.1 1)
  have hb_143 : (gC Λ_6 1) < gC Λ_139 1 := Nat.lt_of_lt_of_le hb_130 (hGΛ_139.1 1)
  have hb_144 : (gC Λ_19 3) < gC Λ_139 3 := Nat.lt_of_lt_of_le hb_131 (hGΛ_139.1 3)
  have hb_145 : (gC Λ_34 14) < gC Λ_139 14 := Nat.lt_of_lt_of_le hb_132 (hGΛ_139.1 14)
  have hb_146 : (gC Λ_51 18) < gC Λ_139 18 := Nat.lt_of_lt_of_le hb_133 (hGΛ_139.1 18)
  have hb_147 : (gC Λ_70 20) < gC Λ_139 20 := Nat.lt_of_lt_of_le hb_134 (hGΛ_139.1 20)
  have hb_148 : (gC Λ_91 23) < gC Λ_139 23 := Nat.lt_of_lt_of_le hb_135 (hGΛ_139.1 23)
  have hb_149 : (gC Λ_114 25) < gC Λ_139 25 := Nat.lt_of_lt_of_le hb_138 (hGΛ_139.1 25)
  have hz_150 : Zx base (gA Λ_139 50 0) s := by rw [hGΛ_139.2.2]; exact hz_136
  have he_151 : gA Λ_139 0 0 = gA Λ_127 0 0 := (hGΛ_139.2.1 0 0 (by first | assumption | omega)).1
  have he_152 : gA Λ_139 25 (gC Λ_114 25) = gA Λ_127 25 (gC Λ_114 25) := (hGΛ_139.2.1 25 (gC Λ_114 25) (by first | assumption | omega)).1
  refine j_eq (lv' := [(0, .ref (gA Λ_139 0 0))]) (st' := [.ref (gA Λ_139 25 (gC Λ_114 25)), .ref (gA Λ_139 0 0)]) (by simp only [he_151, he_152]) (by simp only [he_151, he_152]) ?_
  refine j_putFV C hwX10 0 0 7 hb_141 rfl rfl (by decide) rfl hb_149 tyX10 tyX10_ok nmX10 rfl hnm rfl rfl rfl hM61 dX10_init_105 ?_
  refine j_aload_n C dX10_init_108 rfl 0 rfl ?_
  refine j_new C hwX1 27 (by decide) rfl rfl tyX1 tyX1_ok (hts (.classLink RX10 65 RX1) (by decide +kernel)) (hts (.instantiable RX1 3) (by decide +kernel)) (hts (.initialized RX1) (by decide +kernel)) (by decide +kernel) (by decide) (by decide) dX10_init_109 (fun Λ_153 qΛ_153 hyΛ_153 => ?_)
  have hGΛ_153 : Gw Λ_139 Λ_153 := by rw [hyΛ_153]; exact Gw.nY (by decide)
  have hb_154 : 0 < gC Λ_153 0 := Nat.lt_of_lt_of_le hb_141 (hGΛ_153.1 0)
  have hb_155 : (gC Λ 1) < gC Λ_153 1 := Nat.lt_of_lt_of_le hb_142 (hGΛ_153.1 1)
  have hb_156 : (gC Λ_6 1) < gC Λ_153 1 := Nat.lt_of_lt_of_le hb_143 (hGΛ_153.1 1)
  have hb_157 : (gC Λ_19 3) < gC Λ_153 3 := Nat.lt_of_lt_of_le hb_144 (hGΛ_153.1 3)
  have hb_158 : (gC Λ_34 14) < gC Λ_153 14 := Nat.lt_of_lt_of_le hb_145 (hGΛ_153.1 14)
  have hb_159 : (gC Λ_51 18) < gC Λ_153 18 := Nat.lt_of_lt_of_le hb_146 (hGΛ_153.1 18)
  have hb_160 : (gC Λ_70 20) < gC Λ_153 20 := Nat.lt_of_lt_of_le hb_147 (hGΛ_153.1 20)
  have hb_161 : (gC Λ_91 23) < gC Λ_153 23 := Nat.lt_of_lt_of_le hb_148 (hGΛ_153.1 23)
  have hb_162 : (gC Λ_114 25) < gC Λ_153 25 := Nat.lt_of_lt_of_le hb_149 (hGΛ_153.1 25)
  have hz_163 : Zx base (gA Λ_153 50 0) s := by rw [hGΛ_153.2.2]; exact hz_150
  have he_164 : gA Λ_153 0 0 = gA Λ_139 0 0 := (hGΛ_153.2.1 0 0 (by first | assumption | omega)).1
  refine j_eq (lv' := [(0, .ref (gA Λ_153 0 0))]) (st' := [.ref (gA Λ_153 27 (gC Λ_139 27)), .ref (gA Λ_153 0 0)]) (by simp only [he_164]) (by simp only [he_164]) ?_
  have hb_165 : gC Λ_139 27 < gC Λ_153 27 := by rw [hyΛ_153, gC_nL, if_pos rfl]; omega
  refine j_dup C dX10_init_112 rfl ?_
  refine c_vx C (r_IN C 27 (gC Λ_139 27) [] (c_X1_init l D cy base Λ_153 (nS Λ_139 (sV σ_140 0 0 7 (some (gC Λ_114 25))) 27) (gC Λ_139 27) hb_165) ⟨va_cnB 0 hts gX10_init_X1_init_n67 rfl rfl rfl (Ex.nestM C.2.2.2.2.2.2 nm_X10_67) (hts (.initialized RX1) (by decide +kernel)) (by decide +kernel) ⟨by decide, by decide⟩, rfl, hts (.instanceMethod yX1_init) (by decide +kernel)⟩ rfl rfl (Nat.le_of_ble_eq_true rfl) dX10_init_113 ⟨by decide, by decide⟩) (fun Λ_166 σ_167 hp => ?_)
  obtain ⟨qΛ_1v166, qΛ_6v166, rΛ_6v166, Λ_1v166, Λ_6v166, hyΛ_1v166, hyΛ_6v166, hu166⟩ := hp
  obtain ⟨hl166, hs166⟩ := Prod.mk.inj hu166
  have hGΛ_166 : Gw Λ_153 Λ_166 := by rw [hl166]; exact Gw.tr ((by rw [hyΛ_1v166]; exact Gw.nY (by decide) : Gw _ Λ_1v166)) (by rw [hyΛ_6v166]; exact Gw.nY2 (by decide) (by decide) : Gw _ Λ_6v166)
  have hb_168 : 0 < gC Λ_166 0 := Nat.lt_of_lt_of_le hb_154 (hGΛ_166.1 0)
  have hb_169 : (gC Λ 1) < gC Λ_166 1 := Nat.lt_of_lt_of_le hb_155 (hGΛ_166.1 1)
  have hb_170 : (gC Λ_6 1) < gC Λ_166 1 := Nat.lt_of_lt_of_le hb_156 (hGΛ_166.1 1)
  have hb_171 : (gC Λ_19 3) < gC Λ_166 3 := Nat.lt_of_lt_of_le hb_157 (hGΛ_166.1 3)
  have hb_172 : (gC Λ_34 14) < gC Λ_166 14 := Nat.lt_of_lt_of_le hb_158 (hGΛ_166.1 14)
  have hb_173 : (gC Λ_51 18) < gC Λ_166 18 := Nat.lt_of_lt_of_le hb_159 (hGΛ_166.1 18)
  have hb_174 : (gC Λ_70 20) < gC Λ_166 20 := Nat.lt_of_lt_of_le hb_160 (hGΛ_166.1 20)
  have hb_175 : (gC Λ_91 23) < gC Λ_166 23 := Nat.lt_of_lt_of_le hb_161 (hGΛ_166.1 23)
  have hb_176 : (gC Λ_114 25) < gC Λ_166 25 := Nat.lt_of_lt_of_le hb_162 (hGΛ_166.1 25)
  have hb_177 : (gC Λ_139 27) < gC Λ_166 27 := Nat.lt_of_lt_of_le hb_165 (hGΛ_166.1 27)
  have hz_178 : Zx base (gA Λ_166 50 0) s := by rw [hGΛ_166.2.2]; exact hz_163
  have he_179 : gA Λ_166 0 0 = gA Λ_153 0 0 := (hGΛ_166.2.1 0 0 (by first | assumption | omega)).1
  have he_180 : gA Λ_166 27 (gC Λ_139 27) = gA Λ_153 27 (gC Λ_139 27) := (hGΛ_166.2.1 27 (gC Λ_139 27) (by first | assumption | omega)).1
  refine j_eq (lv' := [(0, .ref (gA Λ_166 0 0))]) (st' := [.ref (gA Λ_166 27 (gC Λ_139 27)), .ref (gA Λ_166 0 0)]) (by simp only [he_179, he_180]) (by simp only [he_179, he_180]) ?_
  refine j_putFV C hwX10 0 0 8 hb_168 rfl rfl (by decide) rfl hb_177 tyX10 tyX10_ok nmX10 rfl hnm rfl rfl rfl hM68 dX10_init_116 ?_
  exact j_vretx C hr hlk (by subst hs166 hl166 hyΛ_6v166 hyΛ_1v166 hyΛ_153 hs139 hl139 hyΛ_1v139 hyΛ_127 hs114 hl114 hyΛ_1v114 hyΛ_103 hs91 hl91 hyΛ_8v91 hyΛ_1v91 hyΛ_81 hs70 hl70 hyΛ_1v70 hyΛ_61 hs51 hl51 hyΛ_1v51 hyΛ_43 hs34 hl34 hyΛ_22v34 hyΛ_13v34 hyΛ_6v34 hyΛ_1v34 hyΛ_27 hs19 hl19 hyΛ_1v19 hyΛ_13 hs6 hl6 hyΛ_1v6 hyΛ_1; subst hL hS; exact ⟨ci_cr rfl rfl rfl rfl rfl rfl rfl rfl rfl rfl rfl rfl rfl rfl rfl rfl rfl rfl rfl rfl rfl rfl rfl rfl rfl rfl rfl rfl rfl rfl rfl rfl rfl rfl rfl rfl rfl rfl rfl rfl rfl rfl (fun i _ => rfl) rfl rfl rfl rfl rfl rfl rfl rfl rfl rfl rfl rfl rfl rfl rfl rfl rfl rfl rfl rfl rfl rfl rfl rfl rfl rfl rfl rfl rfl rfl rfl rfl rfl rfl rfl rfl rfl rfl rfl rfl rfl rfl rfl rfl rfl rfl (fun k => rfl), ⟨Nat.zero_lt_one, rfl, Nat.le_refl _, by decide, Or.inl ⟨rfl, rfl⟩, fun k hk => absurd hk (Nat.not_lt_zero k)⟩, ⟨Nat.zero_lt_one, rfl⟩, rfl, rfl, rfl, (fun t ht => by (repeat first | rw [gC_ne (by omega)] | rw [gC_ne2 (by omega) (by omega)]); rfl), (by repeat first | rw [gA_ne (by decide)] | rw [gA_ne2 (by decide) (by decide)]), rfl⟩) dX10_init_119
