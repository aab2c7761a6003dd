theorem b_shl0 (n : Nat) (h : n < 40) : lN 1 <<< ((nI n).toInt64 &&& 63) = lN (2 ^ n) := by
  have k : ∀ n, n < 40 → lN 1 <<< ((nI n).toInt64 &&& 63) = lN (2 ^ n) := by decide +kernel
  exact k n h
set_option maxHeartbeats 400000 in
set_option maxRecDepth 100000 in
theorem c_X7_init (l : Launch) (D : va_G) (cy : Nat → ClassId) (base : Nat) (Λ : LY) (σ : HS) (i n : Nat) (hi : i < gC Λ 1) (hn : n ≤ 40) : Met l yX7_init wsX7_init ({ frames := 8, cells := 1, slots := 40, locals := 120 }) (va_Pc [.ref (gA Λ 1 i), .int (nI n)] (Wd D cy base Λ σ)) (va_Qv (fun u => ∃ (qΛ_1 : Nat) (Λ_1 : LY), Λ_1 = nY Λ 2 qΛ_1 n ∧ u = (Λ_1, sI (sV (nS Λ σ 2) 1 i 0 (some (gC Λ 2))) 1 i 1 (nI 0))) (Wx D cy base) (Ab base)) 1 40 (Ab base) := by
  refine j_start (cc := cX7_init) (nL := 2) (ret := none) (lv := [(0, .ref (gA Λ 1 i)), (1, .int (nI n))]) (by decide) rfl (Nat.le_of_ble_eq_true rfl) rfl ?_
  intro p e s m below meth c C hr hlk hnm
  have C : Cx p s m ([.ref (gA Λ 1 i), .int (nI n)] : List Value).toArray c cX7_init 2 RX7 wsX7_init D cy base := C
  have hts := C.2.2.2.2.1
  have hwX7 : ∀ w ∈ u_ws RX7 TX7 2, w ∈ wsX7_init := by decide +kernel
  have hM15 : (Cond.fieldLink RX7 15 (TX7 0).1 (TX7 0).2.1 (TX7 0).2.2.1).before ([.ref (gA Λ 1 i), .int (nI n)] : List Value).toArray s = true := hts (.fieldLink RX7 15 "CodeRooms$Text" "bytes" "[B") (by decide +kernel)
  have hL15 : FL RX7 15 (TX7 0).1 (TX7 0).2.1 (TX7 0).2.2.1 ([.ref (gA Λ 1 i), .int (nI n)] : List Value).toArray s := Or.inl hM15
  have hM21 : (Cond.fieldLink RX7 21 (TX7 1).1 (TX7 1).2.1 (TX7 1).2.2.1).before ([.ref (gA Λ 1 i), .int (nI n)] : List Value).toArray s = true := hts (.fieldLink RX7 21 "CodeRooms$Text" "size" "I") (by decide +kernel)
  have hL21 : FL RX7 21 (TX7 1).1 (TX7 1).2.1 (TX7 1).2.2.1 ([.ref (gA Λ 1 i), .int (nI n)] : List Value).toArray s := Or.inl hM21
  refine j_aload_n C dX7_init_0 rfl 0 rfl ?_
  refine j_oinit C (hts (.methodLink RX7 3 Lib.objectInit) (by decide +kernel)) (hts (.instanceMethod Lib.objectInit) (by decide +kernel)) (hts (.code Lib.objectInit ⟨#[0xb1]⟩ 1 none) (by decide +kernel)) dX7_init_1 (by decide) (by decide) ?_
  refine j_aload_n C dX7_init_4 rfl 0 rfl ?_
  refine j_iconst C (nI 0) dX7_init_5 (by decide) ?_
  refine j_iload_n C dX7_init_6 rfl 1 rfl ?_
  refine j_mmax C (nI n) (by decide +kernel) rfl rfl rfl rfl dX7_init_7 ((nI_max (by omega) (by omega)).trans (by rw [Nat.max_eq_right (Nat.zero_le n)])) ?_
  refine j_newI (atype := .byte) (ty := .byte) C 2 n (hts (.arrayClass .byte) (by decide +kernel)) rfl rfl (by decide) (by decide) (by decide) rfl rfl (by omega) (by decide) (by decide) (by show 0 + n ≤ 40; omega) dX7_init_10 (fun Λ_1 qΛ_1 hyΛ_1 => ?_)
  have hGΛ_1 : Gw Λ Λ_1 := by rw [hyΛ_1]; exact Gw.nY (by decide)
  have hb_2 : i < gC Λ_1 1 := Nat.lt_of_lt_of_le hi (hGΛ_1.1 1)
  have he_3 : gA Λ_1 1 i = gA Λ 1 i := (hGΛ_1.2.1 1 i (by first | assumption | omega)).1
  refine j_eq (lv' := [(0, .ref (gA Λ_1 1 i)), (1, .int (nI n))]) (st' := [.ref (gA Λ_1 2 (gC Λ 2)), .ref (gA Λ_1 1 i)]) (by simp only [he_3]) (by simp only [he_3]) ?_
  have hb_4 : gC Λ 2 < gC Λ_1 2 := by rw [hyΛ_1, gC_nL, if_pos rfl]; omega
  have hn_5 : gN Λ_1 2 (gC Λ 2) = n := by rw [hyΛ_1, gN_nL, if_pos ⟨rfl, rfl⟩]
  refine j_putFV C hwX7 1 i 0 hb_2 rfl rfl (by decide) rfl hb_4 tyX7 tyX7_ok nmX7 rfl hnm rfl rfl rfl hM15 dX7_init_12 ?_
  refine j_aload_n C dX7_init_15 rfl 0 rfl ?_
  refine j_iconst C (nI 0) dX7_init_16 (by decide) ?_
  refine j_putI C hwX7 1 i 1 hb_2 rfl rfl (by decide) rfl tyX7 tyX7_ok nmX7 rfl rfl rfl hL21 dX7_init_17 ?_
  refine j_wide (k := 1) (n := 40) (by omega) (by omega) ?_
  exact j_vretx C hr hlk (⟨_, _, hyΛ_1, rfl⟩) dX7_init_20

set_option maxHeartbeats 400000 in
set_option maxRecDepth 100000 in
theorem c_X9_init (l : Launch) (D : va_G) (cy : Nat → ClassId) (base : Nat) (Λ : LY) (σ : HS) (i j : Nat) (hv : Int64) (hi : i < gC Λ 17) (hj : j < gC Λ 1) : Met l yX9_init wsX9_init ({ frames := 8, cells := 0, slots := 0, locals := 120 }) (va_Pc [.ref (gA Λ 17 i), .ref (gA Λ 1 j), .long (hv)] (Wd D cy base Λ σ)) (va_Qv (fun u => u = (Λ, sJ (sV σ 17 i 0 (some j)) 17 i 1 (hv))) (Wx D cy base) (Ab base)) 0 0 (Ab base) := by
  refine j_start (cc := cX9_init) (nL := 4) (ret := none) (lv := [(0, .ref (gA Λ 17 i)), (1, .ref (gA Λ 1 j)), (2, .long (hv))]) (by decide) rfl (Nat.le_of_ble_eq_true rfl) rfl ?_
  intro p e s m below meth c C hr hlk hnm
  have C : Cx p s m ([.ref (gA Λ 17 i), .ref (gA Λ 1 j), .long (hv)] : List Value).toArray c cX9_init 4 RX9 wsX9_init D cy base := C
  have hts := C.2.2.2.2.1
  have hwX9 : ∀ w ∈ u_ws RX9 TX9 2, w ∈ wsX9_init := by decide +kernel
  have hM7 : (Cond.fieldLink RX9 7 (TX9 0).1 (TX9 0).2.1 (TX9 0).2.2.1).before ([.ref (gA Λ 17 i), .ref (gA Λ 1 j), .long (hv)] : List Value).toArray s = true := hts (.fieldLink RX9 7 "CodeRooms$Word" "letters" "LCodeRooms$Text;") (by decide +kernel)
  have hL7 : FL RX9 7 (TX9 0).1 (TX9 0).2.1 (TX9 0).2.2.1 ([.ref (gA Λ 17 i), .ref (gA Λ 1 j), .long (hv)] : List Value).toArray s := Or.inl hM7
  have hM13 : (Cond.fieldLink RX9 13 (TX9 1).1 (TX9 1).2.1 (TX9 1).2.2.1).before ([.ref (gA Λ 17 i), .ref (gA Λ 1 j), .long (hv)] : List Value).toArray s = true := hts (.fieldLink RX9 13 "CodeRooms$Word" "holders" "J") (by decide +kernel)
  have hL13 : FL RX9 13 (TX9 1).1 (TX9 1).2.1 (TX9 1).2.2.1 ([.ref (gA Λ 17 i), .ref (gA Λ 1 j), .long (hv)] : List Value).toArray s := Or.inl hM13
  refine j_aload_n C dX9_init_0 rfl 0 rfl ?_
  refine j_oinit C (hts (.methodLink RX9 1 Lib.objectInit) (by decide +kernel)) (hts (.instanceMethod Lib.objectInit) (by decide +kernel)) (hts (.code Lib.objectInit ⟨#[0xb1]⟩ 1 none) (by decide +kernel)) dX9_init_1 (by decide) (by decide) ?_
  refine j_aload_n C dX9_init_4 rfl 0 rfl ?_
  refine j_aload_n C dX9_init_5 rfl 1 rfl ?_
  refine j_putFV C hwX9 17 i 0 hi rfl rfl (by decide) rfl hj tyX9 tyX9_ok nmX9 rfl hnm rfl rfl rfl hM7 dX9_init_6 ?_
  refine j_aload_n C dX9_init_9 rfl 0 rfl ?_
  refine j_lload_n C dX9_init_10 rfl 2 rfl ?_
  refine j_putJ C hwX9 17 i 1 hi rfl rfl (by decide) rfl tyX9 tyX9_ok nmX9 rfl rfl rfl hL13 dX9_init_11 ?_
  exact j_vretx C hr hlk (rfl) dX9_init_14

set_option maxHeartbeats 400000 in
set_option maxRecDepth 100000 in
theorem c_X5_init (l : Launch) (D : va_G) (cy : Nat → ClassId) (base : Nat) (Λ : LY) (σ : HS) (i n j : Nat) (hi : i < gC Λ 8) (hj : j < gC Λ 1) (hn : n < 40) : Met l yX5_init wsX5_init ({ frames := 8, cells := 7, slots := 209, locals := 120 }) (va_Pc [.ref (gA Λ 8 i), .int (nI n), .ref (gA Λ 1 j)] (Wd D cy base Λ σ)) (va_Qv (fun u => ∃ (qΛ_1 : Nat) (rΛ_1 : Nat → Nat) (qΛ_7 : Nat) (qΛ_15 : Nat) (qΛ_25 : Nat) (Λ_1 : LY) (Λ_7 : LY) (Λ_15 : LY) (Λ_25 : LY), Λ_1 = nY2 Λ 9 10 qΛ_1 3 40 rΛ_1 ∧ Λ_7 = nY Λ_1 11 qΛ_7 40 ∧ Λ_15 = nY Λ_7 12 qΛ_15 40 ∧ Λ_25 = nY Λ_15 13 qΛ_25 6 ∧ u = (Λ_25, sJ (sV (sI (sI (sV (nS Λ_15 (sV (nS Λ_7 (sV (nS Λ_1 (sV (nS2 Λ σ 9 10 3) 8 i 3 (some (gC Λ 9))) 11) 8 i 4 (some (gC Λ_1 11))) 12) 8 i 5 (some (gC Λ_7 12))) 13) 8 i 6 (some (gC Λ_15 13))) 8 i 10 ((-1))) 8 i 0 (nI n)) 8 i 2 (some j)) 8 i 1 (lN (2 ^ n)))) (Wx D cy base) (Ab base)) 7 209 (Ab base) := by
  refine j_start (cc := cX5_init) (nL := 3) (ret := none) (lv := [(0, .ref (gA Λ 8 i)), (1, .int (nI n)), (2, .ref (gA Λ 1 j))]) (by decide) rfl (Nat.le_of_ble_eq_true rfl) rfl ?_
  intro p e s m below meth c C hr hlk hnm
  have C : Cx p s m ([.ref (gA Λ 8 i), .int (nI n), .ref (gA Λ 1 j)] : List Value).toArray c cX5_init 3 RX5 wsX5_init D cy base := C
  have hts := C.2.2.2.2.1
  have hwX5 : ∀ w ∈ u_ws RX5 TX5 13, w ∈ wsX5_init := by decide +kernel
  have hM11 : (Cond.fieldLink RX5 11 (TX5 3).1 (TX5 3).2.1 (TX5 3).2.2.1).before ([.ref (gA Λ 8 i), .int (nI n), .ref (gA Λ 1 j)] : List Value).toArray s = true := hts (.fieldLink RX5 11 "CodeRooms$Routine" "told" "[[I") (by decide +kernel)
  have hL11 : FL RX5 11 (TX5 3).1 (TX5 3).2.1 (TX5 3).2.2.1 ([.ref (gA Λ 8 i), .int (nI n), .ref (gA Λ 1 j)] : List Value).toArray s := Or.inl hM11
  have hM16 : (Cond.fieldLink RX5 16 (TX5 4).1 (TX5 4).2.1 (TX5 4).2.2.1).before ([.ref (gA Λ 8 i), .int (nI n), .ref (gA Λ 1 j)] : List Value).toArray s = true := hts (.fieldLink RX5 16 "CodeRooms$Routine" "tieWith" "[I") (by decide +kernel)
  have hL16 : FL RX5 16 (TX5 4).1 (TX5 4).2.1 (TX5 4).2.2.1 ([.ref (gA Λ 8 i), .int (nI n), .ref (gA Λ 1 j)] : List Value).toArray s := Or.inl hM16
  have hM20 : (Cond.fieldLink RX5 20 (TX5 5).1 (TX5 5).2.1 (TX5 5).2.2.1).before ([.ref (gA Λ 8 i), .int (nI n), .ref (gA Λ 1 j)] : List Value).toArray s = true := hts (.fieldLink RX5 20 "CodeRooms$Routine" "mustWith" "[I") (by decide +kernel)
  have hL20 : FL RX5 20 (TX5 5).1 (TX5 5).2.1 (TX5 5).2.2.1 ([.ref (gA Λ 8 i), .int (nI n), .ref (gA Λ 1 j)] : List Value).toArray s := Or.inl hM20
  have hM23 : (Cond.fieldLink RX5 23 (TX5 6).1 (TX5 6).2.1 (TX5 6).2.2.1).before ([.ref (gA Λ 8 i), .int (nI n), .ref (gA Λ 1 j)] : List Value).toArray s = true := hts (.fieldLink RX5 23 "CodeRooms$Routine" "pulls" "[J") (by decide +kernel)
  have hL23 : FL RX5 23 (TX5 6).1 (TX5 6).2.1 (TX5 6).2.2.1 ([.ref (gA Λ 8 i), .int (nI n), .ref (gA Λ 1 j)] : List Value).toArray s := Or.inl hM23
  have hM27 : (Cond.fieldLink RX5 27 (TX5 10).1 (TX5 10).2.1 (TX5 10).2.2.1).before ([.ref (gA Λ 8 i), .int (nI n), .ref (gA Λ 1 j)] : List Value).toArray s = true := hts (.fieldLink RX5 27 "CodeRooms$Routine" "fixedTo" "I") (by decide +kernel)
  have hL27 : FL RX5 27 (TX5 10).1 (TX5 10).2.1 (TX5 10).2.2.1 ([.ref (gA Λ 8 i), .int (nI n), .ref (gA Λ 1 j)] : List Value).toArray s := Or.inl hM27
  have hM31 : (Cond.fieldLink RX5 31 (TX5 0).1 (TX5 0).2.1 (TX5 0).2.2.1).before ([.ref (gA Λ 8 i), .int (nI n), .ref (gA Λ 1 j)] : List Value).toArray s = true := hts (.fieldLink RX5 31 "CodeRooms$Routine" "number" "I") (by decide +kernel)
  have hL31 : FL RX5 31 (TX5 0).1 (TX5 0).2.1 (TX5 0).2.2.1 ([.ref (gA Λ 8 i), .int (nI n), .ref (gA Λ 1 j)] : List Value).toArray s := Or.inl hM31
  have hM34 : (Cond.fieldLink RX5 34 (TX5 2).1 (TX5 2).2.1 (TX5 2).2.2.1).before ([.ref (gA Λ 8 i), .int (nI n), .ref (gA Λ 1 j)] : List Value).toArray s = true := hts (.fieldLink RX5 34 "CodeRooms$Routine" "label" "LCodeRooms$Text;") (by decide +kernel)
  have hL34 : FL RX5 34 (TX5 2).1 (TX5 2).2.1 (TX5 2).2.2.1 ([.ref (gA Λ 8 i), .int (nI n), .ref (gA Λ 1 j)] : List Value).toArray s := Or.inl hM34
  have hM38 : (Cond.fieldLink RX5 38 (TX5 1).1 (TX5 1).2.1 (TX5 1).2.2.1).before ([.ref (gA Λ 8 i), .int (nI n), .ref (gA Λ 1 j)] : List Value).toArray s = true := hts (.fieldLink RX5 38 "CodeRooms$Routine" "bit" "J") (by decide +kernel)
  have hL38 : FL RX5 38 (TX5 1).1 (TX5 1).2.1 (TX5 1).2.2.1 ([.ref (gA Λ 8 i), .int (nI n), .ref (gA Λ 1 j)] : List Value).toArray s := Or.inl hM38
  refine j_aload_n C dX5_init_0 rfl 0 rfl ?_
  refine j_oinit C (hts (.methodLink RX5 3 Lib.objectInit) (by decide +kernel)) (hts (.instanceMethod Lib.objectInit) (by decide +kernel)) (hts (.code Lib.objectInit ⟨#[0xb1]⟩ 1 none) (by decide +kernel)) dX5_init_1 (by decide) (by decide) ?_
  refine j_aload_n C dX5_init_4 rfl 0 rfl ?_
  refine j_iconst C (nI 3) dX5_init_5 (by decide) ?_
  refine j_bipush C (nI 40) dX5_init_6 (by decide) ?_
  refine j_mna C 9 10 3 40 (hts (.classLink RX5 9 "[[I") (by decide +kernel)) (Ex.aoa C.2.2.2.2.2.2 ao_A) (hts (.arrayClass .int) (by decide +kernel)) rfl rfl rfl rfl rfl (by decide) (by decide) (by decide) (by decide) (by decide) (by decide) dX5_init_8 (fun Λ_1 qΛ_1 rΛ_1 hyΛ_1 => ?_)
  have hGΛ_1 : Gw Λ Λ_1 := by rw [hyΛ_1]; exact Gw.nY2 (by decide) (by decide)
  have hb_2 : i < gC Λ_1 8 := Nat.lt_of_lt_of_le hi (hGΛ_1.1 8)
  have hb_3 : j < gC Λ_1 1 := Nat.lt_of_lt_of_le hj (hGΛ_1.1 1)
  have he_4 : gA Λ_1 8 i = gA Λ 8 i := (hGΛ_1.2.1 8 i (by first | assumption | omega)).1
  have he_5 : gA Λ_1 1 j = gA Λ 1 j := (hGΛ_1.2.1 1 j (by first | assumption | omega)).1
  refine j_eq (lv' := [(0, .ref (gA Λ_1 8 i)), (1, .int (nI n)), (2, .ref (gA Λ_1 1 j))]) (st' := [.ref (gA Λ_1 9 (gC Λ 9)), .ref (gA Λ_1 8 i)]) (by simp only [he_4, he_5]) (by simp only [he_4, he_5]) ?_
  have hb_6 : gC Λ 9 < gC Λ_1 9 := by rw [hyΛ_1, gC_2, if_pos rfl]; omega
  refine j_putFV C hwX5 8 i 3 hb_2 rfl rfl (by decide) rfl hb_6 tyX5 tyX5_ok nmX5 rfl hnm rfl rfl rfl hM11 dX5_init_12 ?_
  refine j_aload_n C dX5_init_15 rfl 0 rfl ?_
  refine j_bipush C (nI 40) dX5_init_16 (by decide) ?_
  refine j_newI (atype := .int) (ty := .int) C 11 40 (hts (.arrayClass .int) (by decide +kernel)) rfl rfl (by decide) (by decide) (by decide) rfl rfl (by decide) (by decide) (by decide) (by decide) dX5_init_18 (fun Λ_7 qΛ_7 hyΛ_7 => ?_)
  have hGΛ_7 : Gw Λ_1 Λ_7 := by rw [hyΛ_7]; exact Gw.nY (by decide)
  have hb_8 : i < gC Λ_7 8 := Nat.lt_of_lt_of_le hb_2 (hGΛ_7.1 8)
  have hb_9 : j < gC Λ_7 1 := Nat.lt_of_lt_of_le hb_3 (hGΛ_7.1 1)
  have hb_10 : (gC Λ 9) < gC Λ_7 9 := Nat.lt_of_lt_of_le hb_6 (hGΛ_7.1 9)
  have he_11 : gA Λ_7 8 i = gA Λ_1 8 i := (hGΛ_7.2.1 8 i (by first | assumption | omega)).1
  have he_12 : gA Λ_7 1 j = gA Λ_1 1 j := (hGΛ_7.2.1 1 j (by first | assumption | omega)).1
  refine j_eq (lv' := [(0, .ref (gA Λ_7 8 i)), (1, .int (nI n)), (2, .ref (gA Λ_7 1 j))]) (st' := [.ref (gA Λ_7 11 (gC Λ_1 11)), .ref (gA Λ_7 8 i)]) (by simp only [he_11, he_12]) (by simp only [he_11, he_12]) ?_
  have hb_13 : gC Λ_1 11 < gC Λ_7 11 := by rw [hyΛ_7, gC_nL, if_pos rfl]; omega
  have hn_14 : gN Λ_7 11 (gC Λ_1 11) = 40 := by rw [hyΛ_7, gN_nL, if_pos ⟨rfl, rfl⟩]
  refine j_putFV C hwX5 8 i 4 hb_8 rfl rfl (by decide) rfl hb_13 tyX5 tyX5_ok nmX5 rfl hnm rfl rfl rfl hM16 dX5_init_20 ?_
  refine j_aload_n C dX5_init_23 rfl 0 rfl ?_
  refine j_bipush C (nI 40) dX5_init_24 (by decide) ?_
  refine j_newI (atype := .int) (ty := .int) C 12 40 (hts (.arrayClass .int) (by decide +kernel)) rfl rfl (by decide) (by decide) (by decide) rfl rfl (by decide) (by decide) (by decide) (by decide) dX5_init_26 (fun Λ_15 qΛ_15 hyΛ_15 => ?_)
  have hGΛ_15 : Gw Λ_7 Λ_15 := by rw [hyΛ_15]; exact Gw.nY (by decide)
  have hb_16 : i < gC Λ_15 8 := Nat.lt_of_lt_of_le hb_8 (hGΛ_15.1 8)
  have hb_17 : j < gC Λ_15 1 := Nat.lt_of_lt_of_le hb_9 (hGΛ_15.1 1)
  have hb_18 : (gC Λ 9) < gC Λ_15 9 := Nat.lt_of_lt_of_le hb_10 (hGΛ_15.1 9)
  have hb_19 : (gC Λ_1 11) < gC Λ_15 11 := Nat.lt_of_lt_of_le hb_13 (hGΛ_15.1 11)
  have hn_20 : gN Λ_15 11 (gC Λ_1 11) = 40 := (hGΛ_15.2.1 11 (gC Λ_1 11) hb_13).2.trans hn_14
  have he_21 : gA Λ_15 8 i = gA Λ_7 8 i := (hGΛ_15.2.1 8 i (by first | assumption | omega)).1
  have he_22 : gA Λ_15 1 j = gA Λ_7 1 j := (hGΛ_15.2.1 1 j (by first | assumption | omega)).1
  refine j_eq (lv' := [(0, .ref (gA Λ_15 8 i)), (1, .int (nI n)), (2, .ref (gA Λ_15 1 j))]) (st' := [.ref (gA Λ_15 12 (gC Λ_7 12)), .ref (gA Λ_15 8 i)]) (by simp only [he_21, he_22]) (by simp only [he_21, he_22]) ?_
  have hb_23 : gC Λ_7 12 < gC Λ_15 12 := by rw [hyΛ_15, gC_nL, if_pos rfl]; omega
  have hn_24 : gN Λ_15 12 (gC Λ_7 12) = 40 := by rw [hyΛ_15, gN_nL, if_pos ⟨rfl, rfl⟩]
  refine j_putFV C hwX5 8 i 5 hb_16 rfl rfl (by decide) rfl hb_23 tyX5 tyX5_ok nmX5 rfl hnm rfl rfl rfl hM20 dX5_init_28 ?_
  refine j_aload_n C dX5_init_31 rfl 0 rfl ?_
  refine j_bipush C (nI 6) dX5_init_32 (by decide) ?_
  refine j_newJ (atype := .long) C 13 6 (hts (.arrayClass .long) (by decide +kernel)) rfl rfl rfl (by decide) (by decide) (by decide) (by decide) dX5_init_34 (fun Λ_25 qΛ_25 hyΛ_25 => ?_)
  have hGΛ_25 : Gw Λ_15 Λ_25 := by rw [hyΛ_25]; exact Gw.nY (by decide)
  have hb_26 : i < gC Λ_25 8 := Nat.lt_of_lt_of_le hb_16 (hGΛ_25.1 8)
  have hb_27 : j < gC Λ_25 1 := Nat.lt_of_lt_of_le hb_17 (hGΛ_25.1 1)
  have hb_28 : (gC Λ 9) < gC Λ_25 9 := Nat.lt_of_lt_of_le hb_18 (hGΛ_25.1 9)
  have hb_29 : (gC Λ_1 11) < gC Λ_25 11 := Nat.lt_of_lt_of_le hb_19 (hGΛ_25.1 11)
  have hn_30 : gN Λ_25 11 (gC Λ_1 11) = 40 := (hGΛ_25.2.1 11 (gC Λ_1 11) hb_19).2.trans hn_20
  have hb_31 : (gC Λ_7 12) < gC Λ_25 12 := Nat.lt_of_lt_of_le hb_23 (hGΛ_25.1 12)
  have hn_32 : gN Λ_25 12 (gC Λ_7 12) = 40 := (hGΛ_25.2.1 12 (gC Λ_7 12) hb_23).2.trans hn_24
  have he_33 : gA Λ_25 8 i = gA Λ_15 8 i := (hGΛ_25.2.1 8 i (by first | assumption | omega)).1
  have he_34 : gA Λ_25 1 j = gA Λ_15 1 j := (hGΛ_25.2.1 1 j (by first | assumption | omega)).1
  refine j_eq (lv' := [(0, .ref (gA Λ_25 8 i)), (1, .int (nI n)), (2, .ref (gA Λ_25 1 j))]) (st' := [.ref (gA Λ_25 13 (gC Λ_15 13)), .ref (gA Λ_25 8 i)]) (by simp only [he_33, he_34]) (by simp only [he_33, he_34]) ?_
  have hb_35 : gC Λ_15 13 < gC Λ_25 13 := by rw [hyΛ_25, gC_nL, if_pos rfl]; omega
  have hn_36 : gN Λ_25 13 (gC Λ_15 13) = 6 := by rw [hyΛ_25, gN_nL, if_pos ⟨rfl, rfl⟩]
  refine j_putFV C hwX5 8 i 6 hb_26 rfl rfl (by decide) rfl hb_35 tyX5 tyX5_ok nmX5 rfl hnm rfl rfl rfl hM23 dX5_init_36 ?_
  refine j_aload_n C dX5_init_39 rfl 0 rfl ?_
  refine j_iconst C ((-1)) dX5_init_40 (by decide) ?_
  refine j_putI C hwX5 8 i 10 hb_26 rfl rfl (by decide) rfl tyX5 tyX5_ok nmX5 rfl rfl rfl hL27 dX5_init_41 ?_
  refine j_aload_n C dX5_init_44 rfl 0 rfl ?_
  refine j_iload_n C dX5_init_45 rfl 1 rfl ?_
  refine j_putFI C hwX5 8 i 0 hb_26 rfl rfl (by decide) rfl tyX5 tyX5_ok nmX5 rfl hnm rfl rfl rfl hM31 dX5_init_46 ?_
  refine j_aload_n C dX5_init_49 rfl 0 rfl ?_
  refine j_aload_n C dX5_init_50 rfl 2 rfl ?_
  refine j_putFV C hwX5 8 i 2 hb_26 rfl rfl (by decide) rfl hb_27 tyX5 tyX5_ok nmX5 rfl hnm rfl rfl rfl hM34 dX5_init_51 ?_
  refine j_aload_n C dX5_init_54 rfl 0 rfl ?_
  refine j_lconst C (lN 1) dX5_init_55 (by decide) ?_
  refine j_iload_n C dX5_init_56 rfl 1 rfl ?_
  refine j_lshl C (lN (2 ^ n)) dX5_init_57 (b_shl0 n hn) ?_
  refine j_putFJ C hwX5 8 i 1 hb_26 rfl rfl (by decide) rfl tyX5 tyX5_ok nmX5 rfl hnm rfl rfl rfl hM38 dX5_init_58 ?_
  exact j_vretx C hr hlk (⟨_, _, _, _, _, _, _, _, _, hyΛ_1, hyΛ_7, hyΛ_15, hyΛ_25, rfl⟩) dX5_init_61

set_option maxHeartbeats 400000 in
set_option maxRecDepth 100000 in
theorem c_X4_init (l : Launch) (D : va_G) (cy : Nat → ClassId) (base : Nat) (Λ : LY) (σ : HS) (i : Nat) (hi : i < gC Λ 3) : Met l yX4_init wsX4_init ({ frames := 8, cells := 4, slots := 92, locals := 120 }) (va_Pc [.ref (gA Λ 3 i)] (Wd D cy base Λ σ)) (va_Qv (fun u => ∃ (qΛ_1 : Nat) (qΛ_6 : Nat) (qΛ_13 : Nat) (qΛ_22 : Nat) (Λ_1 : LY) (Λ_6 : LY) (Λ_13 : LY) (Λ_22 : LY), Λ_1 = nY Λ 4 qΛ_1 40 ∧ Λ_6 = nY Λ_1 5 qΛ_6 40 ∧ Λ_13 = nY Λ_6 6 qΛ_13 6 ∧ Λ_22 = nY Λ_13 7 qΛ_22 6 ∧ u = (Λ_22, sV (nS Λ_13 (sV (sI (sI (sI (sI (sI (sI (nS Λ_6 (sV (nS Λ_1 (sV (nS Λ σ 4) 3 i 0 (some (gC Λ 4))) 5) 3 i 1 (some (gC Λ_1 5))) 6) 6 (gC Λ_6 6) 0 (nI 1)) 6 (gC Λ_6 6) 1 (nI 1)) 6 (gC Λ_6 6) 2 (nI 1)) 6 (gC Λ_6 6) 3 (nI 1)) 6 (gC Λ_6 6) 4 (nI 40)) 6 (gC Λ_6 6) 5 (nI 2)) 3 i 2 (some (gC Λ_6 6))) 7) 3 i 3 (some (gC Λ_13 7)))) (Wx D cy base) (Ab base)) 4 92 (Ab base) := by
  refine j_start (cc := cX4_init) (nL := 1) (ret := none) (lv := [(0, .ref (gA Λ 3 i))]) (by decide) rfl (Nat.le_of_ble_eq_true rfl) rfl ?_
  intro p e s m below meth c C hr hlk hnm
  have C : Cx p s m ([.ref (gA Λ 3 i)] : List Value).toArray c cX4_init 1 RX4 wsX4_init D cy base := C
  have hts := C.2.2.2.2.1
  have hwX4 : ∀ w ∈ u_ws RX4 TX4 6, w ∈ wsX4_init := by decide +kernel
  have hM11 : (Cond.fieldLink RX4 11 (TX4 0).1 (TX4 0).2.1 (TX4 0).2.2.1).before ([.ref (gA Λ 3 i)] : List Value).toArray s = true := hts (.fieldLink RX4 11 "CodeRooms$Plan" "routines" "[LCodeRooms$Routine;") (by decide +kernel)
  have hL11 : FL RX4 11 (TX4 0).1 (TX4 0).2.1 (TX4 0).2.2.1 ([.ref (gA Λ 3 i)] : List Value).toArray s := Or.inl hM11
  have hM17 : (Cond.fieldLink RX4 17 (TX4 1).1 (TX4 1).2.1 (TX4 1).2.2.1).before ([.ref (gA Λ 3 i)] : List Value).toArray s = true := hts (.fieldLink RX4 17 "CodeRooms$Plan" "housed" "[LCodeRooms$Routine;") (by decide +kernel)
  have hL17 : FL RX4 17 (TX4 1).1 (TX4 1).2.1 (TX4 1).2.2.1 ([.ref (gA Λ 3 i)] : List Value).toArray s := Or.inl hM17
  have hM20 : (Cond.fieldLink RX4 20 (TX4 2).1 (TX4 2).2.1 (TX4 2).2.2.1).before ([.ref (gA Λ 3 i)] : List Value).toArray s = true := hts (.fieldLink RX4 20 "CodeRooms$Plan" "settings" "[I") (by decide +kernel)
  have hL20 : FL RX4 20 (TX4 2).1 (TX4 2).2.1 (TX4 2).2.2.1 ([.ref (gA Λ 3 i)] : List Value).toArray s := Or.inl hM20
  have hM24 : (Cond.fieldLink RX4 24 (TX4 3).1 (TX4 3).2.1 (TX4 3).2.2.1).before ([.ref (gA Λ 3 i)] : List Value).toArray s = true := hts (.fieldLink RX4 24 "CodeRooms$Plan" "members" "[J") (by decide +kernel)
  have hL24 : FL RX4 24 (TX4 3).1 (TX4 3).2.1 (TX4 3).2.2.1 ([.ref (gA Λ 3 i)] : List Value).toArray s := Or.inl hM24
  refine j_aload_n C dX4_init_0 rfl 0 rfl ?_
  refine j_oinit C (hts (.methodLink RX4 3 Lib.objectInit) (by decide +kernel)) (hts (.instanceMethod Lib.objectInit) (by decide +kernel)) (hts (.code Lib.objectInit ⟨#[0xb1]⟩ 1 none) (by decide +kernel)) dX4_init_1 (by decide) (by decide) ?_
  refine j_aload_n C dX4_init_4 rfl 0 rfl ?_
  refine j_bipush C (nI 40) dX4_init_5 (by decide) ?_
  refine j_newV C 4 40 (hts (.classLink RX4 9 "CodeRooms$Routine") (by decide +kernel)) (Ex.ao C.2.2.2.2.2.2 ao_R) rfl (by decide) (by decide) rfl (by decide) (by decide) (by decide) dX4_init_7 (fun Λ_1 qΛ_1 hyΛ_1 => ?_)
  have hGΛ_1 : Gw Λ Λ_1 := by rw [hyΛ_1]; exact Gw.nY (by decide)
  have hb_2 : i < gC Λ_1 3 := Nat.lt_of_lt_of_le hi (hGΛ_1.1 3)
  have he_3 : gA Λ_1 3 i = gA Λ 3 i := (hGΛ_1.2.1 3 i (by first | assumption | omega)).1
  refine j_eq (lv' := [(0, .ref (gA Λ_1 3 i))]) (st' := [.ref (gA Λ_1 4 (gC Λ 4)), .ref (gA Λ_1 3 i)]) (by simp only [he_3]) (by simp only [he_3]) ?_
  have hb_4 : gC Λ 4 < gC Λ_1 4 := by rw [hyΛ_1, gC_nL, if_pos rfl]; omega
  have hn_5 : gN Λ_1 4 (gC Λ 4) = 40 := by rw [hyΛ_1, gN_nL, if_pos ⟨rfl, rfl⟩]
  refine j_putFV C hwX4 3 i 0 hb_2 rfl rfl (by decide) rfl hb_4 tyX4 tyX4_ok nmX4 rfl hnm rfl rfl rfl hM11 dX4_init_10 ?_
  refine j_aload_n C dX4_init_13 rfl 0 rfl ?_
  refine j_bipush C (nI 40) dX4_init_14 (by decide) ?_
  refine j_newV C 5 40 (hts (.classLink RX4 9 "CodeRooms$Routine") (by decide +kernel)) (Ex.ao C.2.2.2.2.2.2 ao_R) rfl (by decide) (by decide) rfl (by decide) (by decide) (by decide) dX4_init_16 (fun Λ_6 qΛ_6 hyΛ_6 => ?_)
  have hGΛ_6 : Gw Λ_1 Λ_6 := by rw [hyΛ_6]; exact Gw.nY (by decide)
  have hb_7 : i < gC Λ_6 3 := Nat.lt_of_lt_of_le hb_2 (hGΛ_6.1 3)
  have hb_8 : (gC Λ 4) < gC Λ_6 4 := Nat.lt_of_lt_of_le hb_4 (hGΛ_6.1 4)
  have hn_9 : gN Λ_6 4 (gC Λ 4) = 40 := (hGΛ_6.2.1 4 (gC Λ 4) hb_4).2.trans hn_5
  have he_10 : gA Λ_6 3 i = gA Λ_1 3 i := (hGΛ_6.2.1 3 i (by first | assumption | omega)).1
  refine j_eq (lv' := [(0, .ref (gA Λ_6 3 i))]) (st' := [.ref (gA Λ_6 5 (gC Λ_1 5)), .ref (gA Λ_6 3 i)]) (by simp only [he_10]) (by simp only [he_10]) ?_
  have hb_11 : gC Λ_1 5 < gC Λ_6 5 := by rw [hyΛ_6, gC_nL, if_pos rfl]; omega
  have hn_12 : gN Λ_6 5 (gC Λ_1 5) = 40 := by rw [hyΛ_6, gN_nL, if_pos ⟨rfl, rfl⟩]
  refine j_putFV C hwX4 3 i 1 hb_7 rfl rfl (by decide) rfl hb_11 tyX4 tyX4_ok nmX4 rfl hnm rfl rfl rfl hM17 dX4_init_19 ?_
  refine j_aload_n C dX4_init_22 rfl 0 rfl ?_
  refine j_bipush C (nI 6) dX4_init_23 (by decide) ?_
  refine j_newI (atype := .int) (ty := .int) C 6 6 (hts (.arrayClass .int) (by decide +kernel)) rfl rfl (by decide) (by decide) (by decide) rfl rfl (by decide) (by decide) (by decide) (by decide) dX4_init_25 (fun Λ_13 qΛ_13 hyΛ_13 => ?_)
  have hGΛ_13 : Gw Λ_6 Λ_13 := by rw [hyΛ_13]; exact Gw.nY (by decide)
  have hb_14 : i < gC Λ_13 3 := Nat.lt_of_lt_of_le hb_7 (hGΛ_13.1 3)
  have hb_15 : (gC Λ 4) < gC Λ_13 4 := Nat.lt_of_lt_of_le hb_8 (hGΛ_13.1 4)
  have hn_16 : gN Λ_13 4 (gC Λ 4) = 40 := (hGΛ_13.2.1 4 (gC Λ 4) hb_8).2.trans hn_9
  have hb_17 : (gC Λ_1 5) < gC Λ_13 5 := Nat.lt_of_lt_of_le hb_11 (hGΛ_13.1 5)
  have hn_18 : gN Λ_13 5 (gC Λ_1 5) = 40 := (hGΛ_13.2.1 5 (gC Λ_1 5) hb_11).2.trans hn_12
  have he_19 : gA Λ_13 3 i = gA Λ_6 3 i := (hGΛ_13.2.1 3 i (by first | assumption | omega)).1
  refine j_eq (lv' := [(0, .ref (gA Λ_13 3 i))]) (st' := [.ref (gA Λ_13 6 (gC Λ_6 6)), .ref (gA Λ_13 3 i)]) (by simp only [he_19]) (by simp only [he_19]) ?_
  have hb_20 : gC Λ_6 6 < gC Λ_13 6 := by rw [hyΛ_13, gC_nL, if_pos rfl]; omega
  have hn_21 : gN Λ_13 6 (gC Λ_6 6) = 6 := by rw [hyΛ_13, gN_nL, if_pos ⟨rfl, rfl⟩]
  refine j_dup C dX4_init_27 rfl ?_
  refine j_iconst C (nI 0) dX4_init_28 (by decide) ?_
  refine j_iconst C (nI 1) dX4_init_29 (by decide) ?_
  refine j_iast C 6 (gC Λ_6 6) 0 hb_20 rfl rfl 6 hn_21 (by omega) (by omega) (nI 1) rfl dX4_init_30 ?_
  refine j_dup C dX4_init_31 rfl ?_
  refine j_iconst C (nI 1) dX4_init_32 (by decide) ?_
  refine j_iconst C (nI 1) dX4_init_33 (by decide) ?_
  refine j_iast C 6 (gC Λ_6 6) 1 hb_20 rfl rfl 6 hn_21 (by omega) (by omega) (nI 1) rfl dX4_init_34 ?_
  refine j_dup C dX4_init_35 rfl ?_
  refine j_iconst C (nI 2) dX4_init_36 (by decide) ?_
  refine j_iconst C (nI 1) dX4_init_37 (by decide) ?_
  refine j_iast C 6 (gC Λ_6 6) 2 hb_20 rfl rfl 6 hn_21 (by omega) (by omega) (nI 1) rfl dX4_init_38 ?_
  refine j_dup C dX4_init_39 rfl ?_
  refine j_iconst C (nI 3) dX4_init_40 (by decide) ?_
  refine j_iconst C (nI 1) dX4_init_41 (by decide) ?_
  refine j_iast C 6 (gC Λ_6 6) 3 hb_20 rfl rfl 6 hn_21 (by omega) (by omega) (nI 1) rfl dX4_init_42 ?_
  refine j_dup C dX4_init_43 rfl ?_
  refine j_iconst C (nI 4) dX4_init_44 (by decide) ?_
  refine j_bipush C (nI 40) dX4_init_45 (by decide) ?_
  refine j_iast C 6 (gC Λ_6 6) 4 hb_20 rfl rfl 6 hn_21 (by omega) (by omega) (nI 40) rfl dX4_init_47 ?_
  refine j_dup C dX4_init_48 rfl ?_
  refine j_iconst C (nI 5) dX4_init_49 (by decide) ?_
  refine j_iconst C (nI 2) dX4_init_50 (by decide) ?_
  refine j_iast C 6 (gC Λ_6 6) 5 hb_20 rfl rfl 6 hn_21 (by omega) (by omega) (nI 2) rfl dX4_init_51 ?_
  refine j_putFV C hwX4 3 i 2 hb_14 rfl rfl (by decide) rfl hb_20 tyX4 tyX4_ok nmX4 rfl hnm rfl rfl rfl hM20 dX4_init_52 ?_
  refine j_aload_n C dX4_init_55 rfl 0 rfl ?_
  refine j_bipush C (nI 6) dX4_init_56 (by decide) ?_
  refine j_newJ (atype := .long) C 7 6 (hts (.arrayClass .long) (by decide +kernel)) rfl rfl rfl (by decide) (by decide) (by decide) (by decide) dX4_init_58 (fun Λ_22 qΛ_22 hyΛ_22 => ?_)
  have hGΛ_22 : Gw Λ_13 Λ_22 := by rw [hyΛ_22]; exact Gw.nY (by decide)
  have hb_23 : i < gC Λ_22 3 := Nat.lt_of_lt_of_le hb_14 (hGΛ_22.1 3)
  have hb_24 : (gC Λ 4) < gC Λ_22 4 := Nat.lt_of_lt_of_le hb_15 (hGΛ_22.1 4)
  have hn_25 : gN Λ_22 4 (gC Λ 4) = 40 := (hGΛ_22.2.1 4 (gC Λ 4) hb_15).2.trans hn_16
  have hb_26 : (gC Λ_1 5) < gC Λ_22 5 := Nat.lt_of_lt_of_le hb_17 (hGΛ_22.1 5)
  have hn_27 : gN Λ_22 5 (gC Λ_1 5) = 40 := (hGΛ_22.2.1 5 (gC Λ_1 5) hb_17).2.trans hn_18
  have hb_28 : (gC Λ_6 6) < gC Λ_22 6 := Nat.lt_of_lt_of_le hb_20 (hGΛ_22.1 6)
  have hn_29 : gN Λ_22 6 (gC Λ_6 6) = 6 := (hGΛ_22.2.1 6 (gC Λ_6 6) hb_20).2.trans hn_21
  have he_30 : gA Λ_22 3 i = gA Λ_13 3 i := (hGΛ_22.2.1 3 i (by first | assumption | omega)).1
  refine j_eq (lv' := [(0, .ref (gA Λ_22 3 i))]) (st' := [.ref (gA Λ_22 7 (gC Λ_13 7)), .ref (gA Λ_22 3 i)]) (by simp only [he_30]) (by simp only [he_30]) ?_
  have hb_31 : gC Λ_13 7 < gC Λ_22 7 := by rw [hyΛ_22, gC_nL, if_pos rfl]; omega
  have hn_32 : gN Λ_22 7 (gC Λ_13 7) = 6 := by rw [hyΛ_22, gN_nL, if_pos ⟨rfl, rfl⟩]
  refine j_putFV C hwX4 3 i 3 hb_23 rfl rfl (by decide) rfl hb_31 tyX4 tyX4_ok nmX4 rfl hnm rfl rfl rfl hM24 dX4_init_60 ?_
  exact j_vretx C hr hlk (⟨_, _, _, _, _, _, _, _, hyΛ_1, hyΛ_6, hyΛ_13, hyΛ_22, rfl⟩) dX4_init_63

set_option maxHeartbeats 400000 in
set_option maxRecDepth 100000 in
theorem c_X2_init (l : Launch) (D : va_G) (cy : Nat → ClassId) (base : Nat) (Λ : LY) (σ : HS) (i j : Nat) (hi : i < gC Λ 18) (hj : j < gC Λ 3) : Met l yX2_init wsX2_init ({ frames := 8, cells := 1, slots := 6, locals := 120 }) (va_Pc [.ref (gA Λ 18 i), .ref (gA Λ 3 j)] (Wd D cy base Λ σ)) (va_Qv (fun u => ∃ (qΛ_1 : Nat) (Λ_1 : LY), Λ_1 = nY Λ 19 qΛ_1 6 ∧ u = (Λ_1, sV (sV (nS Λ σ 19) 18 i 1 (some (gC Λ 19))) 18 i 0 (some j))) (Wx D cy base) (Ab base)) 1 6 (Ab base) := by
  refine j_start (cc := cX2_init) (nL := 2) (ret := none) (lv := [(0, .ref (gA Λ 18 i)), (1, .ref (gA Λ 3 j))]) (by decide) rfl (Nat.le_of_ble_eq_true rfl) rfl ?_
  intro p e s m below meth c C hr hlk hnm
  have C : Cx p s m ([.ref (gA Λ 18 i), .ref (gA Λ 3 j)] : List Value).toArray c cX2_init 2 RX2 wsX2_init D cy base := C
  have hts := C.2.2.2.2.1
  have hwX2 : ∀ w ∈ u_ws RX2 TX2 6, w ∈ wsX2_init := by decide +kernel
  have hM9 : (Cond.fieldLink RX2 9 (TX2 1).1 (TX2 1).2.1 (TX2 1).2.2.1).before ([.ref (gA Λ 18 i), .ref (gA Λ 3 j)] : List Value).toArray s = true := hts (.fieldLink RX2 9 "CodeRooms$Mender" "sizes" "[I") (by decide +kernel)
  have hL9 : FL RX2 9 (TX2 1).1 (TX2 1).2.1 (TX2 1).2.2.1 ([.ref (gA Λ 18 i), .ref (gA Λ 3 j)] : List Value).toArray s := Or.inl hM9
  have hM15 : (Cond.fieldLink RX2 15 (TX2 0).1 (TX2 0).2.1 (TX2 0).2.2.1).before ([.ref (gA Λ 18 i), .ref (gA Λ 3 j)] : List Value).toArray s = true := hts (.fieldLink RX2 15 "CodeRooms$Mender" "plan" "LCodeRooms$Plan;") (by decide +kernel)
  have hL15 : FL RX2 15 (TX2 0).1 (TX2 0).2.1 (TX2 0).2.2.1 ([.ref (gA Λ 18 i), .ref (gA Λ 3 j)] : List Value).toArray s := Or.inl hM15
  refine j_aload_n C dX2_init_0 rfl 0 rfl ?_
  refine j_oinit C (hts (.methodLink RX2 3 Lib.objectInit) (by decide +kernel)) (hts (.instanceMethod Lib.objectInit) (by decide +kernel)) (hts (.code Lib.objectInit ⟨#[0xb1]⟩ 1 none) (by decide +kernel)) dX2_init_1 (by decide) (by decide) ?_
  refine j_aload_n C dX2_init_4 rfl 0 rfl ?_
  refine j_bipush C (nI 6) dX2_init_5 (by decide) ?_
  refine j_newI (atype := .int) (ty := .int) C 19 6 (hts (.arrayClass .int) (by decide +kernel)) rfl rfl (by decide) (by decide) (by decide) rfl rfl (by decide) (by decide) (by decide) (by decide) dX2_init_7 (fun Λ_1 qΛ_1 hyΛ_1 => ?_)
  have hGΛ_1 : Gw Λ Λ_1 := by rw [hyΛ_1]; exact Gw.nY (by decide)
  have hb_2 : i < gC Λ_1 18 := Nat.lt_of_lt_of_le hi (hGΛ_1.1 18)
  have hb_3 : j < gC Λ_1 3 := Nat.lt_of_lt_of_le hj (hGΛ_1.1 3)
  have he_4 : gA Λ_1 18 i = gA Λ 18 i := (hGΛ_1.2.1 18 i (by first | assumption | omega)).1
  have he_5 : gA Λ_1 3 j = gA Λ 3 j := (hGΛ_1.2.1 3 j (by first | assumption | omega)).1
  refine j_eq (lv' := [(0, .ref (gA Λ_1 18 i)), (1, .ref (gA Λ_1 3 j))]) (st' := [.ref (gA Λ_1 19 (gC Λ 19)), .ref (gA Λ_1 18 i)]) (by simp only [he_4, he_5]) (by simp only [he_4, he_5]) ?_
  have hb_6 : gC Λ 19 < gC Λ_1 19 := by rw [hyΛ_1, gC_nL, if_pos rfl]; omega
  have hn_7 : gN Λ_1 19 (gC Λ 19) = 6 := by rw [hyΛ_1, gN_nL, if_pos ⟨rfl, rfl⟩]
  refine j_putFV C hwX2 18 i 1 hb_2 rfl rfl (by decide) rfl hb_6 tyX2 tyX2_ok nmX2 rfl hnm rfl rfl rfl hM9 dX2_init_9 ?_
  refine j_aload_n C dX2_init_12 rfl 0 rfl ?_
  refine j_aload_n C dX2_init_13 rfl 1 rfl ?_
  refine j_putFV C hwX2 18 i 0 hb_2 rfl rfl (by decide) rfl hb_3 tyX2 tyX2_ok nmX2 rfl hnm rfl rfl rfl hM15 dX2_init_14 ?_
  exact j_vretx C hr hlk (⟨_, _, hyΛ_1, rfl⟩) dX2_init_17

set_option maxHeartbeats 400000 in
set_option maxRecDepth 100000 in
theorem c_X6_init (l : Launch) (D : va_G) (cy : Nat → ClassId) (base : Nat) (Λ : LY) (σ : HS) (i j : Nat) (hi : i < gC Λ 20) (hj : j < gC Λ 3) : Met l yX6_init wsX6_init ({ frames := 8, cells := 2, slots := 18, locals := 120 }) (va_Pc [.ref (gA Λ 20 i), .ref (gA Λ 3 j)] (Wd D cy base Λ σ)) (va_Qv (fun u => ∃ (qΛ_1 : Nat) (qΛ_8 : Nat) (Λ_1 : LY) (Λ_8 : LY), Λ_1 = nY Λ 21 qΛ_1 9 ∧ Λ_8 = nY Λ_1 22 qΛ_8 9 ∧ u = (Λ_8, sV (sV (nS Λ_1 (sV (nS Λ σ 21) 20 i 1 (some (gC Λ 21))) 22) 20 i 2 (some (gC Λ_1 22))) 20 i 0 (some j))) (Wx D cy base) (Ab base)) 2 18 (Ab base) := by
  refine j_start (cc := cX6_init) (nL := 2) (ret := none) (lv := [(0, .ref (gA Λ 20 i)), (1, .ref (gA Λ 3 j))]) (by decide) rfl (Nat.le_of_ble_eq_true rfl) rfl ?_
  intro p e s m below meth c C hr hlk hnm
  have C : Cx p s m ([.ref (gA Λ 20 i), .ref (gA Λ 3 j)] : List Value).toArray c cX6_init 2 RX6 wsX6_init D cy base := C
  have hts := C.2.2.2.2.1
  have hwX6 : ∀ w ∈ u_ws RX6 TX6 4, w ∈ wsX6_init := by decide +kernel
  have hM9 : (Cond.fieldLink RX6 9 (TX6 1).1 (TX6 1).2.1 (TX6 1).2.2.1).before ([.ref (gA Λ 20 i), .ref (gA Λ 3 j)] : List Value).toArray s = true := hts (.fieldLink RX6 9 "CodeRooms$Search" "trial" "[I") (by decide +kernel)
  have hL9 : FL RX6 9 (TX6 1).1 (TX6 1).2.1 (TX6 1).2.2.1 ([.ref (gA Λ 20 i), .ref (gA Λ 3 j)] : List Value).toArray s := Or.inl hM9
  have hM15 : (Cond.fieldLink RX6 15 (TX6 2).1 (TX6 2).2.1 (TX6 2).2.2.1).before ([.ref (gA Λ 20 i), .ref (gA Λ 3 j)] : List Value).toArray s = true := hts (.fieldLink RX6 15 "CodeRooms$Search" "found" "[I") (by decide +kernel)
  have hL15 : FL RX6 15 (TX6 2).1 (TX6 2).2.1 (TX6 2).2.2.1 ([.ref (gA Λ 20 i), .ref (gA Λ 3 j)] : List Value).toArray s := Or.inl hM15
  have hM18 : (Cond.fieldLink RX6 18 (TX6 0).1 (TX6 0).2.1 (TX6 0).2.2.1).before ([.ref (gA Λ 20 i), .ref (gA Λ 3 j)] : List Value).toArray s = true := hts (.fieldLink RX6 18 "CodeRooms$Search" "plan" "LCodeRooms$Plan;") (by decide +kernel)
  have hL18 : FL RX6 18 (TX6 0).1 (TX6 0).2.1 (TX6 0).2.2.1 ([.ref (gA Λ 20 i), .ref (gA Λ 3 j)] : List Value).toArray s := Or.inl hM18
  refine j_aload_n C dX6_init_0 rfl 0 rfl ?_
  refine j_oinit C (hts (.methodLink RX6 3 Lib.objectInit) (by decide +kernel)) (hts (.instanceMethod Lib.objectInit) (by decide +kernel)) (hts (.code Lib.objectInit ⟨#[0xb1]⟩ 1 none) (by decide +kernel)) dX6_init_1 (by decide) (by decide) ?_
  refine j_aload_n C dX6_init_4 rfl 0 rfl ?_
  refine j_bipush C (nI 9) dX6_init_5 (by decide) ?_
  refine j_newI (atype := .int) (ty := .int) C 21 9 (hts (.arrayClass .int) (by decide +kernel)) rfl rfl (by decide) (by decide) (by decide) rfl rfl (by decide) (by decide) (by decide) (by decide) dX6_init_7 (fun Λ_1 qΛ_1 hyΛ_1 => ?_)
  have hGΛ_1 : Gw Λ Λ_1 := by rw [hyΛ_1]; exact Gw.nY (by decide)
  have hb_2 : i < gC Λ_1 20 := Nat.lt_of_lt_of_le hi (hGΛ_1.1 20)
  have hb_3 : j < gC Λ_1 3 := Nat.lt_of_lt_of_le hj (hGΛ_1.1 3)
  have he_4 : gA Λ_1 20 i = gA Λ 20 i := (hGΛ_1.2.1 20 i (by first | assumption | omega)).1
  have he_5 : gA Λ_1 3 j = gA Λ 3 j := (hGΛ_1.2.1 3 j (by first | assumption | omega)).1
  refine j_eq (lv' := [(0, .ref (gA Λ_1 20 i)), (1, .ref (gA Λ_1 3 j))]) (st' := [.ref (gA Λ_1 21 (gC Λ 21)), .ref (gA Λ_1 20 i)]) (by simp only [he_4, he_5]) (by simp only [he_4, he_5]) ?_
  have hb_6 : gC Λ 21 < gC Λ_1 21 := by rw [hyΛ_1, gC_nL, if_pos rfl]; omega
  have hn_7 : gN Λ_1 21 (gC Λ 21) = 9 := by rw [hyΛ_1, gN_nL, if_pos ⟨rfl, rfl⟩]
  refine j_putFV C hwX6 20 i 1 hb_2 rfl rfl (by decide) rfl hb_6 tyX6 tyX6_ok nmX6 rfl hnm rfl rfl rfl hM9 dX6_init_9 ?_
  refine j_aload_n C dX6_init_12 rfl 0 rfl ?_
  refine j_bipush C (nI 9) dX6_init_13 (by decide) ?_
  refine j_newI (atype := .int) (ty := .int) C 22 9 (hts (.arrayClass .int) (by decide +kernel)) rfl rfl (by decide) (by decide) (by decide) rfl rfl (by decide) (by decide) (by decide) (by decide) dX6_init_15 (fun Λ_8 qΛ_8 hyΛ_8 => ?_)
  have hGΛ_8 : Gw Λ_1 Λ_8 := by rw [hyΛ_8]; exact Gw.nY (by decide)
  have hb_9 : i < gC Λ_8 20 := Nat.lt_of_lt_of_le hb_2 (hGΛ_8.1 20)
  have hb_10 : j < gC Λ_8 3 := Nat.lt_of_lt_of_le hb_3 (hGΛ_8.1 3)
  have hb_11 : (gC Λ 21) < gC Λ_8 21 := Nat.lt_of_lt_of_le hb_6 (hGΛ_8.1 21)
  have hn_12 : gN Λ_8 21 (gC Λ 21) = 9 := (hGΛ_8.2.1 21 (gC Λ 21) hb_6).2.trans hn_7
  have he_13 : gA Λ_8 20 i = gA Λ_1 20 i := (hGΛ_8.2.1 20 i (by first | assumption | omega)).1
  have he_14 : gA Λ_8 3 j = gA Λ_1 3 j := (hGΛ_8.2.1 3 j (by first | assumption | omega)).1
  refine j_eq (lv' := [(0, .ref (gA Λ_8 20 i)), (1, .ref (gA Λ_8 3 j))]) (st' := [.ref (gA Λ_8 22 (gC Λ_1 22)), .ref (gA Λ_8 20 i)]) (by simp only [he_13, he_14]) (by simp only [he_13, he_14]) ?_
  have hb_15 : gC Λ_1 22 < gC Λ_8 22 := by rw [hyΛ_8, gC_nL, if_pos rfl]; omega
  have hn_16 : gN Λ_8 22 (gC Λ_1 22) = 9 := by rw [hyΛ_8, gN_nL, if_pos ⟨rfl, rfl⟩]
  refine j_putFV C hwX6 20 i 2 hb_9 rfl rfl (by decide) rfl hb_15 tyX6 tyX6_ok nmX6 rfl hnm rfl rfl rfl hM15 dX6_init_17 ?_
  refine j_aload_n C dX6_init_20 rfl 0 rfl ?_
  refine j_aload_n C dX6_init_21 rfl 1 rfl ?_
  refine j_putFV C hwX6 20 i 0 hb_9 rfl rfl (by decide) rfl hb_10 tyX6 tyX6_ok nmX6 rfl hnm rfl rfl rfl hM18 dX6_init_22 ?_
  exact j_vretx C hr hlk (⟨_, _, _, _, hyΛ_1, hyΛ_8, rfl⟩) dX6_init_25

set_option maxHeartbeats 400000 in
set_option maxRecDepth 100000 in
theorem c_X8_init (l : Launch) (D : va_G) (cy : Nat → ClassId) (base : Nat) (Λ : LY) (σ : HS) (i j : Nat) (hi : i < gC Λ 23) (hj : j < gC Λ 3) : Met l yX8_init wsX8_init ({ frames := 8, cells := 1, slots := 6, locals := 120 }) (va_Pc [.ref (gA Λ 23 i), .ref (gA Λ 3 j)] (Wd D cy base Λ σ)) (va_Qv (fun u => ∃ (qΛ_1 : Nat) (Λ_1 : LY), Λ_1 = nY Λ 24 qΛ_1 6 ∧ u = (Λ_1, sV (sV (nS Λ σ 24) 23 i 1 (some (gC Λ 24))) 23 i 0 (some j))) (Wx D cy base) (Ab base)) 1 6 (Ab base) := by
  refine j_start (cc := cX8_init) (nL := 2) (ret := none) (lv := [(0, .ref (gA Λ 23 i)), (1, .ref (gA Λ 3 j))]) (by decide) rfl (Nat.le_of_ble_eq_true rfl) rfl ?_
  intro p e s m below meth c C hr hlk hnm
  have C : Cx p s m ([.ref (gA Λ 23 i), .ref (gA Λ 3 j)] : List Value).toArray c cX8_init 2 RX8 wsX8_init D cy base := C
  have hts := C.2.2.2.2.1
  have hwX8 : ∀ w ∈ u_ws RX8 TX8 2, w ∈ wsX8_init := by decide +kernel
  have hM9 : (Cond.fieldLink RX8 9 (TX8 1).1 (TX8 1).2.1 (TX8 1).2.2.1).before ([.ref (gA Λ 23 i), .ref (gA Λ 3 j)] : List Value).toArray s = true := hts (.fieldLink RX8 9 "CodeRooms$Traffic" "reached" "[I") (by decide +kernel)
  have hL9 : FL RX8 9 (TX8 1).1 (TX8 1).2.1 (TX8 1).2.2.1 ([.ref (gA Λ 23 i), .ref (gA Λ 3 j)] : List Value).toArray s := Or.inl hM9
  have hM15 : (Cond.fieldLink RX8 15 (TX8 0).1 (TX8 0).2.1 (TX8 0).2.2.1).before ([.ref (gA Λ 23 i), .ref (gA Λ 3 j)] : List Value).toArray s = true := hts (.fieldLink RX8 15 "CodeRooms$Traffic" "plan" "LCodeRooms$Plan;") (by decide +kernel)
  have hL15 : FL RX8 15 (TX8 0).1 (TX8 0).2.1 (TX8 0).2.2.1 ([.ref (gA Λ 23 i), .ref (gA Λ 3 j)] : List Value).toArray s := Or.inl hM15
  refine j_aload_n C dX8_init_0 rfl 0 rfl ?_
  refine j_oinit C (hts (.methodLink RX8 3 Lib.objectInit) (by decide +kernel)) (hts (.instanceMethod Lib.objectInit) (by decide +kernel)) (hts (.code Lib.objectInit ⟨#[0xb1]⟩ 1 none) (by decide +kernel)) dX8_init_1 (by decide) (by decide) ?_
  refine j_aload_n C dX8_init_4 rfl 0 rfl ?_
  refine j_bipush C (nI 6) dX8_init_5 (by decide) ?_
  refine j_newI (atype := .int) (ty := .int) C 24 6 (hts (.arrayClass .int) (by decide +kernel)) rfl rfl (by decide) (by decide) (by decide) rfl rfl (by decide) (by decide) (by decide) (by decide) dX8_init_7 (fun Λ_1 qΛ_1 hyΛ_1 => ?_)
  have hGΛ_1 : Gw Λ Λ_1 := by rw [hyΛ_1]; exact Gw.nY (by decide)
  have hb_2 : i < gC Λ_1 23 := Nat.lt_of_lt_of_le hi (hGΛ_1.1 23)
  have hb_3 : j < gC Λ_1 3 := Nat.lt_of_lt_of_le hj (hGΛ_1.1 3)
  have he_4 : gA Λ_1 23 i = gA Λ 23 i := (hGΛ_1.2.1 23 i (by first | assumption | omega)).1
  have he_5 : gA Λ_1 3 j = gA Λ 3 j := (hGΛ_1.2.1 3 j (by first | assumption | omega)).1
  refine j_eq (lv' := [(0, .ref (gA Λ_1 23 i)), (1, .ref (gA Λ_1 3 j))]) (st' := [.ref (gA Λ_1 24 (gC Λ 24)), .ref (gA Λ_1 23 i)]) (by simp only [he_4, he_5]) (by simp only [he_4, he_5]) ?_
  have hb_6 : gC Λ 24 < gC Λ_1 24 := by rw [hyΛ_1, gC_nL, if_pos rfl]; omega
  have hn_7 : gN Λ_1 24 (gC Λ 24) = 6 := by rw [hyΛ_1, gN_nL, if_pos ⟨rfl, rfl⟩]
  refine j_putFV C hwX8 23 i 1 hb_2 rfl rfl (by decide) rfl hb_6 tyX8 tyX8_ok nmX8 rfl hnm rfl rfl rfl hM9 dX8_init_9 ?_
  refine j_aload_n C dX8_init_12 rfl 0 rfl ?_
  refine j_aload_n C dX8_init_13 rfl 1 rfl ?_
  refine j_putFV C hwX8 23 i 0 hb_2 rfl rfl (by decide) rfl hb_3 tyX8 tyX8_ok nmX8 rfl hnm rfl rfl rfl hM15 dX8_init_14 ?_
  exact j_vretx C hr hlk (⟨_, _, hyΛ_1, rfl⟩) dX8_init_17

set_option maxHeartbeats 400000 in
set_option maxRecDepth 100000 in
theorem c_X3_init (l : Launch) (D : va_G) (cy : Nat → ClassId) (base : Nat) (Λ : LY) (σ : HS) (i : Nat) (hi : i < gC Λ 25) : Met l yX3_init wsX3_init ({ frames := 8, cells := 1, slots := 60, locals := 120 }) (va_Pc [.ref (gA Λ 25 i)] (Wd D cy base Λ σ)) (va_Qv (fun u => ∃ (qΛ_1 : Nat) (Λ_1 : LY), Λ_1 = nY Λ 26 qΛ_1 60 ∧ u = (Λ_1, sV (nS Λ σ 26) 25 i 0 (some (gC Λ 26)))) (Wx D cy base) (Ab base)) 1 60 (Ab base) := by
  refine j_start (cc := cX3_init) (nL := 1) (ret := none) (lv := [(0, .ref (gA Λ 25 i))]) (by decide) rfl (Nat.le_of_ble_eq_true rfl) rfl ?_
  intro p e s m below meth c C hr hlk hnm
  have C : Cx p s m ([.ref (gA Λ 25 i)] : List Value).toArray c cX3_init 1 RX3 wsX3_init D cy base := C
  have hts := C.2.2.2.2.1
  have hwX3 : ∀ w ∈ u_ws RX3 TX3 2, w ∈ wsX3_init := by decide +kernel
  have hM9 : (Cond.fieldLink RX3 9 (TX3 0).1 (TX3 0).2.1 (TX3 0).2.2.1).before ([.ref (gA Λ 25 i)] : List Value).toArray s = true := hts (.fieldLink RX3 9 "CodeRooms$Past" "changes" "[J") (by decide +kernel)
  have hL9 : FL RX3 9 (TX3 0).1 (TX3 0).2.1 (TX3 0).2.2.1 ([.ref (gA Λ 25 i)] : List Value).toArray s := Or.inl hM9
  refine j_aload_n C dX3_init_0 rfl 0 rfl ?_
  refine j_oinit C (hts (.methodLink RX3 3 Lib.objectInit) (by decide +kernel)) (hts (.instanceMethod Lib.objectInit) (by decide +kernel)) (hts (.code Lib.objectInit ⟨#[0xb1]⟩ 1 none) (by decide +kernel)) dX3_init_1 (by decide) (by decide) ?_
  refine j_aload_n C dX3_init_4 rfl 0 rfl ?_
  refine j_bipush C (nI 60) dX3_init_5 (by decide) ?_
  refine j_newJ (atype := .long) C 26 60 (hts (.arrayClass .long) (by decide +kernel)) rfl rfl rfl (by decide) (by decide) (by decide) (by decide) dX3_init_7 (fun Λ_1 qΛ_1 hyΛ_1 => ?_)
  have hGΛ_1 : Gw Λ Λ_1 := by rw [hyΛ_1]; exact Gw.nY (by decide)
  have hb_2 : i < gC Λ_1 25 := Nat.lt_of_lt_of_le hi (hGΛ_1.1 25)
  have he_3 : gA Λ_1 25 i = gA Λ 25 i := (hGΛ_1.2.1 25 i (by first | assumption | omega)).1
  refine j_eq (lv' := [(0, .ref (gA Λ_1 25 i))]) (st' := [.ref (gA Λ_1 26 (gC Λ 26)), .ref (gA Λ_1 25 i)]) (by simp only [he_3]) (by simp only [he_3]) ?_
  have hb_4 : gC Λ 26 < gC Λ_1 26 := by rw [hyΛ_1, gC_nL, if_pos rfl]; omega
  have hn_5 : gN Λ_1 26 (gC Λ 26) = 60 := by rw [hyΛ_1, gN_nL, if_pos ⟨rfl, rfl⟩]
  refine j_putFV C hwX3 25 i 0 hb_2 rfl rfl (by decide) rfl hb_4 tyX3 tyX3_ok nmX3 rfl hnm rfl rfl rfl hM9 dX3_init_9 ?_
  exact j_vretx C hr hlk (⟨_, _, hyΛ_1, rfl⟩) dX3_init_12

set_option maxHeartbeats 400000 in
set_option maxRecDepth 100000 in
theorem c_X1_init (l : Launch) (D : va_G) (cy : Nat → ClassId) (base : Nat) (Λ : LY) (σ : HS) (i : Nat) (hi : i < gC Λ 27) : Met l yX1_init wsX1_init ({ frames := 8, cells := 8, slots := 82, locals := 120 }) (va_Pc [.ref (gA Λ 27 i)] (Wd D cy base Λ σ)) (va_Qv (fun u => ∃ (qΛ_1 : Nat) (qΛ_6 : Nat) (rΛ_6 : Nat → Nat) (Λ_1 : LY) (Λ_6 : LY), Λ_1 = nY Λ 28 qΛ_1 40 ∧ Λ_6 = nY2 Λ_1 29 30 qΛ_6 6 6 rΛ_6 ∧ u = (Λ_6, sV (nS2 Λ_1 (sV (nS Λ σ 28) 27 i 0 (some (gC Λ 28))) 29 30 6) 27 i 1 (some (gC Λ_1 29)))) (Wx D cy base) (Ab base)) 8 82 (Ab base) := by
  refine j_start (cc := cX1_init) (nL := 1) (ret := none) (lv := [(0, .ref (gA Λ 27 i))]) (by decide) rfl (Nat.le_of_ble_eq_true rfl) rfl ?_
  intro p e s m below meth c C hr hlk hnm
  have C : Cx p s m ([.ref (gA Λ 27 i)] : List Value).toArray c cX1_init 1 RX1 wsX1_init D cy base := C
  have hts := C.2.2.2.2.1
  have hwX1 : ∀ w ∈ u_ws RX1 TX1 3, w ∈ wsX1_init := by decide +kernel
  have hM9 : (Cond.fieldLink RX1 9 (TX1 0).1 (TX1 0).2.1 (TX1 0).2.2.1).before ([.ref (gA Λ 27 i)] : List Value).toArray s = true := hts (.fieldLink RX1 9 "CodeRooms$Kept" "places" "[I") (by decide +kernel)
  have hL9 : FL RX1 9 (TX1 0).1 (TX1 0).2.1 (TX1 0).2.2.1 ([.ref (gA Λ 27 i)] : List Value).toArray s := Or.inl hM9
  have hM17 : (Cond.fieldLink RX1 17 (TX1 1).1 (TX1 1).2.1 (TX1 1).2.2.1).before ([.ref (gA Λ 27 i)] : List Value).toArray s = true := hts (.fieldLink RX1 17 "CodeRooms$Kept" "alike" "[[I") (by decide +kernel)
  have hL17 : FL RX1 17 (TX1 1).1 (TX1 1).2.1 (TX1 1).2.2.1 ([.ref (gA Λ 27 i)] : List Value).toArray s := Or.inl hM17
  refine j_aload_n C dX1_init_0 rfl 0 rfl ?_
  refine j_oinit C (hts (.methodLink RX1 3 Lib.objectInit) (by decide +kernel)) (hts (.instanceMethod Lib.objectInit) (by decide +kernel)) (hts (.code Lib.objectInit ⟨#[0xb1]⟩ 1 none) (by decide +kernel)) dX1_init_1 (by decide) (by decide) ?_
  refine j_aload_n C dX1_init_4 rfl 0 rfl ?_
  refine j_bipush C (nI 40) dX1_init_5 (by decide) ?_
  refine j_newI (atype := .int) (ty := .int) C 28 40 (hts (.arrayClass .int) (by decide +kernel)) rfl rfl (by decide) (by decide) (by decide) rfl rfl (by decide) (by decide) (by decide) (by decide) dX1_init_7 (fun Λ_1 qΛ_1 hyΛ_1 => ?_)
  have hGΛ_1 : Gw Λ Λ_1 := by rw [hyΛ_1]; exact Gw.nY (by decide)
  have hb_2 : i < gC Λ_1 27 := Nat.lt_of_lt_of_le hi (hGΛ_1.1 27)
  have he_3 : gA Λ_1 27 i = gA Λ 27 i := (hGΛ_1.2.1 27 i (by first | assumption | omega)).1
  refine j_eq (lv' := [(0, .ref (gA Λ_1 27 i))]) (st' := [.ref (gA Λ_1 28 (gC Λ 28)), .ref (gA Λ_1 27 i)]) (by simp only [he_3]) (by simp only [he_3]) ?_
  have hb_4 : gC Λ 28 < gC Λ_1 28 := by rw [hyΛ_1, gC_nL, if_pos rfl]; omega
  have hn_5 : gN Λ_1 28 (gC Λ 28) = 40 := by rw [hyΛ_1, gN_nL, if_pos ⟨rfl, rfl⟩]
  refine j_putFV C hwX1 27 i 0 hb_2 rfl rfl (by decide) rfl hb_4 tyX1 tyX1_ok nmX1 rfl hnm rfl rfl rfl hM9 dX1_init_9 ?_
  refine j_aload_n C dX1_init_12 rfl 0 rfl ?_
  refine j_bipush C (nI 6) dX1_init_13 (by decide) ?_
  refine j_bipush C (nI 6) dX1_init_15 (by decide) ?_
  refine j_mna C 29 30 6 6 (hts (.classLink RX1 15 "[[I") (by decide +kernel)) (Ex.aoa C.2.2.2.2.2.2 ao_A) (hts (.arrayClass .int) (by decide +kernel)) rfl rfl rfl rfl rfl (by decide) (by decide) (by decide) (by decide) (by decide) (by decide) dX1_init_17 (fun Λ_6 qΛ_6 rΛ_6 hyΛ_6 => ?_)
  have hGΛ_6 : Gw Λ_1 Λ_6 := by rw [hyΛ_6]; exact Gw.nY2 (by decide) (by decide)
  have hb_7 : i < gC Λ_6 27 := Nat.lt_of_lt_of_le hb_2 (hGΛ_6.1 27)
  have hb_8 : (gC Λ 28) < gC Λ_6 28 := Nat.lt_of_lt_of_le hb_4 (hGΛ_6.1 28)
  have hn_9 : gN Λ_6 28 (gC Λ 28) = 40 := (hGΛ_6.2.1 28 (gC Λ 28) hb_4).2.trans hn_5
  have he_10 : gA Λ_6 27 i = gA Λ_1 27 i := (hGΛ_6.2.1 27 i (by first | assumption | omega)).1
  refine j_eq (lv' := [(0, .ref (gA Λ_6 27 i))]) (st' := [.ref (gA Λ_6 29 (gC Λ_1 29)), .ref (gA Λ_6 27 i)]) (by simp only [he_10]) (by simp only [he_10]) ?_
  have hb_11 : gC Λ_1 29 < gC Λ_6 29 := by rw [hyΛ_6, gC_2, if_pos rfl]; omega
  refine j_putFV C hwX1 27 i 1 hb_7 rfl rfl (by decide) rfl hb_11 tyX1 tyX1_ok nmX1 rfl hnm rfl rfl rfl hM17 dX1_init_21 ?_
  exact j_vretx C hr hlk (⟨_, _, _, _, _, hyΛ_1, hyΛ_6, rfl⟩) dX1_init_24
