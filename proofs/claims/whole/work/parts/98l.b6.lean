set_option maxHeartbeats 4000000 in
set_option maxRecDepth 100000 in
theorem c_X11_init (l : Launch) (D : va_G) (cy : Nat → ClassId) (base : Nat) (Λ : LY) (σ : HS) (h1 : gC Λ 31 = 1) (hcz : ∀ t, 32 ≤ t → t ≤ 49 → gC Λ t = 0) (h31 : ∀ k, gI σ 31 0 k = 0) : Met l yX11_init wsX11_init ({ frames := 12, cells := 17, slots := 7643, locals := 180 }) (va_Pc [.ref (gA Λ 31 0)] (Wd D cy base Λ σ)) (va_Qv (fun u => MR u.1 u.2 M0 ∧ Gw Λ u.1 ∧ (∀ t, t < 31 ∨ 48 < t → gC u.1 t = gC Λ t) ∧ Same (fun t => t < 31) σ u.2) (Wx D cy base) (Ab base)) 17 7643 (Ab base) := by
  refine j_start (cc := cX11_init) (nL := 1) (ret := none) (lv := [(0, .ref (gA Λ 31 0))]) (by decide) rfl (Nat.le_of_ble_eq_true rfl) rfl ?_
  intro p e s m below meth c C hr hlk hnm
  have C : Cx p s m ([.ref (gA Λ 31 0)] : List Value).toArray c cX11_init 1 RX11 wsX11_init D cy base := C
  have hts := C.2.2.2.2.1
  have hwX11 : ∀ w ∈ u_ws RX11 TX11 26, w ∈ wsX11_init := by decide +kernel
  have hM7 : (Cond.fieldLink RX11 7 (TX11 1).1 (TX11 1).2.1 (TX11 1).2.2.1).before ([.ref (gA Λ 31 0)] : List Value).toArray s = true := hts (.fieldLink RX11 7 "CodeRoomsModel" "tape" "[B") (by decide +kernel)
  have hL7 : FL RX11 7 (TX11 1).1 (TX11 1).2.1 (TX11 1).2.2.1 ([.ref (gA Λ 31 0)] : List Value).toArray s := Or.inl hM7
  have hM13 : (Cond.fieldLink RX11 13 (TX11 3).1 (TX11 3).2.1 (TX11 3).2.2.1).before ([.ref (gA Λ 31 0)] : List Value).toArray s = true := hts (.fieldLink RX11 13 "CodeRoomsModel" "names" "[B") (by decide +kernel)
  have hL13 : FL RX11 13 (TX11 3).1 (TX11 3).2.1 (TX11 3).2.2.1 ([.ref (gA Λ 31 0)] : List Value).toArray s := Or.inl hM13
  have hM16 : (Cond.fieldLink RX11 16 (TX11 4).1 (TX11 4).2.1 (TX11 4).2.2.1).before ([.ref (gA Λ 31 0)] : List Value).toArray s = true := hts (.fieldLink RX11 16 "CodeRoomsModel" "nameLong" "[I") (by decide +kernel)
  have hL16 : FL RX11 16 (TX11 4).1 (TX11 4).2.1 (TX11 4).2.2.1 ([.ref (gA Λ 31 0)] : List Value).toArray s := Or.inl hM16
  have hM20 : (Cond.fieldLink RX11 20 (TX11 6).1 (TX11 6).2.1 (TX11 6).2.2.1).before ([.ref (gA Λ 31 0)] : List Value).toArray s = true := hts (.fieldLink RX11 20 "CodeRoomsModel" "numbers" "[I") (by decide +kernel)
  have hL20 : FL RX11 20 (TX11 6).1 (TX11 6).2.1 (TX11 6).2.2.1 ([.ref (gA Λ 31 0)] : List Value).toArray s := Or.inl hM20
  have hM23 : (Cond.fieldLink RX11 23 (TX11 7).1 (TX11 7).2.1 (TX11 7).2.2.1).before ([.ref (gA Λ 31 0)] : List Value).toArray s = true := hts (.fieldLink RX11 23 "CodeRoomsModel" "weights" "[I") (by decide +kernel)
  have hL23 : FL RX11 23 (TX11 7).1 (TX11 7).2.1 (TX11 7).2.2.1 ([.ref (gA Λ 31 0)] : List Value).toArray s := Or.inl hM23
  have hM26 : (Cond.fieldLink RX11 26 (TX11 8).1 (TX11 8).2.1 (TX11 8).2.2.1).before ([.ref (gA Λ 31 0)] : List Value).toArray s = true := hts (.fieldLink RX11 26 "CodeRoomsModel" "even" "I") (by decide +kernel)
  have hL26 : FL RX11 26 (TX11 8).1 (TX11 8).2.1 (TX11 8).2.2.1 ([.ref (gA Λ 31 0)] : List Value).toArray s := Or.inl hM26
  have hM30 : (Cond.fieldLink RX11 30 (TX11 9).1 (TX11 9).2.1 (TX11 9).2.2.1).before ([.ref (gA Λ 31 0)] : List Value).toArray s = true := hts (.fieldLink RX11 30 "CodeRoomsModel" "limit" "I") (by decide +kernel)
  have hL30 : FL RX11 30 (TX11 9).1 (TX11 9).2.1 (TX11 9).2.2.1 ([.ref (gA Λ 31 0)] : List Value).toArray s := Or.inl hM30
  have hM33 : (Cond.fieldLink RX11 33 (TX11 10).1 (TX11 10).2.1 (TX11 10).2.2.1).before ([.ref (gA Λ 31 0)] : List Value).toArray s = true := hts (.fieldLink RX11 33 "CodeRoomsModel" "rooms" "I") (by decide +kernel)
  have hL33 : FL RX11 33 (TX11 10).1 (TX11 10).2.1 (TX11 10).2.2.1 ([.ref (gA Λ 31 0)] : List Value).toArray s := Or.inl hM33
  have hM36 : (Cond.fieldLink RX11 36 (TX11 11).1 (TX11 11).2.1 (TX11 11).2.2.1).before ([.ref (gA Λ 31 0)] : List Value).toArray s = true := hts (.fieldLink RX11 36 "CodeRoomsModel" "isHub" "[Z") (by decide +kernel)
  have hL36 : FL RX11 36 (TX11 11).1 (TX11 11).2.1 (TX11 11).2.2.1 ([.ref (gA Λ 31 0)] : List Value).toArray s := Or.inl hM36
  have hM40 : (Cond.fieldLink RX11 40 (TX11 12).1 (TX11 12).2.1 (TX11 12).2.2.1).before ([.ref (gA Λ 31 0)] : List Value).toArray s = true := hts (.fieldLink RX11 40 "CodeRoomsModel" "roomOf" "[I") (by decide +kernel)
  have hL40 : FL RX11 40 (TX11 12).1 (TX11 12).2.1 (TX11 12).2.2.1 ([.ref (gA Λ 31 0)] : List Value).toArray s := Or.inl hM40
  have hM43 : (Cond.fieldLink RX11 43 (TX11 13).1 (TX11 13).2.1 (TX11 13).2.2.1).before ([.ref (gA Λ 31 0)] : List Value).toArray s = true := hts (.fieldLink RX11 43 "CodeRoomsModel" "musts" "[I") (by decide +kernel)
  have hL43 : FL RX11 43 (TX11 13).1 (TX11 13).2.1 (TX11 13).2.2.1 ([.ref (gA Λ 31 0)] : List Value).toArray s := Or.inl hM43
  have hM46 : (Cond.fieldLink RX11 46 (TX11 14).1 (TX11 14).2.1 (TX11 14).2.2.1).before ([.ref (gA Λ 31 0)] : List Value).toArray s = true := hts (.fieldLink RX11 46 "CodeRoomsModel" "fixed" "[I") (by decide +kernel)
  have hL46 : FL RX11 46 (TX11 14).1 (TX11 14).2.1 (TX11 14).2.2.1 ([.ref (gA Λ 31 0)] : List Value).toArray s := Or.inl hM46
  have hM49 : (Cond.fieldLink RX11 49 (TX11 15).1 (TX11 15).2.1 (TX11 15).2.2.1).before ([.ref (gA Λ 31 0)] : List Value).toArray s = true := hts (.fieldLink RX11 49 "CodeRoomsModel" "free" "[I") (by decide +kernel)
  have hL49 : FL RX11 49 (TX11 15).1 (TX11 15).2.1 (TX11 15).2.2.1 ([.ref (gA Λ 31 0)] : List Value).toArray s := Or.inl hM49
  have hM52 : (Cond.fieldLink RX11 52 (TX11 16).1 (TX11 16).2.1 (TX11 16).2.2.1).before ([.ref (gA Λ 31 0)] : List Value).toArray s = true := hts (.fieldLink RX11 52 "CodeRoomsModel" "bestRow" "[I") (by decide +kernel)
  have hL52 : FL RX11 52 (TX11 16).1 (TX11 16).2.1 (TX11 16).2.2.1 ([.ref (gA Λ 31 0)] : List Value).toArray s := Or.inl hM52
  have hM55 : (Cond.fieldLink RX11 55 (TX11 17).1 (TX11 17).2.1 (TX11 17).2.2.1).before ([.ref (gA Λ 31 0)] : List Value).toArray s = true := hts (.fieldLink RX11 55 "CodeRoomsModel" "page" "[B") (by decide +kernel)
  have hL55 : FL RX11 55 (TX11 17).1 (TX11 17).2.1 (TX11 17).2.2.1 ([.ref (gA Λ 31 0)] : List Value).toArray s := Or.inl hM55
  have hM58 : (Cond.fieldLink RX11 58 (TX11 19).1 (TX11 19).2.1 (TX11 19).2.2.1).before ([.ref (gA Λ 31 0)] : List Value).toArray s = true := hts (.fieldLink RX11 58 "CodeRoomsModel" "next" "[I") (by decide +kernel)
  have hL58 : FL RX11 58 (TX11 19).1 (TX11 19).2.1 (TX11 19).2.2.1 ([.ref (gA Λ 31 0)] : List Value).toArray s := Or.inl hM58
  have hM61 : (Cond.fieldLink RX11 61 (TX11 20).1 (TX11 20).2.1 (TX11 20).2.2.1).before ([.ref (gA Λ 31 0)] : List Value).toArray s = true := hts (.fieldLink RX11 61 "CodeRoomsModel" "lows" "[I") (by decide +kernel)
  have hL61 : FL RX11 61 (TX11 20).1 (TX11 20).2.1 (TX11 20).2.2.1 ([.ref (gA Λ 31 0)] : List Value).toArray s := Or.inl hM61
  have hM64 : (Cond.fieldLink RX11 64 (TX11 21).1 (TX11 21).2.1 (TX11 21).2.2.1).before ([.ref (gA Λ 31 0)] : List Value).toArray s = true := hts (.fieldLink RX11 64 "CodeRoomsModel" "highs" "[I") (by decide +kernel)
  have hL64 : FL RX11 64 (TX11 21).1 (TX11 21).2.1 (TX11 21).2.2.1 ([.ref (gA Λ 31 0)] : List Value).toArray s := Or.inl hM64
  have hM67 : (Cond.fieldLink RX11 67 (TX11 24).1 (TX11 24).2.1 (TX11 24).2.2.1).before ([.ref (gA Λ 31 0)] : List Value).toArray s = true := hts (.fieldLink RX11 67 "CodeRoomsModel" "keptRoom" "[I") (by decide +kernel)
  have hL67 : FL RX11 67 (TX11 24).1 (TX11 24).2.1 (TX11 24).2.2.1 ([.ref (gA Λ 31 0)] : List Value).toArray s := Or.inl hM67
  have hM70 : (Cond.fieldLink RX11 70 (TX11 25).1 (TX11 25).2.1 (TX11 25).2.2.1).before ([.ref (gA Λ 31 0)] : List Value).toArray s = true := hts (.fieldLink RX11 70 "CodeRoomsModel" "together" "[I") (by decide +kernel)
  have hL70 : FL RX11 70 (TX11 25).1 (TX11 25).2.1 (TX11 25).2.2.1 ([.ref (gA Λ 31 0)] : List Value).toArray s := Or.inl hM70
  have hb0 : 0 < gC Λ 31 := by omega
  have hQ0 : QM 32 (fun _ => 0) Λ σ Λ σ := ⟨fun t a b => absurd a (by omega), fun t a b => hcz t a b, h31, h1, Gw.rf, fun _ _ => rfl, Same.rf⟩
  refine j_aload_n C dX11_init_0 rfl 0 rfl ?_
  refine j_oinit C (hts (.methodLink RX11 1 Lib.objectInit) (by decide +kernel)) (hts (.instanceMethod Lib.objectInit) (by decide +kernel)) (hts (.code Lib.objectInit ⟨#[0xb1]⟩ 1 none) (by decide +kernel)) dX11_init_1 (by decide) (by decide) ?_
  refine j_aload_n C dX11_init_4 rfl 0 rfl ?_
  refine j_bipush C (nI 40) dX11_init_5 (by decide) ?_
  refine j_newI (atype := .byte) (ty := .byte) C 32 40 (hts (.arrayClass .byte) (by decide +kernel)) rfl rfl (by decide) (by decide) (by decide) rfl rfl (by decide) (by decide) (by decide) (by decide) dX11_init_7 (fun Λ_1 qΛ_1 hyΛ_1 => ?_)
  have hq_2 : gC Λ 32 = 0 := (hQ0.2.1 32 (by decide) (by decide))
  rw [hq_2]
  have hGΛ_1 : Gw Λ Λ_1 := by rw [hyΛ_1]; exact Gw.nY (by decide)
  have hb_3 : 0 < gC Λ_1 31 := Nat.lt_of_lt_of_le hb0 (hGΛ_1.1 31)
  have he_4 : gA Λ_1 31 0 = gA Λ 31 0 := (hGΛ_1.2.1 31 0 (by first | assumption | omega)).1
  refine j_eq (lv' := [(0, .ref (gA Λ_1 31 0))]) (st' := [.ref (gA Λ_1 32 0), .ref (gA Λ_1 31 0)]) (by simp only [he_4]) (by simp only [he_4]) ?_
  have hb_5 : 0 < gC Λ_1 32 := by rw [hyΛ_1, gC_nL, if_pos rfl]; omega
  have hn_6 : gN Λ_1 32 0 = 40 := by rw [hyΛ_1, gN_nL, if_pos ⟨rfl, hq_2.symm⟩]
  refine j_putFV C hwX11 31 0 1 hb_3 rfl rfl (by decide) rfl hb_5 tyX11 tyX11_ok nmX11 rfl hnm rfl rfl rfl hM7 dX11_init_9 ?_
  have hQ12 : QM 33 _ Λ σ Λ_1 (sV (nS Λ σ 32) 31 0 1 (some 0)) := QM.step (a := 32) hQ0 (by decide) (by decide) (by decide) hyΛ_1
  generalize sV (nS Λ σ 32) 31 0 1 (some 0) = σ12 at hQ12 ⊢
  refine j_aload_n C dX11_init_12 rfl 0 rfl ?_
  refine j_sipush C (nI 800) dX11_init_13 (by decide) ?_
  refine j_newI (atype := .byte) (ty := .byte) C 33 800 (hts (.arrayClass .byte) (by decide +kernel)) rfl rfl (by decide) (by decide) (by decide) rfl rfl (by decide) (by decide) (by decide) (by decide) dX11_init_16 (fun Λ_7 qΛ_7 hyΛ_7 => ?_)
  have hq_8 : gC Λ_1 33 = 0 := (hQ12.2.1 33 (by decide) (by decide))
  rw [hq_8]
  have hGΛ_7 : Gw Λ_1 Λ_7 := by rw [hyΛ_7]; exact Gw.nY (by decide)
  have hb_9 : 0 < gC Λ_7 31 := Nat.lt_of_lt_of_le hb_3 (hGΛ_7.1 31)
  have hb_10 : 0 < gC Λ_7 32 := Nat.lt_of_lt_of_le hb_5 (hGΛ_7.1 32)
  have hn_11 : gN Λ_7 32 0 = 40 := (hGΛ_7.2.1 32 0 hb_5).2.trans hn_6
  have he_12 : gA Λ_7 31 0 = gA Λ_1 31 0 := (hGΛ_7.2.1 31 0 (by first | assumption | omega)).1
  refine j_eq (lv' := [(0, .ref (gA Λ_7 31 0))]) (st' := [.ref (gA Λ_7 33 0), .ref (gA Λ_7 31 0)]) (by simp only [he_12]) (by simp only [he_12]) ?_
  have hb_13 : 0 < gC Λ_7 33 := by rw [hyΛ_7, gC_nL, if_pos rfl]; omega
  have hn_14 : gN Λ_7 33 0 = 800 := by rw [hyΛ_7, gN_nL, if_pos ⟨rfl, hq_8.symm⟩]
  refine j_putFV C hwX11 31 0 3 hb_9 rfl rfl (by decide) rfl hb_13 tyX11 tyX11_ok nmX11 rfl hnm rfl rfl rfl hM13 dX11_init_18 ?_
  have hQ21 : QM 34 _ Λ σ Λ_7 (sV (nS Λ_1 σ12 33) 31 0 3 (some 0)) := QM.step (a := 33) hQ12 (by decide) (by decide) (by decide) hyΛ_7
  generalize sV (nS Λ_1 σ12 33) 31 0 3 (some 0) = σ21 at hQ21 ⊢
  refine j_aload_n C dX11_init_21 rfl 0 rfl ?_
  refine j_bipush C (nI 40) dX11_init_22 (by decide) ?_
  refine j_newI (atype := .int) (ty := .int) C 34 40 (hts (.arrayClass .int) (by decide +kernel)) rfl rfl (by decide) (by decide) (by decide) rfl rfl (by decide) (by decide) (by decide) (by decide) dX11_init_24 (fun Λ_15 qΛ_15 hyΛ_15 => ?_)
  have hq_16 : gC Λ_7 34 = 0 := (hQ21.2.1 34 (by decide) (by decide))
  rw [hq_16]
  have hGΛ_15 : Gw Λ_7 Λ_15 := by rw [hyΛ_15]; exact Gw.nY (by decide)
  have hb_17 : 0 < gC Λ_15 31 := Nat.lt_of_lt_of_le hb_9 (hGΛ_15.1 31)
  have hb_18 : 0 < gC Λ_15 32 := Nat.lt_of_lt_of_le hb_10 (hGΛ_15.1 32)
  have hn_19 : gN Λ_15 32 0 = 40 := (hGΛ_15.2.1 32 0 hb_10).2.trans hn_11
  have hb_20 : 0 < gC Λ_15 33 := Nat.lt_of_lt_of_le hb_13 (hGΛ_15.1 33)
  have hn_21 : gN Λ_15 33 0 = 800 := (hGΛ_15.2.1 33 0 hb_13).2.trans hn_14
  have he_22 : gA Λ_15 31 0 = gA Λ_7 31 0 := (hGΛ_15.2.1 31 0 (by first | assumption | omega)).1
  refine j_eq (lv' := [(0, .ref (gA Λ_15 31 0))]) (st' := [.ref (gA Λ_15 34 0), .ref (gA Λ_15 31 0)]) (by simp only [he_22]) (by simp only [he_22]) ?_
  have hb_23 : 0 < gC Λ_15 34 := by rw [hyΛ_15, gC_nL, if_pos rfl]; omega
  have hn_24 : gN Λ_15 34 0 = 40 := by rw [hyΛ_15, gN_nL, if_pos ⟨rfl, hq_16.symm⟩]
  refine j_putFV C hwX11 31 0 4 hb_17 rfl rfl (by decide) rfl hb_23 tyX11 tyX11_ok nmX11 rfl hnm rfl rfl rfl hM16 dX11_init_26 ?_
  have hQ29 : QM 35 _ Λ σ Λ_15 (sV (nS Λ_7 σ21 34) 31 0 4 (some 0)) := QM.step (a := 34) hQ21 (by decide) (by decide) (by decide) hyΛ_15
  generalize sV (nS Λ_7 σ21 34) 31 0 4 (some 0) = σ29 at hQ29 ⊢
  refine j_aload_n C dX11_init_29 rfl 0 rfl ?_
  refine j_sipush C (nI 4800) dX11_init_30 (by decide) ?_
  refine j_newI (atype := .int) (ty := .int) C 35 4800 (hts (.arrayClass .int) (by decide +kernel)) rfl rfl (by decide) (by decide) (by decide) rfl rfl (by decide) (by decide) (by decide) (by decide) dX11_init_33 (fun Λ_25 qΛ_25 hyΛ_25 => ?_)
  have hq_26 : gC Λ_15 35 = 0 := (hQ29.2.1 35 (by decide) (by decide))
  rw [hq_26]
  have hGΛ_25 : Gw Λ_15 Λ_25 := by rw [hyΛ_25]; exact Gw.nY (by decide)
  have hb_27 : 0 < gC Λ_25 31 := Nat.lt_of_lt_of_le hb_17 (hGΛ_25.1 31)
  have hb_28 : 0 < gC Λ_25 32 := Nat.lt_of_lt_of_le hb_18 (hGΛ_25.1 32)
  have hn_29 : gN Λ_25 32 0 = 40 := (hGΛ_25.2.1 32 0 hb_18).2.trans hn_19
  have hb_30 : 0 < gC Λ_25 33 := Nat.lt_of_lt_of_le hb_20 (hGΛ_25.1 33)
  have hn_31 : gN Λ_25 33 0 = 800 := (hGΛ_25.2.1 33 0 hb_20).2.trans hn_21
  have hb_32 : 0 < gC Λ_25 34 := Nat.lt_of_lt_of_le hb_23 (hGΛ_25.1 34)
  have hn_33 : gN Λ_25 34 0 = 40 := (hGΛ_25.2.1 34 0 hb_23).2.trans hn_24
  have he_34 : gA Λ_25 31 0 = gA Λ_15 31 0 := (hGΛ_25.2.1 31 0 (by first | assumption | omega)).1
  refine j_eq (lv' := [(0, .ref (gA Λ_25 31 0))]) (st' := [.ref (gA Λ_25 35 0), .ref (gA Λ_25 31 0)]) (by simp only [he_34]) (by simp only [he_34]) ?_
  have hb_35 : 0 < gC Λ_25 35 := by rw [hyΛ_25, gC_nL, if_pos rfl]; omega
  have hn_36 : gN Λ_25 35 0 = 4800 := by rw [hyΛ_25, gN_nL, if_pos ⟨rfl, hq_26.symm⟩]
  refine j_putFV C hwX11 31 0 6 hb_27 rfl rfl (by decide) rfl hb_35 tyX11 tyX11_ok nmX11 rfl hnm rfl rfl rfl hM20 dX11_init_35 ?_
  have hQ38 : QM 36 _ Λ σ Λ_25 (sV (nS Λ_15 σ29 35) 31 0 6 (some 0)) := QM.step (a := 35) hQ29 (by decide) (by decide) (by decide) hyΛ_25
  generalize sV (nS Λ_15 σ29 35) 31 0 6 (some 0) = σ38 at hQ38 ⊢
  refine j_aload_n C dX11_init_38 rfl 0 rfl ?_
  refine j_iconst C (nI 3) dX11_init_39 (by decide) ?_
  refine j_newI (atype := .int) (ty := .int) C 36 3 (hts (.arrayClass .int) (by decide +kernel)) rfl rfl (by decide) (by decide) (by decide) rfl rfl (by decide) (by decide) (by decide) (by decide) dX11_init_40 (fun Λ_37 qΛ_37 hyΛ_37 => ?_)
  have hq_38 : gC Λ_25 36 = 0 := (hQ38.2.1 36 (by decide) (by decide))
  rw [hq_38]
  have hGΛ_37 : Gw Λ_25 Λ_37 := by rw [hyΛ_37]; exact Gw.nY (by decide)
  have hb_39 : 0 < gC Λ_37 31 := Nat.lt_of_lt_of_le hb_27 (hGΛ_37.1 31)
  have hb_40 : 0 < gC Λ_37 32 := Nat.lt_of_lt_of_le hb_28 (hGΛ_37.1 32)
  have hn_41 : gN Λ_37 32 0 = 40 := (hGΛ_37.2.1 32 0 hb_28).2.trans hn_29
  have hb_42 : 0 < gC Λ_37 33 := Nat.lt_of_lt_of_le hb_30 (hGΛ_37.1 33)
  have hn_43 : gN Λ_37 33 0 = 800 := (hGΛ_37.2.1 33 0 hb_30).2.trans hn_31
  have hb_44 : 0 < gC Λ_37 34 := Nat.lt_of_lt_of_le hb_32 (hGΛ_37.1 34)
  have hn_45 : gN Λ_37 34 0 = 40 := (hGΛ_37.2.1 34 0 hb_32).2.trans hn_33
  have hb_46 : 0 < gC Λ_37 35 := Nat.lt_of_lt_of_le hb_35 (hGΛ_37.1 35)
  have hn_47 : gN Λ_37 35 0 = 4800 := (hGΛ_37.2.1 35 0 hb_35).2.trans hn_36
  have he_48 : gA Λ_37 31 0 = gA Λ_25 31 0 := (hGΛ_37.2.1 31 0 (by first | assumption | omega)).1
  refine j_eq (lv' := [(0, .ref (gA Λ_37 31 0))]) (st' := [.ref (gA Λ_37 36 0), .ref (gA Λ_37 31 0)]) (by simp only [he_48]) (by simp only [he_48]) ?_
  have hb_49 : 0 < gC Λ_37 36 := by rw [hyΛ_37, gC_nL, if_pos rfl]; omega
  have hn_50 : gN Λ_37 36 0 = 3 := by rw [hyΛ_37, gN_nL, if_pos ⟨rfl, hq_38.symm⟩]
  refine j_dup C dX11_init_42 rfl ?_
  refine j_iconst C (nI 0) dX11_init_43 (by decide) ?_
  refine j_iconst C (nI 1) dX11_init_44 (by decide) ?_
  refine j_iast C 36 0 0 hb_49 rfl rfl 3 hn_50 (by omega) (by omega) (nI 1) rfl dX11_init_45 ?_
  refine j_dup C dX11_init_46 rfl ?_
  refine j_iconst C (nI 1) dX11_init_47 (by decide) ?_
  refine j_iconst C (nI 1) dX11_init_48 (by decide) ?_
  refine j_iast C 36 0 1 hb_49 rfl rfl 3 hn_50 (by omega) (by omega) (nI 1) rfl dX11_init_49 ?_
  refine j_dup C dX11_init_50 rfl ?_
  refine j_iconst C (nI 2) dX11_init_51 (by decide) ?_
  refine j_iconst C (nI 1) dX11_init_52 (by decide) ?_
  refine j_iast C 36 0 2 hb_49 rfl rfl 3 hn_50 (by omega) (by omega) (nI 1) rfl dX11_init_53 ?_
  refine j_putFV C hwX11 31 0 7 hb_39 rfl rfl (by decide) rfl hb_49 tyX11 tyX11_ok nmX11 rfl hnm rfl rfl rfl hM23 dX11_init_54 ?_
  have hQ57 : QM 37 _ Λ σ Λ_37 (sV (sI (sI (sI (nS Λ_25 σ38 36) 36 0 0 (nI 1)) 36 0 1 (nI 1)) 36 0 2 (nI 1)) 31 0 7 (some 0)) := QM.stepW hQ38 hyΛ_37
  generalize sV (sI (sI (sI (nS Λ_25 σ38 36) 36 0 0 (nI 1)) 36 0 1 (nI 1)) 36 0 2 (nI 1)) 31 0 7 (some 0) = σ57 at hQ57 ⊢
  refine j_aload_n C dX11_init_57 rfl 0 rfl ?_
  refine j_iconst C (nI 1) dX11_init_58 (by decide) ?_
  refine j_putI C hwX11 31 0 8 hb_39 rfl rfl (by decide) rfl tyX11 tyX11_ok nmX11 rfl rfl rfl hL26 dX11_init_59 ?_
  have hQ62 : QM 37 _ Λ σ Λ_37 (sI σ57 31 0 8 (nI 1)) := QM.set (k := 8) (x := nI 1) hQ57 (by decide)
  generalize sI σ57 31 0 8 (nI 1) = σ62 at hQ62 ⊢
  refine j_aload_n C dX11_init_62 rfl 0 rfl ?_
  refine j_bipush C (nI 40) dX11_init_63 (by decide) ?_
  refine j_putI C hwX11 31 0 9 hb_39 rfl rfl (by decide) rfl tyX11 tyX11_ok nmX11 rfl rfl rfl hL30 dX11_init_65 ?_
  have hQ68 : QM 37 _ Λ σ Λ_37 (sI σ62 31 0 9 (nI 40)) := QM.set (k := 9) (x := nI 40) hQ62 (by decide)
  generalize sI σ62 31 0 9 (nI 40) = σ68 at hQ68 ⊢
  refine j_aload_n C dX11_init_68 rfl 0 rfl ?_
  refine j_iconst C (nI 2) dX11_init_69 (by decide) ?_
  refine j_putI C hwX11 31 0 10 hb_39 rfl rfl (by decide) rfl tyX11 tyX11_ok nmX11 rfl rfl rfl hL33 dX11_init_70 ?_
  have hQ73 : QM 37 _ Λ σ Λ_37 (sI σ68 31 0 10 (nI 2)) := QM.set (k := 10) (x := nI 2) hQ68 (by decide)
  generalize sI σ68 31 0 10 (nI 2) = σ73 at hQ73 ⊢
  refine j_aload_n C dX11_init_73 rfl 0 rfl ?_
  refine j_bipush C (nI 40) dX11_init_74 (by decide) ?_
  refine j_newI (atype := .boolean) (ty := .boolean) C 37 40 (hts (.arrayClass .boolean) (by decide +kernel)) rfl rfl (by decide) (by decide) (by decide) rfl rfl (by decide) (by decide) (by decide) (by decide) dX11_init_76 (fun Λ_51 qΛ_51 hyΛ_51 => ?_)
  have hq_52 : gC Λ_37 37 = 0 := (hQ73.2.1 37 (by decide) (by decide))
  rw [hq_52]
  have hGΛ_51 : Gw Λ_37 Λ_51 := by rw [hyΛ_51]; exact Gw.nY (by decide)
  have hb_53 : 0 < gC Λ_51 31 := Nat.lt_of_lt_of_le hb_39 (hGΛ_51.1 31)
  have hb_54 : 0 < gC Λ_51 32 := Nat.lt_of_lt_of_le hb_40 (hGΛ_51.1 32)
  have hn_55 : gN Λ_51 32 0 = 40 := (hGΛ_51.2.1 32 0 hb_40).2.trans hn_41
  have hb_56 : 0 < gC Λ_51 33 := Nat.lt_of_lt_of_le hb_42 (hGΛ_51.1 33)
  have hn_57 : gN Λ_51 33 0 = 800 := (hGΛ_51.2.1 33 0 hb_42).2.trans hn_43
  have hb_58 : 0 < gC Λ_51 34 := Nat.lt_of_lt_of_le hb_44 (hGΛ_51.1 34)
  have hn_59 : gN Λ_51 34 0 = 40 := (hGΛ_51.2.1 34 0 hb_44).2.trans hn_45
  have hb_60 : 0 < gC Λ_51 35 := Nat.lt_of_lt_of_le hb_46 (hGΛ_51.1 35)
  have hn_61 : gN Λ_51 35 0 = 4800 := (hGΛ_51.2.1 35 0 hb_46).2.trans hn_47
  have hb_62 : 0 < gC Λ_51 36 := Nat.lt_of_lt_of_le hb_49 (hGΛ_51.1 36)
  have hn_63 : gN Λ_51 36 0 = 3 := (hGΛ_51.2.1 36 0 hb_49).2.trans hn_50
  have he_64 : gA Λ_51 31 0 = gA Λ_37 31 0 := (hGΛ_51.2.1 31 0 (by first | assumption | omega)).1
  refine j_eq (lv' := [(0, .ref (gA Λ_51 31 0))]) (st' := [.ref (gA Λ_51 37 0), .ref (gA Λ_51 31 0)]) (by simp only [he_64]) (by simp only [he_64]) ?_
  have hb_65 : 0 < gC Λ_51 37 := by rw [hyΛ_51, gC_nL, if_pos rfl]; omega
  have hn_66 : gN Λ_51 37 0 = 40 := by rw [hyΛ_51, gN_nL, if_pos ⟨rfl, hq_52.symm⟩]
  refine j_putFV C hwX11 31 0 11 hb_53 rfl rfl (by decide) rfl hb_65 tyX11 tyX11_ok nmX11 rfl hnm rfl rfl rfl hM36 dX11_init_78 ?_
  have hQ81 : QM 38 _ Λ σ Λ_51 (sV (nS Λ_37 σ73 37) 31 0 11 (some 0)) := QM.step (a := 37) hQ73 (by decide) (by decide) (by decide) hyΛ_51
  generalize sV (nS Λ_37 σ73 37) 31 0 11 (some 0) = σ81 at hQ81 ⊢
  refine j_aload_n C dX11_init_81 rfl 0 rfl ?_
  refine j_bipush C (nI 40) dX11_init_82 (by decide) ?_
  refine j_newI (atype := .int) (ty := .int) C 38 40 (hts (.arrayClass .int) (by decide +kernel)) rfl rfl (by decide) (by decide) (by decide) rfl rfl (by decide) (by decide) (by decide) (by decide) dX11_init_84 (fun Λ_67 qΛ_67 hyΛ_67 => ?_)
  have hq_68 : gC Λ_51 38 = 0 := (hQ81.2.1 38 (by decide) (by decide))
  rw [hq_68]
  have hGΛ_67 : Gw Λ_51 Λ_67 := by rw [hyΛ_67]; exact Gw.nY (by decide)
  have hb_69 : 0 < gC Λ_67 31 := Nat.lt_of_lt_of_le hb_53 (hGΛ_67.1 31)
  have hb_70 : 0 < gC Λ_67 32 := Nat.lt_of_lt_of_le hb_54 (hGΛ_67.1 32)
  have hn_71 : gN Λ_67 32 0 = 40 := (hGΛ_67.2.1 32 0 hb_54).2.trans hn_55
  have hb_72 : 0 < gC Λ_67 33 := Nat.lt_of_lt_of_le hb_56 (hGΛ_67.1 33)
  have hn_73 : gN Λ_67 33 0 = 800 := (hGΛ_67.2.1 33 0 hb_56).2.trans hn_57
  have hb_74 : 0 < gC Λ_67 34 := Nat.lt_of_lt_of_le hb_58 (hGΛ_67.1 34)
  have hn_75 : gN Λ_67 34 0 = 40 := (hGΛ_67.2.1 34 0 hb_58).2.trans hn_59
  have hb_76 : 0 < gC Λ_67 35 := Nat.lt_of_lt_of_le hb_60 (hGΛ_67.1 35)
  have hn_77 : gN Λ_67 35 0 = 4800 := (hGΛ_67.2.1 35 0 hb_60).2.trans hn_61
  have hb_78 : 0 < gC Λ_67 36 := Nat.lt_of_lt_of_le hb_62 (hGΛ_67.1 36)
  have hn_79 : gN Λ_67 36 0 = 3 := (hGΛ_67.2.1 36 0 hb_62).2.trans hn_63
  have hb_80 : 0 < gC Λ_67 37 := Nat.lt_of_lt_of_le hb_65 (hGΛ_67.1 37)
  have hn_81 : gN Λ_67 37 0 = 40 := (hGΛ_67.2.1 37 0 hb_65).2.trans hn_66
  have he_82 : gA Λ_67 31 0 = gA Λ_51 31 0 := (hGΛ_67.2.1 31 0 (by first | assumption | omega)).1
  refine j_eq (lv' := [(0, .ref (gA Λ_67 31 0))]) (st' := [.ref (gA Λ_67 38 0), .ref (gA Λ_67 31 0)]) (by simp only [he_82]) (by simp only [he_82]) ?_
  have hb_83 : 0 < gC Λ_67 38 := by rw [hyΛ_67, gC_nL, if_pos rfl]; omega
  have hn_84 : gN Λ_67 38 0 = 40 := by rw [hyΛ_67, gN_nL, if_pos ⟨rfl, hq_68.symm⟩]
  refine j_putFV C hwX11 31 0 12 hb_69 rfl rfl (by decide) rfl hb_83 tyX11 tyX11_ok nmX11 rfl hnm rfl rfl rfl hM40 dX11_init_86 ?_
  have hQ89 : QM 39 _ Λ σ Λ_67 (sV (nS Λ_51 σ81 38) 31 0 12 (some 0)) := QM.step (a := 38) hQ81 (by decide) (by decide) (by decide) hyΛ_67
  generalize sV (nS Λ_51 σ81 38) 31 0 12 (some 0) = σ89 at hQ89 ⊢
  refine j_aload_n C dX11_init_89 rfl 0 rfl ?_
  refine j_sipush C (nI 1600) dX11_init_90 (by decide) ?_
  refine j_newI (atype := .int) (ty := .int) C 39 1600 (hts (.arrayClass .int) (by decide +kernel)) rfl rfl (by decide) (by decide) (by decide) rfl rfl (by decide) (by decide) (by decide) (by decide) dX11_init_93 (fun Λ_85 qΛ_85 hyΛ_85 => ?_)
  have hq_86 : gC Λ_67 39 = 0 := (hQ89.2.1 39 (by decide) (by decide))
  rw [hq_86]
  have hGΛ_85 : Gw Λ_67 Λ_85 := by rw [hyΛ_85]; exact Gw.nY (by decide)
  have hb_87 : 0 < gC Λ_85 31 := Nat.lt_of_lt_of_le hb_69 (hGΛ_85.1 31)
  have hb_88 : 0 < gC Λ_85 32 := Nat.lt_of_lt_of_le hb_70 (hGΛ_85.1 32)
  have hn_89 : gN Λ_85 32 0 = 40 := (hGΛ_85.2.1 32 0 hb_70).2.trans hn_71
  have hb_90 : 0 < gC Λ_85 33 := Nat.lt_of_lt_of_le hb_72 (hGΛ_85.1 33)
  have hn_91 : gN Λ_85 33 0 = 800 := (hGΛ_85.2.1 33 0 hb_72).2.trans hn_73
  have hb_92 : 0 < gC Λ_85 34 := Nat.lt_of_lt_of_le hb_74 (hGΛ_85.1 34)
  have hn_93 : gN Λ_85 34 0 = 40 := (hGΛ_85.2.1 34 0 hb_74).2.trans hn_75
  have hb_94 : 0 < gC Λ_85 35 := Nat.lt_of_lt_of_le hb_76 (hGΛ_85.1 35)
  have hn_95 : gN Λ_85 35 0 = 4800 := (hGΛ_85.2.1 35 0 hb_76).2.trans hn_77
  have hb_96 : 0 < gC Λ_85 36 := Nat.lt_of_lt_of_le hb_78 (hGΛ_85.1 36)
  have hn_97 : gN Λ_85 36 0 = 3 := (hGΛ_85.2.1 36 0 hb_78).2.trans hn_79
  have hb_98 : 0 < gC Λ_85 37 := Nat.lt_of_lt_of_le hb_80 (hGΛ_85.1 37)
  have hn_99 : gN Λ_85 37 0 = 40 := (hGΛ_85.2.1 37 0 hb_80).2.trans hn_81
  have hb_100 : 0 < gC Λ_85 38 := Nat.lt_of_lt_of_le hb_83 (hGΛ_85.1 38)
  have hn_101 : gN Λ_85 38 0 = 40 := (hGΛ_85.2.1 38 0 hb_83).2.trans hn_84
  have he_102 : gA Λ_85 31 0 = gA Λ_67 31 0 := (hGΛ_85.2.1 31 0 (by first | assumption | omega)).1
  refine j_eq (lv' := [(0, .ref (gA Λ_85 31 0))]) (st' := [.ref (gA Λ_85 39 0), .ref (gA Λ_85 31 0)]) (by simp only [he_102]) (by simp only [he_102]) ?_
  have hb_103 : 0 < gC Λ_85 39 := by rw [hyΛ_85, gC_nL, if_pos rfl]; omega
  have hn_104 : gN Λ_85 39 0 = 1600 := by rw [hyΛ_85, gN_nL, if_pos ⟨rfl, hq_86.symm⟩]
  refine j_putFV C hwX11 31 0 13 hb_87 rfl rfl (by decide) rfl hb_103 tyX11 tyX11_ok nmX11 rfl hnm rfl rfl rfl hM43 dX11_init_95 ?_
  have hQ98 : QM 40 _ Λ σ Λ_85 (sV (nS Λ_67 σ89 39) 31 0 13 (some 0)) := QM.step (a := 39) hQ89 (by decide) (by decide) (by decide) hyΛ_85
  generalize sV (nS Λ_67 σ89 39) 31 0 13 (some 0) = σ98 at hQ98 ⊢
  refine j_aload_n C dX11_init_98 rfl 0 rfl ?_
  refine j_bipush C (nI 40) dX11_init_99 (by decide) ?_
  refine j_newI (atype := .int) (ty := .int) C 40 40 (hts (.arrayClass .int) (by decide +kernel)) rfl rfl (by decide) (by decide) (by decide) rfl rfl (by decide) (by decide) (by decide) (by decide) dX11_init_101 (fun Λ_105 qΛ_105 hyΛ_105 => ?_)
  have hq_106 : gC Λ_85 40 = 0 := (hQ98.2.1 40 (by decide) (by decide))
  rw [hq_106]
  have hGΛ_105 : Gw Λ_85 Λ_105 := by rw [hyΛ_105]; exact Gw.nY (by decide)
  have hb_107 : 0 < gC Λ_105 31 := Nat.lt_of_lt_of_le hb_87 (hGΛ_105.1 31)
  have hb_108 : 0 < gC Λ_105 32 := Nat.lt_of_lt_of_le hb_88 (hGΛ_105.1 32)
  have hn_109 : gN Λ_105 32 0 = 40 := (hGΛ_105.2.1 32 0 hb_88).2.trans hn_89
  have hb_110 : 0 < gC Λ_105 33 := Nat.lt_of_lt_of_le hb_90 (hGΛ_105.1 33)
  have hn_111 : gN Λ_105 33 0 = 800 := (hGΛ_105.2.1 33 0 hb_90).2.trans hn_91
  have hb_112 : 0 < gC Λ_105 34 := Nat.lt_of_lt_of_le hb_92 (hGΛ_105.1 34)
  have hn_113 : gN Λ_105 34 0 = 40 := (hGΛ_105.2.1 34 0 hb_92).2.trans hn_93
  have hb_114 : 0 < gC Λ_105 35 := Nat.lt_of_lt_of_le hb_94 (hGΛ_105.1 35)
  have hn_115 : gN Λ_105 35 0 = 4800 := (hGΛ_105.2.1 35 0 hb_94).2.trans hn_95
  have hb_116 : 0 < gC Λ_105 36 := Nat.lt_of_lt_of_le hb_96 (hGΛ_105.1 36)
  have hn_117 : gN Λ_105 36 0 = 3 := (hGΛ_105.2.1 36 0 hb_96).2.trans hn_97
  have hb_118 : 0 < gC Λ_105 37 := Nat.lt_of_lt_of_le hb_98 (hGΛ_105.1 37)
  have hn_119 : gN Λ_105 37 0 = 40 := (hGΛ_105.2.1 37 0 hb_98).2.trans hn_99
  have hb_120 : 0 < gC Λ_105 38 := Nat.lt_of_lt_of_le hb_100 (hGΛ_105.1 38)
  have hn_121 : gN Λ_105 38 0 = 40 := (hGΛ_105.2.1 38 0 hb_100).2.trans hn_101
  have hb_122 : 0 < gC Λ_105 39 := Nat.lt_of_lt_of_le hb_103 (hGΛ_105.1 39)
  have hn_123 : gN Λ_105 39 0 = 1600 := (hGΛ_105.2.1 39 0 hb_103).2.trans hn_104
  have he_124 : gA Λ_105 31 0 = gA Λ_85 31 0 := (hGΛ_105.2.1 31 0 (by first | assumption | omega)).1
  refine j_eq (lv' := [(0, .ref (gA Λ_105 31 0))]) (st' := [.ref (gA Λ_105 40 0), .ref (gA Λ_105 31 0)]) (by simp only [he_124]) (by simp only [he_124]) ?_
  have hb_125 : 0 < gC Λ_105 40 := by rw [hyΛ_105, gC_nL, if_pos rfl]; omega
  have hn_126 : gN Λ_105 40 0 = 40 := by rw [hyΛ_105, gN_nL, if_pos ⟨rfl, hq_106.symm⟩]
  refine j_putFV C hwX11 31 0 14 hb_107 rfl rfl (by decide) rfl hb_125 tyX11 tyX11_ok nmX11 rfl hnm rfl rfl rfl hM46 dX11_init_103 ?_
  have hQ106 : QM 41 _ Λ σ Λ_105 (sV (nS Λ_85 σ98 40) 31 0 14 (some 0)) := QM.step (a := 40) hQ98 (by decide) (by decide) (by decide) hyΛ_105
  generalize sV (nS Λ_85 σ98 40) 31 0 14 (some 0) = σ106 at hQ106 ⊢
  refine j_aload_n C dX11_init_106 rfl 0 rfl ?_
  refine j_bipush C (nI 9) dX11_init_107 (by decide) ?_
  refine j_newI (atype := .int) (ty := .int) C 41 9 (hts (.arrayClass .int) (by decide +kernel)) rfl rfl (by decide) (by decide) (by decide) rfl rfl (by decide) (by decide) (by decide) (by decide) dX11_init_109 (fun Λ_127 qΛ_127 hyΛ_127 => ?_)
  have hq_128 : gC Λ_105 41 = 0 := (hQ106.2.1 41 (by decide) (by decide))
  rw [hq_128]
  have hGΛ_127 : Gw Λ_105 Λ_127 := by rw [hyΛ_127]; exact Gw.nY (by decide)
  have hb_129 : 0 < gC Λ_127 31 := Nat.lt_of_lt_of_le hb_107 (hGΛ_127.1 31)
  have hb_130 : 0 < gC Λ_127 32 := Nat.lt_of_lt_of_le hb_108 (hGΛ_127.1 32)
  have hn_131 : gN Λ_127 32 0 = 40 := (hGΛ_127.2.1 32 0 hb_108).2.trans hn_109
  have hb_132 : 0 < gC Λ_127 33 := Nat.lt_of_lt_of_le hb_110 (hGΛ_127.1 33)
  have hn_133 : gN Λ_127 33 0 = 800 := (hGΛ_127.2.1 33 0 hb_110).2.trans hn_111
  have hb_134 : 0 < gC Λ_127 34 := Nat.lt_of_lt_of_le hb_112 (hGΛ_127.1 34)
  have hn_135 : gN Λ_127 34 0 = 40 := (hGΛ_127.2.1 34 0 hb_112).2.trans hn_113
  have hb_136 : 0 < gC Λ_127 35 := Nat.lt_of_lt_of_le hb_114 (hGΛ_127.1 35)
  have hn_137 : gN Λ_127 35 0 = 4800 := (hGΛ_127.2.1 35 0 hb_114).2.trans hn_115
  have hb_138 : 0 < gC Λ_127 36 := Nat.lt_of_lt_of_le hb_116 (hGΛ_127.1 36)
  have hn_139 : gN Λ_127 36 0 = 3 := (hGΛ_127.2.1 36 0 hb_116).2.trans hn_117
  have hb_140 : 0 < gC Λ_127 37 := Nat.lt_of_lt_of_le hb_118 (hGΛ_127.1 37)
  have hn_141 : gN Λ_127 37 0 = 40 := (hGΛ_127.2.1 37 0 hb_118).2.trans hn_119
  have hb_142 : 0 < gC Λ_127 38 := Nat.lt_of_lt_of_le hb_120 (hGΛ_127.1 38)
  have hn_143 : gN Λ_127 38 0 = 40 := (hGΛ_127.2.1 38 0 hb_120).2.trans hn_121
  have hb_144 : 0 < gC Λ_127 39 := Nat.lt_of_lt_of_le hb_122 (hGΛ_127.1 39)
  have hn_145 : gN Λ_127 39 0 = 1600 := (hGΛ_127.2.1 39 0 hb_122).2.trans hn_123
  have hb_146 : 0 < gC Λ_127 40 := Nat.lt_of_lt_of_le hb_125 (hGΛ_127.1 40)
  have hn_147 : gN Λ_127 40 0 = 40 := (hGΛ_127.2.1 40 0 hb_125).2.trans hn_126
  have he_148 : gA Λ_127 31 0 = gA Λ_105 31 0 := (hGΛ_127.2.1 31 0 (by first | assumption | omega)).1
  refine j_eq (lv' := [(0, .ref (gA Λ_127 31 0))]) (st' := [.ref (gA Λ_127 41 0), .ref (gA Λ_127 31 0)]) (by simp only [he_148]) (by simp only [he_148]) ?_
  have hb_149 : 0 < gC Λ_127 41 := by rw [hyΛ_127, gC_nL, if_pos rfl]; omega
  have hn_150 : gN Λ_127 41 0 = 9 := by rw [hyΛ_127, gN_nL, if_pos ⟨rfl, hq_128.symm⟩]
  refine j_putFV C hwX11 31 0 15 hb_129 rfl rfl (by decide) rfl hb_149 tyX11 tyX11_ok nmX11 rfl hnm rfl rfl rfl hM49 dX11_init_111 ?_
  have hQ114 : QM 42 _ Λ σ Λ_127 (sV (nS Λ_105 σ106 41) 31 0 15 (some 0)) := QM.step (a := 41) hQ106 (by decide) (by decide) (by decide) hyΛ_127
  generalize sV (nS Λ_105 σ106 41) 31 0 15 (some 0) = σ114 at hQ114 ⊢
  refine j_aload_n C dX11_init_114 rfl 0 rfl ?_
  refine j_bipush C (nI 9) dX11_init_115 (by decide) ?_
  refine j_newI (atype := .int) (ty := .int) C 42 9 (hts (.arrayClass .int) (by decide +kernel)) rfl rfl (by decide) (by decide) (by decide) rfl rfl (by decide) (by decide) (by decide) (by decide) dX11_init_117 (fun Λ_151 qΛ_151 hyΛ_151 => ?_)
  have hq_152 : gC Λ_127 42 = 0 := (hQ114.2.1 42 (by decide) (by decide))
  rw [hq_152]
  have hGΛ_151 : Gw Λ_127 Λ_151 := by rw [hyΛ_151]; exact Gw.nY (by decide)
  have hb_153 : 0 < gC Λ_151 31 := Nat.lt_of_lt_of_le hb_129 (hGΛ_151.1 31)
  have hb_154 : 0 < gC Λ_151 32 := Nat.lt_of_lt_of_le hb_130 (hGΛ_151.1 32)
  have hn_155 : gN Λ_151 32 0 = 40 := (hGΛ_151.2.1 32 0 hb_130).2.trans hn_131
  have hb_156 : 0 < gC Λ_151 33 := Nat.lt_of_lt_of_le hb_132 (hGΛ_151.1 33)
  have hn_157 : gN Λ_151 33 0 = 800 := (hGΛ_151.2.1 33 0 hb_132).2.trans hn_133
  have hb_158 : 0 < gC Λ_151 34 := Nat.lt_of_lt_of_le hb_134 (hGΛ_151.1 34)
  have hn_159 : gN Λ_151 34 0 = 40 := (hGΛ_151.2.1 34 0 hb_134).2.trans hn_135
  have hb_160 : 0 < gC Λ_151 35 := Nat.lt_of_lt_of_le hb_136 (hGΛ_151.1 35)
  have hn_161 : gN Λ_151 35 0 = 4800 := (hGΛ_151.2.1 35 0 hb_136).2.trans hn_137
  have hb_162 : 0 < gC Λ_151 36 := Nat.lt_of_lt_of_le hb_138 (hGΛ_151.1 36)
  have hn_163 : gN Λ_151 36 0 = 3 := (hGΛ_151.2.1 36 0 hb_138).2.trans hn_139
  have hb_164 : 0 < gC Λ_151 37 := Nat.lt_of_lt_of_le hb_140 (hGΛ_151.1 37)
  have hn_165 : gN Λ_151 37 0 = 40 := (hGΛ_151.2.1 37 0 hb_140).2.trans hn_141
  have hb_166 : 0 < gC Λ_151 38 := Nat.lt_of_lt_of_le hb_142 (hGΛ_151.1 38)
  have hn_167 : gN Λ_151 38 0 = 40 := (hGΛ_151.2.1 38 0 hb_142).2.trans hn_143
  have hb_168 : 0 < gC Λ_151 39 := Nat.lt_of_lt_of_le hb_144 (hGΛ_151.1 39)
  have hn_169 : gN Λ_151 39 0 = 1600 := (hGΛ_151.2.1 39 0 hb_144).2.trans hn_145
  have hb_170 : 0 < gC Λ_151 40 := Nat.lt_of_lt_of_le hb_146 (hGΛ_151.1 40)
  have hn_171 : gN Λ_151 40 0 = 40 := (hGΛ_151.2.1 40 0 hb_146).2.trans hn_147
  have hb_172 : 0 < gC Λ_151 41 := Nat.lt_of_lt_of_le hb_149 (hGΛ_151.1 41)
  have hn_173 : gN Λ_151 41 0 = 9 := (hGΛ_151.2.1 41 0 hb_149).2.trans hn_150
  have he_174 : gA Λ_151 31 0 = gA Λ_127 31 0 := (hGΛ_151.2.1 31 0 (by first | assumption | omega)).1
  refine j_eq (lv' := [(0, .ref (gA Λ_151 31 0))]) (st' := [.ref (gA Λ_151 42 0), .ref (gA Λ_151 31 0)]) (by simp only [he_174]) (by simp only [he_174]) ?_
  have hb_175 : 0 < gC Λ_151 42 := by rw [hyΛ_151, gC_nL, if_pos rfl]; omega
  have hn_176 : gN Λ_151 42 0 = 9 := by rw [hyΛ_151, gN_nL, if_pos ⟨rfl, hq_152.symm⟩]
  refine j_putFV C hwX11 31 0 16 hb_153 rfl rfl (by decide) rfl hb_175 tyX11 tyX11_ok nmX11 rfl hnm rfl rfl rfl hM52 dX11_init_119 ?_
  have hQ122 : QM 43 _ Λ σ Λ_151 (sV (nS Λ_127 σ114 42) 31 0 16 (some 0)) := QM.step (a := 42) hQ114 (by decide) (by decide) (by decide) hyΛ_151
  generalize sV (nS Λ_127 σ114 42) 31 0 16 (some 0) = σ122 at hQ122 ⊢
  refine j_aload_n C dX11_init_122 rfl 0 rfl ?_
  refine j_bipush C (nI 20) dX11_init_123 (by decide) ?_
  refine j_newI (atype := .byte) (ty := .byte) C 43 20 (hts (.arrayClass .byte) (by decide +kernel)) rfl rfl (by decide) (by decide) (by decide) rfl rfl (by decide) (by decide) (by decide) (by decide) dX11_init_125 (fun Λ_177 qΛ_177 hyΛ_177 => ?_)
  have hq_178 : gC Λ_151 43 = 0 := (hQ122.2.1 43 (by decide) (by decide))
  rw [hq_178]
  have hGΛ_177 : Gw Λ_151 Λ_177 := by rw [hyΛ_177]; exact Gw.nY (by decide)
  have hb_179 : 0 < gC Λ_177 31 := Nat.lt_of_lt_of_le hb_153 (hGΛ_177.1 31)
  have hb_180 : 0 < gC Λ_177 32 := Nat.lt_of_lt_of_le hb_154 (hGΛ_177.1 32)
  have hn_181 : gN Λ_177 32 0 = 40 := (hGΛ_177.2.1 32 0 hb_154).2.trans hn_155
  have hb_182 : 0 < gC Λ_177 33 := Nat.lt_of_lt_of_le hb_156 (hGΛ_177.1 33)
  have hn_183 : gN Λ_177 33 0 = 800 := (hGΛ_177.2.1 33 0 hb_156).2.trans hn_157
  have hb_184 : 0 < gC Λ_177 34 := Nat.lt_of_lt_of_le hb_158 (hGΛ_177.1 34)
  have hn_185 : gN Λ_177 34 0 = 40 := (hGΛ_177.2.1 34 0 hb_158).2.trans hn_159
  have hb_186 : 0 < gC Λ_177 35 := Nat.lt_of_lt_of_le hb_160 (hGΛ_177.1 35)
  have hn_187 : gN Λ_177 35 0 = 4800 := (hGΛ_177.2.1 35 0 hb_160).2.trans hn_161
  have hb_188 : 0 < gC Λ_177 36 := Nat.lt_of_lt_of_le hb_162 (hGΛ_177.1 36)
  have hn_189 : gN Λ_177 36 0 = 3 := (hGΛ_177.2.1 36 0 hb_162).2.trans hn_163
  have hb_190 : 0 < gC Λ_177 37 := Nat.lt_of_lt_of_le hb_164 (hGΛ_177.1 37)
  have hn_191 : gN Λ_177 37 0 = 40 := (hGΛ_177.2.1 37 0 hb_164).2.trans hn_165
  have hb_192 : 0 < gC Λ_177 38 := Nat.lt_of_lt_of_le hb_166 (hGΛ_177.1 38)
  have hn_193 : gN Λ_177 38 0 = 40 := (hGΛ_177.2.1 38 0 hb_166).2.trans hn_167
  have hb_194 : 0 < gC Λ_177 39 := Nat.lt_of_lt_of_le hb_168 (hGΛ_177.1 39)
  have hn_195 : gN Λ_177 39 0 = 1600 := (hGΛ_177.2.1 39 0 hb_168).2.trans hn_169
  have hb_196 : 0 < gC Λ_177 40 := Nat.lt_of_lt_of_le hb_170 (hGΛ_177.1 40)
  have hn_197 : gN Λ_177 40 0 = 40 := (hGΛ_177.2.1 40 0 hb_170).2.trans hn_171
  have hb_198 : 0 < gC Λ_177 41 := Nat.lt_of_lt_of_le hb_172 (hGΛ_177.1 41)
  have hn_199 : gN Λ_177 41 0 = 9 := (hGΛ_177.2.1 41 0 hb_172).2.trans hn_173
  have hb_200 : 0 < gC Λ_177 42 := Nat.lt_of_lt_of_le hb_175 (hGΛ_177.1 42)
  have hn_201 : gN Λ_177 42 0 = 9 := (hGΛ_177.2.1 42 0 hb_175).2.trans hn_176
  have he_202 : gA Λ_177 31 0 = gA Λ_151 31 0 := (hGΛ_177.2.1 31 0 (by first | assumption | omega)).1
  refine j_eq (lv' := [(0, .ref (gA Λ_177 31 0))]) (st' := [.ref (gA Λ_177 43 0), .ref (gA Λ_177 31 0)]) (by simp only [he_202]) (by simp only [he_202]) ?_
  have hb_203 : 0 < gC Λ_177 43 := by rw [hyΛ_177, gC_nL, if_pos rfl]; omega
  have hn_204 : gN Λ_177 43 0 = 20 := by rw [hyΛ_177, gN_nL, if_pos ⟨rfl, hq_178.symm⟩]
  refine j_putFV C hwX11 31 0 17 hb_179 rfl rfl (by decide) rfl hb_203 tyX11 tyX11_ok nmX11 rfl hnm rfl rfl rfl hM55 dX11_init_127 ?_
  have hQ130 : QM 44 _ Λ σ Λ_177 (sV (nS Λ_151 σ122 43) 31 0 17 (some 0)) := QM.step (a := 43) hQ122 (by decide) (by decide) (by decide) hyΛ_177
  generalize sV (nS Λ_151 σ122 43) 31 0 17 (some 0) = σ130 at hQ130 ⊢
  refine j_aload_n C dX11_init_130 rfl 0 rfl ?_
  refine j_bipush C (nI 6) dX11_init_131 (by decide) ?_
  refine j_newI (atype := .int) (ty := .int) C 44 6 (hts (.arrayClass .int) (by decide +kernel)) rfl rfl (by decide) (by decide) (by decide) rfl rfl (by decide) (by decide) (by decide) (by decide) dX11_init_133 (fun Λ_205 qΛ_205 hyΛ_205 => ?_)
  have hq_206 : gC Λ_177 44 = 0 := (hQ130.2.1 44 (by decide) (by decide))
  rw [hq_206]
  have hGΛ_205 : Gw Λ_177 Λ_205 := by rw [hyΛ_205]; exact Gw.nY (by decide)
  have hb_207 : 0 < gC Λ_205 31 := Nat.lt_of_lt_of_le hb_179 (hGΛ_205.1 31)
  have hb_208 : 0 < gC Λ_205 32 := Nat.lt_of_lt_of_le hb_180 (hGΛ_205.1 32)
  have hn_209 : gN Λ_205 32 0 = 40 := (hGΛ_205.2.1 32 0 hb_180).2.trans hn_181
  have hb_210 : 0 < gC Λ_205 33 := Nat.lt_of_lt_of_le hb_182 (hGΛ_205.1 33)
  have hn_211 : gN Λ_205 33 0 = 800 := (hGΛ_205.2.1 33 0 hb_182).2.trans hn_183
  have hb_212 : 0 < gC Λ_205 34 := Nat.lt_of_lt_of_le hb_184 (hGΛ_205.1 34)
  have hn_213 : gN Λ_205 34 0 = 40 := (hGΛ_205.2.1 34 0 hb_184).2.trans hn_185
  have hb_214 : 0 < gC Λ_205 35 := Nat.lt_of_lt_of_le hb_186 (hGΛ_205.1 35)
  have hn_215 : gN Λ_205 35 0 = 4800 := (hGΛ_205.2.1 35 0 hb_186).2.trans hn_187
  have hb_216 : 0 < gC Λ_205 36 := Nat.lt_of_lt_of_le hb_188 (hGΛ_205.1 36)
  have hn_217 : gN Λ_205 36 0 = 3 := (hGΛ_205.2.1 36 0 hb_188).2.trans hn_189
  have hb_218 : 0 < gC Λ_205 37 := Nat.lt_of_lt_of_le hb_190 (hGΛ_205.1 37)
  have hn_219 : gN Λ_205 37 0 = 40 := (hGΛ_205.2.1 37 0 hb_190).2.trans hn_191
  have hb_220 : 0 < gC Λ_205 38 := Nat.lt_of_lt_of_le hb_192 (hGΛ_205.1 38)
  have hn_221 : gN Λ_205 38 0 = 40 := (hGΛ_205.2.1 38 0 hb_192).2.trans hn_193
  have hb_222 : 0 < gC Λ_205 39 := Nat.lt_of_lt_of_le hb_194 (hGΛ_205.1 39)
  have hn_223 : gN Λ_205 39 0 = 1600 := (hGΛ_205.2.1 39 0 hb_194).2.trans hn_195
  have hb_224 : 0 < gC Λ_205 40 := Nat.lt_of_lt_of_le hb_196 (hGΛ_205.1 40)
  have hn_225 : gN Λ_205 40 0 = 40 := (hGΛ_205.2.1 40 0 hb_196).2.trans hn_197
  have hb_226 : 0 < gC Λ_205 41 := Nat.lt_of_lt_of_le hb_198 (hGΛ_205.1 41)
  have hn_227 : gN Λ_205 41 0 = 9 := (hGΛ_205.2.1 41 0 hb_198).2.trans hn_199
  have hb_228 : 0 < gC Λ_205 42 := Nat.lt_of_lt_of_le hb_200 (hGΛ_205.1 42)
  have hn_229 : gN Λ_205 42 0 = 9 := (hGΛ_205.2.1 42 0 hb_200).2.trans hn_201
  have hb_230 : 0 < gC Λ_205 43 := Nat.lt_of_lt_of_le hb_203 (hGΛ_205.1 43)
  have hn_231 : gN Λ_205 43 0 = 20 := (hGΛ_205.2.1 43 0 hb_203).2.trans hn_204
  have he_232 : gA Λ_205 31 0 = gA Λ_177 31 0 := (hGΛ_205.2.1 31 0 (by first | assumption | omega)).1
  refine j_eq (lv' := [(0, .ref (gA Λ_205 31 0))]) (st' := [.ref (gA Λ_205 44 0), .ref (gA Λ_205 31 0)]) (by simp only [he_232]) (by simp only [he_232]) ?_
  have hb_233 : 0 < gC Λ_205 44 := by rw [hyΛ_205, gC_nL, if_pos rfl]; omega
  have hn_234 : gN Λ_205 44 0 = 6 := by rw [hyΛ_205, gN_nL, if_pos ⟨rfl, hq_206.symm⟩]
  refine j_putFV C hwX11 31 0 19 hb_207 rfl rfl (by decide) rfl hb_233 tyX11 tyX11_ok nmX11 rfl hnm rfl rfl rfl hM58 dX11_init_135 ?_
  have hQ138 : QM 45 _ Λ σ Λ_205 (sV (nS Λ_177 σ130 44) 31 0 19 (some 0)) := QM.step (a := 44) hQ130 (by decide) (by decide) (by decide) hyΛ_205
  generalize sV (nS Λ_177 σ130 44) 31 0 19 (some 0) = σ138 at hQ138 ⊢
  refine j_aload_n C dX11_init_138 rfl 0 rfl ?_
  refine j_bipush C (nI 60) dX11_init_139 (by decide) ?_
  refine j_newI (atype := .int) (ty := .int) C 45 60 (hts (.arrayClass .int) (by decide +kernel)) rfl rfl (by decide) (by decide) (by decide) rfl rfl (by decide) (by decide) (by decide) (by decide) dX11_init_141 (fun Λ_235 qΛ_235 hyΛ_235 => ?_)
  have hq_236 : gC Λ_205 45 = 0 := (hQ138.2.1 45 (by decide) (by decide))
  rw [hq_236]
  have hGΛ_235 : Gw Λ_205 Λ_235 := by rw [hyΛ_235]; exact Gw.nY (by decide)
  have hb_237 : 0 < gC Λ_235 31 := Nat.lt_of_lt_of_le hb_207 (hGΛ_235.1 31)
  have hb_238 : 0 < gC Λ_235 32 := Nat.lt_of_lt_of_le hb_208 (hGΛ_235.1 32)
  have hn_239 : gN Λ_235 32 0 = 40 := (hGΛ_235.2.1 32 0 hb_208).2.trans hn_209
  have hb_240 : 0 < gC Λ_235 33 := Nat.lt_of_lt_of_le hb_210 (hGΛ_235.1 33)
  have hn_241 : gN Λ_235 33 0 = 800 := (hGΛ_235.2.1 33 0 hb_210).2.trans hn_211
  have hb_242 : 0 < gC Λ_235 34 := Nat.lt_of_lt_of_le hb_212 (hGΛ_235.1 34)
  have hn_243 : gN Λ_235 34 0 = 40 := (hGΛ_235.2.1 34 0 hb_212).2.trans hn_213
  have hb_244 : 0 < gC Λ_235 35 := Nat.lt_of_lt_of_le hb_214 (hGΛ_235.1 35)
  have hn_245 : gN Λ_235 35 0 = 4800 := (hGΛ_235.2.1 35 0 hb_214).2.trans hn_215
  have hb_246 : 0 < gC Λ_235 36 := Nat.lt_of_lt_of_le hb_216 (hGΛ_235.1 36)
  have hn_247 : gN Λ_235 36 0 = 3 := (hGΛ_235.2.1 36 0 hb_216).2.trans hn_217
  have hb_248 : 0 < gC Λ_235 37 := Nat.lt_of_lt_of_le hb_218 (hGΛ_235.1 37)
  have hn_249 : gN Λ_235 37 0 = 40 := (hGΛ_235.2.1 37 0 hb_218).2.trans hn_219
  have hb_250 : 0 < gC Λ_235 38 := Nat.lt_of_lt_of_le hb_220 (hGΛ_235.1 38)
  have hn_251 : gN Λ_235 38 0 = 40 := (hGΛ_235.2.1 38 0 hb_220).2.trans hn_221
  have hb_252 : 0 < gC Λ_235 39 := Nat.lt_of_lt_of_le hb_222 (hGΛ_235.1 39)
  have hn_253 : gN Λ_235 39 0 = 1600 := (hGΛ_235.2.1 39 0 hb_222).2.trans hn_223
  have hb_254 : 0 < gC Λ_235 40 := Nat.lt_of_lt_of_le hb_224 (hGΛ_235.1 40)
  have hn_255 : gN Λ_235 40 0 = 40 := (hGΛ_235.2.1 40 0 hb_224).2.trans hn_225
  have hb_256 : 0 < gC Λ_235 41 := Nat.lt_of_lt_of_le hb_226 (hGΛ_235.1 41)
  have hn_257 : gN Λ_235 41 0 = 9 := (hGΛ_235.2.1 41 0 hb_226).2.trans hn_227
  have hb_258 : 0 < gC Λ_235 42 := Nat.lt_of_lt_of_le hb_228 (hGΛ_235.1 42)
  have hn_259 : gN Λ_235 42 0 = 9 := (hGΛ_235.2.1 42 0 hb_228).2.trans hn_229
  have hb_260 : 0 < gC Λ_235 43 := Nat.lt_of_lt_of_le hb_230 (hGΛ_235.1 43)
  have hn_261 : gN Λ_235 43 0 = 20 := (hGΛ_235.2.1 43 0 hb_230).2.trans hn_231
  have hb_262 : 0 < gC Λ_235 44 := Nat.lt_of_lt_of_le hb_233 (hGΛ_235.1 44)
  have hn_263 : gN Λ_235 44 0 = 6 := (hGΛ_235.2.1 44 0 hb_233).2.trans hn_234
  have he_264 : gA Λ_235 31 0 = gA Λ_205 31 0 := (hGΛ_235.2.1 31 0 (by first | assumption | omega)).1
  refine j_eq (lv' := [(0, .ref (gA Λ_235 31 0))]) (st' := [.ref (gA Λ_235 45 0), .ref (gA Λ_235 31 0)]) (by simp only [he_264]) (by simp only [he_264]) ?_
  have hb_265 : 0 < gC Λ_235 45 := by rw [hyΛ_235, gC_nL, if_pos rfl]; omega
  have hn_266 : gN Λ_235 45 0 = 60 := by rw [hyΛ_235, gN_nL, if_pos ⟨rfl, hq_236.symm⟩]
  refine j_putFV C hwX11 31 0 20 hb_237 rfl rfl (by decide) rfl hb_265 tyX11 tyX11_ok nmX11 rfl hnm rfl rfl rfl hM61 dX11_init_143 ?_
  have hQ146 : QM 46 _ Λ σ Λ_235 (sV (nS Λ_205 σ138 45) 31 0 20 (some 0)) := QM.step (a := 45) hQ138 (by decide) (by decide) (by decide) hyΛ_235
  generalize sV (nS Λ_205 σ138 45) 31 0 20 (some 0) = σ146 at hQ146 ⊢
  refine j_aload_n C dX11_init_146 rfl 0 rfl ?_
  refine j_bipush C (nI 60) dX11_init_147 (by decide) ?_
  refine j_newI (atype := .int) (ty := .int) C 46 60 (hts (.arrayClass .int) (by decide +kernel)) rfl rfl (by decide) (by decide) (by decide) rfl rfl (by decide) (by decide) (by decide) (by decide) dX11_init_149 (fun Λ_267 qΛ_267 hyΛ_267 => ?_)
  have hq_268 : gC Λ_235 46 = 0 := (hQ146.2.1 46 (by decide) (by decide))
  rw [hq_268]
  have hGΛ_267 : Gw Λ_235 Λ_267 := by rw [hyΛ_267]; exact Gw.nY (by decide)
  have hb_269 : 0 < gC Λ_267 31 := Nat.lt_of_lt_of_le hb_237 (hGΛ_267.1 31)
  have hb_270 : 0 < gC Λ_267 32 := Nat.lt_of_lt_of_le hb_238 (hGΛ_267.1 32)
  have hn_271 : gN Λ_267 32 0 = 40 := (hGΛ_267.2.1 32 0 hb_238).2.trans hn_239
  have hb_272 : 0 < gC Λ_267 33 := Nat.lt_of_lt_of_le hb_240 (hGΛ_267.1 33)
  have hn_273 : gN Λ_267 33 0 = 800 := (hGΛ_267.2.1 33 0 hb_240).2.trans hn_241
  have hb_274 : 0 < gC Λ_267 34 := Nat.lt_of_lt_of_le hb_242 (hGΛ_267.1 34)
  have hn_275 : gN Λ_267 34 0 = 40 := (hGΛ_267.2.1 34 0 hb_242).2.trans hn_243
  have hb_276 : 0 < gC Λ_267 35 := Nat.lt_of_lt_of_le hb_244 (hGΛ_267.1 35)
  have hn_277 : gN Λ_267 35 0 = 4800 := (hGΛ_267.2.1 35 0 hb_244).2.trans hn_245
  have hb_278 : 0 < gC Λ_267 36 := Nat.lt_of_lt_of_le hb_246 (hGΛ_267.1 36)
  have hn_279 : gN Λ_267 36 0 = 3 := (hGΛ_267.2.1 36 0 hb_246).2.trans hn_247
  have hb_280 : 0 < gC Λ_267 37 := Nat.lt_of_lt_of_le hb_248 (hGΛ_267.1 37)
  have hn_281 : gN Λ_267 37 0 = 40 := (hGΛ_267.2.1 37 0 hb_248).2.trans hn_249
  have hb_282 : 0 < gC Λ_267 38 := Nat.lt_of_lt_of_le hb_250 (hGΛ_267.1 38)
  have hn_283 : gN Λ_267 38 0 = 40 := (hGΛ_267.2.1 38 0 hb_250).2.trans hn_251
  have hb_284 : 0 < gC Λ_267 39 := Nat.lt_of_lt_of_le hb_252 (hGΛ_267.1 39)
  have hn_285 : gN Λ_267 39 0 = 1600 := (hGΛ_267.2.1 39 0 hb_252).2.trans hn_253
  have hb_286 : 0 < gC Λ_267 40 := Nat.lt_of_lt_of_le hb_254 (hGΛ_267.1 40)
  have hn_287 : gN Λ_267 40 0 = 40 := (hGΛ_267.2.1 40 0 hb_254).2.trans hn_255
  have hb_288 : 0 < gC Λ_267 41 := Nat.lt_of_lt_of_le hb_256 (hGΛ_267.1 41)
  have hn_289 : gN Λ_267 41 0 = 9 := (hGΛ_267.2.1 41 0 hb_256).2.trans hn_257
  have hb_290 : 0 < gC Λ_267 42 := Nat.lt_of_lt_of_le hb_258 (hGΛ_267.1 42)
  have hn_291 : gN Λ_267 42 0 = 9 := (hGΛ_267.2.1 42 0 hb_258).2.trans hn_259
  have hb_292 : 0 < gC Λ_267 43 := Nat.lt_of_lt_of_le hb_260 (hGΛ_267.1 43)
  have hn_293 : gN Λ_267 43 0 = 20 := (hGΛ_267.2.1 43 0 hb_260).2.trans hn_261
  have hb_294 : 0 < gC Λ_267 44 := Nat.lt_of_lt_of_le hb_262 (hGΛ_267.1 44)
  have hn_295 : gN Λ_267 44 0 = 6 := (hGΛ_267.2.1 44 0 hb_262).2.trans hn_263
  have hb_296 : 0 < gC Λ_267 45 := Nat.lt_of_lt_of_le hb_265 (hGΛ_267.1 45)
  have hn_297 : gN Λ_267 45 0 = 60 := (hGΛ_267.2.1 45 0 hb_265).2.trans hn_266
  have he_298 : gA Λ_267 31 0 = gA Λ_235 31 0 := (hGΛ_267.2.1 31 0 (by first | assumption | omega)).1
  refine j_eq (lv' := [(0, .ref (gA Λ_267 31 0))]) (st' := [.ref (gA Λ_267 46 0), .ref (gA Λ_267 31 0)]) (by simp only [he_298]) (by simp only [he_298]) ?_
  have hb_299 : 0 < gC Λ_267 46 := by rw [hyΛ_267, gC_nL, if_pos rfl]; omega
  have hn_300 : gN Λ_267 46 0 = 60 := by rw [hyΛ_267, gN_nL, if_pos ⟨rfl, hq_268.symm⟩]
  refine j_putFV C hwX11 31 0 21 hb_269 rfl rfl (by decide) rfl hb_299 tyX11 tyX11_ok nmX11 rfl hnm rfl rfl rfl hM64 dX11_init_151 ?_
  have hQ154 : QM 47 _ Λ σ Λ_267 (sV (nS Λ_235 σ146 46) 31 0 21 (some 0)) := QM.step (a := 46) hQ146 (by decide) (by decide) (by decide) hyΛ_267
  generalize sV (nS Λ_235 σ146 46) 31 0 21 (some 0) = σ154 at hQ154 ⊢
  refine j_aload_n C dX11_init_154 rfl 0 rfl ?_
  refine j_bipush C (nI 40) dX11_init_155 (by decide) ?_
  refine j_newI (atype := .int) (ty := .int) C 47 40 (hts (.arrayClass .int) (by decide +kernel)) rfl rfl (by decide) (by decide) (by decide) rfl rfl (by decide) (by decide) (by decide) (by decide) dX11_init_157 (fun Λ_301 qΛ_301 hyΛ_301 => ?_)
  have hq_302 : gC Λ_267 47 = 0 := (hQ154.2.1 47 (by decide) (by decide))
  rw [hq_302]
  have hGΛ_301 : Gw Λ_267 Λ_301 := by rw [hyΛ_301]; exact Gw.nY (by decide)
  have hb_303 : 0 < gC Λ_301 31 := Nat.lt_of_lt_of_le hb_269 (hGΛ_301.1 31)
  have hb_304 : 0 < gC Λ_301 32 := Nat.lt_of_lt_of_le hb_270 (hGΛ_301.1 32)
  have hn_305 : gN Λ_301 32 0 = 40 := (hGΛ_301.2.1 32 0 hb_270).2.trans hn_271
  have hb_306 : 0 < gC Λ_301 33 := Nat.lt_of_lt_of_le hb_272 (hGΛ_301.1 33)
  have hn_307 : gN Λ_301 33 0 = 800 := (hGΛ_301.2.1 33 0 hb_272).2.trans hn_273
  have hb_308 : 0 < gC Λ_301 34 := Nat.lt_of_lt_of_le hb_274 (hGΛ_301.1 34)
  have hn_309 : gN Λ_301 34 0 = 40 := (hGΛ_301.2.1 34 0 hb_274).2.trans hn_275
  have hb_310 : 0 < gC Λ_301 35 := Nat.lt_of_lt_of_le hb_276 (hGΛ_301.1 35)
  have hn_311 : gN Λ_301 35 0 = 4800 := (hGΛ_301.2.1 35 0 hb_276).2.trans hn_277
  have hb_312 : 0 < gC Λ_301 36 := Nat.lt_of_lt_of_le hb_278 (hGΛ_301.1 36)
  have hn_313 : gN Λ_301 36 0 = 3 := (hGΛ_301.2.1 36 0 hb_278).2.trans hn_279
  have hb_314 : 0 < gC Λ_301 37 := Nat.lt_of_lt_of_le hb_280 (hGΛ_301.1 37)
  have hn_315 : gN Λ_301 37 0 = 40 := (hGΛ_301.2.1 37 0 hb_280).2.trans hn_281
  have hb_316 : 0 < gC Λ_301 38 := Nat.lt_of_lt_of_le hb_282 (hGΛ_301.1 38)
  have hn_317 : gN Λ_301 38 0 = 40 := (hGΛ_301.2.1 38 0 hb_282).2.trans hn_283
  have hb_318 : 0 < gC Λ_301 39 := Nat.lt_of_lt_of_le hb_284 (hGΛ_301.1 39)
  have hn_319 : gN Λ_301 39 0 = 1600 := (hGΛ_301.2.1 39 0 hb_284).2.trans hn_285
  have hb_320 : 0 < gC Λ_301 40 := Nat.lt_of_lt_of_le hb_286 (hGΛ_301.1 40)
  have hn_321 : gN Λ_301 40 0 = 40 := (hGΛ_301.2.1 40 0 hb_286).2.trans hn_287
  have hb_322 : 0 < gC Λ_301 41 := Nat.lt_of_lt_of_le hb_288 (hGΛ_301.1 41)
  have hn_323 : gN Λ_301 41 0 = 9 := (hGΛ_301.2.1 41 0 hb_288).2.trans hn_289
  have hb_324 : 0 < gC Λ_301 42 := Nat.lt_of_lt_of_le hb_290 (hGΛ_301.1 42)
  have hn_325 : gN Λ_301 42 0 = 9 := (hGΛ_301.2.1 42 0 hb_290).2.trans hn_291
  have hb_326 : 0 < gC Λ_301 43 := Nat.lt_of_lt_of_le hb_292 (hGΛ_301.1 43)
  have hn_327 : gN Λ_301 43 0 = 20 := (hGΛ_301.2.1 43 0 hb_292).2.trans hn_293
  have hb_328 : 0 < gC Λ_301 44 := Nat.lt_of_lt_of_le hb_294 (hGΛ_301.1 44)
  have hn_329 : gN Λ_301 44 0 = 6 := (hGΛ_301.2.1 44 0 hb_294).2.trans hn_295
  have hb_330 : 0 < gC Λ_301 45 := Nat.lt_of_lt_of_le hb_296 (hGΛ_301.1 45)
  have hn_331 : gN Λ_301 45 0 = 60 := (hGΛ_301.2.1 45 0 hb_296).2.trans hn_297
  have hb_332 : 0 < gC Λ_301 46 := Nat.lt_of_lt_of_le hb_299 (hGΛ_301.1 46)
  have hn_333 : gN Λ_301 46 0 = 60 := (hGΛ_301.2.1 46 0 hb_299).2.trans hn_300
  have he_334 : gA Λ_301 31 0 = gA Λ_267 31 0 := (hGΛ_301.2.1 31 0 (by first | assumption | omega)).1
  refine j_eq (lv' := [(0, .ref (gA Λ_301 31 0))]) (st' := [.ref (gA Λ_301 47 0), .ref (gA Λ_301 31 0)]) (by simp only [he_334]) (by simp only [he_334]) ?_
  have hb_335 : 0 < gC Λ_301 47 := by rw [hyΛ_301, gC_nL, if_pos rfl]; omega
  have hn_336 : gN Λ_301 47 0 = 40 := by rw [hyΛ_301, gN_nL, if_pos ⟨rfl, hq_302.symm⟩]
  refine j_putFV C hwX11 31 0 24 hb_303 rfl rfl (by decide) rfl hb_335 tyX11 tyX11_ok nmX11 rfl hnm rfl rfl rfl hM67 dX11_init_159 ?_
  have hQ162 : QM 48 _ Λ σ Λ_301 (sV (nS Λ_267 σ154 47) 31 0 24 (some 0)) := QM.step (a := 47) hQ154 (by decide) (by decide) (by decide) hyΛ_301
  generalize sV (nS Λ_267 σ154 47) 31 0 24 (some 0) = σ162 at hQ162 ⊢
  refine j_aload_n C dX11_init_162 rfl 0 rfl ?_
  refine j_bipush C (nI 36) dX11_init_163 (by decide) ?_
  refine j_newI (atype := .int) (ty := .int) C 48 36 (hts (.arrayClass .int) (by decide +kernel)) rfl rfl (by decide) (by decide) (by decide) rfl rfl (by decide) (by decide) (by decide) (by decide) dX11_init_165 (fun Λ_337 qΛ_337 hyΛ_337 => ?_)
  have hq_338 : gC Λ_301 48 = 0 := (hQ162.2.1 48 (by decide) (by decide))
  rw [hq_338]
  have hGΛ_337 : Gw Λ_301 Λ_337 := by rw [hyΛ_337]; exact Gw.nY (by decide)
  have hb_339 : 0 < gC Λ_337 31 := Nat.lt_of_lt_of_le hb_303 (hGΛ_337.1 31)
  have hb_340 : 0 < gC Λ_337 32 := Nat.lt_of_lt_of_le hb_304 (hGΛ_337.1 32)
  have hn_341 : gN Λ_337 32 0 = 40 := (hGΛ_337.2.1 32 0 hb_304).2.trans hn_305
  have hb_342 : 0 < gC Λ_337 33 := Nat.lt_of_lt_of_le hb_306 (hGΛ_337.1 33)
  have hn_343 : gN Λ_337 33 0 = 800 := (hGΛ_337.2.1 33 0 hb_306).2.trans hn_307
  have hb_344 : 0 < gC Λ_337 34 := Nat.lt_of_lt_of_le hb_308 (hGΛ_337.1 34)
  have hn_345 : gN Λ_337 34 0 = 40 := (hGΛ_337.2.1 34 0 hb_308).2.trans hn_309
  have hb_346 : 0 < gC Λ_337 35 := Nat.lt_of_lt_of_le hb_310 (hGΛ_337.1 35)
  have hn_347 : gN Λ_337 35 0 = 4800 := (hGΛ_337.2.1 35 0 hb_310).2.trans hn_311
  have hb_348 : 0 < gC Λ_337 36 := Nat.lt_of_lt_of_le hb_312 (hGΛ_337.1 36)
  have hn_349 : gN Λ_337 36 0 = 3 := (hGΛ_337.2.1 36 0 hb_312).2.trans hn_313
  have hb_350 : 0 < gC Λ_337 37 := Nat.lt_of_lt_of_le hb_314 (hGΛ_337.1 37)
  have hn_351 : gN Λ_337 37 0 = 40 := (hGΛ_337.2.1 37 0 hb_314).2.trans hn_315
  have hb_352 : 0 < gC Λ_337 38 := Nat.lt_of_lt_of_le hb_316 (hGΛ_337.1 38)
  have hn_353 : gN Λ_337 38 0 = 40 := (hGΛ_337.2.1 38 0 hb_316).2.trans hn_317
  have hb_354 : 0 < gC Λ_337 39 := Nat.lt_of_lt_of_le hb_318 (hGΛ_337.1 39)
  have hn_355 : gN Λ_337 39 0 = 1600 := (hGΛ_337.2.1 39 0 hb_318).2.trans hn_319
  have hb_356 : 0 < gC Λ_337 40 := Nat.lt_of_lt_of_le hb_320 (hGΛ_337.1 40)
  have hn_357 : gN Λ_337 40 0 = 40 := (hGΛ_337.2.1 40 0 hb_320).2.trans hn_321
  have hb_358 : 0 < gC Λ_337 41 := Nat.lt_of_lt_of_le hb_322 (hGΛ_337.1 41)
  have hn_359 : gN Λ_337 41 0 = 9 := (hGΛ_337.2.1 41 0 hb_322).2.trans hn_323
  have hb_360 : 0 < gC Λ_337 42 := Nat.lt_of_lt_of_le hb_324 (hGΛ_337.1 42)
  have hn_361 : gN Λ_337 42 0 = 9 := (hGΛ_337.2.1 42 0 hb_324).2.trans hn_325
  have hb_362 : 0 < gC Λ_337 43 := Nat.lt_of_lt_of_le hb_326 (hGΛ_337.1 43)
  have hn_363 : gN Λ_337 43 0 = 20 := (hGΛ_337.2.1 43 0 hb_326).2.trans hn_327
  have hb_364 : 0 < gC Λ_337 44 := Nat.lt_of_lt_of_le hb_328 (hGΛ_337.1 44)
  have hn_365 : gN Λ_337 44 0 = 6 := (hGΛ_337.2.1 44 0 hb_328).2.trans hn_329
  have hb_366 : 0 < gC Λ_337 45 := Nat.lt_of_lt_of_le hb_330 (hGΛ_337.1 45)
  have hn_367 : gN Λ_337 45 0 = 60 := (hGΛ_337.2.1 45 0 hb_330).2.trans hn_331
  have hb_368 : 0 < gC Λ_337 46 := Nat.lt_of_lt_of_le hb_332 (hGΛ_337.1 46)
  have hn_369 : gN Λ_337 46 0 = 60 := (hGΛ_337.2.1 46 0 hb_332).2.trans hn_333
  have hb_370 : 0 < gC Λ_337 47 := Nat.lt_of_lt_of_le hb_335 (hGΛ_337.1 47)
  have hn_371 : gN Λ_337 47 0 = 40 := (hGΛ_337.2.1 47 0 hb_335).2.trans hn_336
  have he_372 : gA Λ_337 31 0 = gA Λ_301 31 0 := (hGΛ_337.2.1 31 0 (by first | assumption | omega)).1
  refine j_eq (lv' := [(0, .ref (gA Λ_337 31 0))]) (st' := [.ref (gA Λ_337 48 0), .ref (gA Λ_337 31 0)]) (by simp only [he_372]) (by simp only [he_372]) ?_
  have hb_373 : 0 < gC Λ_337 48 := by rw [hyΛ_337, gC_nL, if_pos rfl]; omega
  have hn_374 : gN Λ_337 48 0 = 36 := by rw [hyΛ_337, gN_nL, if_pos ⟨rfl, hq_338.symm⟩]
  refine j_putFV C hwX11 31 0 25 hb_339 rfl rfl (by decide) rfl hb_373 tyX11 tyX11_ok nmX11 rfl hnm rfl rfl rfl hM70 dX11_init_167 ?_
  have hQ170 : QM 49 _ Λ σ Λ_337 (sV (nS Λ_301 σ162 48) 31 0 25 (some 0)) := QM.step (a := 48) hQ162 (by decide) (by decide) (by decide) hyΛ_337
  generalize sV (nS Λ_301 σ162 48) 31 0 25 (some 0) = σ170 at hQ170 ⊢
  exact j_vretx C hr hlk (⟨QM.mr hQ170 ⟨rfl, rfl, rfl, rfl, rfl, rfl, rfl, rfl, rfl⟩, hQ170.2.2.2.2.1, hQ170.2.2.2.2.2.1, hQ170.2.2.2.2.2.2⟩) dX11_init_170
