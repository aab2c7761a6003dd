set_option maxHeartbeats 4000000 in
set_option maxRecDepth 100000 in
theorem c_mface_e1 (l : Launch) (D : va_G) (cy : Nat → ClassId) (base : Nat) (Λ : LY) (σ : HS) (M : MM) (hM0 : MR0 Λ σ M) (h00 : M 31 0 = 0) (hB : MBd M) (rm k : Int32) (hA : inRm M rm = false) : Met l yX11_face wsX11_face ({ frames := 24, cells := 0, slots := 0, locals := 360 }) (va_Pc [.ref (gA Λ 31 0), .int (rm), .int (k)] (Wd D cy base Λ σ)) (va_Qi (fun v u => MR Λ u (mS M 31 0 1) ∧ Same nMo σ u) (Wd D cy base Λ) (Ab base)) 0 0 (Ab base) := by
  refine j_start (cc := cX11_face) (nL := 7) (ret := (some .int)) (lv := [(0, .ref (gA Λ 31 0)), (1, .int (rm)), (2, .int (k))]) (by decide) rfl (Nat.le_of_ble_eq_true rfl) rfl ?_
  intro p e s m below meth c C hr hlk hnm
  have C : Cx p s m ([.ref (gA Λ 31 0), .int (rm), .int (k)] : List Value).toArray c cX11_face 7 RX11 wsX11_face D cy base := C
  have hts := C.2.2.2.2.1
  have hwX11 : ∀ w ∈ u_ws RX11 TX11 26, w ∈ wsX11_face := by decide +kernel
  have hM73 : (Cond.fieldLink RX11 73 (TX11 0).1 (TX11 0).2.1 (TX11 0).2.2.1).before ([.ref (gA Λ 31 0), .int (rm), .int (k)] : List Value).toArray s = true := hts (.fieldLink RX11 73 "CodeRoomsModel" "thrown" "I") (by decide +kernel)
  have hL73 : FL RX11 73 (TX11 0).1 (TX11 0).2.1 (TX11 0).2.2.1 ([.ref (gA Λ 31 0), .int (rm), .int (k)] : List Value).toArray s := Or.inl hM73
  have hn : M 31 5 ≤ 40 := hB 31 5 rfl
  refine j_aload_n C dX11_face_0 rfl 0 rfl ?_
  refine j_iconst C (nI 0) dX11_face_1 (by decide) ?_
  refine j_putI C hwX11 31 0 0 (MR0.in0 hM0) rfl rfl (by decide) rfl tyX11 tyX11_ok nmX11 rfl rfl rfl hL73 dX11_face_2 ?_
  have hM := MR0.start hM0 h00
  have hs0 : Same nMo σ (sI σ 31 0 0 (nI 0)) := Same.sI Same.rf (by decide)
  generalize sI σ 31 0 0 (nI 0) = σ0 at hM hs0 ⊢
  refine j_aload_n C dX11_face_5 rfl 0 rfl ?_
  refine j_aload_n C dX11_face_6 rfl 0 rfl ?_
  refine j_iload_n C dX11_face_7 rfl 1 rfl ?_
  refine c_i0 C (r_V C 31 0 [.int (rm)] (c_X11_isRoom l D cy base Λ σ0 M hM hB (rm)) (cwV 1 hts gX11_face_X11_isRoom rfl rfl rfl (by decide +kernel) ⟨by decide, by decide⟩) (MR.in0 hM (by decide) (by decide)) rfl rfl rfl rfl (Nat.le_of_ble_eq_true rfl) dX11_face_8 ⟨by decide, by decide⟩) (fun rv uu hp => ?_)
  rw [hp.1, hp.2]
  refine j_ifne_b (tgt := 18) C dX11_face_11 (by decide) (fun h11 => ?_) (fun h11 => ?_)
  · exact absurd (h11.symm.trans hA) (by decide)
  · refine j_iconst C (nI 1) dX11_face_14 (by decide) ?_
    refine j_goto (tgt := 19) C dX11_face_15 (by decide) ?_
    refine j_iconst C (nI 1) dX11_face_19 (by decide) ?_
    refine c_i0 C (r_V C 31 0 [.int (nI 1), .int (nI 1)] (c_X11_bad1 l D cy base Λ σ0 M hM 1) (cwV 2 hts gX11_face_X11_bad rfl rfl rfl (by decide +kernel) ⟨by decide, by decide⟩) (MR.in0 hM (by decide) (by decide)) rfl rfl rfl rfl (Nat.le_of_ble_eq_true rfl) dX11_face_20 ⟨by decide, by decide⟩) (fun rv ub_2 hp => ?_)
    obtain ⟨hp1, hMb_2, hp3⟩ := hp
    have hsb_2 := Same.tr hs0 hp3
    rw [hp1]
    refine j_if_eq (tgt := 28) C (P := False) dX11_face_23 (by decide) (by decide) (fun z => ?_) (fun z => ?_)
    · exact z.elim
    · refine j_iconst C (nI 0) dX11_face_26 (by decide) ?_
      exact j_iret C hr hlk (⟨hMb_2, hsb_2⟩) dX11_face_27

set_option maxHeartbeats 4000000 in
set_option maxRecDepth 100000 in
theorem c_mface_neg (l : Launch) (D : va_G) (cy : Nat → ClassId) (base : Nat) (Λ : LY) (σ : HS) (M : MM) (hM0 : MR0 Λ σ M) (h00 : M 31 0 = 0) (hB : MBd M) (room : Nat) (k : Int32) (hroom : room < M 31 10) (hk : k.toInt < 0) : Met l yX11_face wsX11_face ({ frames := 24, cells := 0, slots := 0, locals := 360 }) (va_Pc [.ref (gA Λ 31 0), .int (nI room), .int (k)] (Wd D cy base Λ σ)) (va_Qi (fun v u => MR Λ u M ∧ Same nMo σ u ∧ v = -1) (Wd D cy base Λ) (Ab base)) 0 0 (Ab base) := by
  refine j_start (cc := cX11_face) (nL := 7) (ret := (some .int)) (lv := [(0, .ref (gA Λ 31 0)), (1, .int (nI room)), (2, .int (k))]) (by decide) rfl (Nat.le_of_ble_eq_true rfl) rfl ?_
  intro p e s m below meth c C hr hlk hnm
  have C : Cx p s m ([.ref (gA Λ 31 0), .int (nI room), .int (k)] : List Value).toArray c cX11_face 7 RX11 wsX11_face D cy base := C
  have hts := C.2.2.2.2.1
  have hwX11 : ∀ w ∈ u_ws RX11 TX11 26, w ∈ wsX11_face := by decide +kernel
  have hM73 : (Cond.fieldLink RX11 73 (TX11 0).1 (TX11 0).2.1 (TX11 0).2.2.1).before ([.ref (gA Λ 31 0), .int (nI room), .int (k)] : List Value).toArray s = true := hts (.fieldLink RX11 73 "CodeRoomsModel" "thrown" "I") (by decide +kernel)
  have hL73 : FL RX11 73 (TX11 0).1 (TX11 0).2.1 (TX11 0).2.2.1 ([.ref (gA Λ 31 0), .int (nI room), .int (k)] : List Value).toArray s := Or.inl hM73
  have hM83 : (Cond.fieldLink RX11 83 (TX11 5).1 (TX11 5).2.1 (TX11 5).2.2.1).before ([.ref (gA Λ 31 0), .int (nI room), .int (k)] : List Value).toArray s = true := hts (.fieldLink RX11 83 "CodeRoomsModel" "many" "I") (by decide +kernel)
  have hL83 : FL RX11 83 (TX11 5).1 (TX11 5).2.1 (TX11 5).2.2.1 ([.ref (gA Λ 31 0), .int (nI room), .int (k)] : List Value).toArray s := Or.inl hM83
  have hn : M 31 5 ≤ 40 := hB 31 5 rfl
  have hR40 : M 31 10 ≤ 40 := hB 31 10 rfl
  have z00 : (0 : Int32).toInt = 0 := by decide
  refine j_aload_n C dX11_face_0 rfl 0 rfl ?_
  refine j_iconst C (nI 0) dX11_face_1 (by decide) ?_
  refine j_putI C hwX11 31 0 0 (MR0.in0 hM0) rfl rfl (by decide) rfl tyX11 tyX11_ok nmX11 rfl rfl rfl hL73 dX11_face_2 ?_
  have hM := MR0.start hM0 h00
  have hs0 : Same nMo σ (sI σ 31 0 0 (nI 0)) := Same.sI Same.rf (by decide)
  generalize sI σ 31 0 0 (nI 0) = σ0 at hM hs0 ⊢
  refine j_aload_n C dX11_face_5 rfl 0 rfl ?_
  refine j_aload_n C dX11_face_6 rfl 0 rfl ?_
  refine j_iload_n C dX11_face_7 rfl 1 rfl ?_
  refine c_i0 C (r_V C 31 0 [.int (nI room)] (c_X11_isRoom l D cy base Λ σ0 M hM hB (nI room)) (cwV 1 hts gX11_face_X11_isRoom rfl rfl rfl (by decide +kernel) ⟨by decide, by decide⟩) (MR.in0 hM (by decide) (by decide)) rfl rfl rfl rfl (Nat.le_of_ble_eq_true rfl) dX11_face_8 ⟨by decide, by decide⟩) (fun rv uu hp => ?_)
  rw [hp.1, hp.2]
  refine j_ifne_b (tgt := 18) C dX11_face_11 (by decide) (fun h11 => ?_) (fun h11 => ?_)
  · refine j_iconst C (nI 0) dX11_face_18 (by decide) ?_
    refine j_iconst C (nI 1) dX11_face_19 (by decide) ?_
    refine c_i0 C (r_V C 31 0 [.int (nI 0), .int (nI 1)] (c_X11_bad0 l D cy base Λ σ0 (MR.in0 hM (by decide) (by decide)) 1) (cwV 2 hts gX11_face_X11_bad rfl rfl rfl (by decide +kernel) ⟨by decide, by decide⟩) (MR.in0 hM (by decide) (by decide)) rfl rfl rfl rfl (Nat.le_of_ble_eq_true rfl) dX11_face_20 ⟨by decide, by decide⟩) (fun rv uu hp => ?_)
    rw [hp.1, hp.2]
    refine j_if_eq (tgt := 28) C (P := True) dX11_face_23 (by decide) (by decide) (fun z => ?_) (fun z => ?_)
    · refine j_iload_n C dX11_face_28 rfl 2 rfl ?_
      refine j_istore_n C [(3, .int (k)), (0, .ref (gA Λ 31 0)), (1, .int (nI room)), (2, .int (k))] dX11_face_29 rfl (by decide) rfl ?_
      refine j_iconst C (nI 0) dX11_face_30 (by decide) ?_
      refine j_istore C [(4, .int (nI 0)), (3, .int (k)), (0, .ref (gA Λ 31 0)), (1, .int (nI room)), (2, .int (k))] dX11_face_31 (by decide) rfl ?_
      refine j_iload C dX11_face_33 0 rfl ?_
      refine j_aload_n C dX11_face_35 rfl 2 rfl ?_
      have hb36 : M 31 5 ≤ 40 := hB 31 5 rfl
      refine j_getI C hwX11 31 0 5 (MR.in0 hM (by decide) (by decide)) rfl rfl (by decide) rfl (nI (M 31 5)) (hM.1 31 5 rfl) hL83 dX11_face_36 ?_
      refine j_icmp_ge (tgt := 171) C dX11_face_39 (by decide) (nI_leI (by omega) (by omega)) (fun h39 => ?_) (fun h39 => ?_)
      · refine j_iconst C ((-1)) dX11_face_171 (by decide) ?_
        exact j_iret C hr hlk (⟨hM, hs0, rfl⟩) dX11_face_172
      · refine j_iload_n C dX11_face_42 rfl 4 rfl ?_
        refine j_if_lt (tgt := 171) C dX11_face_43 (by decide) (fa_lt _ _) (fun h43 => ?_) (fun h43 => ?_)
        · refine j_iconst C ((-1)) dX11_face_171 (by decide) ?_
          exact j_iret C hr hlk (⟨hM, hs0, rfl⟩) dX11_face_172
        · omega
    · exact absurd trivial z
  · exact absurd (h11.symm.trans (inRm_nI hB hroom)) (by decide)

set_option maxHeartbeats 4000000 in
set_option maxRecDepth 100000 in
theorem c_mface_ok (l : Launch) (D : va_G) (cy : Nat → ClassId) (base : Nat) (Λ : LY) (σ : HS) (M : MM) (hM0 : MR0 Λ σ M) (h00 : M 31 0 = 0) (hB : MBd M) (room k : Nat) (hroom : room < M 31 10) (hk : k < 2 ^ 31) : Met l yX11_face wsX11_face ({ frames := 24, cells := 0, slots := 0, locals := 360 }) (va_Pc [.ref (gA Λ 31 0), .int (nI room), .int (nI k)] (Wd D cy base Λ σ)) (va_Qi (fun v u => MR Λ u M ∧ Same nMo σ u ∧ fcV M room (k : Int) v) (Wd D cy base Λ) (Ab base)) 0 0 (Ab base) := by
  refine j_start (cc := cX11_face) (nL := 7) (ret := (some .int)) (lv := [(0, .ref (gA Λ 31 0)), (1, .int (nI room)), (2, .int (nI k))]) (by decide) rfl (Nat.le_of_ble_eq_true rfl) rfl ?_
  intro p e s m below meth c C hr hlk hnm
  have C : Cx p s m ([.ref (gA Λ 31 0), .int (nI room), .int (nI k)] : List Value).toArray c cX11_face 7 RX11 wsX11_face D cy base := C
  have hts := C.2.2.2.2.1
  have hwX11 : ∀ w ∈ u_ws RX11 TX11 26, w ∈ wsX11_face := by decide +kernel
  have hM20 : (Cond.fieldLink RX11 20 (TX11 6).1 (TX11 6).2.1 (TX11 6).2.2.1).before ([.ref (gA Λ 31 0), .int (nI room), .int (nI k)] : List Value).toArray s = true := hts (.fieldLink RX11 20 "CodeRoomsModel" "numbers" "[I") (by decide +kernel)
  have hL20 : FL RX11 20 (TX11 6).1 (TX11 6).2.1 (TX11 6).2.2.1 ([.ref (gA Λ 31 0), .int (nI room), .int (nI k)] : List Value).toArray s := Or.inl hM20
  have hM36 : (Cond.fieldLink RX11 36 (TX11 11).1 (TX11 11).2.1 (TX11 11).2.2.1).before ([.ref (gA Λ 31 0), .int (nI room), .int (nI k)] : List Value).toArray s = true := hts (.fieldLink RX11 36 "CodeRoomsModel" "isHub" "[Z") (by decide +kernel)
  have hL36 : FL RX11 36 (TX11 11).1 (TX11 11).2.1 (TX11 11).2.2.1 ([.ref (gA Λ 31 0), .int (nI room), .int (nI k)] : List Value).toArray s := Or.inl hM36
  have hM40 : (Cond.fieldLink RX11 40 (TX11 12).1 (TX11 12).2.1 (TX11 12).2.2.1).before ([.ref (gA Λ 31 0), .int (nI room), .int (nI k)] : List Value).toArray s = true := hts (.fieldLink RX11 40 "CodeRoomsModel" "roomOf" "[I") (by decide +kernel)
  have hL40 : FL RX11 40 (TX11 12).1 (TX11 12).2.1 (TX11 12).2.2.1 ([.ref (gA Λ 31 0), .int (nI room), .int (nI k)] : List Value).toArray s := Or.inl hM40
  have hM73 : (Cond.fieldLink RX11 73 (TX11 0).1 (TX11 0).2.1 (TX11 0).2.2.1).before ([.ref (gA Λ 31 0), .int (nI room), .int (nI k)] : List Value).toArray s = true := hts (.fieldLink RX11 73 "CodeRoomsModel" "thrown" "I") (by decide +kernel)
  have hL73 : FL RX11 73 (TX11 0).1 (TX11 0).2.1 (TX11 0).2.2.1 ([.ref (gA Λ 31 0), .int (nI room), .int (nI k)] : List Value).toArray s := Or.inl hM73
  have hM83 : (Cond.fieldLink RX11 83 (TX11 5).1 (TX11 5).2.1 (TX11 5).2.2.1).before ([.ref (gA Λ 31 0), .int (nI room), .int (nI k)] : List Value).toArray s = true := hts (.fieldLink RX11 83 "CodeRoomsModel" "many" "I") (by decide +kernel)
  have hL83 : FL RX11 83 (TX11 5).1 (TX11 5).2.1 (TX11 5).2.2.1 ([.ref (gA Λ 31 0), .int (nI room), .int (nI k)] : List Value).toArray s := Or.inl hM83
  have hn : M 31 5 ≤ 40 := hB 31 5 rfl
  have hR40 : M 31 10 ≤ 40 := hB 31 10 rfl
  refine j_aload_n C dX11_face_0 rfl 0 rfl ?_
  refine j_iconst C (nI 0) dX11_face_1 (by decide) ?_
  refine j_putI C hwX11 31 0 0 (MR0.in0 hM0) rfl rfl (by decide) rfl tyX11 tyX11_ok nmX11 rfl rfl rfl hL73 dX11_face_2 ?_
  have hM := MR0.start hM0 h00
  have hs0 : Same nMo σ (sI σ 31 0 0 (nI 0)) := Same.sI Same.rf (by decide)
  generalize sI σ 31 0 0 (nI 0) = σ0 at hM hs0 ⊢
  refine j_aload_n C dX11_face_5 rfl 0 rfl ?_
  refine j_aload_n C dX11_face_6 rfl 0 rfl ?_
  refine j_iload_n C dX11_face_7 rfl 1 rfl ?_
  refine c_i0 C (r_V C 31 0 [.int (nI room)] (c_X11_isRoom l D cy base Λ σ0 M hM hB (nI room)) (cwV 1 hts gX11_face_X11_isRoom rfl rfl rfl (by decide +kernel) ⟨by decide, by decide⟩) (MR.in0 hM (by decide) (by decide)) rfl rfl rfl rfl (Nat.le_of_ble_eq_true rfl) dX11_face_8 ⟨by decide, by decide⟩) (fun rv uu hp => ?_)
  rw [hp.1, hp.2]
  refine j_ifne_b (tgt := 18) C dX11_face_11 (by decide) (fun h11 => ?_) (fun h11 => ?_)
  · refine j_iconst C (nI 0) dX11_face_18 (by decide) ?_
    refine j_iconst C (nI 1) dX11_face_19 (by decide) ?_
    refine c_i0 C (r_V C 31 0 [.int (nI 0), .int (nI 1)] (c_X11_bad0 l D cy base Λ σ0 (MR.in0 hM (by decide) (by decide)) 1) (cwV 2 hts gX11_face_X11_bad rfl rfl rfl (by decide +kernel) ⟨by decide, by decide⟩) (MR.in0 hM (by decide) (by decide)) rfl rfl rfl rfl (Nat.le_of_ble_eq_true rfl) dX11_face_20 ⟨by decide, by decide⟩) (fun rv uu hp => ?_)
    rw [hp.1, hp.2]
    refine j_if_eq (tgt := 28) C (P := True) dX11_face_23 (by decide) (by decide) (fun z => ?_) (fun z => ?_)
    · refine j_iload_n C dX11_face_28 rfl 2 rfl ?_
      refine j_istore_n C [(3, .int (nI k)), (0, .ref (gA Λ 31 0)), (1, .int (nI room)), (2, .int (nI k))] dX11_face_29 rfl (by decide) rfl ?_
      refine j_iconst C (nI 0) dX11_face_30 (by decide) ?_
      refine j_istore C [(4, .int (nI 0)), (3, .int (nI k)), (0, .ref (gA Λ 31 0)), (1, .int (nI room)), (2, .int (nI k))] dX11_face_31 (by decide) rfl ?_
      have lb33 : ∀ (fu : Nat) (q r : Nat), (M 31 5 - r) < fu → (r ≤ M 31 5) → (q + fb_ct (fcB M room) r = k) → (fb_ct (fcB M room) r ≤ k) → J p l e ({ frames := 24, cells := 0, slots := 0, locals := 360 }) s m ([.ref (gA Λ 31 0), .int (nI room), .int (nI k)] : List Value).toArray below meth c 7 D cy base (MQ below (va_Qi (fun v u => MR Λ u M ∧ Same nMo σ u ∧ fcV M room (k : Int) v) (Wd D cy base Λ) (Ab base)) ([.ref (gA Λ 31 0), .int (nI room), .int (nI k)] : List Value).toArray s 0 0 (Ab base)) 0 0 Λ 33 [(0, .ref (gA Λ 31 0)), (1, .int (nI room)), (2, .int (nI k)), (3, .int (nI q)), (4, .int (nI r))] [] σ0 := by
        intro fu
        induction fu with
        | zero => intro q r hfu; exact absurd hfu (Nat.not_lt_zero _)
        | succ fu ih =>
          intro q r hfu hr0 hq hq2
          have ih33 := ih
          refine j_iload C dX11_face_33 4 rfl ?_
          refine j_aload_n C dX11_face_35 rfl 0 rfl ?_
          have hb36 : M 31 5 ≤ 40 := hB 31 5 rfl
          refine j_getI C hwX11 31 0 5 (MR.in0 hM (by decide) (by decide)) rfl rfl (by decide) rfl (nI (M 31 5)) (hM.1 31 5 rfl) hL83 dX11_face_36 ?_
          refine j_icmp_ge (tgt := 171) C dX11_face_39 (by decide) (nI_leI (by omega) (by omega)) (fun h39 => ?_) (fun h39 => ?_)
          · refine j_iconst C ((-1)) dX11_face_171 (by decide) ?_
            exact j_iret C hr hlk (⟨hM, hs0, Or.inr ⟨rfl, Or.inr (by rw [show M 31 5 = r by omega]; omega)⟩⟩) dX11_face_172
          · refine j_iload_n C dX11_face_42 rfl 2 rfl ?_
            refine j_if_lt (tgt := 171) C dX11_face_43 (by decide) (nJ_lt0 (by omega)) (fun h43 => ?_) (fun h43 => ?_)
            · exact h43.elim
            · refine j_aload_n C dX11_face_46 rfl 0 rfl ?_
              refine j_getV C hwX11 31 0 11 (MR.in0 hM (by decide) (by decide)) rfl rfl (by decide) rfl 0 (hM.2.2.2 11 rfl) hL36 dX11_face_47 ?_
              refine j_iload C dX11_face_50 4 rfl ?_
              have hb52 : M 37 r ≤ 1 := hB 37 r (decide_eq_true (show r < 40 by omega))
              refine j_zald C 37 0 r (MR.in0 hM (by decide) (by decide)) rfl rfl 40 (hM.2.2.1 37 (by decide) (by decide)) (by omega) (by omega) (nI (M 37 r)) (hM.1 37 r (decide_eq_true (show r < 40 by omega))) dX11_face_52 ?_
              refine j_if_ne (tgt := 165) C dX11_face_53 (by decide) (nJ_ne0 (by omega)) (fun h53 => ?_) (fun h53 => ?_)
              · refine j_iinc C [(4, .int (nI (r + 1))), (0, .ref (gA Λ 31 0)), (1, .int (nI room)), (2, .int (nI k)), (3, .int (nI q))] (nI (r + 1)) dX11_face_165 4 rfl (nI_add _ 1) (by decide) rfl ?_
                refine j_goto (tgt := 33) C dX11_face_168 (by decide) ?_
                refine j_lv [1, 2, 3, 4, 0] rfl ?_
                exact ih33 q (r + 1) (by omega) (by omega) (by rw [fb_ct_succ]; have e : fcB M room r = false := (by simp [fcB, h53]); rw [e]; simp; omega) (by rw [fb_ct_succ]; have e : fcB M room r = false := (by simp [fcB, h53]); rw [e]; simp; omega)
              · refine j_aload_n C dX11_face_56 rfl 0 rfl ?_
                refine j_getV C hwX11 31 0 12 (MR.in0 hM (by decide) (by decide)) rfl rfl (by decide) rfl 0 (hM.2.2.2 12 rfl) hL40 dX11_face_57 ?_
                refine j_iload C dX11_face_60 4 rfl ?_
                have hb62 : M 38 r ≤ 5 := hB 38 r (decide_eq_true (show r < 40 by omega))
                refine j_iald C 38 0 r (MR.in0 hM (by decide) (by decide)) rfl rfl 40 (hM.2.2.1 38 (by decide) (by decide)) (by omega) (by omega) (nI (M 38 r)) (hM.1 38 r (decide_eq_true (show r < 40 by omega))) dX11_face_62 ?_
                refine j_iload_n C dX11_face_63 rfl 1 rfl ?_
                refine j_icmp_eq (tgt := 70) C dX11_face_64 (by decide) (nI_eq (by omega) (by omega)) (fun h64 => ?_) (fun h64 => ?_)
                · refine j_iconst C (nI 0) dX11_face_70 (by decide) ?_
                  refine j_istore C [(5, .int (nI 0)), (0, .ref (gA Λ 31 0)), (1, .int (nI room)), (2, .int (nI k)), (3, .int (nI q)), (4, .int (nI r))] dX11_face_71 (by decide) rfl ?_
                  refine j_iconst C (nI 0) dX11_face_73 (by decide) ?_
                  refine j_istore C [(6, .int (nI 0)), (5, .int (nI 0)), (0, .ref (gA Λ 31 0)), (1, .int (nI room)), (2, .int (nI k)), (3, .int (nI q)), (4, .int (nI r))] dX11_face_74 (by decide) rfl ?_
                  have lb76 : ∀ (fu : Nat) (y o : Nat), (M 31 5 - o) < fu → (o ≤ M 31 5) → (y = if anyB (cldP M room r) o = true then 1 else 0) → J p l e ({ frames := 24, cells := 0, slots := 0, locals := 360 }) s m ([.ref (gA Λ 31 0), .int (nI room), .int (nI k)] : List Value).toArray below meth c 7 D cy base (MQ below (va_Qi (fun v u => MR Λ u M ∧ Same nMo σ u ∧ fcV M room (k : Int) v) (Wd D cy base Λ) (Ab base)) ([.ref (gA Λ 31 0), .int (nI room), .int (nI k)] : List Value).toArray s 0 0 (Ab base)) 0 0 Λ 76 [(0, .ref (gA Λ 31 0)), (1, .int (nI room)), (2, .int (nI k)), (3, .int (nI q)), (4, .int (nI r)), (5, .int (nI y)), (6, .int (nI o))] [] σ0 := by
                    intro fu
                    induction fu with
                    | zero => intro y o hfu; exact absurd hfu (Nat.not_lt_zero _)
                    | succ fu ih =>
                      intro y o hfu ho hy
                      have hy1 : y ≤ 1 := by rw [hy]; split <;> omega
                      have ih76 := ih
                      refine j_iload C dX11_face_76 6 rfl ?_
                      refine j_aload_n C dX11_face_78 rfl 0 rfl ?_
                      have hb79 : M 31 5 ≤ 40 := hB 31 5 rfl
                      refine j_getI C hwX11 31 0 5 (MR.in0 hM (by decide) (by decide)) rfl rfl (by decide) rfl (nI (M 31 5)) (hM.1 31 5 rfl) hL83 dX11_face_79 ?_
                      refine j_icmp_ge (tgt := 147) C dX11_face_82 (by decide) (nI_leI (by omega) (by omega)) (fun h82 => ?_) (fun h82 => ?_)
                      · refine j_iload C dX11_face_147 5 rfl ?_
                        refine j_if_ne (tgt := 155) C dX11_face_149 (by decide) (nJ_ne0 (by omega)) (fun h149 => ?_) (fun h149 => ?_)
                        · have hoN : o = M 31 5 := by omega
                          have hfT : fcB M room r = true := by unfold fcB; rw [decide_eq_true ⟨h53, h64⟩, Bool.true_and, ← hoN]; exact any1 hy h149
                          refine j_iload_n C dX11_face_155 rfl 3 rfl ?_
                          refine j_if_ne (tgt := 162) C dX11_face_156 (by decide) (nJ_ne0 (by omega)) (fun h156 => ?_) (fun h156 => ?_)
                          · refine j_iinc C [(3, .int (nI (q - 1))), (0, .ref (gA Λ 31 0)), (1, .int (nI room)), (2, .int (nI k)), (4, .int (nI r)), (5, .int (nI y)), (6, .int (nI o))] (nI (q - 1)) dX11_face_162 3 rfl (by rw [show q = (q - 1) + 1 by omega]; exact pk_m1 _) (by decide) rfl ?_
                            refine j_iinc C [(4, .int (nI (r + 1))), (3, .int (nI (q - 1))), (0, .ref (gA Λ 31 0)), (1, .int (nI room)), (2, .int (nI k)), (5, .int (nI y)), (6, .int (nI o))] (nI (r + 1)) dX11_face_165 4 rfl (nI_add _ 1) (by decide) rfl ?_
                            refine j_goto (tgt := 33) C dX11_face_168 (by decide) ?_
                            refine j_lv [2, 3, 4, 1, 0] rfl ?_
                            exact ih33 (q - 1) (r + 1) (by omega) (by omega) (by rw [fb_ct_succ]; have e : fcB M room r = true := hfT; rw [e]; simp; omega) (by rw [fb_ct_succ]; have e : fcB M room r = true := hfT; rw [e]; simp; omega)
                          · refine j_iload C dX11_face_159 4 rfl ?_
                            exact j_iret C hr hlk (⟨hM, hs0, Or.inl ⟨r, by omega, hfT, by omega, rfl⟩⟩) dX11_face_161
                        · have hoN : o = M 31 5 := by omega
                          have hfF : fcB M room r = false := by unfold fcB; rw [← hoN, any0 hy h149, Bool.and_false]
                          refine j_goto (tgt := 165) C dX11_face_152 (by decide) ?_
                          refine j_iinc C [(4, .int (nI (r + 1))), (0, .ref (gA Λ 31 0)), (1, .int (nI room)), (2, .int (nI k)), (3, .int (nI q)), (5, .int (nI y)), (6, .int (nI o))] (nI (r + 1)) dX11_face_165 4 rfl (nI_add _ 1) (by decide) rfl ?_
                          refine j_goto (tgt := 33) C dX11_face_168 (by decide) ?_
                          refine j_lv [1, 2, 3, 4, 0] rfl ?_
                          exact ih33 q (r + 1) (by omega) (by omega) (by rw [fb_ct_succ]; have e : fcB M room r = false := hfF; rw [e]; simp; omega) (by rw [fb_ct_succ]; have e : fcB M room r = false := hfF; rw [e]; simp; omega)
                      · refine j_iload C dX11_face_85 5 rfl ?_
                        refine j_if_ne (tgt := 134) C dX11_face_87 (by decide) (nJ_ne0 (by omega)) (fun h87 => ?_) (fun h87 => ?_)
                        · refine j_iconst C (nI 1) dX11_face_134 (by decide) ?_
                          refine j_goto (tgt := 139) C dX11_face_135 (by decide) ?_
                          refine j_istore C [(5, .int (nI 1)), (0, .ref (gA Λ 31 0)), (1, .int (nI room)), (2, .int (nI k)), (3, .int (nI q)), (4, .int (nI r)), (6, .int (nI o))] dX11_face_139 (by decide) rfl ?_
                          refine j_iinc C [(6, .int (nI (o + 1))), (5, .int (nI 1)), (0, .ref (gA Λ 31 0)), (1, .int (nI room)), (2, .int (nI k)), (3, .int (nI q)), (4, .int (nI r))] (nI (o + 1)) dX11_face_141 6 rfl (nI_add _ 1) (by decide) rfl ?_
                          refine j_goto (tgt := 76) C dX11_face_144 (by decide) ?_
                          refine j_lv [2, 3, 4, 5, 6, 1, 0] rfl ?_
                          exact ih76 1 (o + 1) (by omega) (by omega) (by show 1 = if (anyB (cldP M room r) o || cldP M room r o) = true then 1 else 0; rw [show anyB (cldP M room r) o = true from any1 hy h87]; rfl)
                        · refine j_iload C dX11_face_90 6 rfl ?_
                          refine j_iload C dX11_face_92 4 rfl ?_
                          refine j_icmp_eq (tgt := 138) C dX11_face_94 (by decide) (nI_eq (by omega) (by omega)) (fun h94 => ?_) (fun h94 => ?_)
                          · refine j_iconst C (nI 0) dX11_face_138 (by decide) ?_
                            refine j_istore C [(5, .int (nI 0)), (0, .ref (gA Λ 31 0)), (1, .int (nI room)), (2, .int (nI k)), (3, .int (nI q)), (4, .int (nI r)), (6, .int (nI o))] dX11_face_139 (by decide) rfl ?_
                            refine j_iinc C [(6, .int (nI (o + 1))), (5, .int (nI 0)), (0, .ref (gA Λ 31 0)), (1, .int (nI room)), (2, .int (nI k)), (3, .int (nI q)), (4, .int (nI r))] (nI (o + 1)) dX11_face_141 6 rfl (nI_add _ 1) (by decide) rfl ?_
                            refine j_goto (tgt := 76) C dX11_face_144 (by decide) ?_
                            refine j_lv [2, 3, 4, 5, 6, 1, 0] rfl ?_
                            exact ih76 0 (o + 1) (by omega) (by omega) (by show 0 = if (anyB (cldP M room r) o || cldP M room r o) = true then 1 else 0; rw [show anyB (cldP M room r) o = false from any0 hy h87, Bool.false_or, show cldP M room r o = false from decide_eq_false (by omega)]; rfl)
                          · refine j_aload_n C dX11_face_97 rfl 0 rfl ?_
                            refine j_getV C hwX11 31 0 11 (MR.in0 hM (by decide) (by decide)) rfl rfl (by decide) rfl 0 (hM.2.2.2 11 rfl) hL36 dX11_face_98 ?_
                            refine j_iload C dX11_face_101 6 rfl ?_
                            have hb103 : M 37 o ≤ 1 := hB 37 o (decide_eq_true (show o < 40 by omega))
                            refine j_zald C 37 0 o (MR.in0 hM (by decide) (by decide)) rfl rfl 40 (hM.2.2.1 37 (by decide) (by decide)) (by omega) (by omega) (nI (M 37 o)) (hM.1 37 o (decide_eq_true (show o < 40 by omega))) dX11_face_103 ?_
                            refine j_if_ne (tgt := 118) C dX11_face_104 (by decide) (nJ_ne0 (by omega)) (fun h104 => ?_) (fun h104 => ?_)
                            · refine j_aload_n C dX11_face_118 rfl 0 rfl ?_
                              refine j_getV C hwX11 31 0 6 (MR.in0 hM (by decide) (by decide)) rfl rfl (by decide) rfl 0 (hM.2.2.2 6 rfl) hL20 dX11_face_119 ?_
                              refine j_iconst C (nI 0) dX11_face_122 (by decide) ?_
                              refine j_iload C dX11_face_123 6 rfl ?_
                              refine j_iload C dX11_face_125 4 rfl ?_
                              refine c_i0 C (r_S C [.int (nI 0), .int (nI o), .int (nI r)] (c_X11_cell l D cy base Λ σ0 0 o r) (va_cwS 3 hts gX11_face_X11_cell rfl rfl rfl (by decide +kernel) ⟨by decide, by decide⟩) rfl rfl (Nat.le_of_ble_eq_true rfl) dX11_face_127 ⟨by decide, by decide⟩) (fun rv uu hp => ?_)
                              rw [hp.1, hp.2]
                              have hb130 : M 35 ((40 * 0 + o) * 40 + r) ≤ 999999 := hB 35 ((40 * 0 + o) * 40 + r) (decide_eq_true (show (40 * 0 + o) * 40 + r < 4800 by omega))
                              refine j_iald C 35 0 ((40 * 0 + o) * 40 + r) (MR.in0 hM (by decide) (by decide)) rfl rfl 4800 (hM.2.2.1 35 (by decide) (by decide)) (by omega) (by omega) (nI (M 35 ((40 * 0 + o) * 40 + r))) (hM.1 35 ((40 * 0 + o) * 40 + r) (decide_eq_true (show (40 * 0 + o) * 40 + r < 4800 by omega))) dX11_face_130 ?_
                              refine j_if_le (tgt := 138) C dX11_face_131 (by decide) (nJ_le0 (by omega)) (fun h131 => ?_) (fun h131 => ?_)
                              · refine j_iconst C (nI 0) dX11_face_138 (by decide) ?_
                                refine j_istore C [(5, .int (nI 0)), (0, .ref (gA Λ 31 0)), (1, .int (nI room)), (2, .int (nI k)), (3, .int (nI q)), (4, .int (nI r)), (6, .int (nI o))] dX11_face_139 (by decide) rfl ?_
                                refine j_iinc C [(6, .int (nI (o + 1))), (5, .int (nI 0)), (0, .ref (gA Λ 31 0)), (1, .int (nI room)), (2, .int (nI k)), (3, .int (nI q)), (4, .int (nI r))] (nI (o + 1)) dX11_face_141 6 rfl (nI_add _ 1) (by decide) rfl ?_
                                refine j_goto (tgt := 76) C dX11_face_144 (by decide) ?_
                                refine j_lv [2, 3, 4, 5, 6, 1, 0] rfl ?_
                                exact ih76 0 (o + 1) (by omega) (by omega) (by show 0 = if (anyB (cldP M room r) o || cldP M room r o) = true then 1 else 0; rw [show anyB (cldP M room r) o = false from any0 hy h87, Bool.false_or, show cldP M room r o = false from decide_eq_false (by omega)]; rfl)
                              · refine j_iconst C (nI 1) dX11_face_134 (by decide) ?_
                                refine j_goto (tgt := 139) C dX11_face_135 (by decide) ?_
                                refine j_istore C [(5, .int (nI 1)), (0, .ref (gA Λ 31 0)), (1, .int (nI room)), (2, .int (nI k)), (3, .int (nI q)), (4, .int (nI r)), (6, .int (nI o))] dX11_face_139 (by decide) rfl ?_
                                refine j_iinc C [(6, .int (nI (o + 1))), (5, .int (nI 1)), (0, .ref (gA Λ 31 0)), (1, .int (nI room)), (2, .int (nI k)), (3, .int (nI q)), (4, .int (nI r))] (nI (o + 1)) dX11_face_141 6 rfl (nI_add _ 1) (by decide) rfl ?_
                                refine j_goto (tgt := 76) C dX11_face_144 (by decide) ?_
                                refine j_lv [2, 3, 4, 5, 6, 1, 0] rfl ?_
                                exact ih76 1 (o + 1) (by omega) (by omega) (by show 1 = if (anyB (cldP M room r) o || cldP M room r o) = true then 1 else 0; rw [show anyB (cldP M room r) o = false from any0 hy h87, Bool.false_or, show cldP M room r o = true from decide_eq_true (by omega)]; rfl)
                            · refine j_aload_n C dX11_face_107 rfl 0 rfl ?_
                              refine j_getV C hwX11 31 0 12 (MR.in0 hM (by decide) (by decide)) rfl rfl (by decide) rfl 0 (hM.2.2.2 12 rfl) hL40 dX11_face_108 ?_
                              refine j_iload C dX11_face_111 6 rfl ?_
                              have hb113 : M 38 o ≤ 5 := hB 38 o (decide_eq_true (show o < 40 by omega))
                              refine j_iald C 38 0 o (MR.in0 hM (by decide) (by decide)) rfl rfl 40 (hM.2.2.1 38 (by decide) (by decide)) (by omega) (by omega) (nI (M 38 o)) (hM.1 38 o (decide_eq_true (show o < 40 by omega))) dX11_face_113 ?_
                              refine j_iload_n C dX11_face_114 rfl 1 rfl ?_
                              refine j_icmp_eq (tgt := 138) C dX11_face_115 (by decide) (nI_eq (by omega) (by omega)) (fun h115 => ?_) (fun h115 => ?_)
                              · refine j_iconst C (nI 0) dX11_face_138 (by decide) ?_
                                refine j_istore C [(5, .int (nI 0)), (0, .ref (gA Λ 31 0)), (1, .int (nI room)), (2, .int (nI k)), (3, .int (nI q)), (4, .int (nI r)), (6, .int (nI o))] dX11_face_139 (by decide) rfl ?_
                                refine j_iinc C [(6, .int (nI (o + 1))), (5, .int (nI 0)), (0, .ref (gA Λ 31 0)), (1, .int (nI room)), (2, .int (nI k)), (3, .int (nI q)), (4, .int (nI r))] (nI (o + 1)) dX11_face_141 6 rfl (nI_add _ 1) (by decide) rfl ?_
                                refine j_goto (tgt := 76) C dX11_face_144 (by decide) ?_
                                refine j_lv [2, 3, 4, 5, 6, 1, 0] rfl ?_
                                exact ih76 0 (o + 1) (by omega) (by omega) (by show 0 = if (anyB (cldP M room r) o || cldP M room r o) = true then 1 else 0; rw [show anyB (cldP M room r) o = false from any0 hy h87, Bool.false_or, show cldP M room r o = false from decide_eq_false (by omega)]; rfl)
                              · refine j_aload_n C dX11_face_118 rfl 0 rfl ?_
                                refine j_getV C hwX11 31 0 6 (MR.in0 hM (by decide) (by decide)) rfl rfl (by decide) rfl 0 (hM.2.2.2 6 rfl) hL20 dX11_face_119 ?_
                                refine j_iconst C (nI 0) dX11_face_122 (by decide) ?_
                                refine j_iload C dX11_face_123 6 rfl ?_
                                refine j_iload C dX11_face_125 4 rfl ?_
                                refine c_i0 C (r_S C [.int (nI 0), .int (nI o), .int (nI r)] (c_X11_cell l D cy base Λ σ0 0 o r) (va_cwS 3 hts gX11_face_X11_cell rfl rfl rfl (by decide +kernel) ⟨by decide, by decide⟩) rfl rfl (Nat.le_of_ble_eq_true rfl) dX11_face_127 ⟨by decide, by decide⟩) (fun rv uu hp => ?_)
                                rw [hp.1, hp.2]
                                have hb130 : M 35 ((40 * 0 + o) * 40 + r) ≤ 999999 := hB 35 ((40 * 0 + o) * 40 + r) (decide_eq_true (show (40 * 0 + o) * 40 + r < 4800 by omega))
                                refine j_iald C 35 0 ((40 * 0 + o) * 40 + r) (MR.in0 hM (by decide) (by decide)) rfl rfl 4800 (hM.2.2.1 35 (by decide) (by decide)) (by omega) (by omega) (nI (M 35 ((40 * 0 + o) * 40 + r))) (hM.1 35 ((40 * 0 + o) * 40 + r) (decide_eq_true (show (40 * 0 + o) * 40 + r < 4800 by omega))) dX11_face_130 ?_
                                refine j_if_le (tgt := 138) C dX11_face_131 (by decide) (nJ_le0 (by omega)) (fun h131 => ?_) (fun h131 => ?_)
                                · refine j_iconst C (nI 0) dX11_face_138 (by decide) ?_
                                  refine j_istore C [(5, .int (nI 0)), (0, .ref (gA Λ 31 0)), (1, .int (nI room)), (2, .int (nI k)), (3, .int (nI q)), (4, .int (nI r)), (6, .int (nI o))] dX11_face_139 (by decide) rfl ?_
                                  refine j_iinc C [(6, .int (nI (o + 1))), (5, .int (nI 0)), (0, .ref (gA Λ 31 0)), (1, .int (nI room)), (2, .int (nI k)), (3, .int (nI q)), (4, .int (nI r))] (nI (o + 1)) dX11_face_141 6 rfl (nI_add _ 1) (by decide) rfl ?_
                                  refine j_goto (tgt := 76) C dX11_face_144 (by decide) ?_
                                  refine j_lv [2, 3, 4, 5, 6, 1, 0] rfl ?_
                                  exact ih76 0 (o + 1) (by omega) (by omega) (by show 0 = if (anyB (cldP M room r) o || cldP M room r o) = true then 1 else 0; rw [show anyB (cldP M room r) o = false from any0 hy h87, Bool.false_or, show cldP M room r o = false from decide_eq_false (by omega)]; rfl)
                                · refine j_iconst C (nI 1) dX11_face_134 (by decide) ?_
                                  refine j_goto (tgt := 139) C dX11_face_135 (by decide) ?_
                                  refine j_istore C [(5, .int (nI 1)), (0, .ref (gA Λ 31 0)), (1, .int (nI room)), (2, .int (nI k)), (3, .int (nI q)), (4, .int (nI r)), (6, .int (nI o))] dX11_face_139 (by decide) rfl ?_
                                  refine j_iinc C [(6, .int (nI (o + 1))), (5, .int (nI 1)), (0, .ref (gA Λ 31 0)), (1, .int (nI room)), (2, .int (nI k)), (3, .int (nI q)), (4, .int (nI r))] (nI (o + 1)) dX11_face_141 6 rfl (nI_add _ 1) (by decide) rfl ?_
                                  refine j_goto (tgt := 76) C dX11_face_144 (by decide) ?_
                                  refine j_lv [2, 3, 4, 5, 6, 1, 0] rfl ?_
                                  exact ih76 1 (o + 1) (by omega) (by omega) (by show 1 = if (anyB (cldP M room r) o || cldP M room r o) = true then 1 else 0; rw [show anyB (cldP M room r) o = false from any0 hy h87, Bool.false_or, show cldP M room r o = true from decide_eq_true (by omega)]; rfl)
                  refine j_lv [2, 3, 4, 5, 6, 1, 0] rfl ?_
                  exact lb76 _ 0 0 (Nat.lt_succ_self _) (by omega) rfl
                · refine j_goto (tgt := 165) C dX11_face_67 (by decide) ?_
                  refine j_iinc C [(4, .int (nI (r + 1))), (0, .ref (gA Λ 31 0)), (1, .int (nI room)), (2, .int (nI k)), (3, .int (nI q))] (nI (r + 1)) dX11_face_165 4 rfl (nI_add _ 1) (by decide) rfl ?_
                  refine j_goto (tgt := 33) C dX11_face_168 (by decide) ?_
                  refine j_lv [1, 2, 3, 4, 0] rfl ?_
                  exact ih33 q (r + 1) (by omega) (by omega) (by rw [fb_ct_succ]; have e : fcB M room r = false := (by simp [fcB, h64]); rw [e]; simp; omega) (by rw [fb_ct_succ]; have e : fcB M room r = false := (by simp [fcB, h64]); rw [e]; simp; omega)
      refine j_lv [2, 3, 4, 1, 0] rfl ?_
      exact lb33 _ k 0 (Nat.lt_succ_self _) (by omega) (by simp [fb_ct]) (Nat.zero_le _)
    · exact absurd trivial z
  · exact absurd (h11.symm.trans (inRm_nI hB hroom)) (by decide)

set_option maxHeartbeats 4000000 in
set_option maxRecDepth 100000 in
theorem c_X11_leads (l : Launch) (D : va_G) (cy : Nat → ClassId) (base : Nat) (Λ : LY) (σ : HS) (M : MM) (hM : MR Λ σ M) (hB : MBd M) (a b : Nat) (ha : a < 40) (hb : b < 40) : Met l yX11_leads wsX11_leads ({ frames := 8, cells := 0, slots := 0, locals := 120 }) (va_Pc [.ref (gA Λ 31 0), .int (nI a), .int (nI b)] (Wd D cy base Λ σ)) (va_Qi (fun v u => v = bI (ldB M a b) ∧ u = σ) (Wd D cy base Λ) (Ab base)) 0 0 (Ab base) := by
  refine j_start (cc := cX11_leads) (nL := 5) (ret := (some .boolean)) (lv := [(0, .ref (gA Λ 31 0)), (1, .int (nI a)), (2, .int (nI b))]) (by decide) rfl (Nat.le_of_ble_eq_true rfl) rfl ?_
  intro p e s m below meth c C hr hlk hnm
  have C : Cx p s m ([.ref (gA Λ 31 0), .int (nI a), .int (nI b)] : List Value).toArray c cX11_leads 5 RX11 wsX11_leads D cy base := C
  have hts := C.2.2.2.2.1
  have hwX11 : ∀ w ∈ u_ws RX11 TX11 26, w ∈ wsX11_leads := by decide +kernel
  have hM20 : (Cond.fieldLink RX11 20 (TX11 6).1 (TX11 6).2.1 (TX11 6).2.2.1).before ([.ref (gA Λ 31 0), .int (nI a), .int (nI b)] : List Value).toArray s = true := hts (.fieldLink RX11 20 "CodeRoomsModel" "numbers" "[I") (by decide +kernel)
  have hL20 : FL RX11 20 (TX11 6).1 (TX11 6).2.1 (TX11 6).2.2.1 ([.ref (gA Λ 31 0), .int (nI a), .int (nI b)] : List Value).toArray s := Or.inl hM20
  have hM36 : (Cond.fieldLink RX11 36 (TX11 11).1 (TX11 11).2.1 (TX11 11).2.2.1).before ([.ref (gA Λ 31 0), .int (nI a), .int (nI b)] : List Value).toArray s = true := hts (.fieldLink RX11 36 "CodeRoomsModel" "isHub" "[Z") (by decide +kernel)
  have hL36 : FL RX11 36 (TX11 11).1 (TX11 11).2.1 (TX11 11).2.2.1 ([.ref (gA Λ 31 0), .int (nI a), .int (nI b)] : List Value).toArray s := Or.inl hM36
  have hM40 : (Cond.fieldLink RX11 40 (TX11 12).1 (TX11 12).2.1 (TX11 12).2.2.1).before ([.ref (gA Λ 31 0), .int (nI a), .int (nI b)] : List Value).toArray s = true := hts (.fieldLink RX11 40 "CodeRoomsModel" "roomOf" "[I") (by decide +kernel)
  have hL40 : FL RX11 40 (TX11 12).1 (TX11 12).2.1 (TX11 12).2.2.1 ([.ref (gA Λ 31 0), .int (nI a), .int (nI b)] : List Value).toArray s := Or.inl hM40
  have hM83 : (Cond.fieldLink RX11 83 (TX11 5).1 (TX11 5).2.1 (TX11 5).2.2.1).before ([.ref (gA Λ 31 0), .int (nI a), .int (nI b)] : List Value).toArray s = true := hts (.fieldLink RX11 83 "CodeRoomsModel" "many" "I") (by decide +kernel)
  have hL83 : FL RX11 83 (TX11 5).1 (TX11 5).2.1 (TX11 5).2.2.1 ([.ref (gA Λ 31 0), .int (nI a), .int (nI b)] : List Value).toArray s := Or.inl hM83
  have hn : M 31 5 ≤ 40 := hB 31 5 rfl
  refine j_iconst C (nI 0) dX11_leads_0 (by decide) ?_
  refine j_istore_n C [(3, .int (nI 0)), (0, .ref (gA Λ 31 0)), (1, .int (nI a)), (2, .int (nI b))] dX11_leads_1 rfl (by decide) rfl ?_
  have lb2 : ∀ (fu : Nat) (r : Nat), (M 31 5 - r) < fu → (r ≤ M 31 5) → (anyB (fun r => anyB (ldP M a b r) (M 31 5)) r = false) → J p l e ({ frames := 8, cells := 0, slots := 0, locals := 120 }) s m ([.ref (gA Λ 31 0), .int (nI a), .int (nI b)] : List Value).toArray below meth c 5 D cy base (MQ below (va_Qi (fun v u => v = bI (ldB M a b) ∧ u = σ) (Wd D cy base Λ) (Ab base)) ([.ref (gA Λ 31 0), .int (nI a), .int (nI b)] : List Value).toArray s 0 0 (Ab base)) 0 0 Λ 2 [(0, .ref (gA Λ 31 0)), (1, .int (nI a)), (2, .int (nI b)), (3, .int (nI r))] [] σ := by
    intro fu
    induction fu with
    | zero => intro r hfu; exact absurd hfu (Nat.not_lt_zero _)
    | succ fu ih =>
      intro r hfu hr0 hf
      have ih2 := ih
      refine j_iload_n C dX11_leads_2 rfl 3 rfl ?_
      refine j_aload_n C dX11_leads_3 rfl 0 rfl ?_
      have hb4 : M 31 5 ≤ 40 := hB 31 5 rfl
      refine j_getI C hwX11 31 0 5 (MR.in0 hM (by decide) (by decide)) rfl rfl (by decide) rfl (nI (M 31 5)) (hM.1 31 5 rfl) hL83 dX11_leads_4 ?_
      refine j_icmp_ge (tgt := 91) C dX11_leads_7 (by decide) (nI_leI (by omega) (by omega)) (fun h7 => ?_) (fun h7 => ?_)
      · refine j_iconst C (nI 0) dX11_leads_91 (by decide) ?_
        exact j_zret C (by first | rfl | exact nz_b _ | exact nz_n (by omega)) hr hlk (⟨rt0 (by rw [show r = M 31 5 by omega] at hf; exact hf), rfl⟩) dX11_leads_92
      · refine j_iconst C (nI 0) dX11_leads_10 (by decide) ?_
        refine j_istore C [(4, .int (nI 0)), (0, .ref (gA Λ 31 0)), (1, .int (nI a)), (2, .int (nI b)), (3, .int (nI r))] dX11_leads_11 (by decide) rfl ?_
        have lb13 : ∀ (fu : Nat) (o : Nat), (M 31 5 - o) < fu → (o ≤ M 31 5) → (anyB (ldP M a b r) o = false) → J p l e ({ frames := 8, cells := 0, slots := 0, locals := 120 }) s m ([.ref (gA Λ 31 0), .int (nI a), .int (nI b)] : List Value).toArray below meth c 5 D cy base (MQ below (va_Qi (fun v u => v = bI (ldB M a b) ∧ u = σ) (Wd D cy base Λ) (Ab base)) ([.ref (gA Λ 31 0), .int (nI a), .int (nI b)] : List Value).toArray s 0 0 (Ab base)) 0 0 Λ 13 [(0, .ref (gA Λ 31 0)), (1, .int (nI a)), (2, .int (nI b)), (3, .int (nI r)), (4, .int (nI o))] [] σ := by
          intro fu
          induction fu with
          | zero => intro o hfu; exact absurd hfu (Nat.not_lt_zero _)
          | succ fu ih =>
            intro o hfu ho hf2
            have ih13 := ih
            refine j_iload C dX11_leads_13 4 rfl ?_
            refine j_aload_n C dX11_leads_15 rfl 0 rfl ?_
            have hb16 : M 31 5 ≤ 40 := hB 31 5 rfl
            refine j_getI C hwX11 31 0 5 (MR.in0 hM (by decide) (by decide)) rfl rfl (by decide) rfl (nI (M 31 5)) (hM.1 31 5 rfl) hL83 dX11_leads_16 ?_
            refine j_icmp_ge (tgt := 85) C dX11_leads_19 (by decide) (nI_leI (by omega) (by omega)) (fun h19 => ?_) (fun h19 => ?_)
            · refine j_iinc C [(3, .int (nI (r + 1))), (0, .ref (gA Λ 31 0)), (1, .int (nI a)), (2, .int (nI b)), (4, .int (nI o))] (nI (r + 1)) dX11_leads_85 3 rfl (nI_add _ 1) (by decide) rfl ?_
              refine j_goto (tgt := 2) C dX11_leads_88 (by decide) ?_
              refine j_lv [1, 2, 3, 0] rfl ?_
              exact ih2 (r + 1) (by omega) (by omega) (anyB_f.mpr (fun k hk => (Nat.lt_succ_iff_lt_or_eq.mp hk).elim (anyB_f.mp hf k) (fun e => by rw [e]; show anyB (ldP M a b r) (M 31 5) = false; rw [← show o = M 31 5 by omega]; exact hf2)))
            · refine j_aload_n C dX11_leads_22 rfl 0 rfl ?_
              refine j_getV C hwX11 31 0 11 (MR.in0 hM (by decide) (by decide)) rfl rfl (by decide) rfl 0 (hM.2.2.2 11 rfl) hL36 dX11_leads_23 ?_
              refine j_iload_n C dX11_leads_26 rfl 3 rfl ?_
              have hb27 : M 37 r ≤ 1 := hB 37 r (decide_eq_true (show r < 40 by omega))
              refine j_zald C 37 0 r (MR.in0 hM (by decide) (by decide)) rfl rfl 40 (hM.2.2.1 37 (by decide) (by decide)) (by omega) (by omega) (nI (M 37 r)) (hM.1 37 r (decide_eq_true (show r < 40 by omega))) dX11_leads_27 ?_
              refine j_if_ne (tgt := 79) C dX11_leads_28 (by decide) (nJ_ne0 (by omega)) (fun h28 => ?_) (fun h28 => ?_)
              · refine j_iinc C [(4, .int (nI (o + 1))), (0, .ref (gA Λ 31 0)), (1, .int (nI a)), (2, .int (nI b)), (3, .int (nI r))] (nI (o + 1)) dX11_leads_79 4 rfl (nI_add _ 1) (by decide) rfl ?_
                refine j_goto (tgt := 13) C dX11_leads_82 (by decide) ?_
                refine j_lv [1, 2, 3, 4, 0] rfl ?_
                exact ih13 (o + 1) (by omega) (by omega) (anyB_f.mpr (fun k hk => (Nat.lt_succ_iff_lt_or_eq.mp hk).elim (anyB_f.mp hf2 k) (fun e => by rw [e]; exact decide_eq_false (by omega))))
              · refine j_aload_n C dX11_leads_31 rfl 0 rfl ?_
                refine j_getV C hwX11 31 0 11 (MR.in0 hM (by decide) (by decide)) rfl rfl (by decide) rfl 0 (hM.2.2.2 11 rfl) hL36 dX11_leads_32 ?_
                refine j_iload C dX11_leads_35 4 rfl ?_
                have hb37 : M 37 o ≤ 1 := hB 37 o (decide_eq_true (show o < 40 by omega))
                refine j_zald C 37 0 o (MR.in0 hM (by decide) (by decide)) rfl rfl 40 (hM.2.2.1 37 (by decide) (by decide)) (by omega) (by omega) (nI (M 37 o)) (hM.1 37 o (decide_eq_true (show o < 40 by omega))) dX11_leads_37 ?_
                refine j_if_ne (tgt := 79) C dX11_leads_38 (by decide) (nJ_ne0 (by omega)) (fun h38 => ?_) (fun h38 => ?_)
                · refine j_iinc C [(4, .int (nI (o + 1))), (0, .ref (gA Λ 31 0)), (1, .int (nI a)), (2, .int (nI b)), (3, .int (nI r))] (nI (o + 1)) dX11_leads_79 4 rfl (nI_add _ 1) (by decide) rfl ?_
                  refine j_goto (tgt := 13) C dX11_leads_82 (by decide) ?_
                  refine j_lv [1, 2, 3, 4, 0] rfl ?_
                  exact ih13 (o + 1) (by omega) (by omega) (anyB_f.mpr (fun k hk => (Nat.lt_succ_iff_lt_or_eq.mp hk).elim (anyB_f.mp hf2 k) (fun e => by rw [e]; exact decide_eq_false (by omega))))
                · refine j_aload_n C dX11_leads_41 rfl 0 rfl ?_
                  refine j_getV C hwX11 31 0 12 (MR.in0 hM (by decide) (by decide)) rfl rfl (by decide) rfl 0 (hM.2.2.2 12 rfl) hL40 dX11_leads_42 ?_
                  refine j_iload_n C dX11_leads_45 rfl 3 rfl ?_
                  have hb46 : M 38 r ≤ 5 := hB 38 r (decide_eq_true (show r < 40 by omega))
                  refine j_iald C 38 0 r (MR.in0 hM (by decide) (by decide)) rfl rfl 40 (hM.2.2.1 38 (by decide) (by decide)) (by omega) (by omega) (nI (M 38 r)) (hM.1 38 r (decide_eq_true (show r < 40 by omega))) dX11_leads_46 ?_
                  refine j_iload_n C dX11_leads_47 rfl 1 rfl ?_
                  refine j_icmp_ne (tgt := 79) C dX11_leads_48 (by decide) (nI_eq (by omega) (by omega)) (fun h48 => ?_) (fun h48 => ?_)
                  · refine j_iinc C [(4, .int (nI (o + 1))), (0, .ref (gA Λ 31 0)), (1, .int (nI a)), (2, .int (nI b)), (3, .int (nI r))] (nI (o + 1)) dX11_leads_79 4 rfl (nI_add _ 1) (by decide) rfl ?_
                    refine j_goto (tgt := 13) C dX11_leads_82 (by decide) ?_
                    refine j_lv [1, 2, 3, 4, 0] rfl ?_
                    exact ih13 (o + 1) (by omega) (by omega) (anyB_f.mpr (fun k hk => (Nat.lt_succ_iff_lt_or_eq.mp hk).elim (anyB_f.mp hf2 k) (fun e => by rw [e]; exact decide_eq_false (by omega))))
                  · refine j_aload_n C dX11_leads_51 rfl 0 rfl ?_
                    refine j_getV C hwX11 31 0 12 (MR.in0 hM (by decide) (by decide)) rfl rfl (by decide) rfl 0 (hM.2.2.2 12 rfl) hL40 dX11_leads_52 ?_
                    refine j_iload C dX11_leads_55 4 rfl ?_
                    have hb57 : M 38 o ≤ 5 := hB 38 o (decide_eq_true (show o < 40 by omega))
                    refine j_iald C 38 0 o (MR.in0 hM (by decide) (by decide)) rfl rfl 40 (hM.2.2.1 38 (by decide) (by decide)) (by omega) (by omega) (nI (M 38 o)) (hM.1 38 o (decide_eq_true (show o < 40 by omega))) dX11_leads_57 ?_
                    refine j_iload_n C dX11_leads_58 rfl 2 rfl ?_
                    refine j_icmp_ne (tgt := 79) C dX11_leads_59 (by decide) (nI_eq (by omega) (by omega)) (fun h59 => ?_) (fun h59 => ?_)
                    · refine j_iinc C [(4, .int (nI (o + 1))), (0, .ref (gA Λ 31 0)), (1, .int (nI a)), (2, .int (nI b)), (3, .int (nI r))] (nI (o + 1)) dX11_leads_79 4 rfl (nI_add _ 1) (by decide) rfl ?_
                      refine j_goto (tgt := 13) C dX11_leads_82 (by decide) ?_
                      refine j_lv [1, 2, 3, 4, 0] rfl ?_
                      exact ih13 (o + 1) (by omega) (by omega) (anyB_f.mpr (fun k hk => (Nat.lt_succ_iff_lt_or_eq.mp hk).elim (anyB_f.mp hf2 k) (fun e => by rw [e]; exact decide_eq_false (by omega))))
                    · refine j_aload_n C dX11_leads_62 rfl 0 rfl ?_
                      refine j_getV C hwX11 31 0 6 (MR.in0 hM (by decide) (by decide)) rfl rfl (by decide) rfl 0 (hM.2.2.2 6 rfl) hL20 dX11_leads_63 ?_
                      refine j_iconst C (nI 0) dX11_leads_66 (by decide) ?_
                      refine j_iload_n C dX11_leads_67 rfl 3 rfl ?_
                      refine j_iload C dX11_leads_68 4 rfl ?_
                      refine c_i0 C (r_S C [.int (nI 0), .int (nI r), .int (nI o)] (c_X11_cell l D cy base Λ σ 0 r o) (va_cwS 3 hts gX11_leads_X11_cell rfl rfl rfl (by decide +kernel) ⟨by decide, by decide⟩) rfl rfl (Nat.le_of_ble_eq_true rfl) dX11_leads_70 ⟨by decide, by decide⟩) (fun rv uu hp => ?_)
                      rw [hp.1, hp.2]
                      have hb73 : M 35 ((40 * 0 + r) * 40 + o) ≤ 999999 := hB 35 ((40 * 0 + r) * 40 + o) (decide_eq_true (show (40 * 0 + r) * 40 + o < 4800 by omega))
                      refine j_iald C 35 0 ((40 * 0 + r) * 40 + o) (MR.in0 hM (by decide) (by decide)) rfl rfl 4800 (hM.2.2.1 35 (by decide) (by decide)) (by omega) (by omega) (nI (M 35 ((40 * 0 + r) * 40 + o))) (hM.1 35 ((40 * 0 + r) * 40 + o) (decide_eq_true (show (40 * 0 + r) * 40 + o < 4800 by omega))) dX11_leads_73 ?_
                      refine j_if_le (tgt := 79) C dX11_leads_74 (by decide) (nJ_le0 (by omega)) (fun h74 => ?_) (fun h74 => ?_)
                      · refine j_iinc C [(4, .int (nI (o + 1))), (0, .ref (gA Λ 31 0)), (1, .int (nI a)), (2, .int (nI b)), (3, .int (nI r))] (nI (o + 1)) dX11_leads_79 4 rfl (nI_add _ 1) (by decide) rfl ?_
                        refine j_goto (tgt := 13) C dX11_leads_82 (by decide) ?_
                        refine j_lv [1, 2, 3, 4, 0] rfl ?_
                        exact ih13 (o + 1) (by omega) (by omega) (anyB_f.mpr (fun k hk => (Nat.lt_succ_iff_lt_or_eq.mp hk).elim (anyB_f.mp hf2 k) (fun e => by rw [e]; exact decide_eq_false (by omega))))
                      · refine j_iconst C (nI 1) dX11_leads_77 (by decide) ?_
                        exact j_zret C (by first | rfl | exact nz_b _ | exact nz_n (by omega)) hr hlk (⟨rt1 (anyB_t.mpr ⟨r, by omega, anyB_t.mpr ⟨o, by omega, decide_eq_true (by omega)⟩⟩), rfl⟩) dX11_leads_78
        refine j_lv [1, 2, 3, 4, 0] rfl ?_
        exact lb13 _ 0 (Nat.lt_succ_self _) (by omega) rfl
  refine j_lv [1, 2, 3, 0] rfl ?_
  exact lb2 _ 0 (Nat.lt_succ_self _) (by omega) rfl
