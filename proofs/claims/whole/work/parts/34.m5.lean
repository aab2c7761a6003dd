set_option maxHeartbeats 4000000 in
set_option maxRecDepth 100000 in
theorem c_X11_bad1 (l : Launch) (D : va_G) (cy : Nat → ClassId) (base : Nat) (Λ : LY) (σ : HS) (M : MM) (hM : MR Λ σ M) (w : Nat) : Met l yX11_bad wsX11_bad ({ frames := 4, cells := 0, slots := 0, locals := 60 }) (va_Pc [.ref (gA Λ 31 0), .int (nI 1), .int (nI w)] (Wd D cy base Λ σ)) (va_Qi (fun v u => v = nI 1 ∧ MR Λ u (mS M 31 0 w) ∧ Same nMo σ u) (Wd D cy base Λ) (Ab base)) 0 0 (Ab base) := by
  refine j_start (cc := cX11_bad) (nL := 3) (ret := (some .boolean)) (lv := [(0, .ref (gA Λ 31 0)), (1, .int (nI 1)), (2, .int (nI w))]) (by decide) rfl (Nat.le_of_ble_eq_true rfl) rfl ?_
  intro p e s m below meth c C hr hlk hnm
  have C : Cx p s m ([.ref (gA Λ 31 0), .int (nI 1), .int (nI w)] : List Value).toArray c cX11_bad 3 RX11 wsX11_bad D cy base := C
  have hts := C.2.2.2.2.1
  have hwX11 : ∀ w ∈ u_ws RX11 TX11 26, w ∈ wsX11_bad := by decide +kernel
  have hM73 : (Cond.fieldLink RX11 73 (TX11 0).1 (TX11 0).2.1 (TX11 0).2.2.1).before ([.ref (gA Λ 31 0), .int (nI 1), .int (nI w)] : List Value).toArray s = true := hts (.fieldLink RX11 73 "CodeRoomsModel" "thrown" "I") (by decide +kernel)
  have hL73 : FL RX11 73 (TX11 0).1 (TX11 0).2.1 (TX11 0).2.2.1 ([.ref (gA Λ 31 0), .int (nI 1), .int (nI w)] : List Value).toArray s := Or.inl hM73
  refine j_iload_n C dX11_bad_0 rfl 1 rfl ?_
  refine j_if_eq (tgt := 9) C (P := False) dX11_bad_1 (by decide) (by decide) (fun z => ?_) (fun z => ?_)
  · exact z.elim
  · refine j_aload_n C dX11_bad_4 rfl 0 rfl ?_
    refine j_iload_n C dX11_bad_5 rfl 2 rfl ?_
    refine j_putI C hwX11 31 0 0 (MR.in0 hM (by decide) (by decide)) rfl rfl (by decide) rfl tyX11 tyX11_ok nmX11 rfl rfl rfl hL73 dX11_bad_6 ?_
    have hM_2 := MR.set (t := 31) (k := 0) (x := w) (v := (nI w)) hM rfl
    have hs_3 := Same.sI (t := 31) (i := 0) (k := 0) (x := (nI w)) (Same.rf : Same nMo σ σ) (by decide)
    refine j_iload_n C dX11_bad_9 rfl 1 rfl ?_
    exact j_zret C (by first | rfl | exact nz_b _ | exact nz_n (by omega)) hr hlk (⟨rfl, hM_2, hs_3⟩) dX11_bad_10

set_option maxHeartbeats 4000000 in
set_option maxRecDepth 100000 in
theorem c_X11_bad0 (l : Launch) (D : va_G) (cy : Nat → ClassId) (base : Nat) (Λ : LY) (σ : HS) (h31 : 0 < gC Λ 31) (w : Nat) : Met l yX11_bad wsX11_bad ({ frames := 4, cells := 0, slots := 0, locals := 60 }) (va_Pc [.ref (gA Λ 31 0), .int (nI 0), .int (nI w)] (Wd D cy base Λ σ)) (va_Qi (fun v u => v = nI 0 ∧ u = σ) (Wd D cy base Λ) (Ab base)) 0 0 (Ab base) := by
  refine j_start (cc := cX11_bad) (nL := 3) (ret := (some .boolean)) (lv := [(0, .ref (gA Λ 31 0)), (1, .int (nI 0)), (2, .int (nI w))]) (by decide) rfl (Nat.le_of_ble_eq_true rfl) rfl ?_
  intro p e s m below meth c C hr hlk hnm
  have C : Cx p s m ([.ref (gA Λ 31 0), .int (nI 0), .int (nI w)] : List Value).toArray c cX11_bad 3 RX11 wsX11_bad D cy base := C
  have hts := C.2.2.2.2.1
  refine j_iload_n C dX11_bad_0 rfl 1 rfl ?_
  refine j_if_eq (tgt := 9) C (P := True) dX11_bad_1 (by decide) (by decide) (fun z => ?_) (fun z => ?_)
  · refine j_iload_n C dX11_bad_9 rfl 1 rfl ?_
    exact j_zret C (by first | rfl | exact nz_b _ | exact nz_n (by omega)) hr hlk (⟨rfl, rfl⟩) dX11_bad_10
  · exact absurd trivial z

set_option maxHeartbeats 4000000 in
set_option maxRecDepth 100000 in
theorem c_mhub_e1 (l : Launch) (D : va_G) (cy : Nat → ClassId) (base : Nat) (Λ : LY) (σ : HS) (M : MM) (hM0 : MR0 Λ σ M) (h00 : M 31 0 = 0) (hB : MBd M) (r : Int32) (hA : inR M r = false) : Met l yX11_hub wsX11_hub ({ frames := 24, cells := 0, slots := 0, locals := 360 }) (va_Pc [.ref (gA Λ 31 0), .int (r)] (Wd D cy base Λ σ)) (va_Qi (fun v u => MR Λ u (mS M 31 0 1) ∧ Same nMo σ u) (Wd D cy base Λ) (Ab base)) 0 0 (Ab base) := by
  refine j_start (cc := cX11_hub) (nL := 2) (ret := (some .boolean)) (lv := [(0, .ref (gA Λ 31 0)), (1, .int (r))]) (by decide) rfl (Nat.le_of_ble_eq_true rfl) rfl ?_
  intro p e s m below meth c C hr hlk hnm
  have C : Cx p s m ([.ref (gA Λ 31 0), .int (r)] : List Value).toArray c cX11_hub 2 RX11 wsX11_hub D cy base := C
  have hts := C.2.2.2.2.1
  have hwX11 : ∀ w ∈ u_ws RX11 TX11 26, w ∈ wsX11_hub := by decide +kernel
  have hM73 : (Cond.fieldLink RX11 73 (TX11 0).1 (TX11 0).2.1 (TX11 0).2.2.1).before ([.ref (gA Λ 31 0), .int (r)] : List Value).toArray s = true := hts (.fieldLink RX11 73 "CodeRoomsModel" "thrown" "I") (by decide +kernel)
  have hL73 : FL RX11 73 (TX11 0).1 (TX11 0).2.1 (TX11 0).2.2.1 ([.ref (gA Λ 31 0), .int (r)] : List Value).toArray s := Or.inl hM73
  have hn : M 31 5 ≤ 40 := hB 31 5 rfl
  refine j_aload_n C dX11_hub_0 rfl 0 rfl ?_
  refine j_iconst C (nI 0) dX11_hub_1 (by decide) ?_
  refine j_putI C hwX11 31 0 0 (MR0.in0 hM0) rfl rfl (by decide) rfl tyX11 tyX11_ok nmX11 rfl rfl rfl hL73 dX11_hub_2 ?_
  have hM := MR0.start hM0 h00
  have hs0 : Same nMo σ (sI σ 31 0 0 (nI 0)) := Same.sI Same.rf (by decide)
  generalize sI σ 31 0 0 (nI 0) = σ0 at hM hs0 ⊢
  refine j_aload_n C dX11_hub_5 rfl 0 rfl ?_
  refine j_aload_n C dX11_hub_6 rfl 0 rfl ?_
  refine j_iload_n C dX11_hub_7 rfl 1 rfl ?_
  refine c_i0 C (r_V C 31 0 [.int (r)] (c_X11_isRoutine l D cy base Λ σ0 M hM hB (r)) (cwV 1 hts gX11_hub_X11_isRoutine rfl rfl rfl (by decide +kernel) ⟨by decide, by decide⟩) (MR.in0 hM (by decide) (by decide)) rfl rfl rfl rfl (Nat.le_of_ble_eq_true rfl) dX11_hub_8 ⟨by decide, by decide⟩) (fun rv uu hp => ?_)
  rw [hp.1, hp.2]
  refine j_ifne_b (tgt := 18) C dX11_hub_11 (by decide) (fun h11 => ?_) (fun h11 => ?_)
  · exact absurd (h11.symm.trans hA) (by decide)
  · refine j_iconst C (nI 1) dX11_hub_14 (by decide) ?_
    refine j_goto (tgt := 19) C dX11_hub_15 (by decide) ?_
    refine j_iconst C (nI 1) dX11_hub_19 (by decide) ?_
    refine c_i0 C (r_V C 31 0 [.int (nI 1), .int (nI 1)] (c_X11_bad1 l D cy base Λ σ0 M hM 1) (cwV 2 hts gX11_hub_X11_bad rfl rfl rfl (by decide +kernel) ⟨by decide, by decide⟩) (MR.in0 hM (by decide) (by decide)) rfl rfl rfl rfl (Nat.le_of_ble_eq_true rfl) dX11_hub_20 ⟨by decide, by decide⟩) (fun rv ub_2 hp => ?_)
    obtain ⟨hp1, hMb_2, hp3⟩ := hp
    have hsb_2 := Same.tr hs0 hp3
    rw [hp1]
    refine j_if_ne (tgt := 39) C (P := False) dX11_hub_23 (by decide) (by decide) (fun z => ?_) (fun z => ?_)
    · refine j_iconst C (nI 0) dX11_hub_39 (by decide) ?_
      exact j_zret C (by first | rfl | exact nz_b _ | exact nz_n (by omega)) hr hlk (⟨hMb_2, hsb_2⟩) dX11_hub_40
    · exact z.elim

set_option maxHeartbeats 4000000 in
set_option maxRecDepth 100000 in
theorem c_mroom_e1 (l : Launch) (D : va_G) (cy : Nat → ClassId) (base : Nat) (Λ : LY) (σ : HS) (M : MM) (hM0 : MR0 Λ σ M) (h00 : M 31 0 = 0) (hB : MBd M) (r : Int32) (hA : inR M r = false) : Met l yX11_room wsX11_room ({ frames := 24, cells := 0, slots := 0, locals := 360 }) (va_Pc [.ref (gA Λ 31 0), .int (r)] (Wd D cy base Λ σ)) (va_Qi (fun v u => MR Λ u (mS M 31 0 1) ∧ Same nMo σ u) (Wd D cy base Λ) (Ab base)) 0 0 (Ab base) := by
  refine j_start (cc := cX11_room) (nL := 2) (ret := (some .int)) (lv := [(0, .ref (gA Λ 31 0)), (1, .int (r))]) (by decide) rfl (Nat.le_of_ble_eq_true rfl) rfl ?_
  intro p e s m below meth c C hr hlk hnm
  have C : Cx p s m ([.ref (gA Λ 31 0), .int (r)] : List Value).toArray c cX11_room 2 RX11 wsX11_room D cy base := C
  have hts := C.2.2.2.2.1
  have hwX11 : ∀ w ∈ u_ws RX11 TX11 26, w ∈ wsX11_room := by decide +kernel
  have hM73 : (Cond.fieldLink RX11 73 (TX11 0).1 (TX11 0).2.1 (TX11 0).2.2.1).before ([.ref (gA Λ 31 0), .int (r)] : List Value).toArray s = true := hts (.fieldLink RX11 73 "CodeRoomsModel" "thrown" "I") (by decide +kernel)
  have hL73 : FL RX11 73 (TX11 0).1 (TX11 0).2.1 (TX11 0).2.2.1 ([.ref (gA Λ 31 0), .int (r)] : List Value).toArray s := Or.inl hM73
  have hn : M 31 5 ≤ 40 := hB 31 5 rfl
  refine j_aload_n C dX11_room_0 rfl 0 rfl ?_
  refine j_iconst C (nI 0) dX11_room_1 (by decide) ?_
  refine j_putI C hwX11 31 0 0 (MR0.in0 hM0) rfl rfl (by decide) rfl tyX11 tyX11_ok nmX11 rfl rfl rfl hL73 dX11_room_2 ?_
  have hM := MR0.start hM0 h00
  have hs0 : Same nMo σ (sI σ 31 0 0 (nI 0)) := Same.sI Same.rf (by decide)
  generalize sI σ 31 0 0 (nI 0) = σ0 at hM hs0 ⊢
  refine j_aload_n C dX11_room_5 rfl 0 rfl ?_
  refine j_aload_n C dX11_room_6 rfl 0 rfl ?_
  refine j_iload_n C dX11_room_7 rfl 1 rfl ?_
  refine c_i0 C (r_V C 31 0 [.int (r)] (c_X11_isRoutine l D cy base Λ σ0 M hM hB (r)) (cwV 1 hts gX11_room_X11_isRoutine rfl rfl rfl (by decide +kernel) ⟨by decide, by decide⟩) (MR.in0 hM (by decide) (by decide)) rfl rfl rfl rfl (Nat.le_of_ble_eq_true rfl) dX11_room_8 ⟨by decide, by decide⟩) (fun rv uu hp => ?_)
  rw [hp.1, hp.2]
  refine j_ifne_b (tgt := 18) C dX11_room_11 (by decide) (fun h11 => ?_) (fun h11 => ?_)
  · exact absurd (h11.symm.trans hA) (by decide)
  · refine j_iconst C (nI 1) dX11_room_14 (by decide) ?_
    refine j_goto (tgt := 19) C dX11_room_15 (by decide) ?_
    refine j_iconst C (nI 1) dX11_room_19 (by decide) ?_
    refine c_i0 C (r_V C 31 0 [.int (nI 1), .int (nI 1)] (c_X11_bad1 l D cy base Λ σ0 M hM 1) (cwV 2 hts gX11_room_X11_bad rfl rfl rfl (by decide +kernel) ⟨by decide, by decide⟩) (MR.in0 hM (by decide) (by decide)) rfl rfl rfl rfl (Nat.le_of_ble_eq_true rfl) dX11_room_20 ⟨by decide, by decide⟩) (fun rv ub_2 hp => ?_)
    obtain ⟨hp1, hMb_2, hp3⟩ := hp
    have hsb_2 := Same.tr hs0 hp3
    rw [hp1]
    refine j_if_eq (tgt := 30) C (P := False) dX11_room_23 (by decide) (by decide) (fun z => ?_) (fun z => ?_)
    · exact z.elim
    · refine j_iconst C (nI 0) dX11_room_26 (by decide) ?_
      refine j_goto (tgt := 49) C dX11_room_27 (by decide) ?_
      exact j_iret C hr hlk (⟨hMb_2, hsb_2⟩) dX11_room_49

set_option maxHeartbeats 4000000 in
set_option maxRecDepth 100000 in
theorem c_mput_e1 (l : Launch) (D : va_G) (cy : Nat → ClassId) (base : Nat) (Λ : LY) (σ : HS) (M : MM) (hM0 : MR0 Λ σ M) (h00 : M 31 0 = 0) (hB : MBd M) (r : Int32) (hA : inR M r = false) (rm : Int32) : Met l yX11_put wsX11_put ({ frames := 24, cells := 0, slots := 0, locals := 360 }) (va_Pc [.ref (gA Λ 31 0), .int (r), .int (rm)] (Wd D cy base Λ σ)) (va_Qi (fun v u => MR Λ u (mS M 31 0 1) ∧ Same nMo σ u) (Wd D cy base Λ) (Ab base)) 0 0 (Ab base) := by
  refine j_start (cc := cX11_put) (nL := 4) (ret := (some .int)) (lv := [(0, .ref (gA Λ 31 0)), (1, .int (r)), (2, .int (rm))]) (by decide) rfl (Nat.le_of_ble_eq_true rfl) rfl ?_
  intro p e s m below meth c C hr hlk hnm
  have C : Cx p s m ([.ref (gA Λ 31 0), .int (r), .int (rm)] : List Value).toArray c cX11_put 4 RX11 wsX11_put D cy base := C
  have hts := C.2.2.2.2.1
  have hwX11 : ∀ w ∈ u_ws RX11 TX11 26, w ∈ wsX11_put := by decide +kernel
  have hM73 : (Cond.fieldLink RX11 73 (TX11 0).1 (TX11 0).2.1 (TX11 0).2.2.1).before ([.ref (gA Λ 31 0), .int (r), .int (rm)] : List Value).toArray s = true := hts (.fieldLink RX11 73 "CodeRoomsModel" "thrown" "I") (by decide +kernel)
  have hL73 : FL RX11 73 (TX11 0).1 (TX11 0).2.1 (TX11 0).2.2.1 ([.ref (gA Λ 31 0), .int (r), .int (rm)] : List Value).toArray s := Or.inl hM73
  have hn : M 31 5 ≤ 40 := hB 31 5 rfl
  refine j_aload_n C dX11_put_0 rfl 0 rfl ?_
  refine j_iconst C (nI 0) dX11_put_1 (by decide) ?_
  refine j_putI C hwX11 31 0 0 (MR0.in0 hM0) rfl rfl (by decide) rfl tyX11 tyX11_ok nmX11 rfl rfl rfl hL73 dX11_put_2 ?_
  have hM := MR0.start hM0 h00
  have hs0 : Same nMo σ (sI σ 31 0 0 (nI 0)) := Same.sI Same.rf (by decide)
  generalize sI σ 31 0 0 (nI 0) = σ0 at hM hs0 ⊢
  refine j_aload_n C dX11_put_5 rfl 0 rfl ?_
  refine j_aload_n C dX11_put_6 rfl 0 rfl ?_
  refine j_iload_n C dX11_put_7 rfl 1 rfl ?_
  refine c_i0 C (r_V C 31 0 [.int (r)] (c_X11_isRoutine l D cy base Λ σ0 M hM hB (r)) (cwV 1 hts gX11_put_X11_isRoutine rfl rfl rfl (by decide +kernel) ⟨by decide, by decide⟩) (MR.in0 hM (by decide) (by decide)) rfl rfl rfl rfl (Nat.le_of_ble_eq_true rfl) dX11_put_8 ⟨by decide, by decide⟩) (fun rv uu hp => ?_)
  rw [hp.1, hp.2]
  refine j_ifne_b (tgt := 18) C dX11_put_11 (by decide) (fun h11 => ?_) (fun h11 => ?_)
  · exact absurd (h11.symm.trans hA) (by decide)
  · refine j_iconst C (nI 1) dX11_put_14 (by decide) ?_
    refine j_goto (tgt := 19) C dX11_put_15 (by decide) ?_
    refine j_iconst C (nI 1) dX11_put_19 (by decide) ?_
    refine c_i0 C (r_V C 31 0 [.int (nI 1), .int (nI 1)] (c_X11_bad1 l D cy base Λ σ0 M hM 1) (cwV 2 hts gX11_put_X11_bad rfl rfl rfl (by decide +kernel) ⟨by decide, by decide⟩) (MR.in0 hM (by decide) (by decide)) rfl rfl rfl rfl (Nat.le_of_ble_eq_true rfl) dX11_put_20 ⟨by decide, by decide⟩) (fun rv ub_2 hp => ?_)
    obtain ⟨hp1, hMb_2, hp3⟩ := hp
    have hsb_2 := Same.tr hs0 hp3
    rw [hp1]
    refine j_if_ne (tgt := 47) C (P := False) dX11_put_23 (by decide) (by decide) (fun z => ?_) (fun z => ?_)
    · refine j_iconst C (nI 0) dX11_put_47 (by decide) ?_
      exact j_iret C hr hlk (⟨hMb_2, hsb_2⟩) dX11_put_48
    · exact z.elim

set_option maxHeartbeats 4000000 in
set_option maxRecDepth 100000 in
theorem c_mfix_e1 (l : Launch) (D : va_G) (cy : Nat → ClassId) (base : Nat) (Λ : LY) (σ : HS) (M : MM) (hM0 : MR0 Λ σ M) (h00 : M 31 0 = 0) (hB : MBd M) (r : Int32) (hA : inR M r = false) (rm : Int32) : Met l yX11_fix wsX11_fix ({ frames := 24, cells := 0, slots := 0, locals := 360 }) (va_Pc [.ref (gA Λ 31 0), .int (r), .int (rm)] (Wd D cy base Λ σ)) (va_Qi (fun v u => MR Λ u (mS M 31 0 1) ∧ Same nMo σ u) (Wd D cy base Λ) (Ab base)) 0 0 (Ab base) := by
  refine j_start (cc := cX11_fix) (nL := 4) (ret := (some .int)) (lv := [(0, .ref (gA Λ 31 0)), (1, .int (r)), (2, .int (rm))]) (by decide) rfl (Nat.le_of_ble_eq_true rfl) rfl ?_
  intro p e s m below meth c C hr hlk hnm
  have C : Cx p s m ([.ref (gA Λ 31 0), .int (r), .int (rm)] : List Value).toArray c cX11_fix 4 RX11 wsX11_fix D cy base := C
  have hts := C.2.2.2.2.1
  have hwX11 : ∀ w ∈ u_ws RX11 TX11 26, w ∈ wsX11_fix := by decide +kernel
  have hM73 : (Cond.fieldLink RX11 73 (TX11 0).1 (TX11 0).2.1 (TX11 0).2.2.1).before ([.ref (gA Λ 31 0), .int (r), .int (rm)] : List Value).toArray s = true := hts (.fieldLink RX11 73 "CodeRoomsModel" "thrown" "I") (by decide +kernel)
  have hL73 : FL RX11 73 (TX11 0).1 (TX11 0).2.1 (TX11 0).2.2.1 ([.ref (gA Λ 31 0), .int (r), .int (rm)] : List Value).toArray s := Or.inl hM73
  have hn : M 31 5 ≤ 40 := hB 31 5 rfl
  refine j_aload_n C dX11_fix_0 rfl 0 rfl ?_
  refine j_iconst C (nI 0) dX11_fix_1 (by decide) ?_
  refine j_putI C hwX11 31 0 0 (MR0.in0 hM0) rfl rfl (by decide) rfl tyX11 tyX11_ok nmX11 rfl rfl rfl hL73 dX11_fix_2 ?_
  have hM := MR0.start hM0 h00
  have hs0 : Same nMo σ (sI σ 31 0 0 (nI 0)) := Same.sI Same.rf (by decide)
  generalize sI σ 31 0 0 (nI 0) = σ0 at hM hs0 ⊢
  refine j_aload_n C dX11_fix_5 rfl 0 rfl ?_
  refine j_aload_n C dX11_fix_6 rfl 0 rfl ?_
  refine j_iload_n C dX11_fix_7 rfl 1 rfl ?_
  refine c_i0 C (r_V C 31 0 [.int (r)] (c_X11_isRoutine l D cy base Λ σ0 M hM hB (r)) (cwV 1 hts gX11_fix_X11_isRoutine rfl rfl rfl (by decide +kernel) ⟨by decide, by decide⟩) (MR.in0 hM (by decide) (by decide)) rfl rfl rfl rfl (Nat.le_of_ble_eq_true rfl) dX11_fix_8 ⟨by decide, by decide⟩) (fun rv uu hp => ?_)
  rw [hp.1, hp.2]
  refine j_ifne_b (tgt := 18) C dX11_fix_11 (by decide) (fun h11 => ?_) (fun h11 => ?_)
  · exact absurd (h11.symm.trans hA) (by decide)
  · refine j_iconst C (nI 1) dX11_fix_14 (by decide) ?_
    refine j_goto (tgt := 19) C dX11_fix_15 (by decide) ?_
    refine j_iconst C (nI 1) dX11_fix_19 (by decide) ?_
    refine c_i0 C (r_V C 31 0 [.int (nI 1), .int (nI 1)] (c_X11_bad1 l D cy base Λ σ0 M hM 1) (cwV 2 hts gX11_fix_X11_bad rfl rfl rfl (by decide +kernel) ⟨by decide, by decide⟩) (MR.in0 hM (by decide) (by decide)) rfl rfl rfl rfl (Nat.le_of_ble_eq_true rfl) dX11_fix_20 ⟨by decide, by decide⟩) (fun rv ub_2 hp => ?_)
    obtain ⟨hp1, hMb_2, hp3⟩ := hp
    have hsb_2 := Same.tr hs0 hp3
    rw [hp1]
    refine j_if_ne (tgt := 50) C (P := False) dX11_fix_23 (by decide) (by decide) (fun z => ?_) (fun z => ?_)
    · refine j_iconst C (nI 0) dX11_fix_50 (by decide) ?_
      exact j_iret C hr hlk (⟨hMb_2, hsb_2⟩) dX11_fix_51
    · exact z.elim

set_option maxHeartbeats 4000000 in
set_option maxRecDepth 100000 in
theorem c_mborder_e1 (l : Launch) (D : va_G) (cy : Nat → ClassId) (base : Nat) (Λ : LY) (σ : HS) (M : MM) (hM0 : MR0 Λ σ M) (h00 : M 31 0 = 0) (hB : MBd M) (r : Int32) (hA : inR M r = false) : Met l yX11_border wsX11_border ({ frames := 24, cells := 0, slots := 0, locals := 360 }) (va_Pc [.ref (gA Λ 31 0), .int (r)] (Wd D cy base Λ σ)) (va_Ql (fun v u => MR Λ u (mS M 31 0 1) ∧ Same nMo σ u) (Wd D cy base Λ) (Ab base)) 0 0 (Ab base) := by
  refine j_start (cc := cX11_border) (nL := 8) (ret := (some .long)) (lv := [(0, .ref (gA Λ 31 0)), (1, .int (r))]) (by decide) rfl (Nat.le_of_ble_eq_true rfl) rfl ?_
  intro p e s m below meth c C hr hlk hnm
  have C : Cx p s m ([.ref (gA Λ 31 0), .int (r)] : List Value).toArray c cX11_border 8 RX11 wsX11_border D cy base := C
  have hts := C.2.2.2.2.1
  have hwX11 : ∀ w ∈ u_ws RX11 TX11 26, w ∈ wsX11_border := by decide +kernel
  have hM73 : (Cond.fieldLink RX11 73 (TX11 0).1 (TX11 0).2.1 (TX11 0).2.2.1).before ([.ref (gA Λ 31 0), .int (r)] : List Value).toArray s = true := hts (.fieldLink RX11 73 "CodeRoomsModel" "thrown" "I") (by decide +kernel)
  have hL73 : FL RX11 73 (TX11 0).1 (TX11 0).2.1 (TX11 0).2.2.1 ([.ref (gA Λ 31 0), .int (r)] : List Value).toArray s := Or.inl hM73
  have hn : M 31 5 ≤ 40 := hB 31 5 rfl
  refine j_aload_n C dX11_border_0 rfl 0 rfl ?_
  refine j_iconst C (nI 0) dX11_border_1 (by decide) ?_
  refine j_putI C hwX11 31 0 0 (MR0.in0 hM0) rfl rfl (by decide) rfl tyX11 tyX11_ok nmX11 rfl rfl rfl hL73 dX11_border_2 ?_
  have hM := MR0.start hM0 h00
  have hs0 : Same nMo σ (sI σ 31 0 0 (nI 0)) := Same.sI Same.rf (by decide)
  generalize sI σ 31 0 0 (nI 0) = σ0 at hM hs0 ⊢
  refine j_aload_n C dX11_border_5 rfl 0 rfl ?_
  refine j_aload_n C dX11_border_6 rfl 0 rfl ?_
  refine j_iload_n C dX11_border_7 rfl 1 rfl ?_
  refine c_i0 C (r_V C 31 0 [.int (r)] (c_X11_isRoutine l D cy base Λ σ0 M hM hB (r)) (cwV 1 hts gX11_border_X11_isRoutine rfl rfl rfl (by decide +kernel) ⟨by decide, by decide⟩) (MR.in0 hM (by decide) (by decide)) rfl rfl rfl rfl (Nat.le_of_ble_eq_true rfl) dX11_border_8 ⟨by decide, by decide⟩) (fun rv uu hp => ?_)
  rw [hp.1, hp.2]
  refine j_ifne_b (tgt := 18) C dX11_border_11 (by decide) (fun h11 => ?_) (fun h11 => ?_)
  · exact absurd (h11.symm.trans hA) (by decide)
  · refine j_iconst C (nI 1) dX11_border_14 (by decide) ?_
    refine j_goto (tgt := 19) C dX11_border_15 (by decide) ?_
    refine j_iconst C (nI 1) dX11_border_19 (by decide) ?_
    refine c_i0 C (r_V C 31 0 [.int (nI 1), .int (nI 1)] (c_X11_bad1 l D cy base Λ σ0 M hM 1) (cwV 2 hts gX11_border_X11_bad rfl rfl rfl (by decide +kernel) ⟨by decide, by decide⟩) (MR.in0 hM (by decide) (by decide)) rfl rfl rfl rfl (Nat.le_of_ble_eq_true rfl) dX11_border_20 ⟨by decide, by decide⟩) (fun rv ub_2 hp => ?_)
    obtain ⟨hp1, hMb_2, hp3⟩ := hp
    have hsb_2 := Same.tr hs0 hp3
    rw [hp1]
    refine j_if_eq (tgt := 28) C (P := False) dX11_border_23 (by decide) (by decide) (fun z => ?_) (fun z => ?_)
    · exact z.elim
    · refine j_lconst C (zL 0) dX11_border_26 (by decide) ?_
      exact j_lret C hr hlk (⟨hMb_2, hsb_2⟩) dX11_border_27

set_option maxHeartbeats 4000000 in
set_option maxRecDepth 100000 in
theorem c_mhub_ok (l : Launch) (D : va_G) (cy : Nat → ClassId) (base : Nat) (Λ : LY) (σ : HS) (M : MM) (hM0 : MR0 Λ σ M) (h00 : M 31 0 = 0) (hB : MBd M) (j : Nat) (hj : j < M 31 5) : Met l yX11_hub wsX11_hub ({ frames := 16, cells := 0, slots := 0, locals := 240 }) (va_Pc [.ref (gA Λ 31 0), .int (nI j)] (Wd D cy base Λ σ)) (va_Qi (fun v u => MR Λ u M ∧ Same nMo σ u ∧ v = nI (M 37 j)) (Wd D cy base Λ) (Ab base)) 0 0 (Ab base) := by
  refine j_start (cc := cX11_hub) (nL := 2) (ret := (some .boolean)) (lv := [(0, .ref (gA Λ 31 0)), (1, .int (nI j))]) (by decide) rfl (Nat.le_of_ble_eq_true rfl) rfl ?_
  intro p e s m below meth c C hr hlk hnm
  have C : Cx p s m ([.ref (gA Λ 31 0), .int (nI j)] : List Value).toArray c cX11_hub 2 RX11 wsX11_hub D cy base := C
  have hts := C.2.2.2.2.1
  have hwX11 : ∀ w ∈ u_ws RX11 TX11 26, w ∈ wsX11_hub := by decide +kernel
  have hM36 : (Cond.fieldLink RX11 36 (TX11 11).1 (TX11 11).2.1 (TX11 11).2.2.1).before ([.ref (gA Λ 31 0), .int (nI j)] : List Value).toArray s = true := hts (.fieldLink RX11 36 "CodeRoomsModel" "isHub" "[Z") (by decide +kernel)
  have hL36 : FL RX11 36 (TX11 11).1 (TX11 11).2.1 (TX11 11).2.2.1 ([.ref (gA Λ 31 0), .int (nI j)] : List Value).toArray s := Or.inl hM36
  have hM73 : (Cond.fieldLink RX11 73 (TX11 0).1 (TX11 0).2.1 (TX11 0).2.2.1).before ([.ref (gA Λ 31 0), .int (nI j)] : List Value).toArray s = true := hts (.fieldLink RX11 73 "CodeRoomsModel" "thrown" "I") (by decide +kernel)
  have hL73 : FL RX11 73 (TX11 0).1 (TX11 0).2.1 (TX11 0).2.2.1 ([.ref (gA Λ 31 0), .int (nI j)] : List Value).toArray s := Or.inl hM73
  have hn : M 31 5 ≤ 40 := hB 31 5 rfl
  refine j_aload_n C dX11_hub_0 rfl 0 rfl ?_
  refine j_iconst C (nI 0) dX11_hub_1 (by decide) ?_
  refine j_putI C hwX11 31 0 0 (MR0.in0 hM0) rfl rfl (by decide) rfl tyX11 tyX11_ok nmX11 rfl rfl rfl hL73 dX11_hub_2 ?_
  have hM := MR0.start hM0 h00
  have hs0 : Same nMo σ (sI σ 31 0 0 (nI 0)) := Same.sI Same.rf (by decide)
  generalize sI σ 31 0 0 (nI 0) = σ0 at hM hs0 ⊢
  refine j_aload_n C dX11_hub_5 rfl 0 rfl ?_
  refine j_aload_n C dX11_hub_6 rfl 0 rfl ?_
  refine j_iload_n C dX11_hub_7 rfl 1 rfl ?_
  refine c_i0 C (r_V C 31 0 [.int (nI j)] (c_X11_isRoutine l D cy base Λ σ0 M hM hB (nI j)) (cwV 1 hts gX11_hub_X11_isRoutine rfl rfl rfl (by decide +kernel) ⟨by decide, by decide⟩) (MR.in0 hM (by decide) (by decide)) rfl rfl rfl rfl (Nat.le_of_ble_eq_true rfl) dX11_hub_8 ⟨by decide, by decide⟩) (fun rv uu hp => ?_)
  rw [hp.1, hp.2]
  refine j_ifne_b (tgt := 18) C dX11_hub_11 (by decide) (fun h11 => ?_) (fun h11 => ?_)
  · refine j_iconst C (nI 0) dX11_hub_18 (by decide) ?_
    refine j_iconst C (nI 1) dX11_hub_19 (by decide) ?_
    refine c_i0 C (r_V C 31 0 [.int (nI 0), .int (nI 1)] (c_X11_bad0 l D cy base Λ σ0 (MR.in0 hM (by decide) (by decide)) 1) (cwV 2 hts gX11_hub_X11_bad rfl rfl rfl (by decide +kernel) ⟨by decide, by decide⟩) (MR.in0 hM (by decide) (by decide)) rfl rfl rfl rfl (Nat.le_of_ble_eq_true rfl) dX11_hub_20 ⟨by decide, by decide⟩) (fun rv uu hp => ?_)
    rw [hp.1, hp.2]
    refine j_if_ne (tgt := 39) C (P := True) dX11_hub_23 (by decide) (by decide) (fun z => ?_) (fun z => ?_)
    · exact absurd trivial z
    · refine j_aload_n C dX11_hub_26 rfl 0 rfl ?_
      refine j_getV C hwX11 31 0 11 (MR.in0 hM (by decide) (by decide)) rfl rfl (by decide) rfl 0 (hM.2.2.2 11 rfl) hL36 dX11_hub_27 ?_
      refine j_iload_n C dX11_hub_30 rfl 1 rfl ?_
      have hb31 : M 37 j ≤ 1 := hB 37 j (decide_eq_true (show j < 40 by omega))
      refine j_zald C 37 0 j (MR.in0 hM (by decide) (by decide)) rfl rfl 40 (hM.2.2.1 37 (by decide) (by decide)) (by omega) (by omega) (nI (M 37 j)) (hM.1 37 j (decide_eq_true (show j < 40 by omega))) dX11_hub_31 ?_
      refine j_if_eq (tgt := 39) C dX11_hub_32 (by decide) (nJ_eq0 (by omega)) (fun h32 => ?_) (fun h32 => ?_)
      · refine j_iconst C (nI 0) dX11_hub_39 (by decide) ?_
        exact j_zret C (by first | rfl | exact nz_b _ | exact nz_n (by omega)) hr hlk (⟨hM, hs0, (by rw [show M 37 j = 0 by omega])⟩) dX11_hub_40
      · refine j_iconst C (nI 1) dX11_hub_35 (by decide) ?_
        refine j_goto (tgt := 40) C dX11_hub_36 (by decide) ?_
        exact j_zret C (by first | rfl | exact nz_b _ | exact nz_n (by omega)) hr hlk (⟨hM, hs0, (by rw [show M 37 j = 1 by omega])⟩) dX11_hub_40
  · exact absurd (h11.symm.trans (inR_nI hB hj)) (by decide)

set_option maxHeartbeats 4000000 in
set_option maxRecDepth 100000 in
theorem c_mroom_ok (l : Launch) (D : va_G) (cy : Nat → ClassId) (base : Nat) (Λ : LY) (σ : HS) (M : MM) (hM0 : MR0 Λ σ M) (h00 : M 31 0 = 0) (hB : MBd M) (j : Nat) (hj : j < M 31 5) : Met l yX11_room wsX11_room ({ frames := 16, cells := 0, slots := 0, locals := 240 }) (va_Pc [.ref (gA Λ 31 0), .int (nI j)] (Wd D cy base Λ σ)) (va_Qi (fun v u => MR Λ u M ∧ Same nMo σ u ∧ v = if M 37 j = 0 then nI (M 38 j) else -1) (Wd D cy base Λ) (Ab base)) 0 0 (Ab base) := by
  refine j_start (cc := cX11_room) (nL := 2) (ret := (some .int)) (lv := [(0, .ref (gA Λ 31 0)), (1, .int (nI j))]) (by decide) rfl (Nat.le_of_ble_eq_true rfl) rfl ?_
  intro p e s m below meth c C hr hlk hnm
  have C : Cx p s m ([.ref (gA Λ 31 0), .int (nI j)] : List Value).toArray c cX11_room 2 RX11 wsX11_room D cy base := C
  have hts := C.2.2.2.2.1
  have hwX11 : ∀ w ∈ u_ws RX11 TX11 26, w ∈ wsX11_room := by decide +kernel
  have hM36 : (Cond.fieldLink RX11 36 (TX11 11).1 (TX11 11).2.1 (TX11 11).2.2.1).before ([.ref (gA Λ 31 0), .int (nI j)] : List Value).toArray s = true := hts (.fieldLink RX11 36 "CodeRoomsModel" "isHub" "[Z") (by decide +kernel)
  have hL36 : FL RX11 36 (TX11 11).1 (TX11 11).2.1 (TX11 11).2.2.1 ([.ref (gA Λ 31 0), .int (nI j)] : List Value).toArray s := Or.inl hM36
  have hM40 : (Cond.fieldLink RX11 40 (TX11 12).1 (TX11 12).2.1 (TX11 12).2.2.1).before ([.ref (gA Λ 31 0), .int (nI j)] : List Value).toArray s = true := hts (.fieldLink RX11 40 "CodeRoomsModel" "roomOf" "[I") (by decide +kernel)
  have hL40 : FL RX11 40 (TX11 12).1 (TX11 12).2.1 (TX11 12).2.2.1 ([.ref (gA Λ 31 0), .int (nI j)] : List Value).toArray s := Or.inl hM40
  have hM73 : (Cond.fieldLink RX11 73 (TX11 0).1 (TX11 0).2.1 (TX11 0).2.2.1).before ([.ref (gA Λ 31 0), .int (nI j)] : List Value).toArray s = true := hts (.fieldLink RX11 73 "CodeRoomsModel" "thrown" "I") (by decide +kernel)
  have hL73 : FL RX11 73 (TX11 0).1 (TX11 0).2.1 (TX11 0).2.2.1 ([.ref (gA Λ 31 0), .int (nI j)] : List Value).toArray s := Or.inl hM73
  have hn : M 31 5 ≤ 40 := hB 31 5 rfl
  refine j_aload_n C dX11_room_0 rfl 0 rfl ?_
  refine j_iconst C (nI 0) dX11_room_1 (by decide) ?_
  refine j_putI C hwX11 31 0 0 (MR0.in0 hM0) rfl rfl (by decide) rfl tyX11 tyX11_ok nmX11 rfl rfl rfl hL73 dX11_room_2 ?_
  have hM := MR0.start hM0 h00
  have hs0 : Same nMo σ (sI σ 31 0 0 (nI 0)) := Same.sI Same.rf (by decide)
  generalize sI σ 31 0 0 (nI 0) = σ0 at hM hs0 ⊢
  refine j_aload_n C dX11_room_5 rfl 0 rfl ?_
  refine j_aload_n C dX11_room_6 rfl 0 rfl ?_
  refine j_iload_n C dX11_room_7 rfl 1 rfl ?_
  refine c_i0 C (r_V C 31 0 [.int (nI j)] (c_X11_isRoutine l D cy base Λ σ0 M hM hB (nI j)) (cwV 1 hts gX11_room_X11_isRoutine rfl rfl rfl (by decide +kernel) ⟨by decide, by decide⟩) (MR.in0 hM (by decide) (by decide)) rfl rfl rfl rfl (Nat.le_of_ble_eq_true rfl) dX11_room_8 ⟨by decide, by decide⟩) (fun rv uu hp => ?_)
  rw [hp.1, hp.2]
  refine j_ifne_b (tgt := 18) C dX11_room_11 (by decide) (fun h11 => ?_) (fun h11 => ?_)
  · refine j_iconst C (nI 0) dX11_room_18 (by decide) ?_
    refine j_iconst C (nI 1) dX11_room_19 (by decide) ?_
    refine c_i0 C (r_V C 31 0 [.int (nI 0), .int (nI 1)] (c_X11_bad0 l D cy base Λ σ0 (MR.in0 hM (by decide) (by decide)) 1) (cwV 2 hts gX11_room_X11_bad rfl rfl rfl (by decide +kernel) ⟨by decide, by decide⟩) (MR.in0 hM (by decide) (by decide)) rfl rfl rfl rfl (Nat.le_of_ble_eq_true rfl) dX11_room_20 ⟨by decide, by decide⟩) (fun rv uu hp => ?_)
    rw [hp.1, hp.2]
    refine j_if_eq (tgt := 30) C (P := True) dX11_room_23 (by decide) (by decide) (fun z => ?_) (fun z => ?_)
    · refine j_aload_n C dX11_room_30 rfl 0 rfl ?_
      refine j_getV C hwX11 31 0 11 (MR.in0 hM (by decide) (by decide)) rfl rfl (by decide) rfl 0 (hM.2.2.2 11 rfl) hL36 dX11_room_31 ?_
      refine j_iload_n C dX11_room_34 rfl 1 rfl ?_
      have hb35 : M 37 j ≤ 1 := hB 37 j (decide_eq_true (show j < 40 by omega))
      refine j_zald C 37 0 j (MR.in0 hM (by decide) (by decide)) rfl rfl 40 (hM.2.2.1 37 (by decide) (by decide)) (by omega) (by omega) (nI (M 37 j)) (hM.1 37 j (decide_eq_true (show j < 40 by omega))) dX11_room_35 ?_
      refine j_if_eq (tgt := 43) C dX11_room_36 (by decide) (nJ_eq0 (by omega)) (fun h36 => ?_) (fun h36 => ?_)
      · refine j_aload_n C dX11_room_43 rfl 0 rfl ?_
        refine j_getV C hwX11 31 0 12 (MR.in0 hM (by decide) (by decide)) rfl rfl (by decide) rfl 0 (hM.2.2.2 12 rfl) hL40 dX11_room_44 ?_
        refine j_iload_n C dX11_room_47 rfl 1 rfl ?_
        have hb48 : M 38 j ≤ 5 := hB 38 j (decide_eq_true (show j < 40 by omega))
        refine j_iald C 38 0 j (MR.in0 hM (by decide) (by decide)) rfl rfl 40 (hM.2.2.1 38 (by decide) (by decide)) (by omega) (by omega) (nI (M 38 j)) (hM.1 38 j (decide_eq_true (show j < 40 by omega))) dX11_room_48 ?_
        exact j_iret C hr hlk (⟨hM, hs0, (by simp [h36])⟩) dX11_room_49
      · refine j_iconst C ((-1)) dX11_room_39 (by decide) ?_
        refine j_goto (tgt := 49) C dX11_room_40 (by decide) ?_
        exact j_iret C hr hlk (⟨hM, hs0, (by simp [h36])⟩) dX11_room_49
    · exact absurd trivial z
  · exact absurd (h11.symm.trans (inR_nI hB hj)) (by decide)

set_option maxHeartbeats 4000000 in
set_option maxRecDepth 100000 in
theorem c_mput_e2 (l : Launch) (D : va_G) (cy : Nat → ClassId) (base : Nat) (Λ : LY) (σ : HS) (M : MM) (hM0 : MR0 Λ σ M) (h00 : M 31 0 = 0) (hB : MBd M) (j : Nat) (hj : j < M 31 5) (rm : Int32) (hA : inRm M rm = false) : Met l yX11_put wsX11_put ({ frames := 16, cells := 0, slots := 0, locals := 240 }) (va_Pc [.ref (gA Λ 31 0), .int (nI j), .int (rm)] (Wd D cy base Λ σ)) (va_Qi (fun v u => MR Λ u (mS M 31 0 2) ∧ Same nMo σ u) (Wd D cy base Λ) (Ab base)) 0 0 (Ab base) := by
  refine j_start (cc := cX11_put) (nL := 4) (ret := (some .int)) (lv := [(0, .ref (gA Λ 31 0)), (1, .int (nI j)), (2, .int (rm))]) (by decide) rfl (Nat.le_of_ble_eq_true rfl) rfl ?_
  intro p e s m below meth c C hr hlk hnm
  have C : Cx p s m ([.ref (gA Λ 31 0), .int (nI j), .int (rm)] : List Value).toArray c cX11_put 4 RX11 wsX11_put D cy base := C
  have hts := C.2.2.2.2.1
  have hwX11 : ∀ w ∈ u_ws RX11 TX11 26, w ∈ wsX11_put := by decide +kernel
  have hM73 : (Cond.fieldLink RX11 73 (TX11 0).1 (TX11 0).2.1 (TX11 0).2.2.1).before ([.ref (gA Λ 31 0), .int (nI j), .int (rm)] : List Value).toArray s = true := hts (.fieldLink RX11 73 "CodeRoomsModel" "thrown" "I") (by decide +kernel)
  have hL73 : FL RX11 73 (TX11 0).1 (TX11 0).2.1 (TX11 0).2.2.1 ([.ref (gA Λ 31 0), .int (nI j), .int (rm)] : List Value).toArray s := Or.inl hM73
  have hn : M 31 5 ≤ 40 := hB 31 5 rfl
  refine j_aload_n C dX11_put_0 rfl 0 rfl ?_
  refine j_iconst C (nI 0) dX11_put_1 (by decide) ?_
  refine j_putI C hwX11 31 0 0 (MR0.in0 hM0) rfl rfl (by decide) rfl tyX11 tyX11_ok nmX11 rfl rfl rfl hL73 dX11_put_2 ?_
  have hM := MR0.start hM0 h00
  have hs0 : Same nMo σ (sI σ 31 0 0 (nI 0)) := Same.sI Same.rf (by decide)
  generalize sI σ 31 0 0 (nI 0) = σ0 at hM hs0 ⊢
  refine j_aload_n C dX11_put_5 rfl 0 rfl ?_
  refine j_aload_n C dX11_put_6 rfl 0 rfl ?_
  refine j_iload_n C dX11_put_7 rfl 1 rfl ?_
  refine c_i0 C (r_V C 31 0 [.int (nI j)] (c_X11_isRoutine l D cy base Λ σ0 M hM hB (nI j)) (cwV 1 hts gX11_put_X11_isRoutine rfl rfl rfl (by decide +kernel) ⟨by decide, by decide⟩) (MR.in0 hM (by decide) (by decide)) rfl rfl rfl rfl (Nat.le_of_ble_eq_true rfl) dX11_put_8 ⟨by decide, by decide⟩) (fun rv uu hp => ?_)
  rw [hp.1, hp.2]
  refine j_ifne_b (tgt := 18) C dX11_put_11 (by decide) (fun h11 => ?_) (fun h11 => ?_)
  · refine j_iconst C (nI 0) dX11_put_18 (by decide) ?_
    refine j_iconst C (nI 1) dX11_put_19 (by decide) ?_
    refine c_i0 C (r_V C 31 0 [.int (nI 0), .int (nI 1)] (c_X11_bad0 l D cy base Λ σ0 (MR.in0 hM (by decide) (by decide)) 1) (cwV 2 hts gX11_put_X11_bad rfl rfl rfl (by decide +kernel) ⟨by decide, by decide⟩) (MR.in0 hM (by decide) (by decide)) rfl rfl rfl rfl (Nat.le_of_ble_eq_true rfl) dX11_put_20 ⟨by decide, by decide⟩) (fun rv uu hp => ?_)
    rw [hp.1, hp.2]
    refine j_if_ne (tgt := 47) C (P := True) dX11_put_23 (by decide) (by decide) (fun z => ?_) (fun z => ?_)
    · exact absurd trivial z
    · refine j_aload_n C dX11_put_26 rfl 0 rfl ?_
      refine j_aload_n C dX11_put_27 rfl 0 rfl ?_
      refine j_iload_n C dX11_put_28 rfl 2 rfl ?_
      refine c_i0 C (r_V C 31 0 [.int (rm)] (c_X11_isRoom l D cy base Λ σ0 M hM hB (rm)) (cwV 1 hts gX11_put_X11_isRoom rfl rfl rfl (by decide +kernel) ⟨by decide, by decide⟩) (MR.in0 hM (by decide) (by decide)) rfl rfl rfl rfl (Nat.le_of_ble_eq_true rfl) dX11_put_29 ⟨by decide, by decide⟩) (fun rv uu hp => ?_)
      rw [hp.1, hp.2]
      refine j_ifne_b (tgt := 39) C dX11_put_32 (by decide) (fun h32 => ?_) (fun h32 => ?_)
      · exact absurd (h32.symm.trans hA) (by decide)
      · refine j_iconst C (nI 1) dX11_put_35 (by decide) ?_
        refine j_goto (tgt := 40) C dX11_put_36 (by decide) ?_
        refine j_iconst C (nI 2) dX11_put_40 (by decide) ?_
        refine c_i0 C (r_V C 31 0 [.int (nI 1), .int (nI 2)] (c_X11_bad1 l D cy base Λ σ0 M hM 2) (cwV 2 hts gX11_put_X11_bad rfl rfl rfl (by decide +kernel) ⟨by decide, by decide⟩) (MR.in0 hM (by decide) (by decide)) rfl rfl rfl rfl (Nat.le_of_ble_eq_true rfl) dX11_put_41 ⟨by decide, by decide⟩) (fun rv ub_4 hp => ?_)
        obtain ⟨hp1, hMb_4, hp3⟩ := hp
        have hsb_4 := Same.tr hs0 hp3
        rw [hp1]
        refine j_if_eq (tgt := 49) C (P := False) dX11_put_44 (by decide) (by decide) (fun z => ?_) (fun z => ?_)
        · exact z.elim
        · refine j_iconst C (nI 0) dX11_put_47 (by decide) ?_
          exact j_iret C hr hlk (⟨hMb_4, hsb_4⟩) dX11_put_48
  · exact absurd (h11.symm.trans (inR_nI hB hj)) (by decide)

set_option maxHeartbeats 4000000 in
set_option maxRecDepth 100000 in
theorem c_mput_ok (l : Launch) (D : va_G) (cy : Nat → ClassId) (base : Nat) (Λ : LY) (σ : HS) (M : MM) (hM0 : MR0 Λ σ M) (h00 : M 31 0 = 0) (hB : MBd M) (j rm : Nat) (hj : j < M 31 5) (hrm : rm < M 31 10) : Met l yX11_put wsX11_put ({ frames := 16, cells := 0, slots := 0, locals := 240 }) (va_Pc [.ref (gA Λ 31 0), .int (nI j), .int (nI rm)] (Wd D cy base Λ σ)) (va_Qi (fun v u => MR Λ u (if M 37 j = 0 then mS M 38 j rm else M) ∧ Same nMo σ u ∧ v = if M 37 j = 0 then nI (M 38 j) else -1) (Wd D cy base Λ) (Ab base)) 0 0 (Ab base) := by
  refine j_start (cc := cX11_put) (nL := 4) (ret := (some .int)) (lv := [(0, .ref (gA Λ 31 0)), (1, .int (nI j)), (2, .int (nI rm))]) (by decide) rfl (Nat.le_of_ble_eq_true rfl) rfl ?_
  intro p e s m below meth c C hr hlk hnm
  have C : Cx p s m ([.ref (gA Λ 31 0), .int (nI j), .int (nI rm)] : List Value).toArray c cX11_put 4 RX11 wsX11_put D cy base := C
  have hts := C.2.2.2.2.1
  have hwX11 : ∀ w ∈ u_ws RX11 TX11 26, w ∈ wsX11_put := by decide +kernel
  have hM36 : (Cond.fieldLink RX11 36 (TX11 11).1 (TX11 11).2.1 (TX11 11).2.2.1).before ([.ref (gA Λ 31 0), .int (nI j), .int (nI rm)] : List Value).toArray s = true := hts (.fieldLink RX11 36 "CodeRoomsModel" "isHub" "[Z") (by decide +kernel)
  have hL36 : FL RX11 36 (TX11 11).1 (TX11 11).2.1 (TX11 11).2.2.1 ([.ref (gA Λ 31 0), .int (nI j), .int (nI rm)] : List Value).toArray s := Or.inl hM36
  have hM40 : (Cond.fieldLink RX11 40 (TX11 12).1 (TX11 12).2.1 (TX11 12).2.2.1).before ([.ref (gA Λ 31 0), .int (nI j), .int (nI rm)] : List Value).toArray s = true := hts (.fieldLink RX11 40 "CodeRoomsModel" "roomOf" "[I") (by decide +kernel)
  have hL40 : FL RX11 40 (TX11 12).1 (TX11 12).2.1 (TX11 12).2.2.1 ([.ref (gA Λ 31 0), .int (nI j), .int (nI rm)] : List Value).toArray s := Or.inl hM40
  have hM73 : (Cond.fieldLink RX11 73 (TX11 0).1 (TX11 0).2.1 (TX11 0).2.2.1).before ([.ref (gA Λ 31 0), .int (nI j), .int (nI rm)] : List Value).toArray s = true := hts (.fieldLink RX11 73 "CodeRoomsModel" "thrown" "I") (by decide +kernel)
  have hL73 : FL RX11 73 (TX11 0).1 (TX11 0).2.1 (TX11 0).2.2.1 ([.ref (gA Λ 31 0), .int (nI j), .int (nI rm)] : List Value).toArray s := Or.inl hM73
  have hn : M 31 5 ≤ 40 := hB 31 5 rfl
  refine j_aload_n C dX11_put_0 rfl 0 rfl ?_
  refine j_iconst C (nI 0) dX11_put_1 (by decide) ?_
  refine j_putI C hwX11 31 0 0 (MR0.in0 hM0) rfl rfl (by decide) rfl tyX11 tyX11_ok nmX11 rfl rfl rfl hL73 dX11_put_2 ?_
  have hM := MR0.start hM0 h00
  have hs0 : Same nMo σ (sI σ 31 0 0 (nI 0)) := Same.sI Same.rf (by decide)
  generalize sI σ 31 0 0 (nI 0) = σ0 at hM hs0 ⊢
  refine j_aload_n C dX11_put_5 rfl 0 rfl ?_
  refine j_aload_n C dX11_put_6 rfl 0 rfl ?_
  refine j_iload_n C dX11_put_7 rfl 1 rfl ?_
  refine c_i0 C (r_V C 31 0 [.int (nI j)] (c_X11_isRoutine l D cy base Λ σ0 M hM hB (nI j)) (cwV 1 hts gX11_put_X11_isRoutine rfl rfl rfl (by decide +kernel) ⟨by decide, by decide⟩) (MR.in0 hM (by decide) (by decide)) rfl rfl rfl rfl (Nat.le_of_ble_eq_true rfl) dX11_put_8 ⟨by decide, by decide⟩) (fun rv uu hp => ?_)
  rw [hp.1, hp.2]
  refine j_ifne_b (tgt := 18) C dX11_put_11 (by decide) (fun h11 => ?_) (fun h11 => ?_)
  · refine j_iconst C (nI 0) dX11_put_18 (by decide) ?_
    refine j_iconst C (nI 1) dX11_put_19 (by decide) ?_
    refine c_i0 C (r_V C 31 0 [.int (nI 0), .int (nI 1)] (c_X11_bad0 l D cy base Λ σ0 (MR.in0 hM (by decide) (by decide)) 1) (cwV 2 hts gX11_put_X11_bad rfl rfl rfl (by decide +kernel) ⟨by decide, by decide⟩) (MR.in0 hM (by decide) (by decide)) rfl rfl rfl rfl (Nat.le_of_ble_eq_true rfl) dX11_put_20 ⟨by decide, by decide⟩) (fun rv uu hp => ?_)
    rw [hp.1, hp.2]
    refine j_if_ne (tgt := 47) C (P := True) dX11_put_23 (by decide) (by decide) (fun z => ?_) (fun z => ?_)
    · exact absurd trivial z
    · refine j_aload_n C dX11_put_26 rfl 0 rfl ?_
      refine j_aload_n C dX11_put_27 rfl 0 rfl ?_
      refine j_iload_n C dX11_put_28 rfl 2 rfl ?_
      refine c_i0 C (r_V C 31 0 [.int (nI rm)] (c_X11_isRoom l D cy base Λ σ0 M hM hB (nI rm)) (cwV 1 hts gX11_put_X11_isRoom rfl rfl rfl (by decide +kernel) ⟨by decide, by decide⟩) (MR.in0 hM (by decide) (by decide)) rfl rfl rfl rfl (Nat.le_of_ble_eq_true rfl) dX11_put_29 ⟨by decide, by decide⟩) (fun rv uu hp => ?_)
      rw [hp.1, hp.2]
      refine j_ifne_b (tgt := 39) C dX11_put_32 (by decide) (fun h32 => ?_) (fun h32 => ?_)
      · refine j_iconst C (nI 0) dX11_put_39 (by decide) ?_
        refine j_iconst C (nI 2) dX11_put_40 (by decide) ?_
        refine c_i0 C (r_V C 31 0 [.int (nI 0), .int (nI 2)] (c_X11_bad0 l D cy base Λ σ0 (MR.in0 hM (by decide) (by decide)) 2) (cwV 2 hts gX11_put_X11_bad rfl rfl rfl (by decide +kernel) ⟨by decide, by decide⟩) (MR.in0 hM (by decide) (by decide)) rfl rfl rfl rfl (Nat.le_of_ble_eq_true rfl) dX11_put_41 ⟨by decide, by decide⟩) (fun rv uu hp => ?_)
        rw [hp.1, hp.2]
        refine j_if_eq (tgt := 49) C (P := True) dX11_put_44 (by decide) (by decide) (fun z => ?_) (fun z => ?_)
        · refine j_aload_n C dX11_put_49 rfl 0 rfl ?_
          refine j_getV C hwX11 31 0 11 (MR.in0 hM (by decide) (by decide)) rfl rfl (by decide) rfl 0 (hM.2.2.2 11 rfl) hL36 dX11_put_50 ?_
          refine j_iload_n C dX11_put_53 rfl 1 rfl ?_
          have hb54 : M 37 j ≤ 1 := hB 37 j (decide_eq_true (show j < 40 by omega))
          refine j_zald C 37 0 j (MR.in0 hM (by decide) (by decide)) rfl rfl 40 (hM.2.2.1 37 (by decide) (by decide)) (by omega) (by omega) (nI (M 37 j)) (hM.1 37 j (decide_eq_true (show j < 40 by omega))) dX11_put_54 ?_
          refine j_if_eq (tgt := 60) C dX11_put_55 (by decide) (nJ_eq0 (by omega)) (fun h55 => ?_) (fun h55 => ?_)
          · refine j_aload_n C dX11_put_60 rfl 0 rfl ?_
            refine j_getV C hwX11 31 0 12 (MR.in0 hM (by decide) (by decide)) rfl rfl (by decide) rfl 0 (hM.2.2.2 12 rfl) hL40 dX11_put_61 ?_
            refine j_iload_n C dX11_put_64 rfl 1 rfl ?_
            have hb65 : M 38 j ≤ 5 := hB 38 j (decide_eq_true (show j < 40 by omega))
            refine j_iald C 38 0 j (MR.in0 hM (by decide) (by decide)) rfl rfl 40 (hM.2.2.1 38 (by decide) (by decide)) (by omega) (by omega) (nI (M 38 j)) (hM.1 38 j (decide_eq_true (show j < 40 by omega))) dX11_put_65 ?_
            refine j_istore_n C [(3, .int (nI (M 38 j))), (0, .ref (gA Λ 31 0)), (1, .int (nI j)), (2, .int (nI rm))] dX11_put_66 rfl (by decide) rfl ?_
            refine j_aload_n C dX11_put_67 rfl 1 rfl ?_
            refine j_getV C hwX11 31 0 12 (MR.in0 hM (by decide) (by decide)) rfl rfl (by decide) rfl 0 (hM.2.2.2 12 rfl) hL40 dX11_put_68 ?_
            refine j_iload_n C dX11_put_71 rfl 2 rfl ?_
            refine j_iload_n C dX11_put_72 rfl 3 rfl ?_
            refine j_iast C 38 0 j (MR.in0 hM (by decide) (by decide)) rfl rfl 40 (hM.2.2.1 38 (by decide) (by decide)) (by omega) (by omega) (nI rm) rfl dX11_put_73 ?_
            have hM_6 := MR.set (t := 38) (k := j) (x := rm) (v := (nI rm)) hM rfl
            have hs_7 := Same.sI (t := 38) (i := 0) (k := j) (x := (nI rm)) hs0 (by decide)
            refine j_iload_n C dX11_put_74 rfl 0 rfl ?_
            exact j_iret C hr hlk (⟨(by rw [if_pos h55]; exact hM_6), hs_7, (by simp [h55])⟩) dX11_put_75
          · refine j_iconst C ((-1)) dX11_put_58 (by decide) ?_
            exact j_iret C hr hlk (⟨(by rw [if_neg h55]; exact hM), hs0, (by simp [h55])⟩) dX11_put_59
        · exact absurd trivial z
      · exact absurd (h32.symm.trans (inRm_nI hB hrm)) (by decide)
  · exact absurd (h11.symm.trans (inR_nI hB hj)) (by decide)

set_option maxHeartbeats 4000000 in
set_option maxRecDepth 100000 in
theorem c_mfix_e2 (l : Launch) (D : va_G) (cy : Nat → ClassId) (base : Nat) (Λ : LY) (σ : HS) (M : MM) (hM0 : MR0 Λ σ M) (h00 : M 31 0 = 0) (hB : MBd M) (j : Nat) (hj : j < M 31 5) (rm : Int32) (hA : rm < -1 ∨ nI 6 ≤ rm) : Met l yX11_fix wsX11_fix ({ frames := 16, cells := 0, slots := 0, locals := 240 }) (va_Pc [.ref (gA Λ 31 0), .int (nI j), .int (rm)] (Wd D cy base Λ σ)) (va_Qi (fun v u => MR Λ u (mS M 31 0 2) ∧ Same nMo σ u) (Wd D cy base Λ) (Ab base)) 0 0 (Ab base) := by
  refine j_start (cc := cX11_fix) (nL := 4) (ret := (some .int)) (lv := [(0, .ref (gA Λ 31 0)), (1, .int (nI j)), (2, .int (rm))]) (by decide) rfl (Nat.le_of_ble_eq_true rfl) rfl ?_
  intro p e s m below meth c C hr hlk hnm
  have C : Cx p s m ([.ref (gA Λ 31 0), .int (nI j), .int (rm)] : List Value).toArray c cX11_fix 4 RX11 wsX11_fix D cy base := C
  have hts := C.2.2.2.2.1
  have hwX11 : ∀ w ∈ u_ws RX11 TX11 26, w ∈ wsX11_fix := by decide +kernel
  have hM73 : (Cond.fieldLink RX11 73 (TX11 0).1 (TX11 0).2.1 (TX11 0).2.2.1).before ([.ref (gA Λ 31 0), .int (nI j), .int (rm)] : List Value).toArray s = true := hts (.fieldLink RX11 73 "CodeRoomsModel" "thrown" "I") (by decide +kernel)
  have hL73 : FL RX11 73 (TX11 0).1 (TX11 0).2.1 (TX11 0).2.2.1 ([.ref (gA Λ 31 0), .int (nI j), .int (rm)] : List Value).toArray s := Or.inl hM73
  have hn : M 31 5 ≤ 40 := hB 31 5 rfl
  refine j_aload_n C dX11_fix_0 rfl 0 rfl ?_
  refine j_iconst C (nI 0) dX11_fix_1 (by decide) ?_
  refine j_putI C hwX11 31 0 0 (MR0.in0 hM0) rfl rfl (by decide) rfl tyX11 tyX11_ok nmX11 rfl rfl rfl hL73 dX11_fix_2 ?_
  have hM := MR0.start hM0 h00
  have hs0 : Same nMo σ (sI σ 31 0 0 (nI 0)) := Same.sI Same.rf (by decide)
  generalize sI σ 31 0 0 (nI 0) = σ0 at hM hs0 ⊢
  refine j_aload_n C dX11_fix_5 rfl 0 rfl ?_
  refine j_aload_n C dX11_fix_6 rfl 0 rfl ?_
  refine j_iload_n C dX11_fix_7 rfl 1 rfl ?_
  refine c_i0 C (r_V C 31 0 [.int (nI j)] (c_X11_isRoutine l D cy base Λ σ0 M hM hB (nI j)) (cwV 1 hts gX11_fix_X11_isRoutine rfl rfl rfl (by decide +kernel) ⟨by decide, by decide⟩) (MR.in0 hM (by decide) (by decide)) rfl rfl rfl rfl (Nat.le_of_ble_eq_true rfl) dX11_fix_8 ⟨by decide, by decide⟩) (fun rv uu hp => ?_)
  rw [hp.1, hp.2]
  refine j_ifne_b (tgt := 18) C dX11_fix_11 (by decide) (fun h11 => ?_) (fun h11 => ?_)
  · refine j_iconst C (nI 0) dX11_fix_18 (by decide) ?_
    refine j_iconst C (nI 1) dX11_fix_19 (by decide) ?_
    refine c_i0 C (r_V C 31 0 [.int (nI 0), .int (nI 1)] (c_X11_bad0 l D cy base Λ σ0 (MR.in0 hM (by decide) (by decide)) 1) (cwV 2 hts gX11_fix_X11_bad rfl rfl rfl (by decide +kernel) ⟨by decide, by decide⟩) (MR.in0 hM (by decide) (by decide)) rfl rfl rfl rfl (Nat.le_of_ble_eq_true rfl) dX11_fix_20 ⟨by decide, by decide⟩) (fun rv uu hp => ?_)
    rw [hp.1, hp.2]
    refine j_if_ne (tgt := 50) C (P := True) dX11_fix_23 (by decide) (by decide) (fun z => ?_) (fun z => ?_)
    · exact absurd trivial z
    · refine j_aload_n C dX11_fix_26 rfl 0 rfl ?_
      refine j_iload_n C dX11_fix_27 rfl 2 rfl ?_
      refine j_iconst C ((-1)) dX11_fix_28 (by decide) ?_
      refine j_icmp_lt (tgt := 38) C dX11_fix_29 (by decide) Iff.rfl (fun h29 => ?_) (fun h29 => ?_)
      · refine j_iconst C (nI 1) dX11_fix_38 (by decide) ?_
        refine j_goto (tgt := 43) C dX11_fix_39 (by decide) ?_
        refine j_iconst C (nI 2) dX11_fix_43 (by decide) ?_
        refine c_i0 C (r_V C 31 0 [.int (nI 1), .int (nI 2)] (c_X11_bad1 l D cy base Λ σ0 M hM 2) (cwV 2 hts gX11_fix_X11_bad rfl rfl rfl (by decide +kernel) ⟨by decide, by decide⟩) (MR.in0 hM (by decide) (by decide)) rfl rfl rfl rfl (Nat.le_of_ble_eq_true rfl) dX11_fix_44 ⟨by decide, by decide⟩) (fun rv ub_4 hp => ?_)
        obtain ⟨hp1, hMb_4, hp3⟩ := hp
        have hsb_4 := Same.tr hs0 hp3
        rw [hp1]
        refine j_if_eq (tgt := 52) C (P := False) dX11_fix_47 (by decide) (by decide) (fun z => ?_) (fun z => ?_)
        · exact z.elim
        · refine j_iconst C (nI 0) dX11_fix_50 (by decide) ?_
          exact j_iret C hr hlk (⟨hMb_4, hsb_4⟩) dX11_fix_51
      · refine j_iload_n C dX11_fix_32 rfl 2 rfl ?_
        refine j_bipush C (nI 6) dX11_fix_33 (by decide) ?_
        refine j_icmp_lt (tgt := 42) C dX11_fix_35 (by decide) Iff.rfl (fun h35 => ?_) (fun h35 => ?_)
        · exact absurd hA (fun z => z.elim h29 (fun q => absurd h35 (Int32.not_lt.mpr q)))
        · refine j_iconst C (nI 1) dX11_fix_38 (by decide) ?_
          refine j_goto (tgt := 43) C dX11_fix_39 (by decide) ?_
          refine j_iconst C (nI 2) dX11_fix_43 (by decide) ?_
          refine c_i0 C (r_V C 31 0 [.int (nI 1), .int (nI 2)] (c_X11_bad1 l D cy base Λ σ0 M hM 2) (cwV 2 hts gX11_fix_X11_bad rfl rfl rfl (by decide +kernel) ⟨by decide, by decide⟩) (MR.in0 hM (by decide) (by decide)) rfl rfl rfl rfl (Nat.le_of_ble_eq_true rfl) dX11_fix_44 ⟨by decide, by decide⟩) (fun rv ub_7 hp => ?_)
          obtain ⟨hp1, hMb_7, hp3⟩ := hp
          have hsb_7 := Same.tr hs0 hp3
          rw [hp1]
          refine j_if_eq (tgt := 52) C (P := False) dX11_fix_47 (by decide) (by decide) (fun z => ?_) (fun z => ?_)
          · exact z.elim
          · refine j_iconst C (nI 0) dX11_fix_50 (by decide) ?_
            exact j_iret C hr hlk (⟨hMb_7, hsb_7⟩) dX11_fix_51
  · exact absurd (h11.symm.trans (inR_nI hB hj)) (by decide)

set_option maxHeartbeats 4000000 in
set_option maxRecDepth 100000 in
theorem c_mfix_ok (l : Launch) (D : va_G) (cy : Nat → ClassId) (base : Nat) (Λ : LY) (σ : HS) (M : MM) (hM0 : MR0 Λ σ M) (h00 : M 31 0 = 0) (hB : MBd M) (j x : Nat) (hj : j < M 31 5) (hx : x ≤ 6) : Met l yX11_fix wsX11_fix ({ frames := 16, cells := 0, slots := 0, locals := 240 }) (va_Pc [.ref (gA Λ 31 0), .int (nI j), .int (nI x - 1)] (Wd D cy base Λ σ)) (va_Qi (fun v u => MR Λ u (mS M 40 j x) ∧ Same nMo σ u ∧ v = nI (M 40 j) - 1) (Wd D cy base Λ) (Ab base)) 0 0 (Ab base) := by
  refine j_start (cc := cX11_fix) (nL := 4) (ret := (some .int)) (lv := [(0, .ref (gA Λ 31 0)), (1, .int (nI j)), (2, .int (nI x - 1))]) (by decide) rfl (Nat.le_of_ble_eq_true rfl) rfl ?_
  intro p e s m below meth c C hr hlk hnm
  have C : Cx p s m ([.ref (gA Λ 31 0), .int (nI j), .int (nI x - 1)] : List Value).toArray c cX11_fix 4 RX11 wsX11_fix D cy base := C
  have hts := C.2.2.2.2.1
  have hwX11 : ∀ w ∈ u_ws RX11 TX11 26, w ∈ wsX11_fix := by decide +kernel
  have hM46 : (Cond.fieldLink RX11 46 (TX11 14).1 (TX11 14).2.1 (TX11 14).2.2.1).before ([.ref (gA Λ 31 0), .int (nI j), .int (nI x - 1)] : List Value).toArray s = true := hts (.fieldLink RX11 46 "CodeRoomsModel" "fixed" "[I") (by decide +kernel)
  have hL46 : FL RX11 46 (TX11 14).1 (TX11 14).2.1 (TX11 14).2.2.1 ([.ref (gA Λ 31 0), .int (nI j), .int (nI x - 1)] : List Value).toArray s := Or.inl hM46
  have hM73 : (Cond.fieldLink RX11 73 (TX11 0).1 (TX11 0).2.1 (TX11 0).2.2.1).before ([.ref (gA Λ 31 0), .int (nI j), .int (nI x - 1)] : List Value).toArray s = true := hts (.fieldLink RX11 73 "CodeRoomsModel" "thrown" "I") (by decide +kernel)
  have hL73 : FL RX11 73 (TX11 0).1 (TX11 0).2.1 (TX11 0).2.2.1 ([.ref (gA Λ 31 0), .int (nI j), .int (nI x - 1)] : List Value).toArray s := Or.inl hM73
  have hn : M 31 5 ≤ 40 := hB 31 5 rfl
  refine j_aload_n C dX11_fix_0 rfl 0 rfl ?_
  refine j_iconst C (nI 0) dX11_fix_1 (by decide) ?_
  refine j_putI C hwX11 31 0 0 (MR0.in0 hM0) rfl rfl (by decide) rfl tyX11 tyX11_ok nmX11 rfl rfl rfl hL73 dX11_fix_2 ?_
  have hM := MR0.start hM0 h00
  have hs0 : Same nMo σ (sI σ 31 0 0 (nI 0)) := Same.sI Same.rf (by decide)
  generalize sI σ 31 0 0 (nI 0) = σ0 at hM hs0 ⊢
  refine j_aload_n C dX11_fix_5 rfl 0 rfl ?_
  refine j_aload_n C dX11_fix_6 rfl 0 rfl ?_
  refine j_iload_n C dX11_fix_7 rfl 1 rfl ?_
  refine c_i0 C (r_V C 31 0 [.int (nI j)] (c_X11_isRoutine l D cy base Λ σ0 M hM hB (nI j)) (cwV 1 hts gX11_fix_X11_isRoutine rfl rfl rfl (by decide +kernel) ⟨by decide, by decide⟩) (MR.in0 hM (by decide) (by decide)) rfl rfl rfl rfl (Nat.le_of_ble_eq_true rfl) dX11_fix_8 ⟨by decide, by decide⟩) (fun rv uu hp => ?_)
  rw [hp.1, hp.2]
  refine j_ifne_b (tgt := 18) C dX11_fix_11 (by decide) (fun h11 => ?_) (fun h11 => ?_)
  · refine j_iconst C (nI 0) dX11_fix_18 (by decide) ?_
    refine j_iconst C (nI 1) dX11_fix_19 (by decide) ?_
    refine c_i0 C (r_V C 31 0 [.int (nI 0), .int (nI 1)] (c_X11_bad0 l D cy base Λ σ0 (MR.in0 hM (by decide) (by decide)) 1) (cwV 2 hts gX11_fix_X11_bad rfl rfl rfl (by decide +kernel) ⟨by decide, by decide⟩) (MR.in0 hM (by decide) (by decide)) rfl rfl rfl rfl (Nat.le_of_ble_eq_true rfl) dX11_fix_20 ⟨by decide, by decide⟩) (fun rv uu hp => ?_)
    rw [hp.1, hp.2]
    refine j_if_ne (tgt := 50) C (P := True) dX11_fix_23 (by decide) (by decide) (fun z => ?_) (fun z => ?_)
    · exact absurd trivial z
    · refine j_aload_n C dX11_fix_26 rfl 0 rfl ?_
      refine j_iload_n C dX11_fix_27 rfl 2 rfl ?_
      refine j_iconst C ((-1)) dX11_fix_28 (by decide) ?_
      refine j_icmp_lt (tgt := 38) C dX11_fix_29 (by decide) (m1_lt1 hx) (fun h29 => ?_) (fun h29 => ?_)
      · first | exact h29.elim | exact absurd trivial h35
      · refine j_iload_n C dX11_fix_32 rfl 2 rfl ?_
        refine j_bipush C (nI 6) dX11_fix_33 (by decide) ?_
        refine j_icmp_lt (tgt := 42) C dX11_fix_35 (by decide) (m1_lt6 hx) (fun h35 => ?_) (fun h35 => ?_)
        · refine j_iconst C (nI 0) dX11_fix_42 (by decide) ?_
          refine j_iconst C (nI 2) dX11_fix_43 (by decide) ?_
          refine c_i0 C (r_V C 31 0 [.int (nI 0), .int (nI 2)] (c_X11_bad0 l D cy base Λ σ0 (MR.in0 hM (by decide) (by decide)) 2) (cwV 2 hts gX11_fix_X11_bad rfl rfl rfl (by decide +kernel) ⟨by decide, by decide⟩) (MR.in0 hM (by decide) (by decide)) rfl rfl rfl rfl (Nat.le_of_ble_eq_true rfl) dX11_fix_44 ⟨by decide, by decide⟩) (fun rv uu hp => ?_)
          rw [hp.1, hp.2]
          refine j_if_eq (tgt := 52) C (P := True) dX11_fix_47 (by decide) (by decide) (fun z => ?_) (fun z => ?_)
          · refine j_aload_n C dX11_fix_52 rfl 0 rfl ?_
            refine j_getV C hwX11 31 0 14 (MR.in0 hM (by decide) (by decide)) rfl rfl (by decide) rfl 0 (hM.2.2.2 14 rfl) hL46 dX11_fix_53 ?_
            refine j_iload_n C dX11_fix_56 rfl 1 rfl ?_
            have hb57 : M 40 j ≤ 6 := hB 40 j (decide_eq_true (show j < 40 by omega))
            refine j_iald C 40 0 j (MR.in0 hM (by decide) (by decide)) rfl rfl 40 (hM.2.2.1 40 (by decide) (by decide)) (by omega) (by omega) (nI (M 40 j) - 1) (hM.1 40 j (decide_eq_true (show j < 40 by omega))) dX11_fix_57 ?_
            refine j_istore_n C [(3, .int (nI (M 40 j) - 1)), (0, .ref (gA Λ 31 0)), (1, .int (nI j)), (2, .int (nI x - 1))] dX11_fix_58 rfl (by decide) rfl ?_
            refine j_aload_n C dX11_fix_59 rfl 1 rfl ?_
            refine j_getV C hwX11 31 0 14 (MR.in0 hM (by decide) (by decide)) rfl rfl (by decide) rfl 0 (hM.2.2.2 14 rfl) hL46 dX11_fix_60 ?_
            refine j_iload_n C dX11_fix_63 rfl 2 rfl ?_
            refine j_iload_n C dX11_fix_64 rfl 3 rfl ?_
            refine j_iast C 40 0 j (MR.in0 hM (by decide) (by decide)) rfl rfl 40 (hM.2.2.1 40 (by decide) (by decide)) (by omega) (by omega) (nI x - 1) rfl dX11_fix_65 ?_
            have hM_6 := MR.set (t := 40) (k := j) (x := x) (v := (nI x - 1)) hM rfl
            have hs_7 := Same.sI (t := 40) (i := 0) (k := j) (x := (nI x - 1)) hs0 (by decide)
            refine j_iload_n C dX11_fix_66 rfl 0 rfl ?_
            exact j_iret C hr hlk (⟨hM_6, hs_7, rfl⟩) dX11_fix_67
          · exact absurd trivial z
        · first | exact h29.elim | exact absurd trivial h35
  · exact absurd (h11.symm.trans (inR_nI hB hj)) (by decide)
