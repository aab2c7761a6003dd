set_option maxHeartbeats 4000000 in
set_option maxRecDepth 100000 in
theorem c_known_x (l : Launch) (hlt : l.stackTraces = false) (D : va_G) (cy : Nat → ClassId) (base : Nat) (Λ : LY) (σ : HS) (M : MM) (hC : CR noEx Λ σ M) (hB : MBd M) (r : Int32) (hA : inR M r = false) : vx_Met l yX10_known wsX10_known ({ frames := 8, cells := 1, slots := 6, locals := 120 }) (va_Pc [.ref (gA Λ 0 0), .int (r)] (Wd D cy base Λ σ)) NoR (XQ D cy base Λ σ "java/lang/IndexOutOfBoundsException") 1 6 (Ab base) := by
  refine j_startX (cc := cX10_known) (nL := 2) (ret := (some (.object "CodeRooms$Routine"))) (lv := [(0, .ref (gA Λ 0 0)), (1, .int (r))]) (by decide) rfl (Nat.le_of_ble_eq_true rfl) rfl ?_
  intro p e s m below meth c C htab hlk
  have C : Cx p s m ([.ref (gA Λ 0 0), .int (r)] : List Value).toArray c cX10_known 2 RX10 wsX10_known D cy base := C
  have hts := C.2.2.2.2.1
  have hwX10 : ∀ w ∈ u_ws RX10 TX10 9, w ∈ wsX10_known := by decide +kernel
  have hwX4 : ∀ w ∈ u_ws RX4 TX4 6, w ∈ wsX10_known := by decide +kernel
  have hM24 : (Cond.fieldLink RX10 24 (TX10 2).1 (TX10 2).2.1 (TX10 2).2.2.1).before ([.ref (gA Λ 0 0), .int (r)] : List Value).toArray s = true := hts (.fieldLink RX10 24 "CodeRooms" "plan" "LCodeRooms$Plan;") (by decide +kernel)
  have hL24 : FL RX10 24 (TX10 2).1 (TX10 2).2.1 (TX10 2).2.2.1 ([.ref (gA Λ 0 0), .int (r)] : List Value).toArray s := Or.inl hM24
  have hL86 : FL RX10 86 (TX4 4).1 (TX4 4).2.1 (TX4 4).2.2.1 ([.ref (gA Λ 0 0), .int (r)] : List Value).toArray s := Or.inr ⟨_, Ex.nestF C.2.2.2.2.2.2 nf_X10_86⟩
  have hn : M 31 5 ≤ 40 := hB 31 5 rfl
  refine j_iload_n C dX10_known_0 rfl 1 rfl ?_
  refine j_if_lt (tgt := 15) C dX10_known_1 (by decide) Iff.rfl (fun h1 => ?_) (fun h1 => ?_)
  · obtain ⟨sa, hstr⟩ := Ex.str C.2.2.2.2.2.2 lw_st249 nw_st249
    exact j_throw C (cls := "java/lang/IndexOutOfBoundsException") (names := ["java/lang/RuntimeException", "java/lang/Exception"]) (ik := 247) (is := 249) (ic := 251) hlt (by decide +kernel) (by decide +kernel) (hts (.classLink RX10 247 "java/lang/IndexOutOfBoundsException") (by decide +kernel)) (hts (.initialized "java/lang/IndexOutOfBoundsException") (by decide +kernel)) hstr (xi_hat C.2.2.2.2.2.2 (fun w hw => hts w ((by decide +kernel : ∀ w ∈ (vx_atS RX10 251 "java/lang/IndexOutOfBoundsException" ["java/lang/RuntimeException", "java/lang/Exception"]).filter goodWord, w ∈ wsX10_known) w hw))) xi247_ok dX10_known_15 dX10_known_18 dX10_known_19 dX10_known_21 dX10_known_24 htab (by decide) (by decide) (by decide) (by decide) hlk (by decide) (by decide)
  · refine j_iload_n C dX10_known_4 rfl 1 rfl ?_
    refine j_aload_n C dX10_known_5 rfl 0 rfl ?_
    refine j_getV C hwX10 0 0 2 (CR.n1 hC (by decide)) rfl rfl (by decide) rfl 0 (CR.v hC 0 0 2 ⟨rfl, by decide⟩ id) hL24 dX10_known_6 ?_
    refine j_getI C hwX4 3 0 4 (CR.n1 hC (by decide)) rfl rfl (by decide) rfl (nI (M 31 5)) (CR.i hC 3 0 4 ⟨rfl, Or.inl rfl⟩ id) hL86 dX10_known_9 ?_
    refine j_icmp_lt (tgt := 25) C dX10_known_12 (by decide) Iff.rfl (fun h12 => ?_) (fun h12 => ?_)
    · exact (inR_no hA h1 h12).elim
    · obtain ⟨sa, hstr⟩ := Ex.str C.2.2.2.2.2.2 lw_st249 nw_st249
      exact j_throw C (cls := "java/lang/IndexOutOfBoundsException") (names := ["java/lang/RuntimeException", "java/lang/Exception"]) (ik := 247) (is := 249) (ic := 251) hlt (by decide +kernel) (by decide +kernel) (hts (.classLink RX10 247 "java/lang/IndexOutOfBoundsException") (by decide +kernel)) (hts (.initialized "java/lang/IndexOutOfBoundsException") (by decide +kernel)) hstr (xi_hat C.2.2.2.2.2.2 (fun w hw => hts w ((by decide +kernel : ∀ w ∈ (vx_atS RX10 251 "java/lang/IndexOutOfBoundsException" ["java/lang/RuntimeException", "java/lang/Exception"]).filter goodWord, w ∈ wsX10_known) w hw))) xi247_ok dX10_known_15 dX10_known_18 dX10_known_19 dX10_known_21 dX10_known_24 htab (by decide) (by decide) (by decide) (by decide) hlk (by decide) (by decide)

set_option maxHeartbeats 4000000 in
set_option maxRecDepth 100000 in
theorem c_needRoom_x (l : Launch) (hlt : l.stackTraces = false) (D : va_G) (cy : Nat → ClassId) (base : Nat) (Λ : LY) (σ : HS) (M : MM) (hC : CR noEx Λ σ M) (hB : MBd M) (rm : Int32) (hA : inRm M rm = false) : vx_Met l yX10_needRoom wsX10_needRoom ({ frames := 8, cells := 1, slots := 6, locals := 120 }) (va_Pc [.ref (gA Λ 0 0), .int (rm)] (Wd D cy base Λ σ)) NoR (XQ D cy base Λ σ "java/lang/IllegalArgumentException") 1 6 (Ab base) := by
  refine j_startX (cc := cX10_needRoom) (nL := 2) (ret := none) (lv := [(0, .ref (gA Λ 0 0)), (1, .int (rm))]) (by decide) rfl (Nat.le_of_ble_eq_true rfl) rfl ?_
  intro p e s m below meth c C htab hlk
  have C : Cx p s m ([.ref (gA Λ 0 0), .int (rm)] : List Value).toArray c cX10_needRoom 2 RX10 wsX10_needRoom D cy base := C
  have hts := C.2.2.2.2.1
  have hwX10 : ∀ w ∈ u_ws RX10 TX10 9, w ∈ wsX10_needRoom := by decide +kernel
  have hM24 : (Cond.fieldLink RX10 24 (TX10 2).1 (TX10 2).2.1 (TX10 2).2.2.1).before ([.ref (gA Λ 0 0), .int (rm)] : List Value).toArray s = true := hts (.fieldLink RX10 24 "CodeRooms" "plan" "LCodeRooms$Plan;") (by decide +kernel)
  have hL24 : FL RX10 24 (TX10 2).1 (TX10 2).2.1 (TX10 2).2.2.1 ([.ref (gA Λ 0 0), .int (rm)] : List Value).toArray s := Or.inl hM24
  have hR40 : M 31 10 ≤ 40 := hB 31 10 rfl
  refine j_iload_n C dX10_needRoom_0 rfl 1 rfl ?_
  refine j_if_lt (tgt := 15) C dX10_needRoom_1 (by decide) Iff.rfl (fun h1 => ?_) (fun h1 => ?_)
  · obtain ⟨sa, hstr⟩ := Ex.str C.2.2.2.2.2.2 lw_st157 nw_st157
    exact j_throw C (cls := "java/lang/IllegalArgumentException") (names := ["java/lang/RuntimeException", "java/lang/Exception"]) (ik := 79) (is := 157) (ic := 83) hlt (by decide +kernel) (by decide +kernel) (hts (.classLink RX10 79 "java/lang/IllegalArgumentException") (by decide +kernel)) (hts (.initialized "java/lang/IllegalArgumentException") (by decide +kernel)) hstr (xa_hat C.2.2.2.2.2.2 (fun w hw => hts w ((by decide +kernel : ∀ w ∈ (vx_atS RX10 83 "java/lang/IllegalArgumentException" ["java/lang/RuntimeException", "java/lang/Exception"]).filter goodWord, w ∈ wsX10_needRoom) w hw))) xa79_ok dX10_needRoom_15 dX10_needRoom_18 dX10_needRoom_19 dX10_needRoom_21 dX10_needRoom_24 htab (by decide) (by decide) (by decide) (by decide) hlk (by decide) (by decide)
  · refine j_iload_n C dX10_needRoom_4 rfl 1 rfl ?_
    refine j_aload_n C dX10_needRoom_5 rfl 0 rfl ?_
    refine j_getV C hwX10 0 0 2 (CR.n1 hC (by decide)) rfl rfl (by decide) rfl 0 (CR.v hC 0 0 2 ⟨rfl, by decide⟩ id) hL24 dX10_needRoom_6 ?_
    refine c_i0 C (r_V C 3 0 [] (c_X4_roomCount l D cy base Λ σ M hC hB) (cwV 0 hts gX10_needRoom_X4_roomCount rfl rfl rfl (by decide +kernel) ⟨by decide, by decide⟩) (CR.n1 hC (by decide)) rfl rfl rfl rfl (Nat.le_of_ble_eq_true rfl) dX10_needRoom_9 ⟨by decide, by decide⟩) (fun rv uu hp => ?_)
    rw [hp.1, hp.2]
    refine j_icmp_lt (tgt := 25) C dX10_needRoom_12 (by decide) Iff.rfl (fun h12 => ?_) (fun h12 => ?_)
    · exact (inRm_no hA h1 h12).elim
    · obtain ⟨sa, hstr⟩ := Ex.str C.2.2.2.2.2.2 lw_st157 nw_st157
      exact j_throw C (cls := "java/lang/IllegalArgumentException") (names := ["java/lang/RuntimeException", "java/lang/Exception"]) (ik := 79) (is := 157) (ic := 83) hlt (by decide +kernel) (by decide +kernel) (hts (.classLink RX10 79 "java/lang/IllegalArgumentException") (by decide +kernel)) (hts (.initialized "java/lang/IllegalArgumentException") (by decide +kernel)) hstr (xa_hat C.2.2.2.2.2.2 (fun w hw => hts w ((by decide +kernel : ∀ w ∈ (vx_atS RX10 83 "java/lang/IllegalArgumentException" ["java/lang/RuntimeException", "java/lang/Exception"]).filter goodWord, w ∈ wsX10_needRoom) w hw))) xa79_ok dX10_needRoom_15 dX10_needRoom_18 dX10_needRoom_19 dX10_needRoom_21 dX10_needRoom_24 htab (by decide) (by decide) (by decide) (by decide) hlk (by decide) (by decide)

set_option maxHeartbeats 4000000 in
set_option maxRecDepth 100000 in
theorem c_hub_e1 (l : Launch) (hlt : l.stackTraces = false) (D : va_G) (cy : Nat → ClassId) (base : Nat) (Λ : LY) (σ : HS) (M : MM) (hC : CR noEx Λ σ M) (hB : MBd M) (r : Int32) (hA : inR M r = false) : vx_Met l yX10_hub wsX10_hub ({ frames := 12, cells := 1, slots := 6, locals := 180 }) (va_Pc [.ref (gA Λ 0 0), .int (r)] (Wd D cy base Λ σ)) NoR (XQ D cy base Λ σ "java/lang/IndexOutOfBoundsException") 1 6 (Ab base) := by
  refine j_startX (cc := cX10_hub) (nL := 2) (ret := (some .boolean)) (lv := [(0, .ref (gA Λ 0 0)), (1, .int (r))]) (by decide) rfl (Nat.le_of_ble_eq_true rfl) rfl ?_
  intro p e s m below meth c C htab hlk
  have C : Cx p s m ([.ref (gA Λ 0 0), .int (r)] : List Value).toArray c cX10_hub 2 RX10 wsX10_hub D cy base := C
  have hts := C.2.2.2.2.1
  have hn : M 31 5 ≤ 40 := hB 31 5 rfl
  refine j_aload_n C dX10_hub_0 rfl 0 rfl ?_
  refine j_iload_n C dX10_hub_1 rfl 1 rfl ?_
  exact j_pass C htab hlk (rx_V C 0 0 [.int (r)] (c_known_x l hlt D cy base Λ σ M hC hB r hA) (cwV 1 hts gX10_hub_X10_known rfl rfl rfl (by decide +kernel) ⟨by decide, by decide⟩) (CR.n1 hC (by decide)) rfl rfl rfl rfl (Nat.le_of_ble_eq_true rfl) dX10_hub_2 ⟨by decide, by decide⟩) (by decide) (by decide)

set_option maxHeartbeats 4000000 in
set_option maxRecDepth 100000 in
theorem c_room_e1 (l : Launch) (hlt : l.stackTraces = false) (D : va_G) (cy : Nat → ClassId) (base : Nat) (Λ : LY) (σ : HS) (M : MM) (hC : CR noEx Λ σ M) (hB : MBd M) (r : Int32) (hA : inR M r = false) : vx_Met l yX10_room wsX10_room ({ frames := 12, cells := 1, slots := 6, locals := 180 }) (va_Pc [.ref (gA Λ 0 0), .int (r)] (Wd D cy base Λ σ)) NoR (XQ D cy base Λ σ "java/lang/IndexOutOfBoundsException") 1 6 (Ab base) := by
  refine j_startX (cc := cX10_room) (nL := 3) (ret := (some .int)) (lv := [(0, .ref (gA Λ 0 0)), (1, .int (r))]) (by decide) rfl (Nat.le_of_ble_eq_true rfl) rfl ?_
  intro p e s m below meth c C htab hlk
  have C : Cx p s m ([.ref (gA Λ 0 0), .int (r)] : List Value).toArray c cX10_room 3 RX10 wsX10_room D cy base := C
  have hts := C.2.2.2.2.1
  have hn : M 31 5 ≤ 40 := hB 31 5 rfl
  refine j_aload_n C dX10_room_0 rfl 0 rfl ?_
  refine j_iload_n C dX10_room_1 rfl 1 rfl ?_
  exact j_pass C htab hlk (rx_V C 0 0 [.int (r)] (c_known_x l hlt D cy base Λ σ M hC hB r hA) (cwV 1 hts gX10_room_X10_known rfl rfl rfl (by decide +kernel) ⟨by decide, by decide⟩) (CR.n1 hC (by decide)) rfl rfl rfl rfl (Nat.le_of_ble_eq_true rfl) dX10_room_2 ⟨by decide, by decide⟩) (by decide) (by decide)

set_option maxHeartbeats 4000000 in
set_option maxRecDepth 100000 in
theorem c_border_e1 (l : Launch) (hlt : l.stackTraces = false) (D : va_G) (cy : Nat → ClassId) (base : Nat) (Λ : LY) (σ : HS) (M : MM) (hC : CR noEx Λ σ M) (hB : MBd M) (r : Int32) (hA : inR M r = false) : vx_Met l yX10_border wsX10_border ({ frames := 12, cells := 1, slots := 6, locals := 180 }) (va_Pc [.ref (gA Λ 0 0), .int (r)] (Wd D cy base Λ σ)) NoR (XQ D cy base Λ σ "java/lang/IndexOutOfBoundsException") 1 6 (Ab base) := by
  refine j_startX (cc := cX10_border) (nL := 3) (ret := (some .long)) (lv := [(0, .ref (gA Λ 0 0)), (1, .int (r))]) (by decide) rfl (Nat.le_of_ble_eq_true rfl) rfl ?_
  intro p e s m below meth c C htab hlk
  have C : Cx p s m ([.ref (gA Λ 0 0), .int (r)] : List Value).toArray c cX10_border 3 RX10 wsX10_border D cy base := C
  have hts := C.2.2.2.2.1
  have hn : M 31 5 ≤ 40 := hB 31 5 rfl
  refine j_aload_n C dX10_border_0 rfl 0 rfl ?_
  refine j_iload_n C dX10_border_1 rfl 1 rfl ?_
  exact j_pass C htab hlk (rx_V C 0 0 [.int (r)] (c_known_x l hlt D cy base Λ σ M hC hB r hA) (cwV 1 hts gX10_border_X10_known rfl rfl rfl (by decide +kernel) ⟨by decide, by decide⟩) (CR.n1 hC (by decide)) rfl rfl rfl rfl (Nat.le_of_ble_eq_true rfl) dX10_border_2 ⟨by decide, by decide⟩) (by decide) (by decide)

set_option maxHeartbeats 4000000 in
set_option maxRecDepth 100000 in
theorem c_put_e1 (l : Launch) (hlt : l.stackTraces = false) (D : va_G) (cy : Nat → ClassId) (base : Nat) (Λ : LY) (σ : HS) (M : MM) (hC : CR noEx Λ σ M) (hB : MBd M) (r : Int32) (hA : inR M r = false) (rm : Int32) : vx_Met l yX10_put wsX10_put ({ frames := 12, cells := 1, slots := 6, locals := 180 }) (va_Pc [.ref (gA Λ 0 0), .int (r), .int (rm)] (Wd D cy base Λ σ)) NoR (XQ D cy base Λ σ "java/lang/IndexOutOfBoundsException") 1 6 (Ab base) := by
  refine j_startX (cc := cX10_put) (nL := 5) (ret := (some .int)) (lv := [(0, .ref (gA Λ 0 0)), (1, .int (r)), (2, .int (rm))]) (by decide) rfl (Nat.le_of_ble_eq_true rfl) rfl ?_
  intro p e s m below meth c C htab hlk
  have C : Cx p s m ([.ref (gA Λ 0 0), .int (r), .int (rm)] : List Value).toArray c cX10_put 5 RX10 wsX10_put D cy base := C
  have hts := C.2.2.2.2.1
  have hn : M 31 5 ≤ 40 := hB 31 5 rfl
  refine j_aload_n C dX10_put_0 rfl 0 rfl ?_
  refine j_iload_n C dX10_put_1 rfl 1 rfl ?_
  exact j_pass C htab hlk (rx_V C 0 0 [.int (r)] (c_known_x l hlt D cy base Λ σ M hC hB r hA) (cwV 1 hts gX10_put_X10_known rfl rfl rfl (by decide +kernel) ⟨by decide, by decide⟩) (CR.n1 hC (by decide)) rfl rfl rfl rfl (Nat.le_of_ble_eq_true rfl) dX10_put_2 ⟨by decide, by decide⟩) (by decide) (by decide)

set_option maxHeartbeats 4000000 in
set_option maxRecDepth 100000 in
theorem c_fix_e1 (l : Launch) (hlt : l.stackTraces = false) (D : va_G) (cy : Nat → ClassId) (base : Nat) (Λ : LY) (σ : HS) (M : MM) (hC : CR noEx Λ σ M) (hB : MBd M) (r : Int32) (hA : inR M r = false) (rm : Int32) : vx_Met l yX10_fix wsX10_fix ({ frames := 12, cells := 1, slots := 6, locals := 180 }) (va_Pc [.ref (gA Λ 0 0), .int (r), .int (rm)] (Wd D cy base Λ σ)) NoR (XQ D cy base Λ σ "java/lang/IndexOutOfBoundsException") 1 6 (Ab base) := by
  refine j_startX (cc := cX10_fix) (nL := 5) (ret := (some .int)) (lv := [(0, .ref (gA Λ 0 0)), (1, .int (r)), (2, .int (rm))]) (by decide) rfl (Nat.le_of_ble_eq_true rfl) rfl ?_
  intro p e s m below meth c C htab hlk
  have C : Cx p s m ([.ref (gA Λ 0 0), .int (r), .int (rm)] : List Value).toArray c cX10_fix 5 RX10 wsX10_fix D cy base := C
  have hts := C.2.2.2.2.1
  have hn : M 31 5 ≤ 40 := hB 31 5 rfl
  refine j_aload_n C dX10_fix_0 rfl 0 rfl ?_
  refine j_iload_n C dX10_fix_1 rfl 1 rfl ?_
  exact j_pass C htab hlk (rx_V C 0 0 [.int (r)] (c_known_x l hlt D cy base Λ σ M hC hB r hA) (cwV 1 hts gX10_fix_X10_known rfl rfl rfl (by decide +kernel) ⟨by decide, by decide⟩) (CR.n1 hC (by decide)) rfl rfl rfl rfl (Nat.le_of_ble_eq_true rfl) dX10_fix_2 ⟨by decide, by decide⟩) (by decide) (by decide)

set_option maxHeartbeats 4000000 in
set_option maxRecDepth 100000 in
theorem c_put_e2 (l : Launch) (hlt : l.stackTraces = false) (D : va_G) (cy : Nat → ClassId) (base : Nat) (Λ : LY) (σ : HS) (M : MM) (hC : CR noEx Λ σ M) (hB : MBd M) (j : Nat) (hj : j < M 31 5) (rm : Int32) (hA : inRm M rm = false) : vx_Met l yX10_put wsX10_put ({ frames := 12, cells := 1, slots := 6, locals := 180 }) (va_Pc [.ref (gA Λ 0 0), .int (nI j), .int (rm)] (Wd D cy base Λ σ)) NoR (XQ D cy base Λ σ "java/lang/IllegalArgumentException") 1 6 (Ab base) := by
  refine j_startX (cc := cX10_put) (nL := 5) (ret := (some .int)) (lv := [(0, .ref (gA Λ 0 0)), (1, .int (nI j)), (2, .int (rm))]) (by decide) rfl (Nat.le_of_ble_eq_true rfl) rfl ?_
  intro p e s m below meth c C htab hlk
  have C : Cx p s m ([.ref (gA Λ 0 0), .int (nI j), .int (rm)] : List Value).toArray c cX10_put 5 RX10 wsX10_put D cy base := C
  have hts := C.2.2.2.2.1
  have hn : M 31 5 ≤ 40 := hB 31 5 rfl
  refine j_aload_n C dX10_put_0 rfl 0 rfl ?_
  refine j_iload_n C dX10_put_1 rfl 1 rfl ?_
  refine c_r0 C (r_V C 0 0 [.int (nI j)] (c_X10_known l D cy base Λ σ M hC hB j (by omega)) (cwV 1 hts gX10_put_X10_known rfl rfl rfl (by decide +kernel) ⟨by decide, by decide⟩) (CR.n1 hC (by decide)) rfl rfl rfl rfl (Nat.le_of_ble_eq_true rfl) dX10_put_2 ⟨by decide, by decide⟩) (fun uu jj hp => ?_)
  obtain ⟨hk1, hk2⟩ := Prod.mk.inj hp
  rw [hk1, hk2]
  refine j_astore_n C [(3, .ref (gA Λ 8 j)), (0, .ref (gA Λ 0 0)), (1, .int (nI j)), (2, .int (rm))] dX10_put_5 rfl (by decide) rfl ?_
  refine j_aload_n C dX10_put_6 rfl 1 rfl ?_
  refine j_iload_n C dX10_put_7 rfl 3 rfl ?_
  exact j_pass C htab hlk (rx_V C 0 0 [.int (rm)] (c_needRoom_x l hlt D cy base Λ σ M hC hB rm hA) (cwV 1 hts gX10_put_X10_needRoom rfl rfl rfl (by decide +kernel) ⟨by decide, by decide⟩) (CR.n1 hC (by decide)) rfl rfl rfl rfl (Nat.le_of_ble_eq_true rfl) dX10_put_8 ⟨by decide, by decide⟩) (by decide) (by decide)

set_option maxHeartbeats 4000000 in
set_option maxRecDepth 100000 in
theorem c_fix_e2 (l : Launch) (hlt : l.stackTraces = false) (D : va_G) (cy : Nat → ClassId) (base : Nat) (Λ : LY) (σ : HS) (M : MM) (hC : CR noEx Λ σ M) (hB : MBd M) (j : Nat) (hj : j < M 31 5) (rm : Int32) (hA : rm < -1 ∨ nI 6 ≤ rm) : vx_Met l yX10_fix wsX10_fix ({ frames := 12, cells := 1, slots := 6, locals := 180 }) (va_Pc [.ref (gA Λ 0 0), .int (nI j), .int (rm)] (Wd D cy base Λ σ)) NoR (XQ D cy base Λ σ "java/lang/IllegalArgumentException") 1 6 (Ab base) := by
  refine j_startX (cc := cX10_fix) (nL := 5) (ret := (some .int)) (lv := [(0, .ref (gA Λ 0 0)), (1, .int (nI j)), (2, .int (rm))]) (by decide) rfl (Nat.le_of_ble_eq_true rfl) rfl ?_
  intro p e s m below meth c C htab hlk
  have C : Cx p s m ([.ref (gA Λ 0 0), .int (nI j), .int (rm)] : List Value).toArray c cX10_fix 5 RX10 wsX10_fix D cy base := C
  have hts := C.2.2.2.2.1
  have hn : M 31 5 ≤ 40 := hB 31 5 rfl
  refine j_aload_n C dX10_fix_0 rfl 0 rfl ?_
  refine j_iload_n C dX10_fix_1 rfl 1 rfl ?_
  refine c_r0 C (r_V C 0 0 [.int (nI j)] (c_X10_known l D cy base Λ σ M hC hB j (by omega)) (cwV 1 hts gX10_fix_X10_known rfl rfl rfl (by decide +kernel) ⟨by decide, by decide⟩) (CR.n1 hC (by decide)) rfl rfl rfl rfl (Nat.le_of_ble_eq_true rfl) dX10_fix_2 ⟨by decide, by decide⟩) (fun uu jj hp => ?_)
  obtain ⟨hk1, hk2⟩ := Prod.mk.inj hp
  rw [hk1, hk2]
  refine j_astore_n C [(3, .ref (gA Λ 8 j)), (0, .ref (gA Λ 0 0)), (1, .int (nI j)), (2, .int (rm))] dX10_fix_5 rfl (by decide) rfl ?_
  refine j_iload_n C dX10_fix_6 rfl 3 rfl ?_
  refine j_iconst C ((-1)) dX10_fix_7 (by decide) ?_
  refine j_icmp_lt (tgt := 17) C dX10_fix_8 (by decide) Iff.rfl (fun h8 => ?_) (fun h8 => ?_)
  · obtain ⟨sa, hstr⟩ := Ex.str C.2.2.2.2.2.2 lw_st157 nw_st157
    exact j_throw C (cls := "java/lang/IllegalArgumentException") (names := ["java/lang/RuntimeException", "java/lang/Exception"]) (ik := 79) (is := 157) (ic := 83) hlt (by decide +kernel) (by decide +kernel) (hts (.classLink RX10 79 "java/lang/IllegalArgumentException") (by decide +kernel)) (hts (.initialized "java/lang/IllegalArgumentException") (by decide +kernel)) hstr (xa_hat C.2.2.2.2.2.2 (fun w hw => hts w ((by decide +kernel : ∀ w ∈ (vx_atS RX10 83 "java/lang/IllegalArgumentException" ["java/lang/RuntimeException", "java/lang/Exception"]).filter goodWord, w ∈ wsX10_fix) w hw))) xa79_ok dX10_fix_17 dX10_fix_20 dX10_fix_21 dX10_fix_23 dX10_fix_26 htab (by decide) (by decide) (by decide) (by decide) hlk (by decide) (by decide)
  · refine j_iload_n C dX10_fix_11 rfl 3 rfl ?_
    refine j_bipush C (nI 6) dX10_fix_12 (by decide) ?_
    refine j_icmp_lt (tgt := 27) C dX10_fix_14 (by decide) Iff.rfl (fun h14 => ?_) (fun h14 => ?_)
    · exact (hA.elim h8 (fun z => absurd h14 (Int32.not_lt.mpr z))).elim
    · obtain ⟨sa, hstr⟩ := Ex.str C.2.2.2.2.2.2 lw_st157 nw_st157
      exact j_throw C (cls := "java/lang/IllegalArgumentException") (names := ["java/lang/RuntimeException", "java/lang/Exception"]) (ik := 79) (is := 157) (ic := 83) hlt (by decide +kernel) (by decide +kernel) (hts (.classLink RX10 79 "java/lang/IllegalArgumentException") (by decide +kernel)) (hts (.initialized "java/lang/IllegalArgumentException") (by decide +kernel)) hstr (xa_hat C.2.2.2.2.2.2 (fun w hw => hts w ((by decide +kernel : ∀ w ∈ (vx_atS RX10 83 "java/lang/IllegalArgumentException" ["java/lang/RuntimeException", "java/lang/Exception"]).filter goodWord, w ∈ wsX10_fix) w hw))) xa79_ok dX10_fix_17 dX10_fix_20 dX10_fix_21 dX10_fix_23 dX10_fix_26 htab (by decide) (by decide) (by decide) (by decide) hlk (by decide) (by decide)

set_option maxHeartbeats 4000000 in
set_option maxRecDepth 100000 in
theorem c_tie_e1a (l : Launch) (hlt : l.stackTraces = false) (D : va_G) (cy : Nat → ClassId) (base : Nat) (Λ : LY) (σ : HS) (M : MM) (hC : CR noEx Λ σ M) (hB : MBd M) (a b : Int32) (hA : inR M a = false) (k n : Int32) : vx_Met l yX10_tie wsX10_tie ({ frames := 12, cells := 1, slots := 6, locals := 180 }) (va_Pc [.ref (gA Λ 0 0), .int (a), .int (b), .int (k), .int (n)] (Wd D cy base Λ σ)) NoR (XQ D cy base Λ σ "java/lang/IndexOutOfBoundsException") 1 6 (Ab base) := by
  refine j_startX (cc := cX10_tie) (nL := 7) (ret := (some .int)) (lv := [(0, .ref (gA Λ 0 0)), (1, .int (a)), (2, .int (b)), (3, .int (k)), (4, .int (n))]) (by decide) rfl (Nat.le_of_ble_eq_true rfl) rfl ?_
  intro p e s m below meth c C htab hlk
  have C : Cx p s m ([.ref (gA Λ 0 0), .int (a), .int (b), .int (k), .int (n)] : List Value).toArray c cX10_tie 7 RX10 wsX10_tie D cy base := C
  have hts := C.2.2.2.2.1
  have hn : M 31 5 ≤ 40 := hB 31 5 rfl
  refine j_aload_n C dX10_tie_0 rfl 0 rfl ?_
  refine j_iload_n C dX10_tie_1 rfl 1 rfl ?_
  exact j_pass C htab hlk (rx_V C 0 0 [.int (a)] (c_known_x l hlt D cy base Λ σ M hC hB a hA) (cwV 1 hts gX10_tie_X10_known rfl rfl rfl (by decide +kernel) ⟨by decide, by decide⟩) (CR.n1 hC (by decide)) rfl rfl rfl rfl (Nat.le_of_ble_eq_true rfl) dX10_tie_2 ⟨by decide, by decide⟩) (by decide) (by decide)

set_option maxHeartbeats 4000000 in
set_option maxRecDepth 100000 in
theorem c_tie_e1b (l : Launch) (hlt : l.stackTraces = false) (D : va_G) (cy : Nat → ClassId) (base : Nat) (Λ : LY) (σ : HS) (M : MM) (hC : CR noEx Λ σ M) (hB : MBd M) (j : Nat) (hj : j < M 31 5) (b : Int32) (hA : inR M b = false) (k n : Int32) : vx_Met l yX10_tie wsX10_tie ({ frames := 12, cells := 1, slots := 6, locals := 180 }) (va_Pc [.ref (gA Λ 0 0), .int (nI j), .int (b), .int (k), .int (n)] (Wd D cy base Λ σ)) NoR (XQ D cy base Λ σ "java/lang/IndexOutOfBoundsException") 1 6 (Ab base) := by
  refine j_startX (cc := cX10_tie) (nL := 7) (ret := (some .int)) (lv := [(0, .ref (gA Λ 0 0)), (1, .int (nI j)), (2, .int (b)), (3, .int (k)), (4, .int (n))]) (by decide) rfl (Nat.le_of_ble_eq_true rfl) rfl ?_
  intro p e s m below meth c C htab hlk
  have C : Cx p s m ([.ref (gA Λ 0 0), .int (nI j), .int (b), .int (k), .int (n)] : List Value).toArray c cX10_tie 7 RX10 wsX10_tie D cy base := C
  have hts := C.2.2.2.2.1
  have hn : M 31 5 ≤ 40 := hB 31 5 rfl
  refine j_aload_n C dX10_tie_0 rfl 0 rfl ?_
  refine j_iload_n C dX10_tie_1 rfl 1 rfl ?_
  refine c_r0 C (r_V C 0 0 [.int (nI j)] (c_X10_known l D cy base Λ σ M hC hB j (by omega)) (cwV 1 hts gX10_tie_X10_known rfl rfl rfl (by decide +kernel) ⟨by decide, by decide⟩) (CR.n1 hC (by decide)) rfl rfl rfl rfl (Nat.le_of_ble_eq_true rfl) dX10_tie_2 ⟨by decide, by decide⟩) (fun uu jj hp => ?_)
  obtain ⟨hk1, hk2⟩ := Prod.mk.inj hp
  rw [hk1, hk2]
  refine j_astore C [(5, .ref (gA Λ 8 j)), (0, .ref (gA Λ 0 0)), (1, .int (nI j)), (2, .int (b)), (3, .int (k)), (4, .int (n))] dX10_tie_5 (by decide) rfl ?_
  refine j_aload_n C dX10_tie_7 rfl 1 rfl ?_
  refine j_iload_n C dX10_tie_8 rfl 3 rfl ?_
  exact j_pass C htab hlk (rx_V C 0 0 [.int (b)] (c_known_x l hlt D cy base Λ σ M hC hB b hA) (cwV 1 hts gX10_tie_X10_known rfl rfl rfl (by decide +kernel) ⟨by decide, by decide⟩) (CR.n1 hC (by decide)) rfl rfl rfl rfl (Nat.le_of_ble_eq_true rfl) dX10_tie_9 ⟨by decide, by decide⟩) (by decide) (by decide)

set_option maxHeartbeats 4000000 in
set_option maxRecDepth 100000 in
theorem c_ties_e1a (l : Launch) (hlt : l.stackTraces = false) (D : va_G) (cy : Nat → ClassId) (base : Nat) (Λ : LY) (σ : HS) (M : MM) (hC : CR noEx Λ σ M) (hB : MBd M) (a b : Int32) (hA : inR M a = false) : vx_Met l yX10_ties wsX10_ties ({ frames := 12, cells := 1, slots := 6, locals := 180 }) (va_Pc [.ref (gA Λ 0 0), .int (a), .int (b)] (Wd D cy base Λ σ)) NoR (XQ D cy base Λ σ "java/lang/IndexOutOfBoundsException") 1 6 (Ab base) := by
  refine j_startX (cc := cX10_ties) (nL := 5) (ret := (some .int)) (lv := [(0, .ref (gA Λ 0 0)), (1, .int (a)), (2, .int (b))]) (by decide) rfl (Nat.le_of_ble_eq_true rfl) rfl ?_
  intro p e s m below meth c C htab hlk
  have C : Cx p s m ([.ref (gA Λ 0 0), .int (a), .int (b)] : List Value).toArray c cX10_ties 5 RX10 wsX10_ties D cy base := C
  have hts := C.2.2.2.2.1
  have hn : M 31 5 ≤ 40 := hB 31 5 rfl
  refine j_aload_n C dX10_ties_0 rfl 0 rfl ?_
  refine j_iload_n C dX10_ties_1 rfl 1 rfl ?_
  exact j_pass C htab hlk (rx_V C 0 0 [.int (a)] (c_known_x l hlt D cy base Λ σ M hC hB a hA) (cwV 1 hts gX10_ties_X10_known rfl rfl rfl (by decide +kernel) ⟨by decide, by decide⟩) (CR.n1 hC (by decide)) rfl rfl rfl rfl (Nat.le_of_ble_eq_true rfl) dX10_ties_2 ⟨by decide, by decide⟩) (by decide) (by decide)

set_option maxHeartbeats 4000000 in
set_option maxRecDepth 100000 in
theorem c_ties_e1b (l : Launch) (hlt : l.stackTraces = false) (D : va_G) (cy : Nat → ClassId) (base : Nat) (Λ : LY) (σ : HS) (M : MM) (hC : CR noEx Λ σ M) (hB : MBd M) (j : Nat) (hj : j < M 31 5) (b : Int32) (hA : inR M b = false) : vx_Met l yX10_ties wsX10_ties ({ frames := 12, cells := 1, slots := 6, locals := 180 }) (va_Pc [.ref (gA Λ 0 0), .int (nI j), .int (b)] (Wd D cy base Λ σ)) NoR (XQ D cy base Λ σ "java/lang/IndexOutOfBoundsException") 1 6 (Ab base) := by
  refine j_startX (cc := cX10_ties) (nL := 5) (ret := (some .int)) (lv := [(0, .ref (gA Λ 0 0)), (1, .int (nI j)), (2, .int (b))]) (by decide) rfl (Nat.le_of_ble_eq_true rfl) rfl ?_
  intro p e s m below meth c C htab hlk
  have C : Cx p s m ([.ref (gA Λ 0 0), .int (nI j), .int (b)] : List Value).toArray c cX10_ties 5 RX10 wsX10_ties D cy base := C
  have hts := C.2.2.2.2.1
  have hn : M 31 5 ≤ 40 := hB 31 5 rfl
  refine j_aload_n C dX10_ties_0 rfl 0 rfl ?_
  refine j_iload_n C dX10_ties_1 rfl 1 rfl ?_
  refine c_r0 C (r_V C 0 0 [.int (nI j)] (c_X10_known l D cy base Λ σ M hC hB j (by omega)) (cwV 1 hts gX10_ties_X10_known rfl rfl rfl (by decide +kernel) ⟨by decide, by decide⟩) (CR.n1 hC (by decide)) rfl rfl rfl rfl (Nat.le_of_ble_eq_true rfl) dX10_ties_2 ⟨by decide, by decide⟩) (fun uu jj hp => ?_)
  obtain ⟨hk1, hk2⟩ := Prod.mk.inj hp
  rw [hk1, hk2]
  refine j_astore_n C [(3, .ref (gA Λ 8 j)), (0, .ref (gA Λ 0 0)), (1, .int (nI j)), (2, .int (b))] dX10_ties_5 rfl (by decide) rfl ?_
  refine j_aload_n C dX10_ties_6 rfl 1 rfl ?_
  refine j_iload_n C dX10_ties_7 rfl 3 rfl ?_
  exact j_pass C htab hlk (rx_V C 0 0 [.int (b)] (c_known_x l hlt D cy base Λ σ M hC hB b hA) (cwV 1 hts gX10_ties_X10_known rfl rfl rfl (by decide +kernel) ⟨by decide, by decide⟩) (CR.n1 hC (by decide)) rfl rfl rfl rfl (Nat.le_of_ble_eq_true rfl) dX10_ties_8 ⟨by decide, by decide⟩) (by decide) (by decide)

set_option maxHeartbeats 4000000 in
set_option maxRecDepth 100000 in
theorem c_must_e1a (l : Launch) (hlt : l.stackTraces = false) (D : va_G) (cy : Nat → ClassId) (base : Nat) (Λ : LY) (σ : HS) (M : MM) (hC : CR noEx Λ σ M) (hB : MBd M) (a b : Int32) (hA : inR M a = false) (k : Int32) : vx_Met l yX10_must wsX10_must ({ frames := 12, cells := 1, slots := 6, locals := 180 }) (va_Pc [.ref (gA Λ 0 0), .int (a), .int (b), .int (k)] (Wd D cy base Λ σ)) NoR (XQ D cy base Λ σ "java/lang/IndexOutOfBoundsException") 1 6 (Ab base) := by
  refine j_startX (cc := cX10_must) (nL := 7) (ret := (some .int)) (lv := [(0, .ref (gA Λ 0 0)), (1, .int (a)), (2, .int (b)), (3, .int (k))]) (by decide) rfl (Nat.le_of_ble_eq_true rfl) rfl ?_
  intro p e s m below meth c C htab hlk
  have C : Cx p s m ([.ref (gA Λ 0 0), .int (a), .int (b), .int (k)] : List Value).toArray c cX10_must 7 RX10 wsX10_must D cy base := C
  have hts := C.2.2.2.2.1
  have hn : M 31 5 ≤ 40 := hB 31 5 rfl
  refine j_aload_n C dX10_must_0 rfl 0 rfl ?_
  refine j_iload_n C dX10_must_1 rfl 1 rfl ?_
  exact j_pass C htab hlk (rx_V C 0 0 [.int (a)] (c_known_x l hlt D cy base Λ σ M hC hB a hA) (cwV 1 hts gX10_must_X10_known rfl rfl rfl (by decide +kernel) ⟨by decide, by decide⟩) (CR.n1 hC (by decide)) rfl rfl rfl rfl (Nat.le_of_ble_eq_true rfl) dX10_must_2 ⟨by decide, by decide⟩) (by decide) (by decide)

set_option maxHeartbeats 4000000 in
set_option maxRecDepth 100000 in
theorem c_must_e1b (l : Launch) (hlt : l.stackTraces = false) (D : va_G) (cy : Nat → ClassId) (base : Nat) (Λ : LY) (σ : HS) (M : MM) (hC : CR noEx Λ σ M) (hB : MBd M) (j : Nat) (hj : j < M 31 5) (b : Int32) (hA : inR M b = false) (k : Int32) : vx_Met l yX10_must wsX10_must ({ frames := 12, cells := 1, slots := 6, locals := 180 }) (va_Pc [.ref (gA Λ 0 0), .int (nI j), .int (b), .int (k)] (Wd D cy base Λ σ)) NoR (XQ D cy base Λ σ "java/lang/IndexOutOfBoundsException") 1 6 (Ab base) := by
  refine j_startX (cc := cX10_must) (nL := 7) (ret := (some .int)) (lv := [(0, .ref (gA Λ 0 0)), (1, .int (nI j)), (2, .int (b)), (3, .int (k))]) (by decide) rfl (Nat.le_of_ble_eq_true rfl) rfl ?_
  intro p e s m below meth c C htab hlk
  have C : Cx p s m ([.ref (gA Λ 0 0), .int (nI j), .int (b), .int (k)] : List Value).toArray c cX10_must 7 RX10 wsX10_must D cy base := C
  have hts := C.2.2.2.2.1
  have hn : M 31 5 ≤ 40 := hB 31 5 rfl
  refine j_aload_n C dX10_must_0 rfl 0 rfl ?_
  refine j_iload_n C dX10_must_1 rfl 1 rfl ?_
  refine c_r0 C (r_V C 0 0 [.int (nI j)] (c_X10_known l D cy base Λ σ M hC hB j (by omega)) (cwV 1 hts gX10_must_X10_known rfl rfl rfl (by decide +kernel) ⟨by decide, by decide⟩) (CR.n1 hC (by decide)) rfl rfl rfl rfl (Nat.le_of_ble_eq_true rfl) dX10_must_2 ⟨by decide, by decide⟩) (fun uu jj hp => ?_)
  obtain ⟨hk1, hk2⟩ := Prod.mk.inj hp
  rw [hk1, hk2]
  refine j_astore C [(4, .ref (gA Λ 8 j)), (0, .ref (gA Λ 0 0)), (1, .int (nI j)), (2, .int (b)), (3, .int (k))] dX10_must_5 (by decide) rfl ?_
  refine j_aload_n C dX10_must_7 rfl 1 rfl ?_
  refine j_iload_n C dX10_must_8 rfl 3 rfl ?_
  exact j_pass C htab hlk (rx_V C 0 0 [.int (b)] (c_known_x l hlt D cy base Λ σ M hC hB b hA) (cwV 1 hts gX10_must_X10_known rfl rfl rfl (by decide +kernel) ⟨by decide, by decide⟩) (CR.n1 hC (by decide)) rfl rfl rfl rfl (Nat.le_of_ble_eq_true rfl) dX10_must_9 ⟨by decide, by decide⟩) (by decide) (by decide)

set_option maxHeartbeats 4000000 in
set_option maxRecDepth 100000 in
theorem c_ties_e2 (l : Launch) (hlt : l.stackTraces = false) (D : va_G) (cy : Nat → ClassId) (base : Nat) (Λ : LY) (σ : HS) (M : MM) (hC : CR noEx Λ σ M) (hB : MBd M) (i : Nat) (hi : i < M 31 5) : vx_Met l yX10_ties wsX10_ties ({ frames := 12, cells := 1, slots := 6, locals := 180 }) (va_Pc [.ref (gA Λ 0 0), .int (nI i), .int (nI i)] (Wd D cy base Λ σ)) NoR (XQ D cy base Λ σ "java/lang/IllegalArgumentException") 1 6 (Ab base) := by
  refine j_startX (cc := cX10_ties) (nL := 5) (ret := (some .int)) (lv := [(0, .ref (gA Λ 0 0)), (1, .int (nI i)), (2, .int (nI i))]) (by decide) rfl (Nat.le_of_ble_eq_true rfl) rfl ?_
  intro p e s m below meth c C htab hlk
  have C : Cx p s m ([.ref (gA Λ 0 0), .int (nI i), .int (nI i)] : List Value).toArray c cX10_ties 5 RX10 wsX10_ties D cy base := C
  have hts := C.2.2.2.2.1
  have hn : M 31 5 ≤ 40 := hB 31 5 rfl
  refine j_aload_n C dX10_ties_0 rfl 0 rfl ?_
  refine j_iload_n C dX10_ties_1 rfl 1 rfl ?_
  refine c_r0 C (r_V C 0 0 [.int (nI i)] (c_X10_known l D cy base Λ σ M hC hB i (by omega)) (cwV 1 hts gX10_ties_X10_known rfl rfl rfl (by decide +kernel) ⟨by decide, by decide⟩) (CR.n1 hC (by decide)) rfl rfl rfl rfl (Nat.le_of_ble_eq_true rfl) dX10_ties_2 ⟨by decide, by decide⟩) (fun uu jj hp => ?_)
  obtain ⟨hk1, hk2⟩ := Prod.mk.inj hp
  rw [hk1, hk2]
  refine j_astore_n C [(3, .ref (gA Λ 8 i)), (0, .ref (gA Λ 0 0)), (1, .int (nI i)), (2, .int (nI i))] dX10_ties_5 rfl (by decide) rfl ?_
  refine j_aload_n C dX10_ties_6 rfl 1 rfl ?_
  refine j_iload_n C dX10_ties_7 rfl 3 rfl ?_
  refine c_r0 C (r_V C 0 0 [.int (nI i)] (c_X10_known l D cy base Λ σ M hC hB i (by omega)) (cwV 1 hts gX10_ties_X10_known rfl rfl rfl (by decide +kernel) ⟨by decide, by decide⟩) (CR.n1 hC (by decide)) rfl rfl rfl rfl (Nat.le_of_ble_eq_true rfl) dX10_ties_8 ⟨by decide, by decide⟩) (fun uu jj hp => ?_)
  obtain ⟨hk1, hk2⟩ := Prod.mk.inj hp
  rw [hk1, hk2]
  refine j_astore C [(4, .ref (gA Λ 8 i)), (3, .ref (gA Λ 8 i)), (0, .ref (gA Λ 0 0)), (1, .int (nI i)), (2, .int (nI i))] dX10_ties_11 (by decide) rfl ?_
  refine j_iload_n C dX10_ties_13 rfl 3 rfl ?_
  refine j_iload_n C dX10_ties_14 rfl 4 rfl ?_
  refine j_icmp_ne (tgt := 28) C dX10_ties_15 (by decide) (nI_eq (by omega) (by omega)) (fun h15 => ?_) (fun h15 => ?_)
  · exact absurd rfl h15
  · obtain ⟨sa, hstr⟩ := Ex.str C.2.2.2.2.2.2 lw_st134 nw_st134
    exact j_throw C (cls := "java/lang/IllegalArgumentException") (names := ["java/lang/RuntimeException", "java/lang/Exception"]) (ik := 79) (is := 134) (ic := 83) hlt (by decide +kernel) (by decide +kernel) (hts (.classLink RX10 79 "java/lang/IllegalArgumentException") (by decide +kernel)) (hts (.initialized "java/lang/IllegalArgumentException") (by decide +kernel)) hstr (xa_hat C.2.2.2.2.2.2 (fun w hw => hts w ((by decide +kernel : ∀ w ∈ (vx_atS RX10 83 "java/lang/IllegalArgumentException" ["java/lang/RuntimeException", "java/lang/Exception"]).filter goodWord, w ∈ wsX10_ties) w hw))) xa79_ok dX10_ties_18 dX10_ties_21 dX10_ties_22 dX10_ties_24 dX10_ties_27 htab (by decide) (by decide) (by decide) (by decide) hlk (by decide) (by decide)

set_option maxHeartbeats 4000000 in
set_option maxRecDepth 100000 in
theorem c_tie_e2 (l : Launch) (hlt : l.stackTraces = false) (D : va_G) (cy : Nat → ClassId) (base : Nat) (Λ : LY) (σ : HS) (M : MM) (hC : CR noEx Λ σ M) (hB : MBd M) (i j : Nat) (hi : i < M 31 5) (hj : j < M 31 5) (k n : Int32) (hA : i = j ∨ k.toInt < 0 ∨ 3 ≤ k.toInt ∨ n.toInt < 1 ∨ 1000 < n.toInt) : vx_Met l yX10_tie wsX10_tie ({ frames := 12, cells := 1, slots := 6, locals := 180 }) (va_Pc [.ref (gA Λ 0 0), .int (nI i), .int (nI j), .int (k), .int (n)] (Wd D cy base Λ σ)) NoR (XQ D cy base Λ σ "java/lang/IllegalArgumentException") 1 6 (Ab base) := by
  refine j_startX (cc := cX10_tie) (nL := 7) (ret := (some .int)) (lv := [(0, .ref (gA Λ 0 0)), (1, .int (nI i)), (2, .int (nI j)), (3, .int (k)), (4, .int (n))]) (by decide) rfl (Nat.le_of_ble_eq_true rfl) rfl ?_
  intro p e s m below meth c C htab hlk
  have C : Cx p s m ([.ref (gA Λ 0 0), .int (nI i), .int (nI j), .int (k), .int (n)] : List Value).toArray c cX10_tie 7 RX10 wsX10_tie D cy base := C
  have hts := C.2.2.2.2.1
  have hn : M 31 5 ≤ 40 := hB 31 5 rfl
  refine j_aload_n C dX10_tie_0 rfl 0 rfl ?_
  refine j_iload_n C dX10_tie_1 rfl 1 rfl ?_
  refine c_r0 C (r_V C 0 0 [.int (nI i)] (c_X10_known l D cy base Λ σ M hC hB i (by omega)) (cwV 1 hts gX10_tie_X10_known rfl rfl rfl (by decide +kernel) ⟨by decide, by decide⟩) (CR.n1 hC (by decide)) rfl rfl rfl rfl (Nat.le_of_ble_eq_true rfl) dX10_tie_2 ⟨by decide, by decide⟩) (fun uu jj hp => ?_)
  obtain ⟨hk1, hk2⟩ := Prod.mk.inj hp
  rw [hk1, hk2]
  refine j_astore C [(5, .ref (gA Λ 8 i)), (0, .ref (gA Λ 0 0)), (1, .int (nI i)), (2, .int (nI j)), (3, .int (k)), (4, .int (n))] dX10_tie_5 (by decide) rfl ?_
  refine j_aload_n C dX10_tie_7 rfl 1 rfl ?_
  refine j_iload_n C dX10_tie_8 rfl 3 rfl ?_
  refine c_r0 C (r_V C 0 0 [.int (nI j)] (c_X10_known l D cy base Λ σ M hC hB j (by omega)) (cwV 1 hts gX10_tie_X10_known rfl rfl rfl (by decide +kernel) ⟨by decide, by decide⟩) (CR.n1 hC (by decide)) rfl rfl rfl rfl (Nat.le_of_ble_eq_true rfl) dX10_tie_9 ⟨by decide, by decide⟩) (fun uu jj hp => ?_)
  obtain ⟨hk1, hk2⟩ := Prod.mk.inj hp
  rw [hk1, hk2]
  refine j_astore C [(6, .ref (gA Λ 8 j)), (5, .ref (gA Λ 8 i)), (0, .ref (gA Λ 0 0)), (1, .int (nI i)), (2, .int (nI j)), (3, .int (k)), (4, .int (n))] dX10_tie_12 (by decide) rfl ?_
  refine j_iload_n C dX10_tie_14 rfl 3 rfl ?_
  refine j_iload_n C dX10_tie_15 rfl 4 rfl ?_
  refine j_icmp_eq (tgt := 42) C dX10_tie_16 (by decide) (nI_eq (by omega) (by omega)) (fun h16 => ?_) (fun h16 => ?_)
  · obtain ⟨sa, hstr⟩ := Ex.str C.2.2.2.2.2.2 lw_st128 nw_st128
    exact j_throw C (cls := "java/lang/IllegalArgumentException") (names := ["java/lang/RuntimeException", "java/lang/Exception"]) (ik := 79) (is := 128) (ic := 83) hlt (by decide +kernel) (by decide +kernel) (hts (.classLink RX10 79 "java/lang/IllegalArgumentException") (by decide +kernel)) (hts (.initialized "java/lang/IllegalArgumentException") (by decide +kernel)) hstr (xa_hat C.2.2.2.2.2.2 (fun w hw => hts w ((by decide +kernel : ∀ w ∈ (vx_atS RX10 83 "java/lang/IllegalArgumentException" ["java/lang/RuntimeException", "java/lang/Exception"]).filter goodWord, w ∈ wsX10_tie) w hw))) xa79_ok dX10_tie_42 dX10_tie_45 dX10_tie_46 dX10_tie_48 dX10_tie_51 htab (by decide) (by decide) (by decide) (by decide) hlk (by decide) (by decide)
  · refine j_iload_n C dX10_tie_19 rfl 5 rfl ?_
    refine j_if_lt (tgt := 42) C dX10_tie_20 (by decide) Iff.rfl (fun h20 => ?_) (fun h20 => ?_)
    · obtain ⟨sa, hstr⟩ := Ex.str C.2.2.2.2.2.2 lw_st128 nw_st128
      exact j_throw C (cls := "java/lang/IllegalArgumentException") (names := ["java/lang/RuntimeException", "java/lang/Exception"]) (ik := 79) (is := 128) (ic := 83) hlt (by decide +kernel) (by decide +kernel) (hts (.classLink RX10 79 "java/lang/IllegalArgumentException") (by decide +kernel)) (hts (.initialized "java/lang/IllegalArgumentException") (by decide +kernel)) hstr (xa_hat C.2.2.2.2.2.2 (fun w hw => hts w ((by decide +kernel : ∀ w ∈ (vx_atS RX10 83 "java/lang/IllegalArgumentException" ["java/lang/RuntimeException", "java/lang/Exception"]).filter goodWord, w ∈ wsX10_tie) w hw))) xa79_ok dX10_tie_42 dX10_tie_45 dX10_tie_46 dX10_tie_48 dX10_tie_51 htab (by decide) (by decide) (by decide) (by decide) hlk (by decide) (by decide)
    · refine j_iload_n C dX10_tie_23 rfl 5 rfl ?_
      refine j_iconst C (nI 3) dX10_tie_24 (by decide) ?_
      refine j_icmp_ge (tgt := 42) C dX10_tie_25 (by decide) Iff.rfl (fun h25 => ?_) (fun h25 => ?_)
      · obtain ⟨sa, hstr⟩ := Ex.str C.2.2.2.2.2.2 lw_st128 nw_st128
        exact j_throw C (cls := "java/lang/IllegalArgumentException") (names := ["java/lang/RuntimeException", "java/lang/Exception"]) (ik := 79) (is := 128) (ic := 83) hlt (by decide +kernel) (by decide +kernel) (hts (.classLink RX10 79 "java/lang/IllegalArgumentException") (by decide +kernel)) (hts (.initialized "java/lang/IllegalArgumentException") (by decide +kernel)) hstr (xa_hat C.2.2.2.2.2.2 (fun w hw => hts w ((by decide +kernel : ∀ w ∈ (vx_atS RX10 83 "java/lang/IllegalArgumentException" ["java/lang/RuntimeException", "java/lang/Exception"]).filter goodWord, w ∈ wsX10_tie) w hw))) xa79_ok dX10_tie_42 dX10_tie_45 dX10_tie_46 dX10_tie_48 dX10_tie_51 htab (by decide) (by decide) (by decide) (by decide) hlk (by decide) (by decide)
      · refine j_iload C dX10_tie_28 6 rfl ?_
        refine j_iconst C (nI 1) dX10_tie_30 (by decide) ?_
        refine j_icmp_lt (tgt := 42) C dX10_tie_31 (by decide) Iff.rfl (fun h31 => ?_) (fun h31 => ?_)
        · obtain ⟨sa, hstr⟩ := Ex.str C.2.2.2.2.2.2 lw_st128 nw_st128
          exact j_throw C (cls := "java/lang/IllegalArgumentException") (names := ["java/lang/RuntimeException", "java/lang/Exception"]) (ik := 79) (is := 128) (ic := 83) hlt (by decide +kernel) (by decide +kernel) (hts (.classLink RX10 79 "java/lang/IllegalArgumentException") (by decide +kernel)) (hts (.initialized "java/lang/IllegalArgumentException") (by decide +kernel)) hstr (xa_hat C.2.2.2.2.2.2 (fun w hw => hts w ((by decide +kernel : ∀ w ∈ (vx_atS RX10 83 "java/lang/IllegalArgumentException" ["java/lang/RuntimeException", "java/lang/Exception"]).filter goodWord, w ∈ wsX10_tie) w hw))) xa79_ok dX10_tie_42 dX10_tie_45 dX10_tie_46 dX10_tie_48 dX10_tie_51 htab (by decide) (by decide) (by decide) (by decide) hlk (by decide) (by decide)
        · refine j_iload C dX10_tie_34 6 rfl ?_
          refine j_sipush C (nI 1000) dX10_tie_36 (by decide) ?_
          refine j_icmp_le (tgt := 52) C dX10_tie_39 (by decide) Iff.rfl (fun h39 => ?_) (fun h39 => ?_)
          · exfalso; simp only [Int32.lt_iff_toInt_lt, Int32.le_iff_toInt_le, nI_toInt (show 3 < 2 ^ 31 by decide), nI_toInt (show 1 < 2 ^ 31 by decide), nI_toInt (show 1000 < 2 ^ 31 by decide)] at h20 h25 h31 h39; have z0 : (0 : Int32).toInt = 0 := rfl; omega
          · obtain ⟨sa, hstr⟩ := Ex.str C.2.2.2.2.2.2 lw_st128 nw_st128
            exact j_throw C (cls := "java/lang/IllegalArgumentException") (names := ["java/lang/RuntimeException", "java/lang/Exception"]) (ik := 79) (is := 128) (ic := 83) hlt (by decide +kernel) (by decide +kernel) (hts (.classLink RX10 79 "java/lang/IllegalArgumentException") (by decide +kernel)) (hts (.initialized "java/lang/IllegalArgumentException") (by decide +kernel)) hstr (xa_hat C.2.2.2.2.2.2 (fun w hw => hts w ((by decide +kernel : ∀ w ∈ (vx_atS RX10 83 "java/lang/IllegalArgumentException" ["java/lang/RuntimeException", "java/lang/Exception"]).filter goodWord, w ∈ wsX10_tie) w hw))) xa79_ok dX10_tie_42 dX10_tie_45 dX10_tie_46 dX10_tie_48 dX10_tie_51 htab (by decide) (by decide) (by decide) (by decide) hlk (by decide) (by decide)

set_option maxHeartbeats 4000000 in
set_option maxRecDepth 100000 in
theorem c_must_e2 (l : Launch) (hlt : l.stackTraces = false) (D : va_G) (cy : Nat → ClassId) (base : Nat) (Λ : LY) (σ : HS) (M : MM) (hC : CR noEx Λ σ M) (hB : MBd M) (i j : Nat) (hi : i < M 31 5) (hj : j < M 31 5) (k : Int32) (hA : i = j ∨ k.toInt < 0 ∨ 2 < k.toInt) : vx_Met l yX10_must wsX10_must ({ frames := 12, cells := 1, slots := 6, locals := 180 }) (va_Pc [.ref (gA Λ 0 0), .int (nI i), .int (nI j), .int (k)] (Wd D cy base Λ σ)) NoR (XQ D cy base Λ σ "java/lang/IllegalArgumentException") 1 6 (Ab base) := by
  refine j_startX (cc := cX10_must) (nL := 7) (ret := (some .int)) (lv := [(0, .ref (gA Λ 0 0)), (1, .int (nI i)), (2, .int (nI j)), (3, .int (k))]) (by decide) rfl (Nat.le_of_ble_eq_true rfl) rfl ?_
  intro p e s m below meth c C htab hlk
  have C : Cx p s m ([.ref (gA Λ 0 0), .int (nI i), .int (nI j), .int (k)] : List Value).toArray c cX10_must 7 RX10 wsX10_must D cy base := C
  have hts := C.2.2.2.2.1
  have hn : M 31 5 ≤ 40 := hB 31 5 rfl
  refine j_aload_n C dX10_must_0 rfl 0 rfl ?_
  refine j_iload_n C dX10_must_1 rfl 1 rfl ?_
  refine c_r0 C (r_V C 0 0 [.int (nI i)] (c_X10_known l D cy base Λ σ M hC hB i (by omega)) (cwV 1 hts gX10_must_X10_known rfl rfl rfl (by decide +kernel) ⟨by decide, by decide⟩) (CR.n1 hC (by decide)) rfl rfl rfl rfl (Nat.le_of_ble_eq_true rfl) dX10_must_2 ⟨by decide, by decide⟩) (fun uu jj hp => ?_)
  obtain ⟨hk1, hk2⟩ := Prod.mk.inj hp
  rw [hk1, hk2]
  refine j_astore C [(4, .ref (gA Λ 8 i)), (0, .ref (gA Λ 0 0)), (1, .int (nI i)), (2, .int (nI j)), (3, .int (k))] dX10_must_5 (by decide) rfl ?_
  refine j_aload_n C dX10_must_7 rfl 1 rfl ?_
  refine j_iload_n C dX10_must_8 rfl 3 rfl ?_
  refine c_r0 C (r_V C 0 0 [.int (nI j)] (c_X10_known l D cy base Λ σ M hC hB j (by omega)) (cwV 1 hts gX10_must_X10_known rfl rfl rfl (by decide +kernel) ⟨by decide, by decide⟩) (CR.n1 hC (by decide)) rfl rfl rfl rfl (Nat.le_of_ble_eq_true rfl) dX10_must_9 ⟨by decide, by decide⟩) (fun uu jj hp => ?_)
  obtain ⟨hk1, hk2⟩ := Prod.mk.inj hp
  rw [hk1, hk2]
  refine j_astore C [(5, .ref (gA Λ 8 j)), (4, .ref (gA Λ 8 i)), (0, .ref (gA Λ 0 0)), (1, .int (nI i)), (2, .int (nI j)), (3, .int (k))] dX10_must_12 (by decide) rfl ?_
  refine j_iload_n C dX10_must_14 rfl 3 rfl ?_
  refine j_iload_n C dX10_must_15 rfl 4 rfl ?_
  refine j_icmp_eq (tgt := 28) C dX10_must_16 (by decide) (nI_eq (by omega) (by omega)) (fun h16 => ?_) (fun h16 => ?_)
  · obtain ⟨sa, hstr⟩ := Ex.str C.2.2.2.2.2.2 lw_st152 nw_st152
    exact j_throw C (cls := "java/lang/IllegalArgumentException") (names := ["java/lang/RuntimeException", "java/lang/Exception"]) (ik := 79) (is := 152) (ic := 83) hlt (by decide +kernel) (by decide +kernel) (hts (.classLink RX10 79 "java/lang/IllegalArgumentException") (by decide +kernel)) (hts (.initialized "java/lang/IllegalArgumentException") (by decide +kernel)) hstr (xa_hat C.2.2.2.2.2.2 (fun w hw => hts w ((by decide +kernel : ∀ w ∈ (vx_atS RX10 83 "java/lang/IllegalArgumentException" ["java/lang/RuntimeException", "java/lang/Exception"]).filter goodWord, w ∈ wsX10_must) w hw))) xa79_ok dX10_must_28 dX10_must_31 dX10_must_32 dX10_must_34 dX10_must_37 htab (by decide) (by decide) (by decide) (by decide) hlk (by decide) (by decide)
  · refine j_iload_n C dX10_must_19 rfl 5 rfl ?_
    refine j_if_lt (tgt := 28) C dX10_must_20 (by decide) Iff.rfl (fun h20 => ?_) (fun h20 => ?_)
    · obtain ⟨sa, hstr⟩ := Ex.str C.2.2.2.2.2.2 lw_st152 nw_st152
      exact j_throw C (cls := "java/lang/IllegalArgumentException") (names := ["java/lang/RuntimeException", "java/lang/Exception"]) (ik := 79) (is := 152) (ic := 83) hlt (by decide +kernel) (by decide +kernel) (hts (.classLink RX10 79 "java/lang/IllegalArgumentException") (by decide +kernel)) (hts (.initialized "java/lang/IllegalArgumentException") (by decide +kernel)) hstr (xa_hat C.2.2.2.2.2.2 (fun w hw => hts w ((by decide +kernel : ∀ w ∈ (vx_atS RX10 83 "java/lang/IllegalArgumentException" ["java/lang/RuntimeException", "java/lang/Exception"]).filter goodWord, w ∈ wsX10_must) w hw))) xa79_ok dX10_must_28 dX10_must_31 dX10_must_32 dX10_must_34 dX10_must_37 htab (by decide) (by decide) (by decide) (by decide) hlk (by decide) (by decide)
    · refine j_iload_n C dX10_must_23 rfl 5 rfl ?_
      refine j_iconst C (nI 2) dX10_must_24 (by decide) ?_
      refine j_icmp_le (tgt := 38) C dX10_must_25 (by decide) Iff.rfl (fun h25 => ?_) (fun h25 => ?_)
      · exfalso; simp only [Int32.lt_iff_toInt_lt, Int32.le_iff_toInt_le, nI_toInt (show 2 < 2 ^ 31 by decide)] at h20 h25; have z0 : (0 : Int32).toInt = 0 := rfl; omega
      · obtain ⟨sa, hstr⟩ := Ex.str C.2.2.2.2.2.2 lw_st152 nw_st152
        exact j_throw C (cls := "java/lang/IllegalArgumentException") (names := ["java/lang/RuntimeException", "java/lang/Exception"]) (ik := 79) (is := 152) (ic := 83) hlt (by decide +kernel) (by decide +kernel) (hts (.classLink RX10 79 "java/lang/IllegalArgumentException") (by decide +kernel)) (hts (.initialized "java/lang/IllegalArgumentException") (by decide +kernel)) hstr (xa_hat C.2.2.2.2.2.2 (fun w hw => hts w ((by decide +kernel : ∀ w ∈ (vx_atS RX10 83 "java/lang/IllegalArgumentException" ["java/lang/RuntimeException", "java/lang/Exception"]).filter goodWord, w ∈ wsX10_must) w hw))) xa79_ok dX10_must_28 dX10_must_31 dX10_must_32 dX10_must_34 dX10_must_37 htab (by decide) (by decide) (by decide) (by decide) hlk (by decide) (by decide)

set_option maxHeartbeats 4000000 in
set_option maxRecDepth 100000 in
theorem c_name_e1 (l : Launch) (hlt : l.stackTraces = false) (D : va_G) (cy : Nat → ClassId) (base : Nat) (Λ : LY) (σ : HS) (M : MM) (hC : CR noEx Λ σ M) (hB : MBd M) (rm : Int32) (hA : inRm M rm = false) : vx_Met l yX10_name wsX10_name ({ frames := 12, cells := 1, slots := 6, locals := 180 }) (va_Pc [.ref (gA Λ 0 0), .int (rm)] (Wd D cy base Λ σ)) NoR (XQ D cy base Λ σ "java/lang/IllegalArgumentException") 1 6 (Ab base) := by
  refine j_startX (cc := cX10_name) (nL := 3) (ret := (some .int)) (lv := [(0, .ref (gA Λ 0 0)), (1, .int (rm))]) (by decide) rfl (Nat.le_of_ble_eq_true rfl) rfl ?_
  intro p e s m below meth c C htab hlk
  have C : Cx p s m ([.ref (gA Λ 0 0), .int (rm)] : List Value).toArray c cX10_name 3 RX10 wsX10_name D cy base := C
  have hts := C.2.2.2.2.1
  have hn : M 31 5 ≤ 40 := hB 31 5 rfl
  refine j_aload_n C dX10_name_0 rfl 0 rfl ?_
  refine j_iload_n C dX10_name_1 rfl 1 rfl ?_
  exact j_pass C htab hlk (rx_V C 0 0 [.int (rm)] (c_needRoom_x l hlt D cy base Λ σ M hC hB rm hA) (cwV 1 hts gX10_name_X10_needRoom rfl rfl rfl (by decide +kernel) ⟨by decide, by decide⟩) (CR.n1 hC (by decide)) rfl rfl rfl rfl (Nat.le_of_ble_eq_true rfl) dX10_name_2 ⟨by decide, by decide⟩) (by decide) (by decide)

set_option maxHeartbeats 4000000 in
set_option maxRecDepth 100000 in
theorem c_face_e1 (l : Launch) (hlt : l.stackTraces = false) (D : va_G) (cy : Nat → ClassId) (base : Nat) (Λ : LY) (σ : HS) (M : MM) (hC : CR noEx Λ σ M) (hB : MBd M) (rm : Int32) (hA : inRm M rm = false) (k : Int32) : vx_Met l yX10_face wsX10_face ({ frames := 12, cells := 1, slots := 6, locals := 180 }) (va_Pc [.ref (gA Λ 0 0), .int (rm), .int (k)] (Wd D cy base Λ σ)) NoR (XQ D cy base Λ σ "java/lang/IllegalArgumentException") 1 6 (Ab base) := by
  refine j_startX (cc := cX10_face) (nL := 3) (ret := (some .int)) (lv := [(0, .ref (gA Λ 0 0)), (1, .int (rm)), (2, .int (k))]) (by decide) rfl (Nat.le_of_ble_eq_true rfl) rfl ?_
  intro p e s m below meth c C htab hlk
  have C : Cx p s m ([.ref (gA Λ 0 0), .int (rm), .int (k)] : List Value).toArray c cX10_face 3 RX10 wsX10_face D cy base := C
  have hts := C.2.2.2.2.1
  have hn : M 31 5 ≤ 40 := hB 31 5 rfl
  refine j_aload_n C dX10_face_0 rfl 0 rfl ?_
  refine j_iload_n C dX10_face_1 rfl 1 rfl ?_
  exact j_pass C htab hlk (rx_V C 0 0 [.int (rm)] (c_needRoom_x l hlt D cy base Λ σ M hC hB rm hA) (cwV 1 hts gX10_face_X10_needRoom rfl rfl rfl (by decide +kernel) ⟨by decide, by decide⟩) (CR.n1 hC (by decide)) rfl rfl rfl rfl (Nat.le_of_ble_eq_true rfl) dX10_face_2 ⟨by decide, by decide⟩) (by decide) (by decide)

set_option maxHeartbeats 4000000 in
set_option maxRecDepth 100000 in
theorem c_ring_e1 (l : Launch) (hlt : l.stackTraces = false) (D : va_G) (cy : Nat → ClassId) (base : Nat) (Λ : LY) (σ : HS) (M : MM) (hC : CR noEx Λ σ M) (hB : MBd M) (rm : Int32) (hA : inRm M rm = false) : vx_Met l yX10_ring wsX10_ring ({ frames := 12, cells := 1, slots := 6, locals := 180 }) (va_Pc [.ref (gA Λ 0 0), .int (rm)] (Wd D cy base Λ σ)) NoR (XQ D cy base Λ σ "java/lang/IllegalArgumentException") 1 6 (Ab base) := by
  refine j_startX (cc := cX10_ring) (nL := 2) (ret := (some .int)) (lv := [(0, .ref (gA Λ 0 0)), (1, .int (rm))]) (by decide) rfl (Nat.le_of_ble_eq_true rfl) rfl ?_
  intro p e s m below meth c C htab hlk
  have C : Cx p s m ([.ref (gA Λ 0 0), .int (rm)] : List Value).toArray c cX10_ring 2 RX10 wsX10_ring D cy base := C
  have hts := C.2.2.2.2.1
  have hn : M 31 5 ≤ 40 := hB 31 5 rfl
  refine j_aload_n C dX10_ring_0 rfl 0 rfl ?_
  refine j_iload_n C dX10_ring_1 rfl 1 rfl ?_
  exact j_pass C htab hlk (rx_V C 0 0 [.int (rm)] (c_needRoom_x l hlt D cy base Λ σ M hC hB rm hA) (cwV 1 hts gX10_ring_X10_needRoom rfl rfl rfl (by decide +kernel) ⟨by decide, by decide⟩) (CR.n1 hC (by decide)) rfl rfl rfl rfl (Nat.le_of_ble_eq_true rfl) dX10_ring_2 ⟨by decide, by decide⟩) (by decide) (by decide)
