set_option maxHeartbeats 4000000 in
set_option maxRecDepth 100000 in
theorem c_hub_ok (l : Launch) (D : va_G) (cy : Nat → ClassId) (base : Nat) (Λ : LY) (σ : HS) (M : MM) (hC : CR noEx Λ σ M) (hB : MBd M) (j : Nat) (hj : j < M 31 5) : Met l yX10_hub wsX10_hub ({ frames := 8, cells := 0, slots := 0, locals := 120 }) (va_Pc [.ref (gA Λ 0 0), .int (nI j)] (Wd D cy base Λ σ)) (va_Qi (fun v u => v = nI (M 37 j) ∧ u = σ) (Wd D cy base Λ) (Ab base)) 0 0 (Ab base) := by
  refine j_start (cc := cX10_hub) (nL := 2) (ret := (some .boolean)) (lv := [(0, .ref (gA Λ 0 0)), (1, .int (nI j))]) (by decide) rfl (Nat.le_of_ble_eq_true rfl) rfl ?_
  intro p e s m below meth c C hr hlk hnm
  have C : Cx p s m ([.ref (gA Λ 0 0), .int (nI j)] : List Value).toArray c cX10_hub 2 RX10 wsX10_hub D cy base := C
  have hts := C.2.2.2.2.1
  have hwX5 : ∀ w ∈ u_ws RX5 TX5 13, w ∈ wsX10_hub := by decide +kernel
  have hL162 : FL RX10 162 (TX5 12).1 (TX5 12).2.1 (TX5 12).2.2.1 ([.ref (gA Λ 0 0), .int (nI j)] : List Value).toArray s := Or.inr ⟨_, Ex.nestF C.2.2.2.2.2.2 nf_X10_162⟩
  have hn : M 31 5 ≤ 40 := hB 31 5 rfl
  refine j_aload_n C dX10_hub_0 rfl 0 rfl ?_
  refine j_iload_n C dX10_hub_1 rfl 1 rfl ?_
  refine c_r0 C (r_V C 0 0 [.int (nI j)] (c_X10_known l D cy base Λ σ M hC hB j (by omega)) (cwV 1 hts gX10_hub_X10_known rfl rfl rfl (by decide +kernel) ⟨by decide, by decide⟩) (CR.n1 hC (by decide)) rfl rfl rfl rfl (Nat.le_of_ble_eq_true rfl) dX10_hub_2 ⟨by decide, by decide⟩) (fun uu jj hp => ?_)
  obtain ⟨hk1, hk2⟩ := Prod.mk.inj hp
  rw [hk1, hk2]
  have hb5 : M 37 j ≤ 1 := hB 37 j (decide_eq_true (show j < 40 by omega))
  refine j_getI C hwX5 8 j 12 (CR.n8 hC (by decide) (show j < M 31 5 by omega)) rfl rfl (by decide) rfl (nI (M 37 j)) (CR.i hC 8 j 12 ⟨show j < M 31 5 by omega, Or.inr (Or.inr (Or.inr rfl))⟩ id) hL162 dX10_hub_5 ?_
  exact j_zret C (by first | rfl | exact nz_b _ | exact nz_n (by omega)) hr hlk (⟨rfl, rfl⟩) dX10_hub_8

set_option maxHeartbeats 4000000 in
set_option maxRecDepth 100000 in
theorem c_room_ok (l : Launch) (D : va_G) (cy : Nat → ClassId) (base : Nat) (Λ : LY) (σ : HS) (M : MM) (hC : CR noEx Λ σ M) (hB : MBd M) (j : Nat) (hj : j < M 31 5) : Met l yX10_room wsX10_room ({ frames := 8, cells := 0, slots := 0, locals := 120 }) (va_Pc [.ref (gA Λ 0 0), .int (nI j)] (Wd D cy base Λ σ)) (va_Qi (fun v u => v = (if M 37 j = 0 then nI (M 38 j) else -1) ∧ u = σ) (Wd D cy base Λ) (Ab base)) 0 0 (Ab base) := by
  refine j_start (cc := cX10_room) (nL := 3) (ret := (some .int)) (lv := [(0, .ref (gA Λ 0 0)), (1, .int (nI j))]) (by decide) rfl (Nat.le_of_ble_eq_true rfl) rfl ?_
  intro p e s m below meth c C hr hlk hnm
  have C : Cx p s m ([.ref (gA Λ 0 0), .int (nI j)] : List Value).toArray c cX10_room 3 RX10 wsX10_room D cy base := C
  have hts := C.2.2.2.2.1
  have hwX5 : ∀ w ∈ u_ws RX5 TX5 13, w ∈ wsX10_room := by decide +kernel
  have hL162 : FL RX10 162 (TX5 12).1 (TX5 12).2.1 (TX5 12).2.2.1 ([.ref (gA Λ 0 0), .int (nI j)] : List Value).toArray s := Or.inr ⟨_, Ex.nestF C.2.2.2.2.2.2 nf_X10_162⟩
  have hL166 : FL RX10 166 (TX5 11).1 (TX5 11).2.1 (TX5 11).2.2.1 ([.ref (gA Λ 0 0), .int (nI j)] : List Value).toArray s := Or.inr ⟨_, Ex.nestF C.2.2.2.2.2.2 nf_X10_166⟩
  have hn : M 31 5 ≤ 40 := hB 31 5 rfl
  refine j_aload_n C dX10_room_0 rfl 0 rfl ?_
  refine j_iload_n C dX10_room_1 rfl 1 rfl ?_
  refine c_r0 C (r_V C 0 0 [.int (nI j)] (c_X10_known l D cy base Λ σ M hC hB j (by omega)) (cwV 1 hts gX10_room_X10_known rfl rfl rfl (by decide +kernel) ⟨by decide, by decide⟩) (CR.n1 hC (by decide)) rfl rfl rfl rfl (Nat.le_of_ble_eq_true rfl) dX10_room_2 ⟨by decide, by decide⟩) (fun uu jj hp => ?_)
  obtain ⟨hk1, hk2⟩ := Prod.mk.inj hp
  rw [hk1, hk2]
  refine j_astore_n C [(2, .ref (gA Λ 8 j)), (0, .ref (gA Λ 0 0)), (1, .int (nI j))] dX10_room_5 rfl (by decide) rfl ?_
  refine j_aload_n C dX10_room_6 rfl 0 rfl ?_
  have hb7 : M 37 j ≤ 1 := hB 37 j (decide_eq_true (show j < 40 by omega))
  refine j_getI C hwX5 8 j 12 (CR.n8 hC (by decide) (show j < M 31 5 by omega)) rfl rfl (by decide) rfl (nI (M 37 j)) (CR.i hC 8 j 12 ⟨show j < M 31 5 by omega, Or.inr (Or.inr (Or.inr rfl))⟩ id) hL162 dX10_room_7 ?_
  refine j_if_eq (tgt := 17) C dX10_room_10 (by decide) (nJ_eq0 (by omega)) (fun h10 => ?_) (fun h10 => ?_)
  · refine j_aload_n C dX10_room_17 rfl 0 rfl ?_
    have hb18 : M 38 j ≤ 5 := hB 38 j (decide_eq_true (show j < 40 by omega))
    refine j_getI C hwX5 8 j 11 (CR.n8 hC (by decide) (show j < M 31 5 by omega)) rfl rfl (by decide) rfl (nI (M 38 j)) (CR.i hC 8 j 11 ⟨show j < M 31 5 by omega, Or.inr (Or.inr (Or.inl rfl))⟩ id) hL166 dX10_room_18 ?_
    exact j_iret C hr hlk (⟨by simp [h10], rfl⟩) dX10_room_21
  · refine j_iconst C ((-1)) dX10_room_13 (by decide) ?_
    refine j_goto (tgt := 21) C dX10_room_14 (by decide) ?_
    exact j_iret C hr hlk (⟨by simp [h10], rfl⟩) dX10_room_21

set_option maxHeartbeats 4000000 in
set_option maxRecDepth 100000 in
theorem c_ties_ok (l : Launch) (D : va_G) (cy : Nat → ClassId) (base : Nat) (Λ : LY) (σ : HS) (M : MM) (hC : CR noEx Λ σ M) (hB : MBd M) (i j : Nat) (hi : i < M 31 5) (hj : j < M 31 5) (hij : i ≠ j) : Met l yX10_ties wsX10_ties ({ frames := 8, cells := 0, slots := 0, locals := 120 }) (va_Pc [.ref (gA Λ 0 0), .int (nI i), .int (nI j)] (Wd D cy base Λ σ)) (va_Qi (fun v u => v = nI (tieN M i j) ∧ u = σ) (Wd D cy base Λ) (Ab base)) 0 0 (Ab base) := by
  refine j_start (cc := cX10_ties) (nL := 5) (ret := (some .int)) (lv := [(0, .ref (gA Λ 0 0)), (1, .int (nI i)), (2, .int (nI j))]) (by decide) rfl (Nat.le_of_ble_eq_true rfl) rfl ?_
  intro p e s m below meth c C hr hlk hnm
  have C : Cx p s m ([.ref (gA Λ 0 0), .int (nI i), .int (nI j)] : List Value).toArray c cX10_ties 5 RX10 wsX10_ties D cy base := C
  have hts := C.2.2.2.2.1
  have hwX5 : ∀ w ∈ u_ws RX5 TX5 13, w ∈ wsX10_ties := by decide +kernel
  have hL121 : FL RX10 121 (TX5 0).1 (TX5 0).2.1 (TX5 0).2.2.1 ([.ref (gA Λ 0 0), .int (nI i), .int (nI j)] : List Value).toArray s := Or.inr ⟨_, Ex.nestF C.2.2.2.2.2.2 nf_X10_121⟩
  have hL136 : FL RX10 136 (TX5 4).1 (TX5 4).2.1 (TX5 4).2.2.1 ([.ref (gA Λ 0 0), .int (nI i), .int (nI j)] : List Value).toArray s := Or.inr ⟨_, Ex.nestF C.2.2.2.2.2.2 nf_X10_136⟩
  have hn : M 31 5 ≤ 40 := hB 31 5 rfl
  refine j_aload_n C dX10_ties_0 rfl 0 rfl ?_
  refine j_iload_n C dX10_ties_1 rfl 1 rfl ?_
  refine c_r0 C (r_V C 0 0 [.int (nI i)] (c_X10_known l D cy base Λ σ M hC hB i (by omega)) (cwV 1 hts gX10_ties_X10_known rfl rfl rfl (by decide +kernel) ⟨by decide, by decide⟩) (CR.n1 hC (by decide)) rfl rfl rfl rfl (Nat.le_of_ble_eq_true rfl) dX10_ties_2 ⟨by decide, by decide⟩) (fun uu jj hp => ?_)
  obtain ⟨hk1, hk2⟩ := Prod.mk.inj hp
  rw [hk1, hk2]
  refine j_astore_n C [(3, .ref (gA Λ 8 i)), (0, .ref (gA Λ 0 0)), (1, .int (nI i)), (2, .int (nI j))] dX10_ties_5 rfl (by decide) rfl ?_
  refine j_aload_n C dX10_ties_6 rfl 1 rfl ?_
  refine j_iload_n C dX10_ties_7 rfl 3 rfl ?_
  refine c_r0 C (r_V C 0 0 [.int (nI j)] (c_X10_known l D cy base Λ σ M hC hB j (by omega)) (cwV 1 hts gX10_ties_X10_known rfl rfl rfl (by decide +kernel) ⟨by decide, by decide⟩) (CR.n1 hC (by decide)) rfl rfl rfl rfl (Nat.le_of_ble_eq_true rfl) dX10_ties_8 ⟨by decide, by decide⟩) (fun uu jj hp => ?_)
  obtain ⟨hk1, hk2⟩ := Prod.mk.inj hp
  rw [hk1, hk2]
  refine j_astore C [(4, .ref (gA Λ 8 j)), (3, .ref (gA Λ 8 i)), (0, .ref (gA Λ 0 0)), (1, .int (nI i)), (2, .int (nI j))] dX10_ties_11 (by decide) rfl ?_
  refine j_iload_n C dX10_ties_13 rfl 3 rfl ?_
  refine j_iload_n C dX10_ties_14 rfl 4 rfl ?_
  refine j_icmp_ne (tgt := 28) C dX10_ties_15 (by decide) (nI_eq (by omega) (by omega)) (fun h15 => ?_) (fun h15 => ?_)
  · refine j_aload_n C dX10_ties_28 rfl 1 rfl ?_
    refine j_getV C hwX5 8 i 4 (CR.n8 hC (by decide) (show i < M 31 5 by omega)) rfl rfl (by decide) rfl i (CR.v hC 8 i 4 ⟨show i < M 31 5 by omega, by decide, by decide⟩ id) hL136 dX10_ties_29 ?_
    refine j_aload C dX10_ties_32 0 rfl ?_
    refine j_getI C hwX5 8 j 0 (CR.n8 hC (by decide) (show j < M 31 5 by omega)) rfl rfl (by decide) rfl (nI j) (CR.i hC 8 j 0 ⟨show j < M 31 5 by omega, Or.inl rfl⟩ id) hL121 dX10_ties_34 ?_
    have hb37 := tieN_le hB (a := i) (b := j) (by omega) (by omega)
    refine j_iald C 11 i j (CR.n8 hC (by decide) (show i < M 31 5 by omega)) rfl rfl 40 (CR.l8 hC (show i < M 31 5 by omega)).2.1 (by omega) (by omega) (nI (tieN M i j)) (CR.i hC 11 i j ⟨show i < M 31 5 by omega, by omega⟩ id) dX10_ties_37 ?_
    exact j_iret C hr hlk (⟨rfl, rfl⟩) dX10_ties_38
  · omega

set_option maxHeartbeats 4000000 in
set_option maxRecDepth 100000 in
theorem c_face_ok (l : Launch) (D : va_G) (cy : Nat → ClassId) (base : Nat) (Λ : LY) (σ : HS) (M : MM) (hC : CR noEx Λ σ M) (hB : MBd M) (room : Nat) (hrm : room < M 31 10) (hR : M 31 10 ≤ 6) (k : Int32) : Met l yX10_face wsX10_face ({ frames := 12, cells := 0, slots := 0, locals := 180 }) (va_Pc [.ref (gA Λ 0 0), .int (nI room), .int (k)] (Wd D cy base Λ σ)) (va_Qi (fun v u => fcV M room k.toInt v ∧ G7 σ u) (Wd D cy base Λ) (Ab base)) 0 0 (Ab base) := by
  refine j_start (cc := cX10_face) (nL := 3) (ret := (some .int)) (lv := [(0, .ref (gA Λ 0 0)), (1, .int (nI room)), (2, .int (k))]) (by decide) rfl (Nat.le_of_ble_eq_true rfl) rfl ?_
  intro p e s m below meth c C hr hlk hnm
  have C : Cx p s m ([.ref (gA Λ 0 0), .int (nI room), .int (k)] : List Value).toArray c cX10_face 3 RX10 wsX10_face D cy base := C
  have hts := C.2.2.2.2.1
  have hwX10 : ∀ w ∈ u_ws RX10 TX10 9, w ∈ wsX10_face := by decide +kernel
  have hM54 : (Cond.fieldLink RX10 54 (TX10 6).1 (TX10 6).2.1 (TX10 6).2.2.1).before ([.ref (gA Λ 0 0), .int (nI room), .int (k)] : List Value).toArray s = true := hts (.fieldLink RX10 54 "CodeRooms" "traffic" "LCodeRooms$Traffic;") (by decide +kernel)
  have hL54 : FL RX10 54 (TX10 6).1 (TX10 6).2.1 (TX10 6).2.2.1 ([.ref (gA Λ 0 0), .int (nI room), .int (k)] : List Value).toArray s := Or.inl hM54
  have hn : M 31 5 ≤ 40 := hB 31 5 rfl
  refine j_aload_n C dX10_face_0 rfl 0 rfl ?_
  refine j_iload_n C dX10_face_1 rfl 1 rfl ?_
  refine c_v0 C (r_V C 0 0 [.int (nI room)] (c_X10_needRoom l D cy base Λ σ M hC hB room (by omega)) (cwV 1 hts gX10_face_X10_needRoom rfl rfl rfl (by decide +kernel) ⟨by decide, by decide⟩) (CR.n1 hC (by decide)) rfl rfl rfl rfl (Nat.le_of_ble_eq_true rfl) dX10_face_2 ⟨by decide, by decide⟩) (fun uu hp => ?_)
  rw [hp]
  refine j_aload_n C dX10_face_5 rfl 0 rfl ?_
  refine j_getV C hwX10 0 0 6 (CR.n1 hC (by decide)) rfl rfl (by decide) rfl 0 (CR.v hC 0 0 6 ⟨rfl, by decide⟩ id) hL54 dX10_face_6 ?_
  refine j_iload_n C dX10_face_9 rfl 1 rfl ?_
  refine j_iload_n C dX10_face_10 rfl 2 rfl ?_
  refine c_i0 C (r_V C 23 0 [.int (nI room), .int (k)] (c_X8_calledFromOutside l D cy base Λ σ M hC hB room (by omega) k) (cwV 2 hts gX10_face_X8_calledFromOutside rfl rfl rfl (by decide +kernel) ⟨by decide, by decide⟩) (CR.n1 hC (by decide)) rfl rfl rfl rfl (Nat.le_of_ble_eq_true rfl) dX10_face_11 ⟨by decide, by decide⟩) (fun rv u1 hp => ?_)
  exact j_iret C hr hlk (hp) dX10_face_14

set_option maxHeartbeats 4000000 in
set_option maxRecDepth 100000 in
theorem c_ring_ok (l : Launch) (D : va_G) (cy : Nat → ClassId) (base : Nat) (Λ : LY) (σ : HS) (M : MM) (hC : CR noEx Λ σ M) (hB : MBd M) (hR : M 31 10 ≤ 6) (hW : ∀ r, r < M 31 5 → M 37 r = 0 → M 38 r < M 31 10) (room : Nat) (hrm : room < M 31 10) : Met l yX10_ring wsX10_ring ({ frames := 16, cells := 0, slots := 0, locals := 240 }) (va_Pc [.ref (gA Λ 0 0), .int (nI room)] (Wd D cy base Λ σ)) (va_Qi (fun v u => (∃ X, v = nI X ∧ rgTo M room X (M 31 10)) ∧ GT σ u) (Wd D cy base Λ) (Ab base)) 0 0 (Ab base) := by
  refine j_start (cc := cX10_ring) (nL := 2) (ret := (some .int)) (lv := [(0, .ref (gA Λ 0 0)), (1, .int (nI room))]) (by decide) rfl (Nat.le_of_ble_eq_true rfl) rfl ?_
  intro p e s m below meth c C hr hlk hnm
  have C : Cx p s m ([.ref (gA Λ 0 0), .int (nI room)] : List Value).toArray c cX10_ring 2 RX10 wsX10_ring D cy base := C
  have hts := C.2.2.2.2.1
  have hwX10 : ∀ w ∈ u_ws RX10 TX10 9, w ∈ wsX10_ring := by decide +kernel
  have hM54 : (Cond.fieldLink RX10 54 (TX10 6).1 (TX10 6).2.1 (TX10 6).2.2.1).before ([.ref (gA Λ 0 0), .int (nI room)] : List Value).toArray s = true := hts (.fieldLink RX10 54 "CodeRooms" "traffic" "LCodeRooms$Traffic;") (by decide +kernel)
  have hL54 : FL RX10 54 (TX10 6).1 (TX10 6).2.1 (TX10 6).2.2.1 ([.ref (gA Λ 0 0), .int (nI room)] : List Value).toArray s := Or.inl hM54
  have hn : M 31 5 ≤ 40 := hB 31 5 rfl
  refine j_aload_n C dX10_ring_0 rfl 0 rfl ?_
  refine j_iload_n C dX10_ring_1 rfl 1 rfl ?_
  refine c_v0 C (r_V C 0 0 [.int (nI room)] (c_X10_needRoom l D cy base Λ σ M hC hB room (by omega)) (cwV 1 hts gX10_ring_X10_needRoom rfl rfl rfl (by decide +kernel) ⟨by decide, by decide⟩) (CR.n1 hC (by decide)) rfl rfl rfl rfl (Nat.le_of_ble_eq_true rfl) dX10_ring_2 ⟨by decide, by decide⟩) (fun uu hp => ?_)
  rw [hp]
  refine j_aload_n C dX10_ring_5 rfl 0 rfl ?_
  refine j_getV C hwX10 0 0 6 (CR.n1 hC (by decide)) rfl rfl (by decide) rfl 0 (CR.v hC 0 0 6 ⟨rfl, by decide⟩ id) hL54 dX10_ring_6 ?_
  refine j_iload_n C dX10_ring_9 rfl 1 rfl ?_
  refine c_i0 C (r_V C 23 0 [.int (nI room)] (c_X8_roomsAround l D cy base Λ σ M hC hB hR hW room hrm) (cwV 1 hts gX10_ring_X8_roomsAround rfl rfl rfl (by decide +kernel) ⟨by decide, by decide⟩) (CR.n1 hC (by decide)) rfl rfl rfl rfl (Nat.le_of_ble_eq_true rfl) dX10_ring_10 ⟨by decide, by decide⟩) (fun rv u1 hp => ?_)
  exact j_iret C hr hlk (hp) dX10_ring_13
