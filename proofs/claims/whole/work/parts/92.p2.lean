set_option maxHeartbeats 4000000 in
set_option maxRecDepth 100000 in
theorem c_X10_alone (l : Launch) (D : va_G) (cy : Nat → ClassId) (base : Nat) (Λ : LY) (σ : HS) (M : MM) (hC : CR noEx Λ σ M) (hB : MBd M) : Met l yX10_alone wsX10_alone ({ frames := 12, cells := 0, slots := 0, locals := 180 }) (va_Pc [.ref (gA Λ 0 0)] (Wd D cy base Λ σ)) (va_Qi (fun v u => v = nI (fb_ct (alnB M) (M 31 22)) ∧ G7 σ u) (Wd D cy base Λ) (Ab base)) 0 0 (Ab base) := by
  refine j_start (cc := cX10_alone) (nL := 1) (ret := (some .int)) (lv := [(0, .ref (gA Λ 0 0))]) (by decide) rfl (Nat.le_of_ble_eq_true rfl) rfl ?_
  intro p e s m below meth c C hr hlk hnm
  have C : Cx p s m ([.ref (gA Λ 0 0)] : List Value).toArray c cX10_alone 1 RX10 wsX10_alone D cy base := C
  have hts := C.2.2.2.2.1
  have hwX10 : ∀ w ∈ u_ws RX10 TX10 9, w ∈ wsX10_alone := by decide +kernel
  have hM24 : (Cond.fieldLink RX10 24 (TX10 2).1 (TX10 2).2.1 (TX10 2).2.2.1).before ([.ref (gA Λ 0 0)] : List Value).toArray s = true := hts (.fieldLink RX10 24 "CodeRooms" "plan" "LCodeRooms$Plan;") (by decide +kernel)
  have hL24 : FL RX10 24 (TX10 2).1 (TX10 2).2.1 (TX10 2).2.2.1 ([.ref (gA Λ 0 0)] : List Value).toArray s := Or.inl hM24
  have hM61 : (Cond.fieldLink RX10 61 (TX10 7).1 (TX10 7).2.1 (TX10 7).2.2.1).before ([.ref (gA Λ 0 0)] : List Value).toArray s = true := hts (.fieldLink RX10 61 "CodeRooms" "past" "LCodeRooms$Past;") (by decide +kernel)
  have hL61 : FL RX10 61 (TX10 7).1 (TX10 7).2.1 (TX10 7).2.2.1 ([.ref (gA Λ 0 0)] : List Value).toArray s := Or.inl hM61
  refine j_aload_n C dX10_alone_0 rfl 0 rfl ?_
  refine j_getV C hwX10 0 0 2 (CR.n1 hC (by decide)) rfl rfl (by decide) rfl 0 (CR.v hC 0 0 2 ⟨rfl, by decide⟩ id) hL24 dX10_alone_1 ?_
  refine c_v0 C (r_V C 3 0 [] (c_X4_gather l D cy base Λ σ M hC hB) (cwV 0 hts gX10_alone_X4_gather rfl rfl rfl (by decide +kernel) ⟨by decide, by decide⟩) (CR.n1 hC (by decide)) rfl rfl rfl rfl (Nat.le_of_ble_eq_true rfl) dX10_alone_4 ⟨by decide, by decide⟩) (fun ug_1 hp => ?_)
  obtain ⟨hGg_1, hmg_1⟩ := hp
  have hCg_1 := hGg_1.cr hC
  refine j_aload_n C dX10_alone_7 rfl 0 rfl ?_
  refine j_getV C hwX10 0 0 7 (CR.n1 hCg_1 (by decide)) rfl rfl (by decide) rfl 0 (CR.v hCg_1 0 0 7 ⟨rfl, by decide⟩ id) hL61 dX10_alone_8 ?_
  refine j_aload_n C dX10_alone_11 rfl 0 rfl ?_
  refine j_getV C hwX10 0 0 2 (CR.n1 hCg_1 (by decide)) rfl rfl (by decide) rfl 0 (CR.v hCg_1 0 0 2 ⟨rfl, by decide⟩ id) hL24 dX10_alone_12 ?_
  refine c_i0 C (r_V C 25 0 [.ref (gA Λ 3 0)] (c_X3_countAlone l D cy base Λ ug_1 M hCg_1 hB hmg_1) (cwV 1 hts gX10_alone_X3_countAlone rfl rfl rfl (by decide +kernel) ⟨by decide, by decide⟩) (CR.n1 hCg_1 (by decide)) rfl rfl rfl rfl (Nat.le_of_ble_eq_true rfl) dX10_alone_15 ⟨by decide, by decide⟩) (fun rv uu hp => ?_)
  rw [hp.1, hp.2]
  exact j_iret C hr hlk (⟨rfl, hGg_1⟩) dX10_alone_18

set_option maxHeartbeats 4000000 in
set_option maxRecDepth 100000 in
theorem c_X10_known (l : Launch) (D : va_G) (cy : Nat → ClassId) (base : Nat) (Λ : LY) (σ : HS) (M : MM) (hC : CR noEx Λ σ M) (hB : MBd M) (j : Nat) (hj : j < M 31 5) : Met l yX10_known wsX10_known ({ frames := 4, cells := 0, slots := 0, locals := 60 }) (va_Pc [.ref (gA Λ 0 0), .int (nI j)] (Wd D cy base Λ σ)) (va_Qr (fun x => x = (σ, j)) (Wr D cy base Λ 8) (Ab base)) 0 0 (Ab base) := by
  refine j_start (cc := cX10_known) (nL := 2) (ret := (some (.object "CodeRooms$Routine"))) (lv := [(0, .ref (gA Λ 0 0)), (1, .int (nI j))]) (by decide) rfl (Nat.le_of_ble_eq_true rfl) rfl ?_
  intro p e s m below meth c C hr hlk hnm
  have C : Cx p s m ([.ref (gA Λ 0 0), .int (nI j)] : List Value).toArray c cX10_known 2 RX10 wsX10_known D cy base := C
  have hts := C.2.2.2.2.1
  have hwX10 : ∀ w ∈ u_ws RX10 TX10 9, w ∈ wsX10_known := by decide +kernel
  have hwX4 : ∀ w ∈ u_ws RX4 TX4 6, w ∈ wsX10_known := by decide +kernel
  have hM24 : (Cond.fieldLink RX10 24 (TX10 2).1 (TX10 2).2.1 (TX10 2).2.2.1).before ([.ref (gA Λ 0 0), .int (nI j)] : List Value).toArray s = true := hts (.fieldLink RX10 24 "CodeRooms" "plan" "LCodeRooms$Plan;") (by decide +kernel)
  have hL24 : FL RX10 24 (TX10 2).1 (TX10 2).2.1 (TX10 2).2.2.1 ([.ref (gA Λ 0 0), .int (nI j)] : List Value).toArray s := Or.inl hM24
  have hL86 : FL RX10 86 (TX4 4).1 (TX4 4).2.1 (TX4 4).2.2.1 ([.ref (gA Λ 0 0), .int (nI j)] : List Value).toArray s := Or.inr ⟨_, Ex.nestF C.2.2.2.2.2.2 nf_X10_86⟩
  have hL252 : FL RX10 252 (TX4 0).1 (TX4 0).2.1 (TX4 0).2.2.1 ([.ref (gA Λ 0 0), .int (nI j)] : List Value).toArray s := Or.inr ⟨_, Ex.nestF C.2.2.2.2.2.2 nf_X10_252⟩
  have hn : M 31 5 ≤ 40 := hB 31 5 rfl
  refine j_iload_n C dX10_known_0 rfl 1 rfl ?_
  refine j_if_lt (tgt := 15) C dX10_known_1 (by decide) (nJ_lt0 (by omega)) (fun h1 => ?_) (fun h1 => ?_)
  · first | omega | exact h1.elim
  · refine j_iload_n C dX10_known_4 rfl 1 rfl ?_
    refine j_aload_n C dX10_known_5 rfl 0 rfl ?_
    refine j_getV C hwX10 0 0 2 (CR.n1 hC (by decide)) rfl rfl (by decide) rfl 0 (CR.v hC 0 0 2 ⟨rfl, by decide⟩ id) hL24 dX10_known_6 ?_
    refine j_getI C hwX4 3 0 4 (CR.n1 hC (by decide)) rfl rfl (by decide) rfl (nI (M 31 5)) (CR.i hC 3 0 4 ⟨rfl, Or.inl rfl⟩ id) hL86 dX10_known_9 ?_
    refine j_icmp_lt (tgt := 25) C dX10_known_12 (by decide) (nI_ltI (by omega) (by omega)) (fun h12 => ?_) (fun h12 => ?_)
    · refine j_aload_n C dX10_known_25 rfl 0 rfl ?_
      refine j_getV C hwX10 0 0 2 (CR.n1 hC (by decide)) rfl rfl (by decide) rfl 0 (CR.v hC 0 0 2 ⟨rfl, by decide⟩ id) hL24 dX10_known_26 ?_
      refine j_getV C hwX4 3 0 0 (CR.n1 hC (by decide)) rfl rfl (by decide) rfl 0 (CR.v hC 3 0 0 ⟨rfl, by decide⟩ id) hL252 dX10_known_29 ?_
      refine j_iload_n C dX10_known_32 rfl 1 rfl ?_
      refine j_aald C 4 0 j (CR.n1 hC (by decide)) rfl (by decide) (by decide) 40 (CR.l1 hC (by decide)) (by omega) (by omega) j (CR.v hC 4 0 j ⟨rfl, show j < M 31 5 by omega⟩ id) dX10_known_33 ?_
      exact j_aret C (Or.inl ⟨_, rfl⟩) hr hlk (rfl) dX10_known_34
    · first | omega | exact h1.elim

set_option maxHeartbeats 4000000 in
set_option maxRecDepth 100000 in
theorem c_X10_needRoom (l : Launch) (D : va_G) (cy : Nat → ClassId) (base : Nat) (Λ : LY) (σ : HS) (M : MM) (hC : CR noEx Λ σ M) (hB : MBd M) (j : Nat) (hj : j < M 31 10) : Met l yX10_needRoom wsX10_needRoom ({ frames := 8, cells := 0, slots := 0, locals := 120 }) (va_Pc [.ref (gA Λ 0 0), .int (nI j)] (Wd D cy base Λ σ)) (va_Qv (fun u => u = σ) (Wd D cy base Λ) (Ab base)) 0 0 (Ab base) := by
  refine j_start (cc := cX10_needRoom) (nL := 2) (ret := none) (lv := [(0, .ref (gA Λ 0 0)), (1, .int (nI j))]) (by decide) rfl (Nat.le_of_ble_eq_true rfl) rfl ?_
  intro p e s m below meth c C hr hlk hnm
  have C : Cx p s m ([.ref (gA Λ 0 0), .int (nI j)] : List Value).toArray c cX10_needRoom 2 RX10 wsX10_needRoom D cy base := C
  have hts := C.2.2.2.2.1
  have hwX10 : ∀ w ∈ u_ws RX10 TX10 9, w ∈ wsX10_needRoom := by decide +kernel
  have hM24 : (Cond.fieldLink RX10 24 (TX10 2).1 (TX10 2).2.1 (TX10 2).2.2.1).before ([.ref (gA Λ 0 0), .int (nI j)] : List Value).toArray s = true := hts (.fieldLink RX10 24 "CodeRooms" "plan" "LCodeRooms$Plan;") (by decide +kernel)
  have hL24 : FL RX10 24 (TX10 2).1 (TX10 2).2.1 (TX10 2).2.2.1 ([.ref (gA Λ 0 0), .int (nI j)] : List Value).toArray s := Or.inl hM24
  have hR40 : M 31 10 ≤ 40 := hB 31 10 rfl
  refine j_iload_n C dX10_needRoom_0 rfl 1 rfl ?_
  refine j_if_lt (tgt := 15) C dX10_needRoom_1 (by decide) (nJ_lt0 (by omega)) (fun h1 => ?_) (fun h1 => ?_)
  · first | omega | exact h1.elim
  · refine j_iload_n C dX10_needRoom_4 rfl 1 rfl ?_
    refine j_aload_n C dX10_needRoom_5 rfl 0 rfl ?_
    refine j_getV C hwX10 0 0 2 (CR.n1 hC (by decide)) rfl rfl (by decide) rfl 0 (CR.v hC 0 0 2 ⟨rfl, by decide⟩ id) hL24 dX10_needRoom_6 ?_
    refine c_i0 C (r_V C 3 0 [] (c_X4_roomCount l D cy base Λ σ M hC hB) (cwV 0 hts gX10_needRoom_X4_roomCount rfl rfl rfl (by decide +kernel) ⟨by decide, by decide⟩) (CR.n1 hC (by decide)) rfl rfl rfl rfl (Nat.le_of_ble_eq_true rfl) dX10_needRoom_9 ⟨by decide, by decide⟩) (fun rv uu hp => ?_)
    rw [hp.1, hp.2]
    refine j_icmp_lt (tgt := 25) C dX10_needRoom_12 (by decide) (nI_ltI (by omega) (by omega)) (fun h12 => ?_) (fun h12 => ?_)
    · exact j_vret C hr hlk (rfl) dX10_needRoom_25
    · first | omega | exact h1.elim
