set_option maxHeartbeats 4000000 in
set_option maxRecDepth 100000 in
theorem c_X4_roomCount (l : Launch) (D : va_G) (cy : Nat → ClassId) (base : Nat) (Λ : LY) (σ : HS) (M : MM) (hC : CR noEx Λ σ M) (hB : MBd M) : Met l yX4_roomCount wsX4_roomCount ({ frames := 4, cells := 0, slots := 0, locals := 60 }) (va_Pc [.ref (gA Λ 3 0)] (Wd D cy base Λ σ)) (va_Qi (fun v u => v = nI (M 31 10) ∧ u = σ) (Wd D cy base Λ) (Ab base)) 0 0 (Ab base) := by
  refine j_start (cc := cX4_roomCount) (nL := 1) (ret := (some .int)) (lv := [(0, .ref (gA Λ 3 0))]) (by decide) rfl (Nat.le_of_ble_eq_true rfl) rfl ?_
  intro p e s m below meth c C hr hlk hnm
  have C : Cx p s m ([.ref (gA Λ 3 0)] : List Value).toArray c cX4_roomCount 1 RX4 wsX4_roomCount D cy base := C
  have hts := C.2.2.2.2.1
  have hwX4 : ∀ w ∈ u_ws RX4 TX4 6, w ∈ wsX4_roomCount := by decide +kernel
  have hM20 : (Cond.fieldLink RX4 20 (TX4 2).1 (TX4 2).2.1 (TX4 2).2.2.1).before ([.ref (gA Λ 3 0)] : List Value).toArray s = true := hts (.fieldLink RX4 20 "CodeRooms$Plan" "settings" "[I") (by decide +kernel)
  have hL20 : FL RX4 20 (TX4 2).1 (TX4 2).2.1 (TX4 2).2.2.1 ([.ref (gA Λ 3 0)] : List Value).toArray s := Or.inl hM20
  refine j_aload_n C dX4_roomCount_0 rfl 0 rfl ?_
  refine j_getV C hwX4 3 0 2 (CR.n1 hC (by decide)) rfl rfl (by decide) rfl 0 (CR.v hC 3 0 2 ⟨rfl, by decide⟩ id) hL20 dX4_roomCount_1 ?_
  refine j_iconst C (nI 5) dX4_roomCount_4 (by decide) ?_
  have hb5 : M 31 10 ≤ 40 := hB 31 10 rfl
  refine j_iald C 6 0 5 (CR.n1 hC (by decide)) rfl rfl 6 (CR.l1 hC (by decide)) (by omega) (by omega) (nI (M 31 10)) (CR.i hC 6 0 5 ⟨rfl, by decide⟩ id) dX4_roomCount_5 ?_
  exact j_iret C hr hlk (⟨rfl, rfl⟩) dX4_roomCount_6

set_option maxHeartbeats 4000000 in
set_option maxRecDepth 100000 in
theorem c_X4_even (l : Launch) (D : va_G) (cy : Nat → ClassId) (base : Nat) (Λ : LY) (σ : HS) (M : MM) (hC : CR noEx Λ σ M) (hB : MBd M) : Met l yX4_even wsX4_even ({ frames := 4, cells := 0, slots := 0, locals := 60 }) (va_Pc [.ref (gA Λ 3 0)] (Wd D cy base Λ σ)) (va_Qi (fun v u => v = nI (M 31 8) ∧ u = σ) (Wd D cy base Λ) (Ab base)) 0 0 (Ab base) := by
  refine j_start (cc := cX4_even) (nL := 1) (ret := (some .int)) (lv := [(0, .ref (gA Λ 3 0))]) (by decide) rfl (Nat.le_of_ble_eq_true rfl) rfl ?_
  intro p e s m below meth c C hr hlk hnm
  have C : Cx p s m ([.ref (gA Λ 3 0)] : List Value).toArray c cX4_even 1 RX4 wsX4_even D cy base := C
  have hts := C.2.2.2.2.1
  have hwX4 : ∀ w ∈ u_ws RX4 TX4 6, w ∈ wsX4_even := by decide +kernel
  have hM20 : (Cond.fieldLink RX4 20 (TX4 2).1 (TX4 2).2.1 (TX4 2).2.2.1).before ([.ref (gA Λ 3 0)] : List Value).toArray s = true := hts (.fieldLink RX4 20 "CodeRooms$Plan" "settings" "[I") (by decide +kernel)
  have hL20 : FL RX4 20 (TX4 2).1 (TX4 2).2.1 (TX4 2).2.2.1 ([.ref (gA Λ 3 0)] : List Value).toArray s := Or.inl hM20
  refine j_aload_n C dX4_even_0 rfl 0 rfl ?_
  refine j_getV C hwX4 3 0 2 (CR.n1 hC (by decide)) rfl rfl (by decide) rfl 0 (CR.v hC 3 0 2 ⟨rfl, by decide⟩ id) hL20 dX4_even_1 ?_
  refine j_iconst C (nI 3) dX4_even_4 (by decide) ?_
  have hb5 : M 31 8 ≤ 100 := hB 31 8 rfl
  refine j_iald C 6 0 3 (CR.n1 hC (by decide)) rfl rfl 6 (CR.l1 hC (by decide)) (by omega) (by omega) (nI (M 31 8)) (CR.i hC 6 0 3 ⟨rfl, by decide⟩ id) dX4_even_5 ?_
  exact j_iret C hr hlk (⟨rfl, rfl⟩) dX4_even_6

set_option maxHeartbeats 4000000 in
set_option maxRecDepth 100000 in
theorem c_X5_isMisplaced (l : Launch) (D : va_G) (cy : Nat → ClassId) (base : Nat) (Λ : LY) (σ : HS) (M : MM) (hC : CR noEx Λ σ M) (hB : MBd M) (r : Nat) (hr0 : r < M 31 5) : Met l yX5_isMisplaced wsX5_isMisplaced ({ frames := 4, cells := 0, slots := 0, locals := 60 }) (va_Pc [.ref (gA Λ 8 r)] (Wd D cy base Λ σ)) (va_Qi (fun v u => v = bI (fxB M r (M 38 r)) ∧ u = σ) (Wd D cy base Λ) (Ab base)) 0 0 (Ab base) := by
  refine j_start (cc := cX5_isMisplaced) (nL := 1) (ret := (some .boolean)) (lv := [(0, .ref (gA Λ 8 r))]) (by decide) rfl (Nat.le_of_ble_eq_true rfl) rfl ?_
  intro p e s m below meth c C hr hlk hnm
  have C : Cx p s m ([.ref (gA Λ 8 r)] : List Value).toArray c cX5_isMisplaced 1 RX5 wsX5_isMisplaced D cy base := C
  have hts := C.2.2.2.2.1
  have hwX5 : ∀ w ∈ u_ws RX5 TX5 13, w ∈ wsX5_isMisplaced := by decide +kernel
  have hM27 : (Cond.fieldLink RX5 27 (TX5 10).1 (TX5 10).2.1 (TX5 10).2.2.1).before ([.ref (gA Λ 8 r)] : List Value).toArray s = true := hts (.fieldLink RX5 27 "CodeRooms$Routine" "fixedTo" "I") (by decide +kernel)
  have hL27 : FL RX5 27 (TX5 10).1 (TX5 10).2.1 (TX5 10).2.2.1 ([.ref (gA Λ 8 r)] : List Value).toArray s := Or.inl hM27
  have hM47 : (Cond.fieldLink RX5 47 (TX5 11).1 (TX5 11).2.1 (TX5 11).2.2.1).before ([.ref (gA Λ 8 r)] : List Value).toArray s = true := hts (.fieldLink RX5 47 "CodeRooms$Routine" "place" "I") (by decide +kernel)
  have hL47 : FL RX5 47 (TX5 11).1 (TX5 11).2.1 (TX5 11).2.2.1 ([.ref (gA Λ 8 r)] : List Value).toArray s := Or.inl hM47
  have hn : M 31 5 ≤ 40 := hB 31 5 rfl
  refine j_aload_n C dX5_isMisplaced_0 rfl 0 rfl ?_
  have hb1 : M 40 r ≤ 6 := hB 40 r (decide_eq_true (show r < 40 by omega))
  refine j_getI C hwX5 8 r 10 (CR.n8 hC (by decide) (show r < M 31 5 by omega)) rfl rfl (by decide) rfl (nI (M 40 r) - 1) (CR.i hC 8 r 10 ⟨show r < M 31 5 by omega, Or.inr (Or.inl rfl)⟩ id) hL27 dX5_isMisplaced_1 ?_
  refine j_iconst C ((-1)) dX5_isMisplaced_4 (by decide) ?_
  refine j_icmp_eq (tgt := 23) C dX5_isMisplaced_5 (by decide) (m1_eqm (by omega)) (fun h5 => ?_) (fun h5 => ?_)
  · refine j_iconst C (nI 0) dX5_isMisplaced_23 (by decide) ?_
    exact j_zret C (by first | rfl | exact nz_b _ | exact nz_n (by omega)) hr hlk (⟨rt0 (by simp [fxB, h5]; try omega), rfl⟩) dX5_isMisplaced_24
  · refine j_aload_n C dX5_isMisplaced_8 rfl 0 rfl ?_
    have hb9 : M 40 r ≤ 6 := hB 40 r (decide_eq_true (show r < 40 by omega))
    refine j_getI C hwX5 8 r 10 (CR.n8 hC (by decide) (show r < M 31 5 by omega)) rfl rfl (by decide) rfl (nI (M 40 r) - 1) (CR.i hC 8 r 10 ⟨show r < M 31 5 by omega, Or.inr (Or.inl rfl)⟩ id) hL27 dX5_isMisplaced_9 ?_
    refine j_aload_n C dX5_isMisplaced_12 rfl 0 rfl ?_
    have hb13 : M 38 r ≤ 5 := hB 38 r (decide_eq_true (show r < 40 by omega))
    refine j_getI C hwX5 8 r 11 (CR.n8 hC (by decide) (show r < M 31 5 by omega)) rfl rfl (by decide) rfl (nI (M 38 r)) (CR.i hC 8 r 11 ⟨show r < M 31 5 by omega, Or.inr (Or.inr (Or.inl rfl))⟩ id) hL47 dX5_isMisplaced_13 ?_
    refine j_icmp_eq (tgt := 23) C dX5_isMisplaced_16 (by decide) (m1_eq (by omega) (by omega)) (fun h16 => ?_) (fun h16 => ?_)
    · refine j_iconst C (nI 0) dX5_isMisplaced_23 (by decide) ?_
      exact j_zret C (by first | rfl | exact nz_b _ | exact nz_n (by omega)) hr hlk (⟨rt0 (by simp [fxB, h5, h16]; try omega), rfl⟩) dX5_isMisplaced_24
    · refine j_iconst C (nI 1) dX5_isMisplaced_19 (by decide) ?_
      refine j_goto (tgt := 24) C dX5_isMisplaced_20 (by decide) ?_
      exact j_zret C (by first | rfl | exact nz_b _ | exact nz_n (by omega)) hr hlk (⟨rt1 (by simp [fxB, h5, h16]; try omega), rfl⟩) dX5_isMisplaced_24

set_option maxHeartbeats 4000000 in
set_option maxRecDepth 100000 in
theorem c_X5_clashesWith (l : Launch) (D : va_G) (cy : Nat → ClassId) (base : Nat) (Λ : LY) (σ : HS) (M : MM) (hC : CR noEx Λ σ M) (hB : MBd M) (a b : Nat) (ha : a < M 31 5) (hb : b < M 31 5) : Met l yX5_clashesWith wsX5_clashesWith ({ frames := 4, cells := 0, slots := 0, locals := 60 }) (va_Pc [.ref (gA Λ 8 a), .ref (gA Λ 8 b)] (Wd D cy base Λ σ)) (va_Qi (fun v u => v = bI (brk (M 39 (40 * a + b)) (M 38 a) (M 38 b)) ∧ u = σ) (Wd D cy base Λ) (Ab base)) 0 0 (Ab base) := by
  refine j_start (cc := cX5_clashesWith) (nL := 3) (ret := (some .boolean)) (lv := [(0, .ref (gA Λ 8 a)), (1, .ref (gA Λ 8 b))]) (by decide) rfl (Nat.le_of_ble_eq_true rfl) rfl ?_
  intro p e s m below meth c C hr hlk hnm
  have C : Cx p s m ([.ref (gA Λ 8 a), .ref (gA Λ 8 b)] : List Value).toArray c cX5_clashesWith 3 RX5 wsX5_clashesWith D cy base := C
  have hts := C.2.2.2.2.1
  have hwX5 : ∀ w ∈ u_ws RX5 TX5 13, w ∈ wsX5_clashesWith := by decide +kernel
  have hM20 : (Cond.fieldLink RX5 20 (TX5 5).1 (TX5 5).2.1 (TX5 5).2.2.1).before ([.ref (gA Λ 8 a), .ref (gA Λ 8 b)] : List Value).toArray s = true := hts (.fieldLink RX5 20 "CodeRooms$Routine" "mustWith" "[I") (by decide +kernel)
  have hL20 : FL RX5 20 (TX5 5).1 (TX5 5).2.1 (TX5 5).2.2.1 ([.ref (gA Λ 8 a), .ref (gA Λ 8 b)] : List Value).toArray s := Or.inl hM20
  have hM31 : (Cond.fieldLink RX5 31 (TX5 0).1 (TX5 0).2.1 (TX5 0).2.2.1).before ([.ref (gA Λ 8 a), .ref (gA Λ 8 b)] : List Value).toArray s = true := hts (.fieldLink RX5 31 "CodeRooms$Routine" "number" "I") (by decide +kernel)
  have hL31 : FL RX5 31 (TX5 0).1 (TX5 0).2.1 (TX5 0).2.2.1 ([.ref (gA Λ 8 a), .ref (gA Λ 8 b)] : List Value).toArray s := Or.inl hM31
  have hM47 : (Cond.fieldLink RX5 47 (TX5 11).1 (TX5 11).2.1 (TX5 11).2.2.1).before ([.ref (gA Λ 8 a), .ref (gA Λ 8 b)] : List Value).toArray s = true := hts (.fieldLink RX5 47 "CodeRooms$Routine" "place" "I") (by decide +kernel)
  have hL47 : FL RX5 47 (TX5 11).1 (TX5 11).2.1 (TX5 11).2.2.1 ([.ref (gA Λ 8 a), .ref (gA Λ 8 b)] : List Value).toArray s := Or.inl hM47
  have hn : M 31 5 ≤ 40 := hB 31 5 rfl
  refine j_aload_n C dX5_clashesWith_0 rfl 0 rfl ?_
  refine j_getV C hwX5 8 a 5 (CR.n8 hC (by decide) (show a < M 31 5 by omega)) rfl rfl (by decide) rfl a (CR.v hC 8 a 5 ⟨show a < M 31 5 by omega, by decide, by decide⟩ id) hL20 dX5_clashesWith_1 ?_
  refine j_aload_n C dX5_clashesWith_4 rfl 1 rfl ?_
  refine j_getI C hwX5 8 b 0 (CR.n8 hC (by decide) (show b < M 31 5 by omega)) rfl rfl (by decide) rfl (nI b) (CR.i hC 8 b 0 ⟨show b < M 31 5 by omega, Or.inl rfl⟩ id) hL31 dX5_clashesWith_5 ?_
  have hb8 : M 39 (40 * a + b) ≤ 2 := hB 39 _ (decide_eq_true (show 40 * a + b < 1600 by omega))
  refine j_iald C 12 a b (CR.n8 hC (by decide) (show a < M 31 5 by omega)) rfl rfl 40 (CR.l8 hC (show a < M 31 5 by omega)).2.2.1 (by omega) (by omega) (nI (M 39 (40 * a + b))) (CR.i hC 12 a b ⟨show a < M 31 5 by omega, by omega⟩ id) dX5_clashesWith_8 ?_
  refine j_istore_n C [(2, .int (nI (M 39 (40 * a + b)))), (0, .ref (gA Λ 8 a)), (1, .ref (gA Λ 8 b))] dX5_clashesWith_9 rfl (by decide) rfl ?_
  refine j_iload_n C dX5_clashesWith_10 rfl 0 rfl ?_
  refine j_iconst C (nI 1) dX5_clashesWith_11 (by decide) ?_
  refine j_icmp_ne (tgt := 26) C dX5_clashesWith_12 (by decide) (nI_eq (by omega) (by omega)) (fun h12 => ?_) (fun h12 => ?_)
  · refine j_iload_n C dX5_clashesWith_26 rfl 0 rfl ?_
    refine j_iconst C (nI 2) dX5_clashesWith_27 (by decide) ?_
    refine j_icmp_ne (tgt := 46) C dX5_clashesWith_28 (by decide) (nI_eq (by omega) (by omega)) (fun h28 => ?_) (fun h28 => ?_)
    · refine j_iconst C (nI 0) dX5_clashesWith_46 (by decide) ?_
      exact j_zret C (by first | rfl | exact nz_b _ | exact nz_n (by omega)) hr hlk (⟨rt0 (by first | (exfalso; omega) | simp [brk, h12, h28]), rfl⟩) dX5_clashesWith_47
    · refine j_aload_n C dX5_clashesWith_31 rfl 1 rfl ?_
      have hb32 : M 38 a ≤ 5 := hB 38 a (decide_eq_true (show a < 40 by omega))
      refine j_getI C hwX5 8 a 11 (CR.n8 hC (by decide) (show a < M 31 5 by omega)) rfl rfl (by decide) rfl (nI (M 38 a)) (CR.i hC 8 a 11 ⟨show a < M 31 5 by omega, Or.inr (Or.inr (Or.inl rfl))⟩ id) hL47 dX5_clashesWith_32 ?_
      refine j_aload_n C dX5_clashesWith_35 rfl 2 rfl ?_
      have hb36 : M 38 b ≤ 5 := hB 38 b (decide_eq_true (show b < 40 by omega))
      refine j_getI C hwX5 8 b 11 (CR.n8 hC (by decide) (show b < M 31 5 by omega)) rfl rfl (by decide) rfl (nI (M 38 b)) (CR.i hC 8 b 11 ⟨show b < M 31 5 by omega, Or.inr (Or.inr (Or.inl rfl))⟩ id) hL47 dX5_clashesWith_36 ?_
      refine j_icmp_ne (tgt := 46) C dX5_clashesWith_39 (by decide) (nI_eq (by omega) (by omega)) (fun h39 => ?_) (fun h39 => ?_)
      · refine j_iconst C (nI 0) dX5_clashesWith_46 (by decide) ?_
        exact j_zret C (by first | rfl | exact nz_b _ | exact nz_n (by omega)) hr hlk (⟨rt0 (by first | (exfalso; omega) | simp [brk, h12, h28, h39]), rfl⟩) dX5_clashesWith_47
      · refine j_iconst C (nI 1) dX5_clashesWith_42 (by decide) ?_
        refine j_goto (tgt := 47) C dX5_clashesWith_43 (by decide) ?_
        exact j_zret C (by first | rfl | exact nz_b _ | exact nz_n (by omega)) hr hlk (⟨rt1 (by first | (exfalso; omega) | simp [brk, h12, h28, h39]), rfl⟩) dX5_clashesWith_47
  · refine j_aload_n C dX5_clashesWith_15 rfl 1 rfl ?_
    have hb16 : M 38 a ≤ 5 := hB 38 a (decide_eq_true (show a < 40 by omega))
    refine j_getI C hwX5 8 a 11 (CR.n8 hC (by decide) (show a < M 31 5 by omega)) rfl rfl (by decide) rfl (nI (M 38 a)) (CR.i hC 8 a 11 ⟨show a < M 31 5 by omega, Or.inr (Or.inr (Or.inl rfl))⟩ id) hL47 dX5_clashesWith_16 ?_
    refine j_aload_n C dX5_clashesWith_19 rfl 2 rfl ?_
    have hb20 : M 38 b ≤ 5 := hB 38 b (decide_eq_true (show b < 40 by omega))
    refine j_getI C hwX5 8 b 11 (CR.n8 hC (by decide) (show b < M 31 5 by omega)) rfl rfl (by decide) rfl (nI (M 38 b)) (CR.i hC 8 b 11 ⟨show b < M 31 5 by omega, Or.inr (Or.inr (Or.inl rfl))⟩ id) hL47 dX5_clashesWith_20 ?_
    refine j_icmp_ne (tgt := 42) C dX5_clashesWith_23 (by decide) (nI_eq (by omega) (by omega)) (fun h23 => ?_) (fun h23 => ?_)
    · refine j_iconst C (nI 1) dX5_clashesWith_42 (by decide) ?_
      refine j_goto (tgt := 47) C dX5_clashesWith_43 (by decide) ?_
      exact j_zret C (by first | rfl | exact nz_b _ | exact nz_n (by omega)) hr hlk (⟨rt1 (by first | (exfalso; omega) | simp [brk, h12, h23]), rfl⟩) dX5_clashesWith_47
    · refine j_iload_n C dX5_clashesWith_26 rfl 0 rfl ?_
      refine j_iconst C (nI 2) dX5_clashesWith_27 (by decide) ?_
      refine j_icmp_ne (tgt := 46) C dX5_clashesWith_28 (by decide) (nI_eq (by omega) (by omega)) (fun h28 => ?_) (fun h28 => ?_)
      · refine j_iconst C (nI 0) dX5_clashesWith_46 (by decide) ?_
        exact j_zret C (by first | rfl | exact nz_b _ | exact nz_n (by omega)) hr hlk (⟨rt0 (by first | (exfalso; omega) | simp [brk, h12, h23, h28]), rfl⟩) dX5_clashesWith_47
      · refine j_aload_n C dX5_clashesWith_31 rfl 1 rfl ?_
        have hb32 : M 38 a ≤ 5 := hB 38 a (decide_eq_true (show a < 40 by omega))
        refine j_getI C hwX5 8 a 11 (CR.n8 hC (by decide) (show a < M 31 5 by omega)) rfl rfl (by decide) rfl (nI (M 38 a)) (CR.i hC 8 a 11 ⟨show a < M 31 5 by omega, Or.inr (Or.inr (Or.inl rfl))⟩ id) hL47 dX5_clashesWith_32 ?_
        refine j_aload_n C dX5_clashesWith_35 rfl 2 rfl ?_
        have hb36 : M 38 b ≤ 5 := hB 38 b (decide_eq_true (show b < 40 by omega))
        refine j_getI C hwX5 8 b 11 (CR.n8 hC (by decide) (show b < M 31 5 by omega)) rfl rfl (by decide) rfl (nI (M 38 b)) (CR.i hC 8 b 11 ⟨show b < M 31 5 by omega, Or.inr (Or.inr (Or.inl rfl))⟩ id) hL47 dX5_clashesWith_36 ?_
        refine j_icmp_ne (tgt := 46) C dX5_clashesWith_39 (by decide) (nI_eq (by omega) (by omega)) (fun h39 => ?_) (fun h39 => ?_)
        · refine j_iconst C (nI 0) dX5_clashesWith_46 (by decide) ?_
          exact j_zret C (by first | rfl | exact nz_b _ | exact nz_n (by omega)) hr hlk (⟨rt0 (by first | (exfalso; omega) | simp [brk, h12, h23, h28, h39]), rfl⟩) dX5_clashesWith_47
        · refine j_iconst C (nI 1) dX5_clashesWith_42 (by decide) ?_
          refine j_goto (tgt := 47) C dX5_clashesWith_43 (by decide) ?_
          exact j_zret C (by first | rfl | exact nz_b _ | exact nz_n (by omega)) hr hlk (⟨rt1 (by first | (exfalso; omega) | simp [brk, h12, h23, h28, h39]), rfl⟩) dX5_clashesWith_47

set_option maxHeartbeats 4000000 in
set_option maxRecDepth 100000 in
theorem c_X5_pullOf (l : Launch) (D : va_G) (cy : Nat → ClassId) (base : Nat) (Λ : LY) (σ : HS) (M : MM) (hC : CR noEx Λ σ M) (hB : MBd M) (a b : Nat) (ha : a < M 31 5) (hb : b < M 31 5) : Met l yX5_pullOf wsX5_pullOf ({ frames := 4, cells := 0, slots := 0, locals := 60 }) (va_Pc [.ref (gA Λ 8 a), .ref (gA Λ 8 b)] (Wd D cy base Λ σ)) (va_Qi (fun v u => v = zI (pulZ M a b) ∧ u = σ) (Wd D cy base Λ) (Ab base)) 0 0 (Ab base) := by
  refine j_start (cc := cX5_pullOf) (nL := 3) (ret := (some .int)) (lv := [(0, .ref (gA Λ 8 a)), (1, .ref (gA Λ 8 b))]) (by decide) rfl (Nat.le_of_ble_eq_true rfl) rfl ?_
  intro p e s m below meth c C hr hlk hnm
  have C : Cx p s m ([.ref (gA Λ 8 a), .ref (gA Λ 8 b)] : List Value).toArray c cX5_pullOf 3 RX5 wsX5_pullOf D cy base := C
  have hts := C.2.2.2.2.1
  have hwX5 : ∀ w ∈ u_ws RX5 TX5 13, w ∈ wsX5_pullOf := by decide +kernel
  have hM16 : (Cond.fieldLink RX5 16 (TX5 4).1 (TX5 4).2.1 (TX5 4).2.2.1).before ([.ref (gA Λ 8 a), .ref (gA Λ 8 b)] : List Value).toArray s = true := hts (.fieldLink RX5 16 "CodeRooms$Routine" "tieWith" "[I") (by decide +kernel)
  have hL16 : FL RX5 16 (TX5 4).1 (TX5 4).2.1 (TX5 4).2.2.1 ([.ref (gA Λ 8 a), .ref (gA Λ 8 b)] : List Value).toArray s := Or.inl hM16
  have hM20 : (Cond.fieldLink RX5 20 (TX5 5).1 (TX5 5).2.1 (TX5 5).2.2.1).before ([.ref (gA Λ 8 a), .ref (gA Λ 8 b)] : List Value).toArray s = true := hts (.fieldLink RX5 20 "CodeRooms$Routine" "mustWith" "[I") (by decide +kernel)
  have hL20 : FL RX5 20 (TX5 5).1 (TX5 5).2.1 (TX5 5).2.2.1 ([.ref (gA Λ 8 a), .ref (gA Λ 8 b)] : List Value).toArray s := Or.inl hM20
  have hM31 : (Cond.fieldLink RX5 31 (TX5 0).1 (TX5 0).2.1 (TX5 0).2.2.1).before ([.ref (gA Λ 8 a), .ref (gA Λ 8 b)] : List Value).toArray s = true := hts (.fieldLink RX5 31 "CodeRooms$Routine" "number" "I") (by decide +kernel)
  have hL31 : FL RX5 31 (TX5 0).1 (TX5 0).2.1 (TX5 0).2.2.1 ([.ref (gA Λ 8 a), .ref (gA Λ 8 b)] : List Value).toArray s := Or.inl hM31
  have hC50 : (Jvm.Cond.constant RX5 50 1000000).before ([.ref (gA Λ 8 a), .ref (gA Λ 8 b)] : List Value).toArray s = true := hts _ (by decide +kernel)
  have hn : M 31 5 ≤ 40 := hB 31 5 rfl
  refine j_aload_n C dX5_pullOf_0 rfl 0 rfl ?_
  refine j_getV C hwX5 8 a 4 (CR.n8 hC (by decide) (show a < M 31 5 by omega)) rfl rfl (by decide) rfl a (CR.v hC 8 a 4 ⟨show a < M 31 5 by omega, by decide, by decide⟩ id) hL16 dX5_pullOf_1 ?_
  refine j_aload_n C dX5_pullOf_4 rfl 1 rfl ?_
  refine j_getI C hwX5 8 b 0 (CR.n8 hC (by decide) (show b < M 31 5 by omega)) rfl rfl (by decide) rfl (nI b) (CR.i hC 8 b 0 ⟨show b < M 31 5 by omega, Or.inl rfl⟩ id) hL31 dX5_pullOf_5 ?_
  have hb8 := tieN_le hB (a := a) (b := b) (by omega) (by omega)
  refine j_iald C 11 a b (CR.n8 hC (by decide) (show a < M 31 5 by omega)) rfl rfl 40 (CR.l8 hC (show a < M 31 5 by omega)).2.1 (by omega) (by omega) (nI (tieN M a b)) (CR.i hC 11 a b ⟨show a < M 31 5 by omega, by omega⟩ id) dX5_pullOf_8 ?_
  refine j_istore_n C [(2, .int (nI (tieN M a b))), (0, .ref (gA Λ 8 a)), (1, .ref (gA Λ 8 b))] dX5_pullOf_9 rfl (by decide) rfl ?_
  refine j_aload_n C dX5_pullOf_10 rfl 1 rfl ?_
  refine j_getV C hwX5 8 a 5 (CR.n8 hC (by decide) (show a < M 31 5 by omega)) rfl rfl (by decide) rfl a (CR.v hC 8 a 5 ⟨show a < M 31 5 by omega, by decide, by decide⟩ id) hL20 dX5_pullOf_11 ?_
  refine j_aload_n C dX5_pullOf_14 rfl 2 rfl ?_
  refine j_getI C hwX5 8 b 0 (CR.n8 hC (by decide) (show b < M 31 5 by omega)) rfl rfl (by decide) rfl (nI b) (CR.i hC 8 b 0 ⟨show b < M 31 5 by omega, Or.inl rfl⟩ id) hL31 dX5_pullOf_15 ?_
  have hb18 : M 39 (40 * a + b) ≤ 2 := hB 39 _ (decide_eq_true (show 40 * a + b < 1600 by omega))
  refine j_iald C 12 a b (CR.n8 hC (by decide) (show a < M 31 5 by omega)) rfl rfl 40 (CR.l8 hC (show a < M 31 5 by omega)).2.2.1 (by omega) (by omega) (nI (M 39 (40 * a + b))) (CR.i hC 12 a b ⟨show a < M 31 5 by omega, by omega⟩ id) dX5_pullOf_18 ?_
  rcases (show M 39 (40 * a + b) = 0 ∨ M 39 (40 * a + b) = 1 ∨ M 39 (40 * a + b) = 2 by omega) with hm | hm | hm
  · rw [hm]
    refine j_lookup (off := 35) (tgt := 54) C dX5_pullOf_19 (by decide) (by decide) (by decide) ?_
    refine j_iload_n C dX5_pullOf_54 rfl 0 rfl ?_
    exact j_iret C hr hlk (⟨by unfold pulZ; rw [hm]; simp [zI_nI, zI_add, zI_sub, Int.sub_eq_add_neg], rfl⟩) dX5_pullOf_55
  · rw [hm]
    refine j_lookup (off := 25) (tgt := 44) C dX5_pullOf_19 (by decide) (by decide) (by decide) ?_
    refine j_iload_n C dX5_pullOf_44 rfl 0 rfl ?_
    refine j_ldc C (nI 1000000) hC50 dX5_pullOf_45 (by decide) ?_
    refine j_iadd C (nI (tieN M a b) + nI 1000000) dX5_pullOf_47 rfl ?_
    exact j_iret C hr hlk (⟨by unfold pulZ; rw [hm]; simp [zI_nI, zI_add, zI_sub, Int.sub_eq_add_neg], rfl⟩) dX5_pullOf_48
  · rw [hm]
    refine j_lookup (off := 30) (tgt := 49) C dX5_pullOf_19 (by decide) (by decide) (by decide) ?_
    refine j_iload_n C dX5_pullOf_49 rfl 0 rfl ?_
    refine j_ldc C (nI 1000000) hC50 dX5_pullOf_50 (by decide) ?_
    refine j_isub C ((nI (tieN M a b)) - (nI 1000000)) dX5_pullOf_52 rfl ?_
    exact j_iret C hr hlk (⟨by unfold pulZ; rw [hm]; simp [zI_nI, zI_add, zI_sub, Int.sub_eq_add_neg], rfl⟩) dX5_pullOf_53
