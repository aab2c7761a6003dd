set_option maxHeartbeats 4000000 in
set_option maxRecDepth 100000 in
theorem c_set_w (l : Launch) (D : va_G) (cy : Nat → ClassId) (base : Nat) (Λ : LY) (σ : HS) (M : MM) (hC : CR noEx Λ σ M) (hB : MBd M) (hW : WT M) (w v : Nat) (hw : w < 3) (hv : v ≤ 9) : Met l yX10_set wsX10_set ({ frames := 20, cells := 0, slots := 0, locals := 300 }) (va_Pc [.ref (gA Λ 0 0), .int (nI w), .int (nI v)] (Wd D cy base Λ σ)) (va_Qi (fun q u => q = nI (M 36 w) ∧ CR noEx Λ u (settle (mS M 36 w v)) ∧ Same nTe σ u) (Wd D cy base Λ) (Ab base)) 0 0 (Ab base) := by
  refine j_start (cc := cX10_set) (nL := 3) (ret := (some .int)) (lv := [(0, .ref (gA Λ 0 0)), (1, .int (nI w)), (2, .int (nI v))]) (by decide) rfl (Nat.le_of_ble_eq_true rfl) rfl ?_
  intro p e s m below meth c C hr hlk hnm
  have C : Cx p s m ([.ref (gA Λ 0 0), .int (nI w), .int (nI v)] : List Value).toArray c cX10_set 3 RX10 wsX10_set D cy base := C
  have hts := C.2.2.2.2.1
  have hwX10 : ∀ w ∈ u_ws RX10 TX10 9, w ∈ wsX10_set := by decide +kernel
  have hM24 : (Cond.fieldLink RX10 24 (TX10 2).1 (TX10 2).2.1 (TX10 2).2.2.1).before ([.ref (gA Λ 0 0), .int (nI w), .int (nI v)] : List Value).toArray s = true := hts (.fieldLink RX10 24 "CodeRooms" "plan" "LCodeRooms$Plan;") (by decide +kernel)
  have hL24 : FL RX10 24 (TX10 2).1 (TX10 2).2.1 (TX10 2).2.2.1 ([.ref (gA Λ 0 0), .int (nI w), .int (nI v)] : List Value).toArray s := Or.inl hM24
  obtain ⟨tl, hzl⟩ := Ex.tab (N := 6) (fi := fun j => nI (lsF j)) C.2.2.2.2.2.2 (by decide) lw_ls lw_x10 nw_ls
  obtain ⟨tm, hzm⟩ := Ex.tab (N := 6) (fi := fun j => nI (msF j)) C.2.2.2.2.2.2 (by decide) lw_ms lw_x10 nw_ms
  refine j_iload_n C dX10_set_0 rfl 1 rfl ?_
  refine j_if_lt (tgt := 28) C dX10_set_1 (by decide) (nJ_lt0 (by omega)) (fun h1 => ?_) (fun h1 => ?_)
  · first | omega | exact h1.elim | exact h16.elim
  · refine j_iload_n C dX10_set_4 rfl 1 rfl ?_
    refine j_bipush C (nI 6) dX10_set_5 (by decide) ?_
    refine j_icmp_ge (tgt := 28) C dX10_set_7 (by decide) (nI_leI (by omega) (by omega)) (fun h7 => ?_) (fun h7 => ?_)
    · first | omega | exact h1.elim | exact h16.elim
    · refine j_iload_n C dX10_set_10 rfl 2 rfl ?_
      refine j_gets C hzl.1 (hts (.fieldLink RX10 140 "CodeRooms" "LEAST_SETTING" "[I") (by decide +kernel)) dX10_set_11 ?_
      refine j_iload_n C dX10_set_14 rfl 1 rfl ?_
      refine j_tabi C hzl.2 w (by omega) (by decide) (nI 0) (congrArg Value.int (congrArg nI (if_neg (by omega)))) dX10_set_15 ?_
      refine j_icmp_lt (tgt := 28) C dX10_set_16 (by decide) (nI_ltI (by omega) (by omega)) (fun h16 => ?_) (fun h16 => ?_)
      · first | omega | exact h1.elim | exact h16.elim
      · refine j_iload_n C dX10_set_19 rfl 2 rfl ?_
        refine j_gets C hzm.1 (hts (.fieldLink RX10 143 "CodeRooms" "MOST_SETTING" "[I") (by decide +kernel)) dX10_set_20 ?_
        refine j_iload_n C dX10_set_23 rfl 1 rfl ?_
        refine j_tabi C hzm.2 w (by omega) (by decide) (nI 9) (congrArg Value.int (congrArg nI (if_pos hw))) dX10_set_24 ?_
        refine j_icmp_le (tgt := 38) C dX10_set_25 (by decide) (nI_leI (by omega) (by omega)) (fun h25 => ?_) (fun h25 => ?_)
        · refine j_aload_n C dX10_set_38 rfl 0 rfl ?_
          refine j_getV C hwX10 0 0 2 (CR.n1 hC (by decide)) rfl rfl (by decide) rfl 0 (CR.v hC 0 0 2 ⟨rfl, by decide⟩ id) hL24 dX10_set_39 ?_
          refine j_iload_n C dX10_set_42 rfl 1 rfl ?_
          refine j_iload_n C dX10_set_43 rfl 2 rfl ?_
          refine c_i0 C (r_V C 3 0 [.int (nI w), .int (nI v)] (c_alter_w l D cy base Λ σ M hC hB hW w v hw hv) (cwV 2 hts gX10_set_X4_alter rfl rfl rfl (by decide +kernel) ⟨by decide, by decide⟩) (CR.n1 hC (by decide)) rfl rfl rfl rfl (Nat.le_of_ble_eq_true rfl) dX10_set_44 ⟨by decide, by decide⟩) (fun rv u1 hp => ?_)
          exact j_iret C hr hlk (hp) dX10_set_47
        · first | omega | exact h1.elim | exact h16.elim

set_option maxHeartbeats 4000000 in
set_option maxRecDepth 100000 in
theorem c_set_3 (l : Launch) (D : va_G) (cy : Nat → ClassId) (base : Nat) (Λ : LY) (σ : HS) (M : MM) (hC : CR noEx Λ σ M) (hB : MBd M) (v : Nat) (hv : v ≤ 100) : Met l yX10_set wsX10_set ({ frames := 20, cells := 0, slots := 0, locals := 300 }) (va_Pc [.ref (gA Λ 0 0), .int (nI 3), .int (nI v)] (Wd D cy base Λ σ)) (va_Qi (fun q u => q = nI (M 31 8) ∧ CR noEx Λ u (settle (mS M 31 8 v)) ∧ Same nTe σ u) (Wd D cy base Λ) (Ab base)) 0 0 (Ab base) := by
  refine j_start (cc := cX10_set) (nL := 3) (ret := (some .int)) (lv := [(0, .ref (gA Λ 0 0)), (1, .int (nI 3)), (2, .int (nI v))]) (by decide) rfl (Nat.le_of_ble_eq_true rfl) rfl ?_
  intro p e s m below meth c C hr hlk hnm
  have C : Cx p s m ([.ref (gA Λ 0 0), .int (nI 3), .int (nI v)] : List Value).toArray c cX10_set 3 RX10 wsX10_set D cy base := C
  have hts := C.2.2.2.2.1
  have hwX10 : ∀ w ∈ u_ws RX10 TX10 9, w ∈ wsX10_set := by decide +kernel
  have hM24 : (Cond.fieldLink RX10 24 (TX10 2).1 (TX10 2).2.1 (TX10 2).2.2.1).before ([.ref (gA Λ 0 0), .int (nI 3), .int (nI v)] : List Value).toArray s = true := hts (.fieldLink RX10 24 "CodeRooms" "plan" "LCodeRooms$Plan;") (by decide +kernel)
  have hL24 : FL RX10 24 (TX10 2).1 (TX10 2).2.1 (TX10 2).2.2.1 ([.ref (gA Λ 0 0), .int (nI 3), .int (nI v)] : List Value).toArray s := Or.inl hM24
  obtain ⟨tl, hzl⟩ := Ex.tab (N := 6) (fi := fun j => nI (lsF j)) C.2.2.2.2.2.2 (by decide) lw_ls lw_x10 nw_ls
  obtain ⟨tm, hzm⟩ := Ex.tab (N := 6) (fi := fun j => nI (msF j)) C.2.2.2.2.2.2 (by decide) lw_ms lw_x10 nw_ms
  refine j_iload_n C dX10_set_0 rfl 1 rfl ?_
  refine j_if_lt (tgt := 28) C (P := False) dX10_set_1 (by decide) (by decide) (fun z => ?_) (fun z => ?_)
  · exact z.elim
  · refine j_iload_n C dX10_set_4 rfl 1 rfl ?_
    refine j_bipush C (nI 6) dX10_set_5 (by decide) ?_
    refine j_icmp_ge (tgt := 28) C (P := False) dX10_set_7 (by decide) (by decide) (fun z => ?_) (fun z => ?_)
    · exact z.elim
    · refine j_iload_n C dX10_set_10 rfl 2 rfl ?_
      refine j_gets C hzl.1 (hts (.fieldLink RX10 140 "CodeRooms" "LEAST_SETTING" "[I") (by decide +kernel)) dX10_set_11 ?_
      refine j_iload_n C dX10_set_14 rfl 1 rfl ?_
      refine j_tabi C hzl.2 3 (by omega) (by decide) (nI 0) rfl dX10_set_15 ?_
      refine j_icmp_lt (tgt := 28) C dX10_set_16 (by decide) (nI_ltI (by omega) (by omega)) (fun h16 => ?_) (fun h16 => ?_)
      · first | omega | exact h1.elim | exact h16.elim
      · refine j_iload_n C dX10_set_19 rfl 2 rfl ?_
        refine j_gets C hzm.1 (hts (.fieldLink RX10 143 "CodeRooms" "MOST_SETTING" "[I") (by decide +kernel)) dX10_set_20 ?_
        refine j_iload_n C dX10_set_23 rfl 1 rfl ?_
        refine j_tabi C hzm.2 3 (by omega) (by decide) (nI 100) rfl dX10_set_24 ?_
        refine j_icmp_le (tgt := 38) C dX10_set_25 (by decide) (nI_leI (by omega) (by omega)) (fun h25 => ?_) (fun h25 => ?_)
        · refine j_aload_n C dX10_set_38 rfl 0 rfl ?_
          refine j_getV C hwX10 0 0 2 (CR.n1 hC (by decide)) rfl rfl (by decide) rfl 0 (CR.v hC 0 0 2 ⟨rfl, by decide⟩ id) hL24 dX10_set_39 ?_
          refine j_iload_n C dX10_set_42 rfl 1 rfl ?_
          refine j_iload_n C dX10_set_43 rfl 2 rfl ?_
          refine c_i0 C (r_V C 3 0 [.int (nI 3), .int (nI v)] (c_alter_3 l D cy base Λ σ M hC hB v hv) (cwV 2 hts gX10_set_X4_alter rfl rfl rfl (by decide +kernel) ⟨by decide, by decide⟩) (CR.n1 hC (by decide)) rfl rfl rfl rfl (Nat.le_of_ble_eq_true rfl) dX10_set_44 ⟨by decide, by decide⟩) (fun rv u1 hp => ?_)
          exact j_iret C hr hlk (hp) dX10_set_47
        · first | omega | exact h1.elim | exact h16.elim

set_option maxHeartbeats 4000000 in
set_option maxRecDepth 100000 in
theorem c_set_4 (l : Launch) (D : va_G) (cy : Nat → ClassId) (base : Nat) (Λ : LY) (σ : HS) (M : MM) (hC : CR noEx Λ σ M) (hB : MBd M) (v : Nat) (hv : v ≤ 40) : Met l yX10_set wsX10_set ({ frames := 20, cells := 0, slots := 0, locals := 300 }) (va_Pc [.ref (gA Λ 0 0), .int (nI 4), .int (nI v)] (Wd D cy base Λ σ)) (va_Qi (fun q u => q = nI (M 31 9) ∧ CR noEx Λ u (settle (mS M 31 9 v)) ∧ Same nTe σ u) (Wd D cy base Λ) (Ab base)) 0 0 (Ab base) := by
  refine j_start (cc := cX10_set) (nL := 3) (ret := (some .int)) (lv := [(0, .ref (gA Λ 0 0)), (1, .int (nI 4)), (2, .int (nI v))]) (by decide) rfl (Nat.le_of_ble_eq_true rfl) rfl ?_
  intro p e s m below meth c C hr hlk hnm
  have C : Cx p s m ([.ref (gA Λ 0 0), .int (nI 4), .int (nI v)] : List Value).toArray c cX10_set 3 RX10 wsX10_set D cy base := C
  have hts := C.2.2.2.2.1
  have hwX10 : ∀ w ∈ u_ws RX10 TX10 9, w ∈ wsX10_set := by decide +kernel
  have hM24 : (Cond.fieldLink RX10 24 (TX10 2).1 (TX10 2).2.1 (TX10 2).2.2.1).before ([.ref (gA Λ 0 0), .int (nI 4), .int (nI v)] : List Value).toArray s = true := hts (.fieldLink RX10 24 "CodeRooms" "plan" "LCodeRooms$Plan;") (by decide +kernel)
  have hL24 : FL RX10 24 (TX10 2).1 (TX10 2).2.1 (TX10 2).2.2.1 ([.ref (gA Λ 0 0), .int (nI 4), .int (nI v)] : List Value).toArray s := Or.inl hM24
  obtain ⟨tl, hzl⟩ := Ex.tab (N := 6) (fi := fun j => nI (lsF j)) C.2.2.2.2.2.2 (by decide) lw_ls lw_x10 nw_ls
  obtain ⟨tm, hzm⟩ := Ex.tab (N := 6) (fi := fun j => nI (msF j)) C.2.2.2.2.2.2 (by decide) lw_ms lw_x10 nw_ms
  refine j_iload_n C dX10_set_0 rfl 1 rfl ?_
  refine j_if_lt (tgt := 28) C (P := False) dX10_set_1 (by decide) (by decide) (fun z => ?_) (fun z => ?_)
  · exact z.elim
  · refine j_iload_n C dX10_set_4 rfl 1 rfl ?_
    refine j_bipush C (nI 6) dX10_set_5 (by decide) ?_
    refine j_icmp_ge (tgt := 28) C (P := False) dX10_set_7 (by decide) (by decide) (fun z => ?_) (fun z => ?_)
    · exact z.elim
    · refine j_iload_n C dX10_set_10 rfl 2 rfl ?_
      refine j_gets C hzl.1 (hts (.fieldLink RX10 140 "CodeRooms" "LEAST_SETTING" "[I") (by decide +kernel)) dX10_set_11 ?_
      refine j_iload_n C dX10_set_14 rfl 1 rfl ?_
      refine j_tabi C hzl.2 4 (by omega) (by decide) (nI 0) rfl dX10_set_15 ?_
      refine j_icmp_lt (tgt := 28) C dX10_set_16 (by decide) (nI_ltI (by omega) (by omega)) (fun h16 => ?_) (fun h16 => ?_)
      · first | omega | exact h1.elim | exact h16.elim
      · refine j_iload_n C dX10_set_19 rfl 2 rfl ?_
        refine j_gets C hzm.1 (hts (.fieldLink RX10 143 "CodeRooms" "MOST_SETTING" "[I") (by decide +kernel)) dX10_set_20 ?_
        refine j_iload_n C dX10_set_23 rfl 1 rfl ?_
        refine j_tabi C hzm.2 4 (by omega) (by decide) (nI 40) rfl dX10_set_24 ?_
        refine j_icmp_le (tgt := 38) C dX10_set_25 (by decide) (nI_leI (by omega) (by omega)) (fun h25 => ?_) (fun h25 => ?_)
        · refine j_aload_n C dX10_set_38 rfl 0 rfl ?_
          refine j_getV C hwX10 0 0 2 (CR.n1 hC (by decide)) rfl rfl (by decide) rfl 0 (CR.v hC 0 0 2 ⟨rfl, by decide⟩ id) hL24 dX10_set_39 ?_
          refine j_iload_n C dX10_set_42 rfl 1 rfl ?_
          refine j_iload_n C dX10_set_43 rfl 2 rfl ?_
          refine c_i0 C (r_V C 3 0 [.int (nI 4), .int (nI v)] (c_alter_4 l D cy base Λ σ M hC hB v hv) (cwV 2 hts gX10_set_X4_alter rfl rfl rfl (by decide +kernel) ⟨by decide, by decide⟩) (CR.n1 hC (by decide)) rfl rfl rfl rfl (Nat.le_of_ble_eq_true rfl) dX10_set_44 ⟨by decide, by decide⟩) (fun rv u1 hp => ?_)
          exact j_iret C hr hlk (hp) dX10_set_47
        · first | omega | exact h1.elim | exact h16.elim

set_option maxHeartbeats 4000000 in
set_option maxRecDepth 100000 in
theorem c_set_5 (l : Launch) (D : va_G) (cy : Nat → ClassId) (base : Nat) (Λ : LY) (σ : HS) (M : MM) (hC : CR noEx Λ σ M) (hB : MBd M) (v : Nat) (hv : v ≤ 6) (hv1 : 1 ≤ v) : Met l yX10_set wsX10_set ({ frames := 20, cells := 0, slots := 0, locals := 300 }) (va_Pc [.ref (gA Λ 0 0), .int (nI 5), .int (nI v)] (Wd D cy base Λ σ)) (va_Qi (fun q u => q = nI (M 31 10) ∧ CR noEx Λ u (settle (mS M 31 10 v)) ∧ Same nTe σ u) (Wd D cy base Λ) (Ab base)) 0 0 (Ab base) := by
  refine j_start (cc := cX10_set) (nL := 3) (ret := (some .int)) (lv := [(0, .ref (gA Λ 0 0)), (1, .int (nI 5)), (2, .int (nI v))]) (by decide) rfl (Nat.le_of_ble_eq_true rfl) rfl ?_
  intro p e s m below meth c C hr hlk hnm
  have C : Cx p s m ([.ref (gA Λ 0 0), .int (nI 5), .int (nI v)] : List Value).toArray c cX10_set 3 RX10 wsX10_set D cy base := C
  have hts := C.2.2.2.2.1
  have hwX10 : ∀ w ∈ u_ws RX10 TX10 9, w ∈ wsX10_set := by decide +kernel
  have hM24 : (Cond.fieldLink RX10 24 (TX10 2).1 (TX10 2).2.1 (TX10 2).2.2.1).before ([.ref (gA Λ 0 0), .int (nI 5), .int (nI v)] : List Value).toArray s = true := hts (.fieldLink RX10 24 "CodeRooms" "plan" "LCodeRooms$Plan;") (by decide +kernel)
  have hL24 : FL RX10 24 (TX10 2).1 (TX10 2).2.1 (TX10 2).2.2.1 ([.ref (gA Λ 0 0), .int (nI 5), .int (nI v)] : List Value).toArray s := Or.inl hM24
  obtain ⟨tl, hzl⟩ := Ex.tab (N := 6) (fi := fun j => nI (lsF j)) C.2.2.2.2.2.2 (by decide) lw_ls lw_x10 nw_ls
  obtain ⟨tm, hzm⟩ := Ex.tab (N := 6) (fi := fun j => nI (msF j)) C.2.2.2.2.2.2 (by decide) lw_ms lw_x10 nw_ms
  refine j_iload_n C dX10_set_0 rfl 1 rfl ?_
  refine j_if_lt (tgt := 28) C (P := False) dX10_set_1 (by decide) (by decide) (fun z => ?_) (fun z => ?_)
  · exact z.elim
  · refine j_iload_n C dX10_set_4 rfl 1 rfl ?_
    refine j_bipush C (nI 6) dX10_set_5 (by decide) ?_
    refine j_icmp_ge (tgt := 28) C (P := False) dX10_set_7 (by decide) (by decide) (fun z => ?_) (fun z => ?_)
    · exact z.elim
    · refine j_iload_n C dX10_set_10 rfl 2 rfl ?_
      refine j_gets C hzl.1 (hts (.fieldLink RX10 140 "CodeRooms" "LEAST_SETTING" "[I") (by decide +kernel)) dX10_set_11 ?_
      refine j_iload_n C dX10_set_14 rfl 1 rfl ?_
      refine j_tabi C hzl.2 5 (by omega) (by decide) (nI 1) rfl dX10_set_15 ?_
      refine j_icmp_lt (tgt := 28) C dX10_set_16 (by decide) (nI_ltI (by omega) (by omega)) (fun h16 => ?_) (fun h16 => ?_)
      · first | omega | exact h1.elim | exact h16.elim
      · refine j_iload_n C dX10_set_19 rfl 2 rfl ?_
        refine j_gets C hzm.1 (hts (.fieldLink RX10 143 "CodeRooms" "MOST_SETTING" "[I") (by decide +kernel)) dX10_set_20 ?_
        refine j_iload_n C dX10_set_23 rfl 1 rfl ?_
        refine j_tabi C hzm.2 5 (by omega) (by decide) (nI 6) rfl dX10_set_24 ?_
        refine j_icmp_le (tgt := 38) C dX10_set_25 (by decide) (nI_leI (by omega) (by omega)) (fun h25 => ?_) (fun h25 => ?_)
        · refine j_aload_n C dX10_set_38 rfl 0 rfl ?_
          refine j_getV C hwX10 0 0 2 (CR.n1 hC (by decide)) rfl rfl (by decide) rfl 0 (CR.v hC 0 0 2 ⟨rfl, by decide⟩ id) hL24 dX10_set_39 ?_
          refine j_iload_n C dX10_set_42 rfl 1 rfl ?_
          refine j_iload_n C dX10_set_43 rfl 2 rfl ?_
          refine c_i0 C (r_V C 3 0 [.int (nI 5), .int (nI v)] (c_alter_5 l D cy base Λ σ M hC hB v hv) (cwV 2 hts gX10_set_X4_alter rfl rfl rfl (by decide +kernel) ⟨by decide, by decide⟩) (CR.n1 hC (by decide)) rfl rfl rfl rfl (Nat.le_of_ble_eq_true rfl) dX10_set_44 ⟨by decide, by decide⟩) (fun rv u1 hp => ?_)
          exact j_iret C hr hlk (hp) dX10_set_47
        · first | omega | exact h1.elim | exact h16.elim

set_option maxHeartbeats 4000000 in
set_option maxRecDepth 100000 in
theorem c_set_e (l : Launch) (hlt : l.stackTraces = false) (D : va_G) (cy : Nat → ClassId) (base : Nat) (Λ : LY) (σ : HS) (M : MM) (hC : CR noEx Λ σ M) (hB : MBd M) (w v : Int32) (hA : ¬ sOk w v) : vx_Met l yX10_set wsX10_set ({ frames := 12, cells := 1, slots := 6, locals := 180 }) (va_Pc [.ref (gA Λ 0 0), .int (w), .int (v)] (Wd D cy base Λ σ)) NoR (XQ D cy base Λ σ "java/lang/IllegalArgumentException") 1 6 (Ab base) := by
  refine j_startX (cc := cX10_set) (nL := 3) (ret := (some .int)) (lv := [(0, .ref (gA Λ 0 0)), (1, .int (w)), (2, .int (v))]) (by decide) rfl (Nat.le_of_ble_eq_true rfl) rfl ?_
  intro p e s m below meth c C htab hlk
  have C : Cx p s m ([.ref (gA Λ 0 0), .int (w), .int (v)] : List Value).toArray c cX10_set 3 RX10 wsX10_set D cy base := C
  have hts := C.2.2.2.2.1
  obtain ⟨tl, hzl⟩ := Ex.tab (N := 6) (fi := fun j => nI (lsF j)) C.2.2.2.2.2.2 (by decide) lw_ls lw_x10 nw_ls
  obtain ⟨tm, hzm⟩ := Ex.tab (N := 6) (fi := fun j => nI (msF j)) C.2.2.2.2.2.2 (by decide) lw_ms lw_x10 nw_ms
  refine j_iload_n C dX10_set_0 rfl 1 rfl ?_
  refine j_if_lt (tgt := 28) C dX10_set_1 (by decide) Iff.rfl (fun h1 => ?_) (fun h1 => ?_)
  · obtain ⟨sa, hstr⟩ := Ex.str C.2.2.2.2.2.2 lw_st146 nw_st146
    exact j_throw C (cls := "java/lang/IllegalArgumentException") (names := ["java/lang/RuntimeException", "java/lang/Exception"]) (ik := 79) (is := 146) (ic := 83) hlt (by decide +kernel) (by decide +kernel) (hts (.classLink RX10 79 "java/lang/IllegalArgumentException") (by decide +kernel)) (hts (.initialized "java/lang/IllegalArgumentException") (by decide +kernel)) hstr (xa_hat C.2.2.2.2.2.2 (fun w hw => hts w ((by decide +kernel : ∀ w ∈ (vx_atS RX10 83 "java/lang/IllegalArgumentException" ["java/lang/RuntimeException", "java/lang/Exception"]).filter goodWord, w ∈ wsX10_set) w hw))) xa79_ok dX10_set_28 dX10_set_31 dX10_set_32 dX10_set_34 dX10_set_37 htab (by decide) (by decide) (by decide) (by decide) hlk (by decide) (by decide)
  · refine j_iload_n C dX10_set_4 rfl 1 rfl ?_
    refine j_bipush C (nI 6) dX10_set_5 (by decide) ?_
    refine j_icmp_ge (tgt := 28) C dX10_set_7 (by decide) Iff.rfl (fun h7 => ?_) (fun h7 => ?_)
    · obtain ⟨sa, hstr⟩ := Ex.str C.2.2.2.2.2.2 lw_st146 nw_st146
      exact j_throw C (cls := "java/lang/IllegalArgumentException") (names := ["java/lang/RuntimeException", "java/lang/Exception"]) (ik := 79) (is := 146) (ic := 83) hlt (by decide +kernel) (by decide +kernel) (hts (.classLink RX10 79 "java/lang/IllegalArgumentException") (by decide +kernel)) (hts (.initialized "java/lang/IllegalArgumentException") (by decide +kernel)) hstr (xa_hat C.2.2.2.2.2.2 (fun w hw => hts w ((by decide +kernel : ∀ w ∈ (vx_atS RX10 83 "java/lang/IllegalArgumentException" ["java/lang/RuntimeException", "java/lang/Exception"]).filter goodWord, w ∈ wsX10_set) w hw))) xa79_ok dX10_set_28 dX10_set_31 dX10_set_32 dX10_set_34 dX10_set_37 htab (by decide) (by decide) (by decide) (by decide) hlk (by decide) (by decide)
    · obtain ⟨k, hk6, rfl⟩ := set_ix h1 h7
      · refine j_iload_n C dX10_set_10 rfl 2 rfl ?_
        refine j_gets C hzl.1 (hts (.fieldLink RX10 140 "CodeRooms" "LEAST_SETTING" "[I") (by decide +kernel)) dX10_set_11 ?_
        refine j_iload_n C dX10_set_14 rfl 1 rfl ?_
        refine j_tabi C hzl.2 k (by omega) (by decide) (nI (lsF k)) rfl dX10_set_15 ?_
        refine j_icmp_lt (tgt := 28) C dX10_set_16 (by decide) Iff.rfl (fun h16 => ?_) (fun h16 => ?_)
        · obtain ⟨sa, hstr⟩ := Ex.str C.2.2.2.2.2.2 lw_st146 nw_st146
          exact j_throw C (cls := "java/lang/IllegalArgumentException") (names := ["java/lang/RuntimeException", "java/lang/Exception"]) (ik := 79) (is := 146) (ic := 83) hlt (by decide +kernel) (by decide +kernel) (hts (.classLink RX10 79 "java/lang/IllegalArgumentException") (by decide +kernel)) (hts (.initialized "java/lang/IllegalArgumentException") (by decide +kernel)) hstr (xa_hat C.2.2.2.2.2.2 (fun w hw => hts w ((by decide +kernel : ∀ w ∈ (vx_atS RX10 83 "java/lang/IllegalArgumentException" ["java/lang/RuntimeException", "java/lang/Exception"]).filter goodWord, w ∈ wsX10_set) w hw))) xa79_ok dX10_set_28 dX10_set_31 dX10_set_32 dX10_set_34 dX10_set_37 htab (by decide) (by decide) (by decide) (by decide) hlk (by decide) (by decide)
        · refine j_iload_n C dX10_set_19 rfl 2 rfl ?_
          refine j_gets C hzm.1 (hts (.fieldLink RX10 143 "CodeRooms" "MOST_SETTING" "[I") (by decide +kernel)) dX10_set_20 ?_
          refine j_iload_n C dX10_set_23 rfl 1 rfl ?_
          refine j_tabi C hzm.2 k (by omega) (by decide) (nI (msF k)) rfl dX10_set_24 ?_
          refine j_icmp_le (tgt := 38) C dX10_set_25 (by decide) Iff.rfl (fun h25 => ?_) (fun h25 => ?_)
          · exact (set_no hk6 h16 h25 hA).elim
          · obtain ⟨sa, hstr⟩ := Ex.str C.2.2.2.2.2.2 lw_st146 nw_st146
            exact j_throw C (cls := "java/lang/IllegalArgumentException") (names := ["java/lang/RuntimeException", "java/lang/Exception"]) (ik := 79) (is := 146) (ic := 83) hlt (by decide +kernel) (by decide +kernel) (hts (.classLink RX10 79 "java/lang/IllegalArgumentException") (by decide +kernel)) (hts (.initialized "java/lang/IllegalArgumentException") (by decide +kernel)) hstr (xa_hat C.2.2.2.2.2.2 (fun w hw => hts w ((by decide +kernel : ∀ w ∈ (vx_atS RX10 83 "java/lang/IllegalArgumentException" ["java/lang/RuntimeException", "java/lang/Exception"]).filter goodWord, w ∈ wsX10_set) w hw))) xa79_ok dX10_set_28 dX10_set_31 dX10_set_32 dX10_set_34 dX10_set_37 htab (by decide) (by decide) (by decide) (by decide) hlk (by decide) (by decide)

set_option maxHeartbeats 4000000 in
set_option maxRecDepth 100000 in
theorem c_change_full (l : Launch) (D : va_G) (cy : Nat → ClassId) (base : Nat) (Λ : LY) (σ : HS) (M : MM) (hC : CR noEx Λ σ M) (hB : MBd M) (lo hi : Nat) (hlo : lo < p2 (lmN M)) (hhi : hi < p2 (hmN M)) (hc : M 31 22 = 60) : Met l yX10_change wsX10_change ({ frames := 12, cells := 0, slots := 0, locals := 180 }) (va_Pc [.ref (gA Λ 0 0), .int (nI lo), .int (nI hi)] (Wd D cy base Λ σ)) (va_Qi (fun v u => v = -1 ∧ u = σ) (Wd D cy base Λ) (Ab base)) 0 0 (Ab base) := by
  refine j_start (cc := cX10_change) (nL := 5) (ret := (some .int)) (lv := [(0, .ref (gA Λ 0 0)), (1, .int (nI lo)), (2, .int (nI hi))]) (by decide) rfl (Nat.le_of_ble_eq_true rfl) rfl ?_
  intro p e s m below meth c C hr hlk hnm
  have C : Cx p s m ([.ref (gA Λ 0 0), .int (nI lo), .int (nI hi)] : List Value).toArray c cX10_change 5 RX10 wsX10_change D cy base := C
  have hts := C.2.2.2.2.1
  have hwX10 : ∀ w ∈ u_ws RX10 TX10 9, w ∈ wsX10_change := by decide +kernel
  have hwX4 : ∀ w ∈ u_ws RX4 TX4 6, w ∈ wsX10_change := by decide +kernel
  have hM24 : (Cond.fieldLink RX10 24 (TX10 2).1 (TX10 2).2.1 (TX10 2).2.2.1).before ([.ref (gA Λ 0 0), .int (nI lo), .int (nI hi)] : List Value).toArray s = true := hts (.fieldLink RX10 24 "CodeRooms" "plan" "LCodeRooms$Plan;") (by decide +kernel)
  have hL24 : FL RX10 24 (TX10 2).1 (TX10 2).2.1 (TX10 2).2.2.1 ([.ref (gA Λ 0 0), .int (nI lo), .int (nI hi)] : List Value).toArray s := Or.inl hM24
  have hM61 : (Cond.fieldLink RX10 61 (TX10 7).1 (TX10 7).2.1 (TX10 7).2.2.1).before ([.ref (gA Λ 0 0), .int (nI lo), .int (nI hi)] : List Value).toArray s = true := hts (.fieldLink RX10 61 "CodeRooms" "past" "LCodeRooms$Past;") (by decide +kernel)
  have hL61 : FL RX10 61 (TX10 7).1 (TX10 7).2.1 (TX10 7).2.2.1 ([.ref (gA Λ 0 0), .int (nI lo), .int (nI hi)] : List Value).toArray s := Or.inl hM61
  have hL86 : FL RX10 86 (TX4 4).1 (TX4 4).2.1 (TX4 4).2.2.1 ([.ref (gA Λ 0 0), .int (nI lo), .int (nI hi)] : List Value).toArray s := Or.inr ⟨_, Ex.nestF C.2.2.2.2.2.2 nf_X10_86⟩
  have hC224 : (Jvm.Cond.constant RX10 224 (-1048576)).before ([.ref (gA Λ 0 0), .int (nI lo), .int (nI hi)] : List Value).toArray s = true := hts _ (by decide +kernel)
  have hn : M 31 5 ≤ 40 := hB 31 5 rfl
  have hy := ch_yes hB hlo hhi
  have hy1 := hy.1
  have hy2 := hy.2.1
  refine j_iload_n C dX10_change_0 rfl 1 rfl ?_
  refine j_i2l C ((nI lo).toInt64) dX10_change_1 rfl ?_
  refine j_iload_n C dX10_change_2 rfl 2 rfl ?_
  refine j_i2l C ((nI hi).toInt64) dX10_change_3 rfl ?_
  refine j_bipush C (nI 20) dX10_change_4 (by decide) ?_
  refine j_lshl C ((nI hi).toInt64 <<< ((nI 20).toInt64 &&& 63)) dX10_change_6 rfl ?_
  refine j_lor C (lN (lo + 2 ^ 20 * hi)) dX10_change_7 (ch_or hy.1 hy.2.1) ?_
  refine j_lstore_n C [(3, .long (lN (lo + 2 ^ 20 * hi))), (0, .ref (gA Λ 0 0)), (1, .int (nI lo)), (2, .int (nI hi))] dX10_change_8 rfl (by decide) rfl ?_
  refine j_iload_n C dX10_change_9 rfl 2 rfl ?_
  refine j_ldc C ((-1048576)) hC224 dX10_change_10 (by decide) ?_
  refine j_iand C ((nI lo) &&& (-1048576)) dX10_change_12 rfl ?_
  refine j_if_ne (tgt := 37) C dX10_change_13 (by decide) (cg_and (nI lo)) (fun h13 => ?_) (fun h13 => ?_)
  · first | exact absurd ⟨by rw [nI_toInt (by omega)]; omega, by rw [nI_toInt (by omega)]; omega⟩ h13 | exact absurd ⟨by rw [nI_toInt (by omega)]; omega, by rw [nI_toInt (by omega)]; omega⟩ h20 | exact absurd (by rw [hy.2.2]) h33
  · refine j_iload_n C dX10_change_16 rfl 3 rfl ?_
    refine j_ldc C ((-1048576)) hC224 dX10_change_17 (by decide) ?_
    refine j_iand C ((nI hi) &&& (-1048576)) dX10_change_19 rfl ?_
    refine j_if_ne (tgt := 37) C dX10_change_20 (by decide) (cg_and (nI hi)) (fun h20 => ?_) (fun h20 => ?_)
    · first | exact absurd ⟨by rw [nI_toInt (by omega)]; omega, by rw [nI_toInt (by omega)]; omega⟩ h13 | exact absurd ⟨by rw [nI_toInt (by omega)]; omega, by rw [nI_toInt (by omega)]; omega⟩ h20 | exact absurd (by rw [hy.2.2]) h33
    · refine j_lload_n C dX10_change_23 rfl 0 rfl ?_
      refine j_aload_n C dX10_change_24 rfl 1 rfl ?_
      refine j_getV C hwX10 0 0 2 (CR.n1 hC (by decide)) rfl rfl (by decide) rfl 0 (CR.v hC 0 0 2 ⟨rfl, by decide⟩ id) hL24 dX10_change_25 ?_
      refine j_getI C hwX4 3 0 4 (CR.n1 hC (by decide)) rfl rfl (by decide) rfl (nI (M 31 5)) (CR.i hC 3 0 4 ⟨rfl, Or.inl rfl⟩ id) hL86 dX10_change_28 ?_
      refine j_lushr C (lN ((lo + 2 ^ 20 * hi) / 2 ^ M 31 5)) dX10_change_31 (wb_shr (by omega) (by omega)) ?_
      refine j_lconst C (lN 0) dX10_change_32 (by decide) ?_
      refine j_lcmp_eq (tgt := 47) C dX10_change_33 dX10_change_34 (by decide) Iff.rfl (fun h33 => ?_) (fun h33 => ?_)
      · refine j_aload_n C dX10_change_47 rfl 1 rfl ?_
        refine j_getV C hwX10 0 0 7 (CR.n1 hC (by decide)) rfl rfl (by decide) rfl 0 (CR.v hC 0 0 7 ⟨rfl, by decide⟩ id) hL61 dX10_change_48 ?_
        refine j_lload_n C dX10_change_51 rfl 0 rfl ?_
        refine c_i0 C (r_V C 25 0 [.long (lN (lo + 2 ^ 20 * hi))] (c_padd_no l D cy base Λ σ M hC hB _ hc) (cwV 1 hts gX10_change_X3_add rfl rfl rfl (by decide +kernel) ⟨by decide, by decide⟩) (CR.n1 hC (by decide)) rfl rfl rfl rfl (Nat.le_of_ble_eq_true rfl) dX10_change_52 ⟨by decide, by decide⟩) (fun rv u1 hp => ?_)
        exact j_iret C hr hlk (hp) dX10_change_55
      · first | exact absurd ⟨by rw [nI_toInt (by omega)]; omega, by rw [nI_toInt (by omega)]; omega⟩ h13 | exact absurd ⟨by rw [nI_toInt (by omega)]; omega, by rw [nI_toInt (by omega)]; omega⟩ h20 | exact absurd (by rw [hy.2.2]) h33

set_option maxHeartbeats 4000000 in
set_option maxRecDepth 100000 in
theorem c_change_ok (l : Launch) (D : va_G) (cy : Nat → ClassId) (base : Nat) (Λ : LY) (σ : HS) (M : MM) (hC : CR noEx Λ σ M) (hB : MBd M) (lo hi : Nat) (hlo : lo < p2 (lmN M)) (hhi : hi < p2 (hmN M)) (hc : M 31 22 < 60) : Met l yX10_change wsX10_change ({ frames := 12, cells := 0, slots := 0, locals := 180 }) (va_Pc [.ref (gA Λ 0 0), .int (nI lo), .int (nI hi)] (Wd D cy base Λ σ)) (va_Qi (fun v u => v = nI (M 31 22 + 1) ∧ CR noEx Λ u (mS (mS (mS M 45 (M 31 22) lo) 46 (M 31 22) hi) 31 22 (M 31 22 + 1)) ∧ Same nPa σ u) (Wd D cy base Λ) (Ab base)) 0 0 (Ab base) := by
  refine j_start (cc := cX10_change) (nL := 5) (ret := (some .int)) (lv := [(0, .ref (gA Λ 0 0)), (1, .int (nI lo)), (2, .int (nI hi))]) (by decide) rfl (Nat.le_of_ble_eq_true rfl) rfl ?_
  intro p e s m below meth c C hr hlk hnm
  have C : Cx p s m ([.ref (gA Λ 0 0), .int (nI lo), .int (nI hi)] : List Value).toArray c cX10_change 5 RX10 wsX10_change D cy base := C
  have hts := C.2.2.2.2.1
  have hwX10 : ∀ w ∈ u_ws RX10 TX10 9, w ∈ wsX10_change := by decide +kernel
  have hwX4 : ∀ w ∈ u_ws RX4 TX4 6, w ∈ wsX10_change := by decide +kernel
  have hM24 : (Cond.fieldLink RX10 24 (TX10 2).1 (TX10 2).2.1 (TX10 2).2.2.1).before ([.ref (gA Λ 0 0), .int (nI lo), .int (nI hi)] : List Value).toArray s = true := hts (.fieldLink RX10 24 "CodeRooms" "plan" "LCodeRooms$Plan;") (by decide +kernel)
  have hL24 : FL RX10 24 (TX10 2).1 (TX10 2).2.1 (TX10 2).2.2.1 ([.ref (gA Λ 0 0), .int (nI lo), .int (nI hi)] : List Value).toArray s := Or.inl hM24
  have hM61 : (Cond.fieldLink RX10 61 (TX10 7).1 (TX10 7).2.1 (TX10 7).2.2.1).before ([.ref (gA Λ 0 0), .int (nI lo), .int (nI hi)] : List Value).toArray s = true := hts (.fieldLink RX10 61 "CodeRooms" "past" "LCodeRooms$Past;") (by decide +kernel)
  have hL61 : FL RX10 61 (TX10 7).1 (TX10 7).2.1 (TX10 7).2.2.1 ([.ref (gA Λ 0 0), .int (nI lo), .int (nI hi)] : List Value).toArray s := Or.inl hM61
  have hL86 : FL RX10 86 (TX4 4).1 (TX4 4).2.1 (TX4 4).2.2.1 ([.ref (gA Λ 0 0), .int (nI lo), .int (nI hi)] : List Value).toArray s := Or.inr ⟨_, Ex.nestF C.2.2.2.2.2.2 nf_X10_86⟩
  have hC224 : (Jvm.Cond.constant RX10 224 (-1048576)).before ([.ref (gA Λ 0 0), .int (nI lo), .int (nI hi)] : List Value).toArray s = true := hts _ (by decide +kernel)
  have hn : M 31 5 ≤ 40 := hB 31 5 rfl
  have hy := ch_yes hB hlo hhi
  have hy1 := hy.1
  have hy2 := hy.2.1
  refine j_iload_n C dX10_change_0 rfl 1 rfl ?_
  refine j_i2l C ((nI lo).toInt64) dX10_change_1 rfl ?_
  refine j_iload_n C dX10_change_2 rfl 2 rfl ?_
  refine j_i2l C ((nI hi).toInt64) dX10_change_3 rfl ?_
  refine j_bipush C (nI 20) dX10_change_4 (by decide) ?_
  refine j_lshl C ((nI hi).toInt64 <<< ((nI 20).toInt64 &&& 63)) dX10_change_6 rfl ?_
  refine j_lor C (lN (lo + 2 ^ 20 * hi)) dX10_change_7 (ch_or hy.1 hy.2.1) ?_
  refine j_lstore_n C [(3, .long (lN (lo + 2 ^ 20 * hi))), (0, .ref (gA Λ 0 0)), (1, .int (nI lo)), (2, .int (nI hi))] dX10_change_8 rfl (by decide) rfl ?_
  refine j_iload_n C dX10_change_9 rfl 2 rfl ?_
  refine j_ldc C ((-1048576)) hC224 dX10_change_10 (by decide) ?_
  refine j_iand C ((nI lo) &&& (-1048576)) dX10_change_12 rfl ?_
  refine j_if_ne (tgt := 37) C dX10_change_13 (by decide) (cg_and (nI lo)) (fun h13 => ?_) (fun h13 => ?_)
  · first | exact absurd ⟨by rw [nI_toInt (by omega)]; omega, by rw [nI_toInt (by omega)]; omega⟩ h13 | exact absurd ⟨by rw [nI_toInt (by omega)]; omega, by rw [nI_toInt (by omega)]; omega⟩ h20 | exact absurd (by rw [hy.2.2]) h33
  · refine j_iload_n C dX10_change_16 rfl 3 rfl ?_
    refine j_ldc C ((-1048576)) hC224 dX10_change_17 (by decide) ?_
    refine j_iand C ((nI hi) &&& (-1048576)) dX10_change_19 rfl ?_
    refine j_if_ne (tgt := 37) C dX10_change_20 (by decide) (cg_and (nI hi)) (fun h20 => ?_) (fun h20 => ?_)
    · first | exact absurd ⟨by rw [nI_toInt (by omega)]; omega, by rw [nI_toInt (by omega)]; omega⟩ h13 | exact absurd ⟨by rw [nI_toInt (by omega)]; omega, by rw [nI_toInt (by omega)]; omega⟩ h20 | exact absurd (by rw [hy.2.2]) h33
    · refine j_lload_n C dX10_change_23 rfl 0 rfl ?_
      refine j_aload_n C dX10_change_24 rfl 1 rfl ?_
      refine j_getV C hwX10 0 0 2 (CR.n1 hC (by decide)) rfl rfl (by decide) rfl 0 (CR.v hC 0 0 2 ⟨rfl, by decide⟩ id) hL24 dX10_change_25 ?_
      refine j_getI C hwX4 3 0 4 (CR.n1 hC (by decide)) rfl rfl (by decide) rfl (nI (M 31 5)) (CR.i hC 3 0 4 ⟨rfl, Or.inl rfl⟩ id) hL86 dX10_change_28 ?_
      refine j_lushr C (lN ((lo + 2 ^ 20 * hi) / 2 ^ M 31 5)) dX10_change_31 (wb_shr (by omega) (by omega)) ?_
      refine j_lconst C (lN 0) dX10_change_32 (by decide) ?_
      refine j_lcmp_eq (tgt := 47) C dX10_change_33 dX10_change_34 (by decide) Iff.rfl (fun h33 => ?_) (fun h33 => ?_)
      · refine j_aload_n C dX10_change_47 rfl 1 rfl ?_
        refine j_getV C hwX10 0 0 7 (CR.n1 hC (by decide)) rfl rfl (by decide) rfl 0 (CR.v hC 0 0 7 ⟨rfl, by decide⟩ id) hL61 dX10_change_48 ?_
        refine j_lload_n C dX10_change_51 rfl 0 rfl ?_
        refine c_i0 C (r_V C 25 0 [.long (lN (lo + 2 ^ 20 * hi))] (c_padd_ok l D cy base Λ σ M hC hB lo hi hc) (cwV 1 hts gX10_change_X3_add rfl rfl rfl (by decide +kernel) ⟨by decide, by decide⟩) (CR.n1 hC (by decide)) rfl rfl rfl rfl (Nat.le_of_ble_eq_true rfl) dX10_change_52 ⟨by decide, by decide⟩) (fun rv u1 hp => ?_)
        exact j_iret C hr hlk (hp) dX10_change_55
      · first | exact absurd ⟨by rw [nI_toInt (by omega)]; omega, by rw [nI_toInt (by omega)]; omega⟩ h13 | exact absurd ⟨by rw [nI_toInt (by omega)]; omega, by rw [nI_toInt (by omega)]; omega⟩ h20 | exact absurd (by rw [hy.2.2]) h33

set_option maxHeartbeats 4000000 in
set_option maxRecDepth 100000 in
theorem c_change_e1 (l : Launch) (hlt : l.stackTraces = false) (D : va_G) (cy : Nat → ClassId) (base : Nat) (Λ : LY) (σ : HS) (M : MM) (hC : CR noEx Λ σ M) (hB : MBd M) (lo hi : Int32) (hA : lo.toInt < 0 ∨ hi.toInt < 0 ∨ (p2 (lmN M) : Int) ≤ lo.toInt ∨ (p2 (hmN M) : Int) ≤ hi.toInt) : vx_Met l yX10_change wsX10_change ({ frames := 12, cells := 1, slots := 6, locals := 180 }) (va_Pc [.ref (gA Λ 0 0), .int (lo), .int (hi)] (Wd D cy base Λ σ)) NoR (XQ D cy base Λ σ "java/lang/IllegalArgumentException") 1 6 (Ab base) := by
  refine j_startX (cc := cX10_change) (nL := 5) (ret := (some .int)) (lv := [(0, .ref (gA Λ 0 0)), (1, .int (lo)), (2, .int (hi))]) (by decide) rfl (Nat.le_of_ble_eq_true rfl) rfl ?_
  intro p e s m below meth c C htab hlk
  have C : Cx p s m ([.ref (gA Λ 0 0), .int (lo), .int (hi)] : List Value).toArray c cX10_change 5 RX10 wsX10_change D cy base := C
  have hts := C.2.2.2.2.1
  have hwX10 : ∀ w ∈ u_ws RX10 TX10 9, w ∈ wsX10_change := by decide +kernel
  have hwX4 : ∀ w ∈ u_ws RX4 TX4 6, w ∈ wsX10_change := by decide +kernel
  have hM24 : (Cond.fieldLink RX10 24 (TX10 2).1 (TX10 2).2.1 (TX10 2).2.2.1).before ([.ref (gA Λ 0 0), .int (lo), .int (hi)] : List Value).toArray s = true := hts (.fieldLink RX10 24 "CodeRooms" "plan" "LCodeRooms$Plan;") (by decide +kernel)
  have hL24 : FL RX10 24 (TX10 2).1 (TX10 2).2.1 (TX10 2).2.2.1 ([.ref (gA Λ 0 0), .int (lo), .int (hi)] : List Value).toArray s := Or.inl hM24
  have hL86 : FL RX10 86 (TX4 4).1 (TX4 4).2.1 (TX4 4).2.2.1 ([.ref (gA Λ 0 0), .int (lo), .int (hi)] : List Value).toArray s := Or.inr ⟨_, Ex.nestF C.2.2.2.2.2.2 nf_X10_86⟩
  have hC224 : (Jvm.Cond.constant RX10 224 (-1048576)).before ([.ref (gA Λ 0 0), .int (lo), .int (hi)] : List Value).toArray s = true := hts _ (by decide +kernel)
  have hn : M 31 5 ≤ 40 := hB 31 5 rfl
  refine j_iload_n C dX10_change_0 rfl 1 rfl ?_
  refine j_i2l C (lo.toInt64) dX10_change_1 rfl ?_
  refine j_iload_n C dX10_change_2 rfl 2 rfl ?_
  refine j_i2l C (hi.toInt64) dX10_change_3 rfl ?_
  refine j_bipush C (nI 20) dX10_change_4 (by decide) ?_
  refine j_lshl C (hi.toInt64 <<< ((nI 20).toInt64 &&& 63)) dX10_change_6 rfl ?_
  refine j_lor C (lo.toInt64 ||| (hi.toInt64 <<< ((nI 20).toInt64 &&& 63))) dX10_change_7 rfl ?_
  refine j_lstore_n C [(3, .long (lo.toInt64 ||| (hi.toInt64 <<< ((nI 20).toInt64 &&& 63)))), (0, .ref (gA Λ 0 0)), (1, .int (lo)), (2, .int (hi))] dX10_change_8 rfl (by decide) rfl ?_
  refine j_iload_n C dX10_change_9 rfl 2 rfl ?_
  refine j_ldc C ((-1048576)) hC224 dX10_change_10 (by decide) ?_
  refine j_iand C (lo &&& (-1048576)) dX10_change_12 rfl ?_
  refine j_if_ne (tgt := 37) C dX10_change_13 (by decide) (cg_and lo) (fun h13 => ?_) (fun h13 => ?_)
  · obtain ⟨sa, hstr⟩ := Ex.str C.2.2.2.2.2.2 lw_st225 nw_st225
    exact j_throw C (cls := "java/lang/IllegalArgumentException") (names := ["java/lang/RuntimeException", "java/lang/Exception"]) (ik := 79) (is := 225) (ic := 83) hlt (by decide +kernel) (by decide +kernel) (hts (.classLink RX10 79 "java/lang/IllegalArgumentException") (by decide +kernel)) (hts (.initialized "java/lang/IllegalArgumentException") (by decide +kernel)) hstr (xa_hat C.2.2.2.2.2.2 (fun w hw => hts w ((by decide +kernel : ∀ w ∈ (vx_atS RX10 83 "java/lang/IllegalArgumentException" ["java/lang/RuntimeException", "java/lang/Exception"]).filter goodWord, w ∈ wsX10_change) w hw))) xa79_ok dX10_change_37 dX10_change_40 dX10_change_41 dX10_change_43 dX10_change_46 htab (by decide) (by decide) (by decide) (by decide) hlk (by decide) (by decide)
  · refine j_iload_n C dX10_change_16 rfl 3 rfl ?_
    refine j_ldc C ((-1048576)) hC224 dX10_change_17 (by decide) ?_
    refine j_iand C (hi &&& (-1048576)) dX10_change_19 rfl ?_
    refine j_if_ne (tgt := 37) C dX10_change_20 (by decide) (cg_and hi) (fun h20 => ?_) (fun h20 => ?_)
    · obtain ⟨sa, hstr⟩ := Ex.str C.2.2.2.2.2.2 lw_st225 nw_st225
      exact j_throw C (cls := "java/lang/IllegalArgumentException") (names := ["java/lang/RuntimeException", "java/lang/Exception"]) (ik := 79) (is := 225) (ic := 83) hlt (by decide +kernel) (by decide +kernel) (hts (.classLink RX10 79 "java/lang/IllegalArgumentException") (by decide +kernel)) (hts (.initialized "java/lang/IllegalArgumentException") (by decide +kernel)) hstr (xa_hat C.2.2.2.2.2.2 (fun w hw => hts w ((by decide +kernel : ∀ w ∈ (vx_atS RX10 83 "java/lang/IllegalArgumentException" ["java/lang/RuntimeException", "java/lang/Exception"]).filter goodWord, w ∈ wsX10_change) w hw))) xa79_ok dX10_change_37 dX10_change_40 dX10_change_41 dX10_change_43 dX10_change_46 htab (by decide) (by decide) (by decide) (by decide) hlk (by decide) (by decide)
    · refine j_lload_n C dX10_change_23 rfl 0 rfl ?_
      refine j_aload_n C dX10_change_24 rfl 1 rfl ?_
      refine j_getV C hwX10 0 0 2 (CR.n1 hC (by decide)) rfl rfl (by decide) rfl 0 (CR.v hC 0 0 2 ⟨rfl, by decide⟩ id) hL24 dX10_change_25 ?_
      refine j_getI C hwX4 3 0 4 (CR.n1 hC (by decide)) rfl rfl (by decide) rfl (nI (M 31 5)) (CR.i hC 3 0 4 ⟨rfl, Or.inl rfl⟩ id) hL86 dX10_change_28 ?_
      refine j_lushr C (((lo.toInt64 ||| (hi.toInt64 <<< ((nI 20).toInt64 &&& 63))).toUInt64 >>> ((nI (M 31 5)).toInt64.toUInt64 &&& Int64.toUInt64 63)).toInt64) dX10_change_31 rfl ?_
      refine j_lconst C (lN 0) dX10_change_32 (by decide) ?_
      refine j_lcmp_eq (tgt := 47) C dX10_change_33 dX10_change_34 (by decide) Iff.rfl (fun h33 => ?_) (fun h33 => ?_)
      · exact (ch_no hB hA h13 h20 h33).elim
      · obtain ⟨sa, hstr⟩ := Ex.str C.2.2.2.2.2.2 lw_st225 nw_st225
        exact j_throw C (cls := "java/lang/IllegalArgumentException") (names := ["java/lang/RuntimeException", "java/lang/Exception"]) (ik := 79) (is := 225) (ic := 83) hlt (by decide +kernel) (by decide +kernel) (hts (.classLink RX10 79 "java/lang/IllegalArgumentException") (by decide +kernel)) (hts (.initialized "java/lang/IllegalArgumentException") (by decide +kernel)) hstr (xa_hat C.2.2.2.2.2.2 (fun w hw => hts w ((by decide +kernel : ∀ w ∈ (vx_atS RX10 83 "java/lang/IllegalArgumentException" ["java/lang/RuntimeException", "java/lang/Exception"]).filter goodWord, w ∈ wsX10_change) w hw))) xa79_ok dX10_change_37 dX10_change_40 dX10_change_41 dX10_change_43 dX10_change_46 htab (by decide) (by decide) (by decide) (by decide) hlk (by decide) (by decide)

set_option maxHeartbeats 4000000 in
set_option maxRecDepth 100000 in
theorem c_count_0 (l : Launch) (D : va_G) (cy : Nat → ClassId) (base : Nat) (Λ : LY) (σ : HS) (M : MM) (hC : CR noEx Λ σ M) (hB : MBd M) : Met l yX10_count wsX10_count ({ frames := 20, cells := 0, slots := 0, locals := 300 }) (va_Pc [.ref (gA Λ 0 0), .int (nI 0)] (Wd D cy base Λ σ)) (va_Qi (fun v u => v = nI (M 31 5) ∧ u = σ) (Wd D cy base Λ) (Ab base)) 0 0 (Ab base) := by
  refine j_start (cc := cX10_count) (nL := 2) (ret := (some .int)) (lv := [(0, .ref (gA Λ 0 0)), (1, .int (nI 0))]) (by decide) rfl (Nat.le_of_ble_eq_true rfl) rfl ?_
  intro p e s m below meth c C hr hlk hnm
  have C : Cx p s m ([.ref (gA Λ 0 0), .int (nI 0)] : List Value).toArray c cX10_count 2 RX10 wsX10_count D cy base := C
  have hts := C.2.2.2.2.1
  have hwX10 : ∀ w ∈ u_ws RX10 TX10 9, w ∈ wsX10_count := by decide +kernel
  have hwX4 : ∀ w ∈ u_ws RX4 TX4 6, w ∈ wsX10_count := by decide +kernel
  have hM24 : (Cond.fieldLink RX10 24 (TX10 2).1 (TX10 2).2.1 (TX10 2).2.2.1).before ([.ref (gA Λ 0 0), .int (nI 0)] : List Value).toArray s = true := hts (.fieldLink RX10 24 "CodeRooms" "plan" "LCodeRooms$Plan;") (by decide +kernel)
  have hL24 : FL RX10 24 (TX10 2).1 (TX10 2).2.1 (TX10 2).2.2.1 ([.ref (gA Λ 0 0), .int (nI 0)] : List Value).toArray s := Or.inl hM24
  have hL86 : FL RX10 86 (TX4 4).1 (TX4 4).2.1 (TX4 4).2.2.1 ([.ref (gA Λ 0 0), .int (nI 0)] : List Value).toArray s := Or.inr ⟨_, Ex.nestF C.2.2.2.2.2.2 nf_X10_86⟩
  have hT0 := CR.tx0 hC hB
  refine j_iload_n C dX10_count_0 rfl 1 rfl ?_
  refine j_tableIn (off := 39) (tgt := 40) C dX10_count_1 (by decide) (by decide) (by decide) (by decide) ?_
  refine j_aload_n C dX10_count_40 rfl 0 rfl ?_
  refine j_getV C hwX10 0 0 2 (CR.n1 hC (by decide)) rfl rfl (by decide) rfl 0 (CR.v hC 0 0 2 ⟨rfl, by decide⟩ id) hL24 dX10_count_41 ?_
  refine j_getI C hwX4 3 0 4 (CR.n1 hC (by decide)) rfl rfl (by decide) rfl (nI (M 31 5)) (CR.i hC 3 0 4 ⟨rfl, Or.inl rfl⟩ id) hL86 dX10_count_44 ?_
  exact j_iret C hr hlk (⟨rfl, rfl⟩) dX10_count_47

set_option maxHeartbeats 4000000 in
set_option maxRecDepth 100000 in
theorem c_count_2 (l : Launch) (D : va_G) (cy : Nat → ClassId) (base : Nat) (Λ : LY) (σ : HS) (M : MM) (hC : CR noEx Λ σ M) (hB : MBd M) : Met l yX10_count wsX10_count ({ frames := 20, cells := 0, slots := 0, locals := 300 }) (va_Pc [.ref (gA Λ 0 0), .int (nI 2)] (Wd D cy base Λ σ)) (va_Qi (fun v u => v = nI (M 31 22) ∧ u = σ) (Wd D cy base Λ) (Ab base)) 0 0 (Ab base) := by
  refine j_start (cc := cX10_count) (nL := 2) (ret := (some .int)) (lv := [(0, .ref (gA Λ 0 0)), (1, .int (nI 2))]) (by decide) rfl (Nat.le_of_ble_eq_true rfl) rfl ?_
  intro p e s m below meth c C hr hlk hnm
  have C : Cx p s m ([.ref (gA Λ 0 0), .int (nI 2)] : List Value).toArray c cX10_count 2 RX10 wsX10_count D cy base := C
  have hts := C.2.2.2.2.1
  have hwX10 : ∀ w ∈ u_ws RX10 TX10 9, w ∈ wsX10_count := by decide +kernel
  have hwX3 : ∀ w ∈ u_ws RX3 TX3 2, w ∈ wsX10_count := by decide +kernel
  have hM61 : (Cond.fieldLink RX10 61 (TX10 7).1 (TX10 7).2.1 (TX10 7).2.2.1).before ([.ref (gA Λ 0 0), .int (nI 2)] : List Value).toArray s = true := hts (.fieldLink RX10 61 "CodeRooms" "past" "LCodeRooms$Past;") (by decide +kernel)
  have hL61 : FL RX10 61 (TX10 7).1 (TX10 7).2.1 (TX10 7).2.2.1 ([.ref (gA Λ 0 0), .int (nI 2)] : List Value).toArray s := Or.inl hM61
  have hL243 : FL RX10 243 (TX3 1).1 (TX3 1).2.1 (TX3 1).2.2.1 ([.ref (gA Λ 0 0), .int (nI 2)] : List Value).toArray s := Or.inr ⟨_, Ex.nestF C.2.2.2.2.2.2 nf_X10_243⟩
  have hT0 := CR.tx0 hC hB
  refine j_iload_n C dX10_count_0 rfl 1 rfl ?_
  refine j_tableIn (off := 63) (tgt := 64) C dX10_count_1 (by decide) (by decide) (by decide) (by decide) ?_
  refine j_aload_n C dX10_count_64 rfl 0 rfl ?_
  refine j_getV C hwX10 0 0 7 (CR.n1 hC (by decide)) rfl rfl (by decide) rfl 0 (CR.v hC 0 0 7 ⟨rfl, by decide⟩ id) hL61 dX10_count_65 ?_
  have hb68 : M 31 22 ≤ 60 := hB 31 22 rfl
  refine j_getI C hwX3 25 0 1 (CR.n1 hC (by decide)) rfl rfl (by decide) rfl (nI (M 31 22)) (CR.i hC 25 0 1 ⟨rfl, rfl⟩ id) hL243 dX10_count_68 ?_
  exact j_iret C hr hlk (⟨rfl, rfl⟩) dX10_count_71

set_option maxHeartbeats 4000000 in
set_option maxRecDepth 100000 in
theorem c_count_3 (l : Launch) (D : va_G) (cy : Nat → ClassId) (base : Nat) (Λ : LY) (σ : HS) (M : MM) (hC : CR noEx Λ σ M) (hB : MBd M) : Met l yX10_count wsX10_count ({ frames := 20, cells := 0, slots := 0, locals := 300 }) (va_Pc [.ref (gA Λ 0 0), .int (nI 3)] (Wd D cy base Λ σ)) (va_Qi (fun v u => v = nI (M 31 2) ∧ u = σ) (Wd D cy base Λ) (Ab base)) 0 0 (Ab base) := by
  refine j_start (cc := cX10_count) (nL := 2) (ret := (some .int)) (lv := [(0, .ref (gA Λ 0 0)), (1, .int (nI 3))]) (by decide) rfl (Nat.le_of_ble_eq_true rfl) rfl ?_
  intro p e s m below meth c C hr hlk hnm
  have C : Cx p s m ([.ref (gA Λ 0 0), .int (nI 3)] : List Value).toArray c cX10_count 2 RX10 wsX10_count D cy base := C
  have hts := C.2.2.2.2.1
  have hwX10 : ∀ w ∈ u_ws RX10 TX10 9, w ∈ wsX10_count := by decide +kernel
  have hwX7 : ∀ w ∈ u_ws RX7 TX7 2, w ∈ wsX10_count := by decide +kernel
  have hM14 : (Cond.fieldLink RX10 14 (TX10 0).1 (TX10 0).2.1 (TX10 0).2.2.1).before ([.ref (gA Λ 0 0), .int (nI 3)] : List Value).toArray s = true := hts (.fieldLink RX10 14 "CodeRooms" "tape" "LCodeRooms$Text;") (by decide +kernel)
  have hL14 : FL RX10 14 (TX10 0).1 (TX10 0).2.1 (TX10 0).2.2.1 ([.ref (gA Λ 0 0), .int (nI 3)] : List Value).toArray s := Or.inl hM14
  have hL72 : FL RX10 72 (TX7 1).1 (TX7 1).2.1 (TX7 1).2.2.1 ([.ref (gA Λ 0 0), .int (nI 3)] : List Value).toArray s := Or.inr ⟨_, Ex.nestF C.2.2.2.2.2.2 nf_X10_72⟩
  have hT0 := CR.tx0 hC hB
  refine j_iload_n C dX10_count_0 rfl 1 rfl ?_
  refine j_tableIn (off := 71) (tgt := 72) C dX10_count_1 (by decide) (by decide) (by decide) (by decide) ?_
  refine j_aload_n C dX10_count_72 rfl 0 rfl ?_
  refine j_getV C hwX10 0 0 0 (CR.n1 hC (by decide)) rfl rfl (by decide) rfl 0 (CR.v hC 0 0 0 ⟨rfl, by decide⟩ id) hL14 dX10_count_73 ?_
  refine j_getI C hwX7 1 0 1 hT0.1 rfl rfl (by decide) rfl (nI (M 31 2)) hT0.2.2.2.1 hL72 dX10_count_76 ?_
  exact j_iret C hr hlk (⟨rfl, rfl⟩) dX10_count_79

set_option maxHeartbeats 4000000 in
set_option maxRecDepth 100000 in
theorem c_count_4 (l : Launch) (D : va_G) (cy : Nat → ClassId) (base : Nat) (Λ : LY) (σ : HS) (M : MM) (hC : CR noEx Λ σ M) (hB : MBd M) : Met l yX10_count wsX10_count ({ frames := 20, cells := 0, slots := 0, locals := 300 }) (va_Pc [.ref (gA Λ 0 0), .int (nI 4)] (Wd D cy base Λ σ)) (va_Qi (fun v u => v = nI (M 31 18) ∧ u = σ) (Wd D cy base Λ) (Ab base)) 0 0 (Ab base) := by
  refine j_start (cc := cX10_count) (nL := 2) (ret := (some .int)) (lv := [(0, .ref (gA Λ 0 0)), (1, .int (nI 4))]) (by decide) rfl (Nat.le_of_ble_eq_true rfl) rfl ?_
  intro p e s m below meth c C hr hlk hnm
  have C : Cx p s m ([.ref (gA Λ 0 0), .int (nI 4)] : List Value).toArray c cX10_count 2 RX10 wsX10_count D cy base := C
  have hts := C.2.2.2.2.1
  have hwX10 : ∀ w ∈ u_ws RX10 TX10 9, w ∈ wsX10_count := by decide +kernel
  have hwX7 : ∀ w ∈ u_ws RX7 TX7 2, w ∈ wsX10_count := by decide +kernel
  have hM18 : (Cond.fieldLink RX10 18 (TX10 1).1 (TX10 1).2.1 (TX10 1).2.2.1).before ([.ref (gA Λ 0 0), .int (nI 4)] : List Value).toArray s = true := hts (.fieldLink RX10 18 "CodeRooms" "page" "LCodeRooms$Text;") (by decide +kernel)
  have hL18 : FL RX10 18 (TX10 1).1 (TX10 1).2.1 (TX10 1).2.2.1 ([.ref (gA Λ 0 0), .int (nI 4)] : List Value).toArray s := Or.inl hM18
  have hL72 : FL RX10 72 (TX7 1).1 (TX7 1).2.1 (TX7 1).2.2.1 ([.ref (gA Λ 0 0), .int (nI 4)] : List Value).toArray s := Or.inr ⟨_, Ex.nestF C.2.2.2.2.2.2 nf_X10_72⟩
  have hT0 := CR.tx0 hC hB
  refine j_iload_n C dX10_count_0 rfl 1 rfl ?_
  refine j_tableIn (off := 79) (tgt := 80) C dX10_count_1 (by decide) (by decide) (by decide) (by decide) ?_
  refine j_aload_n C dX10_count_80 rfl 0 rfl ?_
  refine j_getV C hwX10 0 0 1 (CR.n1 hC (by decide)) rfl rfl (by decide) rfl 1 (CR.v hC 0 0 1 ⟨rfl, by decide⟩ id) hL18 dX10_count_81 ?_
  refine j_getI C hwX7 1 1 1 (CR.n2 hC (by decide)).1 rfl rfl (by decide) rfl (nI (M 31 18)) (CR.i hC 1 1 1 ⟨by decide, rfl⟩ id) hL72 dX10_count_84 ?_
  exact j_iret C hr hlk (⟨rfl, rfl⟩) dX10_count_87

set_option maxHeartbeats 4000000 in
set_option maxRecDepth 100000 in
theorem c_count_1 (l : Launch) (D : va_G) (cy : Nat → ClassId) (base : Nat) (Λ : LY) (σ : HS) (M : MM) (hC : CR noEx Λ σ M) (hB : MBd M) : Met l yX10_count wsX10_count ({ frames := 20, cells := 0, slots := 0, locals := 300 }) (va_Pc [.ref (gA Λ 0 0), .int (nI 1)] (Wd D cy base Λ σ)) (va_Qi (fun v u => v = nI (fb_ct (fun r => decide (M 37 r ≠ 0)) (M 31 5)) ∧ u = σ) (Wd D cy base Λ) (Ab base)) 0 0 (Ab base) := by
  refine j_start (cc := cX10_count) (nL := 2) (ret := (some .int)) (lv := [(0, .ref (gA Λ 0 0)), (1, .int (nI 1))]) (by decide) rfl (Nat.le_of_ble_eq_true rfl) rfl ?_
  intro p e s m below meth c C hr hlk hnm
  have C : Cx p s m ([.ref (gA Λ 0 0), .int (nI 1)] : List Value).toArray c cX10_count 2 RX10 wsX10_count D cy base := C
  have hts := C.2.2.2.2.1
  have hwX10 : ∀ w ∈ u_ws RX10 TX10 9, w ∈ wsX10_count := by decide +kernel
  have hwX4 : ∀ w ∈ u_ws RX4 TX4 6, w ∈ wsX10_count := by decide +kernel
  have hM24 : (Cond.fieldLink RX10 24 (TX10 2).1 (TX10 2).2.1 (TX10 2).2.2.1).before ([.ref (gA Λ 0 0), .int (nI 1)] : List Value).toArray s = true := hts (.fieldLink RX10 24 "CodeRooms" "plan" "LCodeRooms$Plan;") (by decide +kernel)
  have hL24 : FL RX10 24 (TX10 2).1 (TX10 2).2.1 (TX10 2).2.2.1 ([.ref (gA Λ 0 0), .int (nI 1)] : List Value).toArray s := Or.inl hM24
  have hL86 : FL RX10 86 (TX4 4).1 (TX4 4).2.1 (TX4 4).2.2.1 ([.ref (gA Λ 0 0), .int (nI 1)] : List Value).toArray s := Or.inr ⟨_, Ex.nestF C.2.2.2.2.2.2 nf_X10_86⟩
  have hL240 : FL RX10 240 (TX4 5).1 (TX4 5).2.1 (TX4 5).2.2.1 ([.ref (gA Λ 0 0), .int (nI 1)] : List Value).toArray s := Or.inr ⟨_, Ex.nestF C.2.2.2.2.2.2 nf_X10_240⟩
  refine j_iload_n C dX10_count_0 rfl 1 rfl ?_
  refine j_tableIn (off := 47) (tgt := 48) C dX10_count_1 (by decide) (by decide) (by decide) (by decide) ?_
  refine j_aload_n C dX10_count_48 rfl 0 rfl ?_
  refine j_getV C hwX10 0 0 2 (CR.n1 hC (by decide)) rfl rfl (by decide) rfl 0 (CR.v hC 0 0 2 ⟨rfl, by decide⟩ id) hL24 dX10_count_49 ?_
  refine j_getI C hwX4 3 0 4 (CR.n1 hC (by decide)) rfl rfl (by decide) rfl (nI (M 31 5)) (CR.i hC 3 0 4 ⟨rfl, Or.inl rfl⟩ id) hL86 dX10_count_52 ?_
  refine j_aload_n C dX10_count_55 rfl 0 rfl ?_
  refine j_getV C hwX10 0 0 2 (CR.n1 hC (by decide)) rfl rfl (by decide) rfl 0 (CR.v hC 0 0 2 ⟨rfl, by decide⟩ id) hL24 dX10_count_56 ?_
  have hhc59 := hcN_le M
  refine j_getI C hwX4 3 0 5 (CR.n1 hC (by decide)) rfl rfl (by decide) rfl (nI (hcN M)) (CR.i hC 3 0 5 ⟨rfl, Or.inr rfl⟩ id) hL240 dX10_count_59 ?_
  refine j_isub C (nI (M 31 5) - nI (hcN M)) dX10_count_62 rfl ?_
  exact j_iret C hr hlk (⟨cnt_1 M, rfl⟩) dX10_count_63

set_option maxHeartbeats 4000000 in
set_option maxRecDepth 100000 in
theorem c_count_x (l : Launch) (D : va_G) (cy : Nat → ClassId) (base : Nat) (Λ : LY) (σ : HS) (M : MM) (hC : CR noEx Λ σ M) (hB : MBd M) (w : Int32) (hw : w.toInt < 0 ∨ 5 < w.toInt) : Met l yX10_count wsX10_count ({ frames := 20, cells := 0, slots := 0, locals := 300 }) (va_Pc [.ref (gA Λ 0 0), .int (w)] (Wd D cy base Λ σ)) (va_Qi (fun v u => v = -1 ∧ u = σ) (Wd D cy base Λ) (Ab base)) 0 0 (Ab base) := by
  refine j_start (cc := cX10_count) (nL := 2) (ret := (some .int)) (lv := [(0, .ref (gA Λ 0 0)), (1, .int (w))]) (by decide) rfl (Nat.le_of_ble_eq_true rfl) rfl ?_
  intro p e s m below meth c C hr hlk hnm
  have C : Cx p s m ([.ref (gA Λ 0 0), .int (w)] : List Value).toArray c cX10_count 2 RX10 wsX10_count D cy base := C
  have hts := C.2.2.2.2.1
  refine j_iload_n C dX10_count_0 rfl 1 rfl ?_
  refine j_tableOut (tgt := 96) C dX10_count_1 hw (by decide) ?_
  refine j_iconst C ((-1)) dX10_count_96 (by decide) ?_
  exact j_iret C hr hlk (⟨rfl, rfl⟩) dX10_count_97

set_option maxHeartbeats 4000000 in
set_option maxRecDepth 100000 in
theorem c_count_5 (l : Launch) (D : va_G) (cy : Nat → ClassId) (base : Nat) (Λ : LY) (σ : HS) (M : MM) (hC : CR noEx Λ σ M) (hB : MBd M) : Met l yX10_count wsX10_count ({ frames := 20, cells := 0, slots := 0, locals := 300 }) (va_Pc [.ref (gA Λ 0 0), .int (nI 5)] (Wd D cy base Λ σ)) (va_Qi (fun v u => v = nI (brkN M) ∧ u = σ) (Wd D cy base Λ) (Ab base)) 0 0 (Ab base) := by
  refine j_start (cc := cX10_count) (nL := 2) (ret := (some .int)) (lv := [(0, .ref (gA Λ 0 0)), (1, .int (nI 5))]) (by decide) rfl (Nat.le_of_ble_eq_true rfl) rfl ?_
  intro p e s m below meth c C hr hlk hnm
  have C : Cx p s m ([.ref (gA Λ 0 0), .int (nI 5)] : List Value).toArray c cX10_count 2 RX10 wsX10_count D cy base := C
  have hts := C.2.2.2.2.1
  have hwX10 : ∀ w ∈ u_ws RX10 TX10 9, w ∈ wsX10_count := by decide +kernel
  have hM24 : (Cond.fieldLink RX10 24 (TX10 2).1 (TX10 2).2.1 (TX10 2).2.2.1).before ([.ref (gA Λ 0 0), .int (nI 5)] : List Value).toArray s = true := hts (.fieldLink RX10 24 "CodeRooms" "plan" "LCodeRooms$Plan;") (by decide +kernel)
  have hL24 : FL RX10 24 (TX10 2).1 (TX10 2).2.1 (TX10 2).2.2.1 ([.ref (gA Λ 0 0), .int (nI 5)] : List Value).toArray s := Or.inl hM24
  refine j_iload_n C dX10_count_0 rfl 1 rfl ?_
  refine j_tableIn (off := 87) (tgt := 88) C dX10_count_1 (by decide) (by decide) (by decide) (by decide) ?_
  refine j_aload_n C dX10_count_88 rfl 0 rfl ?_
  refine j_getV C hwX10 0 0 2 (CR.n1 hC (by decide)) rfl rfl (by decide) rfl 0 (CR.v hC 0 0 2 ⟨rfl, by decide⟩ id) hL24 dX10_count_89 ?_
  refine c_i0 C (r_V C 3 0 [] (c_X4_brokenMusts l D cy base Λ σ M hC hB) (cwV 0 hts gX10_count_X4_brokenMusts rfl rfl rfl (by decide +kernel) ⟨by decide, by decide⟩) (CR.n1 hC (by decide)) rfl rfl rfl rfl (Nat.le_of_ble_eq_true rfl) dX10_count_92 ⟨by decide, by decide⟩) (fun rv u1 hp => ?_)
  exact j_iret C hr hlk (hp) dX10_count_95

set_option maxHeartbeats 4000000 in
set_option maxRecDepth 100000 in
theorem c_rout_e1 (l : Launch) (hlt : l.stackTraces = false) (D : va_G) (cy : Nat → ClassId) (base : Nat) (Λ : LY) (σ : HS) (M : MM) (hC : CR noEx Λ σ M) (hB : MBd M) (n : Int32) (hA : n.toInt < 0 ∨ (M 31 2 : Int) < n.toInt) : vx_Met l yX10_routine wsX10_routine ({ frames := 12, cells := 1, slots := 6, locals := 180 }) (va_Pc [.ref (gA Λ 0 0), .int (n)] (Wd D cy base Λ σ)) NoR (XQ D cy base Λ σ "java/lang/IllegalArgumentException") 1 6 (Ab base) := by
  refine j_startX (cc := cX10_routine) (nL := 4) (ret := (some .int)) (lv := [(0, .ref (gA Λ 0 0)), (1, .int (n))]) (by decide) rfl (Nat.le_of_ble_eq_true rfl) rfl ?_
  intro p e s m below meth c C htab hlk
  have C : Cx p s m ([.ref (gA Λ 0 0), .int (n)] : List Value).toArray c cX10_routine 4 RX10 wsX10_routine D cy base := C
  have hts := C.2.2.2.2.1
  have hwX10 : ∀ w ∈ u_ws RX10 TX10 9, w ∈ wsX10_routine := by decide +kernel
  have hwX7 : ∀ w ∈ u_ws RX7 TX7 2, w ∈ wsX10_routine := by decide +kernel
  have hM14 : (Cond.fieldLink RX10 14 (TX10 0).1 (TX10 0).2.1 (TX10 0).2.2.1).before ([.ref (gA Λ 0 0), .int (n)] : List Value).toArray s = true := hts (.fieldLink RX10 14 "CodeRooms" "tape" "LCodeRooms$Text;") (by decide +kernel)
  have hL14 : FL RX10 14 (TX10 0).1 (TX10 0).2.1 (TX10 0).2.2.1 ([.ref (gA Λ 0 0), .int (n)] : List Value).toArray s := Or.inl hM14
  have hL72 : FL RX10 72 (TX7 1).1 (TX7 1).2.1 (TX7 1).2.2.1 ([.ref (gA Λ 0 0), .int (n)] : List Value).toArray s := Or.inr ⟨_, Ex.nestF C.2.2.2.2.2.2 nf_X10_72⟩
  have hT0 := CR.tx0 hC hB
  have h2 : M 31 2 ≤ 40 := hB 31 2 rfl
  refine j_iload_n C dX10_routine_0 rfl 1 rfl ?_
  refine j_if_lt (tgt := 15) C dX10_routine_1 (by decide) Iff.rfl (fun h1 => ?_) (fun h1 => ?_)
  · obtain ⟨sa, hstr⟩ := Ex.str C.2.2.2.2.2.2 lw_st81 nw_st81
    exact j_throw C (cls := "java/lang/IllegalArgumentException") (names := ["java/lang/RuntimeException", "java/lang/Exception"]) (ik := 79) (is := 81) (ic := 83) hlt (by decide +kernel) (by decide +kernel) (hts (.classLink RX10 79 "java/lang/IllegalArgumentException") (by decide +kernel)) (hts (.initialized "java/lang/IllegalArgumentException") (by decide +kernel)) hstr (xa_hat C.2.2.2.2.2.2 (fun w hw => hts w ((by decide +kernel : ∀ w ∈ (vx_atS RX10 83 "java/lang/IllegalArgumentException" ["java/lang/RuntimeException", "java/lang/Exception"]).filter goodWord, w ∈ wsX10_routine) w hw))) xa79_ok dX10_routine_15 dX10_routine_18 dX10_routine_19 dX10_routine_21 dX10_routine_24 htab (by decide) (by decide) (by decide) (by decide) hlk (by decide) (by decide)
  · refine j_iload_n C dX10_routine_4 rfl 1 rfl ?_
    refine j_aload_n C dX10_routine_5 rfl 0 rfl ?_
    refine j_getV C hwX10 0 0 0 (CR.n1 hC (by decide)) rfl rfl (by decide) rfl 0 (CR.v hC 0 0 0 ⟨rfl, by decide⟩ id) hL14 dX10_routine_6 ?_
    refine j_getI C hwX7 1 0 1 hT0.1 rfl rfl (by decide) rfl (nI (M 31 2)) hT0.2.2.2.1 hL72 dX10_routine_9 ?_
    refine j_icmp_le (tgt := 25) C dX10_routine_12 (by decide) Iff.rfl (fun h12 => ?_) (fun h12 => ?_)
    · exfalso; rw [Int32.lt_iff_toInt_lt] at h1; rw [Int32.le_iff_toInt_le, nI_toInt (by omega)] at h12; have z0 : (0 : Int32).toInt = 0 := rfl; omega
    · obtain ⟨sa, hstr⟩ := Ex.str C.2.2.2.2.2.2 lw_st81 nw_st81
      exact j_throw C (cls := "java/lang/IllegalArgumentException") (names := ["java/lang/RuntimeException", "java/lang/Exception"]) (ik := 79) (is := 81) (ic := 83) hlt (by decide +kernel) (by decide +kernel) (hts (.classLink RX10 79 "java/lang/IllegalArgumentException") (by decide +kernel)) (hts (.initialized "java/lang/IllegalArgumentException") (by decide +kernel)) hstr (xa_hat C.2.2.2.2.2.2 (fun w hw => hts w ((by decide +kernel : ∀ w ∈ (vx_atS RX10 83 "java/lang/IllegalArgumentException" ["java/lang/RuntimeException", "java/lang/Exception"]).filter goodWord, w ∈ wsX10_routine) w hw))) xa79_ok dX10_routine_15 dX10_routine_18 dX10_routine_19 dX10_routine_21 dX10_routine_24 htab (by decide) (by decide) (by decide) (by decide) hlk (by decide) (by decide)

set_option maxHeartbeats 4000000 in
set_option maxRecDepth 100000 in
theorem c_rout_e2 (l : Launch) (hlt : l.stackTraces = false) (D : va_G) (cy : Nat → ClassId) (base : Nat) (Λ : LY) (σ : HS) (M : MM) (hC : CR noEx Λ σ M) (hB : MBd M) (n : Nat) (hA : n ≤ M 31 2) (h40 : M 31 5 = 40) : vx_Met l yX10_routine wsX10_routine ({ frames := 12, cells := 1, slots := 6, locals := 180 }) (va_Pc [.ref (gA Λ 0 0), .int (nI n)] (Wd D cy base Λ σ)) NoR (XQ D cy base Λ σ "java/lang/IllegalStateException") 1 6 (Ab base) := by
  refine j_startX (cc := cX10_routine) (nL := 4) (ret := (some .int)) (lv := [(0, .ref (gA Λ 0 0)), (1, .int (nI n))]) (by decide) rfl (Nat.le_of_ble_eq_true rfl) rfl ?_
  intro p e s m below meth c C htab hlk
  have C : Cx p s m ([.ref (gA Λ 0 0), .int (nI n)] : List Value).toArray c cX10_routine 4 RX10 wsX10_routine D cy base := C
  have hts := C.2.2.2.2.1
  have hwX10 : ∀ w ∈ u_ws RX10 TX10 9, w ∈ wsX10_routine := by decide +kernel
  have hwX4 : ∀ w ∈ u_ws RX4 TX4 6, w ∈ wsX10_routine := by decide +kernel
  have hwX7 : ∀ w ∈ u_ws RX7 TX7 2, w ∈ wsX10_routine := by decide +kernel
  have hM14 : (Cond.fieldLink RX10 14 (TX10 0).1 (TX10 0).2.1 (TX10 0).2.2.1).before ([.ref (gA Λ 0 0), .int (nI n)] : List Value).toArray s = true := hts (.fieldLink RX10 14 "CodeRooms" "tape" "LCodeRooms$Text;") (by decide +kernel)
  have hL14 : FL RX10 14 (TX10 0).1 (TX10 0).2.1 (TX10 0).2.2.1 ([.ref (gA Λ 0 0), .int (nI n)] : List Value).toArray s := Or.inl hM14
  have hM24 : (Cond.fieldLink RX10 24 (TX10 2).1 (TX10 2).2.1 (TX10 2).2.2.1).before ([.ref (gA Λ 0 0), .int (nI n)] : List Value).toArray s = true := hts (.fieldLink RX10 24 "CodeRooms" "plan" "LCodeRooms$Plan;") (by decide +kernel)
  have hL24 : FL RX10 24 (TX10 2).1 (TX10 2).2.1 (TX10 2).2.2.1 ([.ref (gA Λ 0 0), .int (nI n)] : List Value).toArray s := Or.inl hM24
  have hL72 : FL RX10 72 (TX7 1).1 (TX7 1).2.1 (TX7 1).2.2.1 ([.ref (gA Λ 0 0), .int (nI n)] : List Value).toArray s := Or.inr ⟨_, Ex.nestF C.2.2.2.2.2.2 nf_X10_72⟩
  have hL86 : FL RX10 86 (TX4 4).1 (TX4 4).2.1 (TX4 4).2.2.1 ([.ref (gA Λ 0 0), .int (nI n)] : List Value).toArray s := Or.inr ⟨_, Ex.nestF C.2.2.2.2.2.2 nf_X10_86⟩
  have hT0 := CR.tx0 hC hB
  have h2 : M 31 2 ≤ 40 := hB 31 2 rfl
  refine j_iload_n C dX10_routine_0 rfl 1 rfl ?_
  refine j_if_lt (tgt := 15) C dX10_routine_1 (by decide) (nJ_lt0 (by omega)) (fun h1 => ?_) (fun h1 => ?_)
  · first | omega | exact h1.elim
  · refine j_iload_n C dX10_routine_4 rfl 1 rfl ?_
    refine j_aload_n C dX10_routine_5 rfl 0 rfl ?_
    refine j_getV C hwX10 0 0 0 (CR.n1 hC (by decide)) rfl rfl (by decide) rfl 0 (CR.v hC 0 0 0 ⟨rfl, by decide⟩ id) hL14 dX10_routine_6 ?_
    refine j_getI C hwX7 1 0 1 hT0.1 rfl rfl (by decide) rfl (nI (M 31 2)) hT0.2.2.2.1 hL72 dX10_routine_9 ?_
    refine j_icmp_le (tgt := 25) C dX10_routine_12 (by decide) (nI_leI (by omega) (by omega)) (fun h12 => ?_) (fun h12 => ?_)
    · refine j_aload_n C dX10_routine_25 rfl 0 rfl ?_
      refine j_getV C hwX10 0 0 2 (CR.n1 hC (by decide)) rfl rfl (by decide) rfl 0 (CR.v hC 0 0 2 ⟨rfl, by decide⟩ id) hL24 dX10_routine_26 ?_
      refine j_getI C hwX4 3 0 4 (CR.n1 hC (by decide)) rfl rfl (by decide) rfl (nI (M 31 5)) (CR.i hC 3 0 4 ⟨rfl, Or.inl rfl⟩ id) hL86 dX10_routine_29 ?_
      refine j_bipush C (nI 40) dX10_routine_32 (by decide) ?_
      refine j_icmp_lt (tgt := 47) C dX10_routine_34 (by decide) (nI_ltI (by omega) (by omega)) (fun h34 => ?_) (fun h34 => ?_)
      · omega
      · obtain ⟨sa, hstr⟩ := Ex.str C.2.2.2.2.2.2 lw_st89 nw_st89
        exact j_throw C (cls := "java/lang/IllegalStateException") (names := ["java/lang/RuntimeException", "java/lang/Exception"]) (ik := 87) (is := 89) (ic := 91) hlt (by decide +kernel) (by decide +kernel) (hts (.classLink RX10 87 "java/lang/IllegalStateException") (by decide +kernel)) (hts (.initialized "java/lang/IllegalStateException") (by decide +kernel)) hstr (xs_hat C.2.2.2.2.2.2 (fun w hw => hts w ((by decide +kernel : ∀ w ∈ (vx_atS RX10 91 "java/lang/IllegalStateException" ["java/lang/RuntimeException", "java/lang/Exception"]).filter goodWord, w ∈ wsX10_routine) w hw))) xs87_ok dX10_routine_37 dX10_routine_40 dX10_routine_41 dX10_routine_43 dX10_routine_46 htab (by decide) (by decide) (by decide) (by decide) hlk (by decide) (by decide)
    · first | omega | exact h1.elim
