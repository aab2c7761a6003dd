set_option maxHeartbeats 4000000 in
set_option maxRecDepth 100000 in
theorem c_mset_w (l : Launch) (D : va_G) (cy : Nat → ClassId) (base : Nat) (Λ : LY) (σ : HS) (M : MM) (hM0 : MR0 Λ σ M) (h00 : M 31 0 = 0) (hB : MBd M) (w : Nat) (hw : w < 3) (v : Nat) (hv : v ≤ 9) : Met l yX11_set wsX11_set ({ frames := 24, cells := 0, slots := 0, locals := 360 }) (va_Pc [.ref (gA Λ 31 0), .int (nI w), .int (nI v)] (Wd D cy base Λ σ)) (va_Qi (fun q u => MR Λ u (settle (mS M 36 w v)) ∧ Same nMo σ u ∧ q = nI (M 36 w)) (Wd D cy base Λ) (Ab base)) 0 0 (Ab base) := by
  refine j_start (cc := cX11_set) (nL := 6) (ret := (some .int)) (lv := [(0, .ref (gA Λ 31 0)), (1, .int (nI w)), (2, .int (nI v))]) (by decide) rfl (Nat.le_of_ble_eq_true rfl) rfl ?_
  intro p e s m below meth c C hr hlk hnm
  have C : Cx p s m ([.ref (gA Λ 31 0), .int (nI w), .int (nI v)] : List Value).toArray c cX11_set 6 RX11 wsX11_set D cy base := C
  have hts := C.2.2.2.2.1
  have hwX11 : ∀ w ∈ u_ws RX11 TX11 26, w ∈ wsX11_set := by decide +kernel
  have hM23 : (Cond.fieldLink RX11 23 (TX11 7).1 (TX11 7).2.1 (TX11 7).2.2.1).before ([.ref (gA Λ 31 0), .int (nI w), .int (nI v)] : List Value).toArray s = true := hts (.fieldLink RX11 23 "CodeRoomsModel" "weights" "[I") (by decide +kernel)
  have hL23 : FL RX11 23 (TX11 7).1 (TX11 7).2.1 (TX11 7).2.2.1 ([.ref (gA Λ 31 0), .int (nI w), .int (nI v)] : List Value).toArray s := Or.inl hM23
  have hM73 : (Cond.fieldLink RX11 73 (TX11 0).1 (TX11 0).2.1 (TX11 0).2.2.1).before ([.ref (gA Λ 31 0), .int (nI w), .int (nI v)] : List Value).toArray s = true := hts (.fieldLink RX11 73 "CodeRoomsModel" "thrown" "I") (by decide +kernel)
  have hL73 : FL RX11 73 (TX11 0).1 (TX11 0).2.1 (TX11 0).2.2.1 ([.ref (gA Λ 31 0), .int (nI w), .int (nI v)] : List Value).toArray s := Or.inl hM73
  have hn : M 31 5 ≤ 40 := hB 31 5 rfl
  refine j_aload_n C dX11_set_0 rfl 0 rfl ?_
  refine j_iconst C (nI 0) dX11_set_1 (by decide) ?_
  refine j_putI C hwX11 31 0 0 (MR0.in0 hM0) rfl rfl (by decide) rfl tyX11 tyX11_ok nmX11 rfl rfl rfl hL73 dX11_set_2 ?_
  have hM := MR0.start hM0 h00
  have hs0 : Same nMo σ (sI σ 31 0 0 (nI 0)) := Same.sI Same.rf (by decide)
  generalize sI σ 31 0 0 (nI 0) = σ0 at hM hs0 ⊢
  refine j_iload_n C dX11_set_5 rfl 1 rfl ?_
  refine j_iconst C (nI 5) dX11_set_6 (by decide) ?_
  refine j_icmp_ne (tgt := 14) C dX11_set_7 (by decide) (nI_eq (by omega) (by omega)) (fun h7 => ?_) (fun h7 => ?_)
  · refine j_iconst C (nI 0) dX11_set_14 (by decide) ?_
    refine j_istore_n C [(3, .int (nI 0)), (0, .ref (gA Λ 31 0)), (1, .int (nI w)), (2, .int (nI v))] dX11_set_15 rfl (by decide) rfl ?_
    refine j_iload_n C dX11_set_16 rfl 2 rfl ?_
    refine j_iconst C (nI 3) dX11_set_17 (by decide) ?_
    refine j_icmp_ge (tgt := 26) C dX11_set_18 (by decide) (nI_leI (by omega) (by omega)) (fun h18 => ?_) (fun h18 => ?_)
    · omega
    · refine j_bipush C (nI 9) dX11_set_21 (by decide) ?_
      refine j_goto (tgt := 48) C dX11_set_23 (by decide) ?_
      refine j_istore C [(4, .int (nI 9)), (3, .int (nI 0)), (0, .ref (gA Λ 31 0)), (1, .int (nI w)), (2, .int (nI v))] dX11_set_48 (by decide) rfl ?_
      refine j_aload_n C dX11_set_50 rfl 2 rfl ?_
      refine j_iload_n C dX11_set_51 rfl 3 rfl ?_
      refine j_if_lt (tgt := 71) C dX11_set_52 (by decide) (nJ_lt0 (by omega)) (fun h52 => ?_) (fun h52 => ?_)
      · exact h52.elim
      · refine j_iload_n C dX11_set_55 rfl 3 rfl ?_
        refine j_iconst C (nI 5) dX11_set_56 (by decide) ?_
        refine j_icmp_gt (tgt := 71) C dX11_set_57 (by decide) (nI_ltI (by omega) (by omega)) (fun h57 => ?_) (fun h57 => ?_)
        · omega
        · refine j_iload_n C dX11_set_60 rfl 4 rfl ?_
          refine j_iload_n C dX11_set_61 rfl 1 rfl ?_
          refine j_icmp_lt (tgt := 71) C dX11_set_62 (by decide) (nI_ltI (by omega) (by omega)) (fun h62 => ?_) (fun h62 => ?_)
          · omega
          · refine j_iload_n C dX11_set_65 rfl 4 rfl ?_
            refine j_iload C dX11_set_66 0 rfl ?_
            refine j_icmp_le (tgt := 75) C dX11_set_68 (by decide) (nI_leI (by omega) (by omega)) (fun h68 => ?_) (fun h68 => ?_)
            · refine j_iconst C (nI 0) dX11_set_75 (by decide) ?_
              refine j_iconst C (nI 1) dX11_set_76 (by decide) ?_
              refine c_i0 C (r_V C 31 0 [.int (nI 0), .int (nI 1)] (c_X11_bad0 l D cy base Λ σ0 (MR.in0 hM (by decide) (by decide)) 1) (cwV 2 hts gX11_set_X11_bad rfl rfl rfl (by decide +kernel) ⟨by decide, by decide⟩) (MR.in0 hM (by decide) (by decide)) rfl rfl rfl rfl (Nat.le_of_ble_eq_true rfl) dX11_set_77 ⟨by decide, by decide⟩) (fun rv uu hp => ?_)
              rw [hp.1, hp.2]
              refine j_if_eq (tgt := 85) C (P := True) dX11_set_80 (by decide) (by decide) (fun z => ?_) (fun z => ?_)
              · refine j_iload_n C dX11_set_85 rfl 3 rfl ?_
                refine j_iconst C (nI 3) dX11_set_86 (by decide) ?_
                refine j_icmp_ge (tgt := 99) C dX11_set_87 (by decide) (nI_leI (by omega) (by omega)) (fun h87 => ?_) (fun h87 => ?_)
                · omega
                · refine j_aload_n C dX11_set_90 rfl 2 rfl ?_
                  refine j_getV C hwX11 31 0 7 (MR.in0 hM (by decide) (by decide)) rfl rfl (by decide) rfl 0 (hM.2.2.2 7 rfl) hL23 dX11_set_91 ?_
                  refine j_iload_n C dX11_set_94 rfl 3 rfl ?_
                  have hb95 : M 36 w ≤ 9 := hB 36 w (decide_eq_true (show w < 3 by omega))
                  refine j_iald C 36 0 w (MR.in0 hM (by decide) (by decide)) rfl rfl 3 (hM.2.2.1 36 (by decide) (by decide)) (by omega) (by omega) (nI (M 36 w)) (hM.1 36 w (decide_eq_true (show w < 3 by omega))) dX11_set_95 ?_
                  refine j_goto (tgt := 127) C dX11_set_96 (by decide) ?_
                  refine j_istore C [(5, .int (nI (M 36 w))), (4, .int (nI 9)), (3, .int (nI 0)), (0, .ref (gA Λ 31 0)), (1, .int (nI w)), (2, .int (nI v))] dX11_set_127 (by decide) rfl ?_
                  refine j_iload_n C dX11_set_129 rfl 4 rfl ?_
                  refine j_iconst C (nI 3) dX11_set_130 (by decide) ?_
                  refine j_icmp_ge (tgt := 144) C dX11_set_131 (by decide) (nI_leI (by omega) (by omega)) (fun h131 => ?_) (fun h131 => ?_)
                  · omega
                  · refine j_aload_n C dX11_set_134 rfl 3 rfl ?_
                    refine j_getV C hwX11 31 0 7 (MR.in0 hM (by decide) (by decide)) rfl rfl (by decide) rfl 0 (hM.2.2.2 7 rfl) hL23 dX11_set_135 ?_
                    refine j_iload_n C dX11_set_138 rfl 4 rfl ?_
                    refine j_iload_n C dX11_set_139 rfl 5 rfl ?_
                    refine j_iast C 36 0 w (MR.in0 hM (by decide) (by decide)) rfl rfl 3 (hM.2.2.1 36 (by decide) (by decide)) (by omega) (by omega) (nI v) rfl dX11_set_140 ?_
                    have hM_10 := MR.set (t := 36) (k := w) (x := v) (v := (nI v)) hM rfl
                    have hs_11 := Same.sI (t := 36) (i := 0) (k := w) (x := (nI v)) hs0 (by decide)
                    refine j_goto (tgt := 175) C dX11_set_141 (by decide) ?_
                    refine j_aload_n C dX11_set_175 rfl 3 rfl ?_
                    refine c_v0 C (r_V C 31 0 [] (c_X11_settles l D cy base Λ (sI σ0 36 0 w (nI v)) (mS M 36 w v) hM_10 (hB.set (show v ≤ mB 36 w by show v ≤ 9; omega))) (cwV 0 hts gX11_set_X11_settles rfl rfl rfl (by decide +kernel) ⟨by decide, by decide⟩) (MR.in0 hM_10 (by decide) (by decide)) rfl rfl rfl rfl (Nat.le_of_ble_eq_true rfl) dX11_set_176 ⟨by decide, by decide⟩) (fun ub_12 hp => ?_)
                    obtain ⟨hMb_12, hp3⟩ := hp
                    have hsb_12 := Same.tr hs_11 hp3
                    refine j_iload C dX11_set_179 0 rfl ?_
                    exact j_iret C hr hlk (⟨hMb_12, hsb_12, rfl⟩) dX11_set_181
              · exact absurd trivial z
            · omega
  · omega

set_option maxHeartbeats 4000000 in
set_option maxRecDepth 100000 in
theorem c_mset_3 (l : Launch) (D : va_G) (cy : Nat → ClassId) (base : Nat) (Λ : LY) (σ : HS) (M : MM) (hM0 : MR0 Λ σ M) (h00 : M 31 0 = 0) (hB : MBd M)  (v : Nat) (hv : v ≤ 100) : Met l yX11_set wsX11_set ({ frames := 24, cells := 0, slots := 0, locals := 360 }) (va_Pc [.ref (gA Λ 31 0), .int (nI 3), .int (nI v)] (Wd D cy base Λ σ)) (va_Qi (fun q u => MR Λ u (settle (mS M 31 8 v)) ∧ Same nMo σ u ∧ q = nI (M 31 8)) (Wd D cy base Λ) (Ab base)) 0 0 (Ab base) := by
  refine j_start (cc := cX11_set) (nL := 6) (ret := (some .int)) (lv := [(0, .ref (gA Λ 31 0)), (1, .int (nI 3)), (2, .int (nI v))]) (by decide) rfl (Nat.le_of_ble_eq_true rfl) rfl ?_
  intro p e s m below meth c C hr hlk hnm
  have C : Cx p s m ([.ref (gA Λ 31 0), .int (nI 3), .int (nI v)] : List Value).toArray c cX11_set 6 RX11 wsX11_set D cy base := C
  have hts := C.2.2.2.2.1
  have hwX11 : ∀ w ∈ u_ws RX11 TX11 26, w ∈ wsX11_set := by decide +kernel
  have hM26 : (Cond.fieldLink RX11 26 (TX11 8).1 (TX11 8).2.1 (TX11 8).2.2.1).before ([.ref (gA Λ 31 0), .int (nI 3), .int (nI v)] : List Value).toArray s = true := hts (.fieldLink RX11 26 "CodeRoomsModel" "even" "I") (by decide +kernel)
  have hL26 : FL RX11 26 (TX11 8).1 (TX11 8).2.1 (TX11 8).2.2.1 ([.ref (gA Λ 31 0), .int (nI 3), .int (nI v)] : List Value).toArray s := Or.inl hM26
  have hM73 : (Cond.fieldLink RX11 73 (TX11 0).1 (TX11 0).2.1 (TX11 0).2.2.1).before ([.ref (gA Λ 31 0), .int (nI 3), .int (nI v)] : List Value).toArray s = true := hts (.fieldLink RX11 73 "CodeRoomsModel" "thrown" "I") (by decide +kernel)
  have hL73 : FL RX11 73 (TX11 0).1 (TX11 0).2.1 (TX11 0).2.2.1 ([.ref (gA Λ 31 0), .int (nI 3), .int (nI v)] : List Value).toArray s := Or.inl hM73
  have hn : M 31 5 ≤ 40 := hB 31 5 rfl
  refine j_aload_n C dX11_set_0 rfl 0 rfl ?_
  refine j_iconst C (nI 0) dX11_set_1 (by decide) ?_
  refine j_putI C hwX11 31 0 0 (MR0.in0 hM0) rfl rfl (by decide) rfl tyX11 tyX11_ok nmX11 rfl rfl rfl hL73 dX11_set_2 ?_
  have hM := MR0.start hM0 h00
  have hs0 : Same nMo σ (sI σ 31 0 0 (nI 0)) := Same.sI Same.rf (by decide)
  generalize sI σ 31 0 0 (nI 0) = σ0 at hM hs0 ⊢
  refine j_iload_n C dX11_set_5 rfl 1 rfl ?_
  refine j_iconst C (nI 5) dX11_set_6 (by decide) ?_
  refine j_icmp_ne (tgt := 14) C (P := False) dX11_set_7 (by decide) (by decide) (fun z => ?_) (fun z => ?_)
  · refine j_iconst C (nI 0) dX11_set_14 (by decide) ?_
    refine j_istore_n C [(3, .int (nI 0)), (0, .ref (gA Λ 31 0)), (1, .int (nI 3)), (2, .int (nI v))] dX11_set_15 rfl (by decide) rfl ?_
    refine j_iload_n C dX11_set_16 rfl 2 rfl ?_
    refine j_iconst C (nI 3) dX11_set_17 (by decide) ?_
    refine j_icmp_ge (tgt := 26) C (P := True) dX11_set_18 (by decide) (by decide) (fun z => ?_) (fun z => ?_)
    · refine j_iload_n C dX11_set_26 rfl 2 rfl ?_
      refine j_iconst C (nI 3) dX11_set_27 (by decide) ?_
      refine j_icmp_ne (tgt := 36) C (P := True) dX11_set_28 (by decide) (by decide) (fun z => ?_) (fun z => ?_)
      · exact absurd trivial z
      · refine j_bipush C (nI 100) dX11_set_31 (by decide) ?_
        refine j_goto (tgt := 48) C dX11_set_33 (by decide) ?_
        refine j_istore C [(4, .int (nI 100)), (3, .int (nI 0)), (0, .ref (gA Λ 31 0)), (1, .int (nI 3)), (2, .int (nI v))] dX11_set_48 (by decide) rfl ?_
        refine j_aload_n C dX11_set_50 rfl 2 rfl ?_
        refine j_iload_n C dX11_set_51 rfl 3 rfl ?_
        refine j_if_lt (tgt := 71) C (P := False) dX11_set_52 (by decide) (by decide) (fun z => ?_) (fun z => ?_)
        · exact z.elim
        · refine j_iload_n C dX11_set_55 rfl 3 rfl ?_
          refine j_iconst C (nI 5) dX11_set_56 (by decide) ?_
          refine j_icmp_gt (tgt := 71) C (P := False) dX11_set_57 (by decide) (by decide) (fun z => ?_) (fun z => ?_)
          · exact z.elim
          · refine j_iload_n C dX11_set_60 rfl 4 rfl ?_
            refine j_iload_n C dX11_set_61 rfl 1 rfl ?_
            refine j_icmp_lt (tgt := 71) C dX11_set_62 (by decide) (nI_ltI (by omega) (by omega)) (fun h62 => ?_) (fun h62 => ?_)
            · omega
            · refine j_iload_n C dX11_set_65 rfl 4 rfl ?_
              refine j_iload C dX11_set_66 0 rfl ?_
              refine j_icmp_le (tgt := 75) C dX11_set_68 (by decide) (nI_leI (by omega) (by omega)) (fun h68 => ?_) (fun h68 => ?_)
              · refine j_iconst C (nI 0) dX11_set_75 (by decide) ?_
                refine j_iconst C (nI 1) dX11_set_76 (by decide) ?_
                refine c_i0 C (r_V C 31 0 [.int (nI 0), .int (nI 1)] (c_X11_bad0 l D cy base Λ σ0 (MR.in0 hM (by decide) (by decide)) 1) (cwV 2 hts gX11_set_X11_bad rfl rfl rfl (by decide +kernel) ⟨by decide, by decide⟩) (MR.in0 hM (by decide) (by decide)) rfl rfl rfl rfl (Nat.le_of_ble_eq_true rfl) dX11_set_77 ⟨by decide, by decide⟩) (fun rv uu hp => ?_)
                rw [hp.1, hp.2]
                refine j_if_eq (tgt := 85) C (P := True) dX11_set_80 (by decide) (by decide) (fun z => ?_) (fun z => ?_)
                · refine j_iload_n C dX11_set_85 rfl 3 rfl ?_
                  refine j_iconst C (nI 3) dX11_set_86 (by decide) ?_
                  refine j_icmp_ge (tgt := 99) C (P := True) dX11_set_87 (by decide) (by decide) (fun z => ?_) (fun z => ?_)
                  · refine j_iload_n C dX11_set_99 rfl 3 rfl ?_
                    refine j_iconst C (nI 3) dX11_set_100 (by decide) ?_
                    refine j_icmp_ne (tgt := 111) C (P := True) dX11_set_101 (by decide) (by decide) (fun z => ?_) (fun z => ?_)
                    · exact absurd trivial z
                    · refine j_aload_n C dX11_set_104 rfl 2 rfl ?_
                      have hb105 : M 31 8 ≤ 100 := hB 31 8 rfl
                      refine j_getI C hwX11 31 0 8 (MR.in0 hM (by decide) (by decide)) rfl rfl (by decide) rfl (nI (M 31 8)) (hM.1 31 8 rfl) hL26 dX11_set_105 ?_
                      refine j_goto (tgt := 127) C dX11_set_108 (by decide) ?_
                      refine j_istore C [(5, .int (nI (M 31 8))), (4, .int (nI 100)), (3, .int (nI 0)), (0, .ref (gA Λ 31 0)), (1, .int (nI 3)), (2, .int (nI v))] dX11_set_127 (by decide) rfl ?_
                      refine j_iload_n C dX11_set_129 rfl 4 rfl ?_
                      refine j_iconst C (nI 3) dX11_set_130 (by decide) ?_
                      refine j_icmp_ge (tgt := 144) C (P := True) dX11_set_131 (by decide) (by decide) (fun z => ?_) (fun z => ?_)
                      · refine j_iload_n C dX11_set_144 rfl 4 rfl ?_
                        refine j_iconst C (nI 3) dX11_set_145 (by decide) ?_
                        refine j_icmp_ne (tgt := 157) C (P := True) dX11_set_146 (by decide) (by decide) (fun z => ?_) (fun z => ?_)
                        · exact absurd trivial z
                        · refine j_aload_n C dX11_set_149 rfl 3 rfl ?_
                          refine j_iload_n C dX11_set_150 rfl 5 rfl ?_
                          refine j_putI C hwX11 31 0 8 (MR.in0 hM (by decide) (by decide)) rfl rfl (by decide) rfl tyX11 tyX11_ok nmX11 rfl rfl rfl hL26 dX11_set_151 ?_
                          have hM_13 := MR.set (t := 31) (k := 8) (x := v) (v := (nI v)) hM rfl
                          have hs_14 := Same.sI (t := 31) (i := 0) (k := 8) (x := (nI v)) hs0 (by decide)
                          refine j_goto (tgt := 175) C dX11_set_154 (by decide) ?_
                          refine j_aload_n C dX11_set_175 rfl 3 rfl ?_
                          refine c_v0 C (r_V C 31 0 [] (c_X11_settles l D cy base Λ (sI σ0 31 0 8 (nI v)) (mS M 31 8 v) hM_13 (hB.set (show v ≤ mB 31 8 by show v ≤ 100; omega))) (cwV 0 hts gX11_set_X11_settles rfl rfl rfl (by decide +kernel) ⟨by decide, by decide⟩) (MR.in0 hM_13 (by decide) (by decide)) rfl rfl rfl rfl (Nat.le_of_ble_eq_true rfl) dX11_set_176 ⟨by decide, by decide⟩) (fun ub_15 hp => ?_)
                          obtain ⟨hMb_15, hp3⟩ := hp
                          have hsb_15 := Same.tr hs_14 hp3
                          refine j_iload C dX11_set_179 0 rfl ?_
                          exact j_iret C hr hlk (⟨hMb_15, hsb_15, rfl⟩) dX11_set_181
                      · exact absurd trivial z
                  · exact absurd trivial z
                · exact absurd trivial z
              · omega
    · exact absurd trivial z
  · exact z.elim

set_option maxHeartbeats 4000000 in
set_option maxRecDepth 100000 in
theorem c_mset_4 (l : Launch) (D : va_G) (cy : Nat → ClassId) (base : Nat) (Λ : LY) (σ : HS) (M : MM) (hM0 : MR0 Λ σ M) (h00 : M 31 0 = 0) (hB : MBd M)  (v : Nat) (hv : v ≤ 40) : Met l yX11_set wsX11_set ({ frames := 24, cells := 0, slots := 0, locals := 360 }) (va_Pc [.ref (gA Λ 31 0), .int (nI 4), .int (nI v)] (Wd D cy base Λ σ)) (va_Qi (fun q u => MR Λ u (settle (mS M 31 9 v)) ∧ Same nMo σ u ∧ q = nI (M 31 9)) (Wd D cy base Λ) (Ab base)) 0 0 (Ab base) := by
  refine j_start (cc := cX11_set) (nL := 6) (ret := (some .int)) (lv := [(0, .ref (gA Λ 31 0)), (1, .int (nI 4)), (2, .int (nI v))]) (by decide) rfl (Nat.le_of_ble_eq_true rfl) rfl ?_
  intro p e s m below meth c C hr hlk hnm
  have C : Cx p s m ([.ref (gA Λ 31 0), .int (nI 4), .int (nI v)] : List Value).toArray c cX11_set 6 RX11 wsX11_set D cy base := C
  have hts := C.2.2.2.2.1
  have hwX11 : ∀ w ∈ u_ws RX11 TX11 26, w ∈ wsX11_set := by decide +kernel
  have hM30 : (Cond.fieldLink RX11 30 (TX11 9).1 (TX11 9).2.1 (TX11 9).2.2.1).before ([.ref (gA Λ 31 0), .int (nI 4), .int (nI v)] : List Value).toArray s = true := hts (.fieldLink RX11 30 "CodeRoomsModel" "limit" "I") (by decide +kernel)
  have hL30 : FL RX11 30 (TX11 9).1 (TX11 9).2.1 (TX11 9).2.2.1 ([.ref (gA Λ 31 0), .int (nI 4), .int (nI v)] : List Value).toArray s := Or.inl hM30
  have hM73 : (Cond.fieldLink RX11 73 (TX11 0).1 (TX11 0).2.1 (TX11 0).2.2.1).before ([.ref (gA Λ 31 0), .int (nI 4), .int (nI v)] : List Value).toArray s = true := hts (.fieldLink RX11 73 "CodeRoomsModel" "thrown" "I") (by decide +kernel)
  have hL73 : FL RX11 73 (TX11 0).1 (TX11 0).2.1 (TX11 0).2.2.1 ([.ref (gA Λ 31 0), .int (nI 4), .int (nI v)] : List Value).toArray s := Or.inl hM73
  have hn : M 31 5 ≤ 40 := hB 31 5 rfl
  refine j_aload_n C dX11_set_0 rfl 0 rfl ?_
  refine j_iconst C (nI 0) dX11_set_1 (by decide) ?_
  refine j_putI C hwX11 31 0 0 (MR0.in0 hM0) rfl rfl (by decide) rfl tyX11 tyX11_ok nmX11 rfl rfl rfl hL73 dX11_set_2 ?_
  have hM := MR0.start hM0 h00
  have hs0 : Same nMo σ (sI σ 31 0 0 (nI 0)) := Same.sI Same.rf (by decide)
  generalize sI σ 31 0 0 (nI 0) = σ0 at hM hs0 ⊢
  refine j_iload_n C dX11_set_5 rfl 1 rfl ?_
  refine j_iconst C (nI 5) dX11_set_6 (by decide) ?_
  refine j_icmp_ne (tgt := 14) C (P := False) dX11_set_7 (by decide) (by decide) (fun z => ?_) (fun z => ?_)
  · refine j_iconst C (nI 0) dX11_set_14 (by decide) ?_
    refine j_istore_n C [(3, .int (nI 0)), (0, .ref (gA Λ 31 0)), (1, .int (nI 4)), (2, .int (nI v))] dX11_set_15 rfl (by decide) rfl ?_
    refine j_iload_n C dX11_set_16 rfl 2 rfl ?_
    refine j_iconst C (nI 3) dX11_set_17 (by decide) ?_
    refine j_icmp_ge (tgt := 26) C (P := True) dX11_set_18 (by decide) (by decide) (fun z => ?_) (fun z => ?_)
    · refine j_iload_n C dX11_set_26 rfl 2 rfl ?_
      refine j_iconst C (nI 3) dX11_set_27 (by decide) ?_
      refine j_icmp_ne (tgt := 36) C (P := False) dX11_set_28 (by decide) (by decide) (fun z => ?_) (fun z => ?_)
      · refine j_iload_n C dX11_set_36 rfl 2 rfl ?_
        refine j_iconst C (nI 4) dX11_set_37 (by decide) ?_
        refine j_icmp_ne (tgt := 46) C (P := True) dX11_set_38 (by decide) (by decide) (fun z => ?_) (fun z => ?_)
        · exact absurd trivial z
        · refine j_bipush C (nI 40) dX11_set_41 (by decide) ?_
          refine j_goto (tgt := 48) C dX11_set_43 (by decide) ?_
          refine j_istore C [(4, .int (nI 40)), (3, .int (nI 0)), (0, .ref (gA Λ 31 0)), (1, .int (nI 4)), (2, .int (nI v))] dX11_set_48 (by decide) rfl ?_
          refine j_aload_n C dX11_set_50 rfl 2 rfl ?_
          refine j_iload_n C dX11_set_51 rfl 3 rfl ?_
          refine j_if_lt (tgt := 71) C (P := False) dX11_set_52 (by decide) (by decide) (fun z => ?_) (fun z => ?_)
          · exact z.elim
          · refine j_iload_n C dX11_set_55 rfl 3 rfl ?_
            refine j_iconst C (nI 5) dX11_set_56 (by decide) ?_
            refine j_icmp_gt (tgt := 71) C (P := False) dX11_set_57 (by decide) (by decide) (fun z => ?_) (fun z => ?_)
            · exact z.elim
            · refine j_iload_n C dX11_set_60 rfl 4 rfl ?_
              refine j_iload_n C dX11_set_61 rfl 1 rfl ?_
              refine j_icmp_lt (tgt := 71) C dX11_set_62 (by decide) (nI_ltI (by omega) (by omega)) (fun h62 => ?_) (fun h62 => ?_)
              · omega
              · refine j_iload_n C dX11_set_65 rfl 4 rfl ?_
                refine j_iload C dX11_set_66 0 rfl ?_
                refine j_icmp_le (tgt := 75) C dX11_set_68 (by decide) (nI_leI (by omega) (by omega)) (fun h68 => ?_) (fun h68 => ?_)
                · refine j_iconst C (nI 0) dX11_set_75 (by decide) ?_
                  refine j_iconst C (nI 1) dX11_set_76 (by decide) ?_
                  refine c_i0 C (r_V C 31 0 [.int (nI 0), .int (nI 1)] (c_X11_bad0 l D cy base Λ σ0 (MR.in0 hM (by decide) (by decide)) 1) (cwV 2 hts gX11_set_X11_bad rfl rfl rfl (by decide +kernel) ⟨by decide, by decide⟩) (MR.in0 hM (by decide) (by decide)) rfl rfl rfl rfl (Nat.le_of_ble_eq_true rfl) dX11_set_77 ⟨by decide, by decide⟩) (fun rv uu hp => ?_)
                  rw [hp.1, hp.2]
                  refine j_if_eq (tgt := 85) C (P := True) dX11_set_80 (by decide) (by decide) (fun z => ?_) (fun z => ?_)
                  · refine j_iload_n C dX11_set_85 rfl 3 rfl ?_
                    refine j_iconst C (nI 3) dX11_set_86 (by decide) ?_
                    refine j_icmp_ge (tgt := 99) C (P := True) dX11_set_87 (by decide) (by decide) (fun z => ?_) (fun z => ?_)
                    · refine j_iload_n C dX11_set_99 rfl 3 rfl ?_
                      refine j_iconst C (nI 3) dX11_set_100 (by decide) ?_
                      refine j_icmp_ne (tgt := 111) C (P := False) dX11_set_101 (by decide) (by decide) (fun z => ?_) (fun z => ?_)
                      · refine j_iload_n C dX11_set_111 rfl 3 rfl ?_
                        refine j_iconst C (nI 4) dX11_set_112 (by decide) ?_
                        refine j_icmp_ne (tgt := 123) C (P := True) dX11_set_113 (by decide) (by decide) (fun z => ?_) (fun z => ?_)
                        · exact absurd trivial z
                        · refine j_aload_n C dX11_set_116 rfl 2 rfl ?_
                          have hb117 : M 31 9 ≤ 40 := hB 31 9 rfl
                          refine j_getI C hwX11 31 0 9 (MR.in0 hM (by decide) (by decide)) rfl rfl (by decide) rfl (nI (M 31 9)) (hM.1 31 9 rfl) hL30 dX11_set_117 ?_
                          refine j_goto (tgt := 127) C dX11_set_120 (by decide) ?_
                          refine j_istore C [(5, .int (nI (M 31 9))), (4, .int (nI 40)), (3, .int (nI 0)), (0, .ref (gA Λ 31 0)), (1, .int (nI 4)), (2, .int (nI v))] dX11_set_127 (by decide) rfl ?_
                          refine j_iload_n C dX11_set_129 rfl 4 rfl ?_
                          refine j_iconst C (nI 3) dX11_set_130 (by decide) ?_
                          refine j_icmp_ge (tgt := 144) C (P := True) dX11_set_131 (by decide) (by decide) (fun z => ?_) (fun z => ?_)
                          · refine j_iload_n C dX11_set_144 rfl 4 rfl ?_
                            refine j_iconst C (nI 3) dX11_set_145 (by decide) ?_
                            refine j_icmp_ne (tgt := 157) C (P := False) dX11_set_146 (by decide) (by decide) (fun z => ?_) (fun z => ?_)
                            · refine j_iload_n C dX11_set_157 rfl 4 rfl ?_
                              refine j_iconst C (nI 4) dX11_set_158 (by decide) ?_
                              refine j_icmp_ne (tgt := 170) C (P := True) dX11_set_159 (by decide) (by decide) (fun z => ?_) (fun z => ?_)
                              · exact absurd trivial z
                              · refine j_aload_n C dX11_set_162 rfl 3 rfl ?_
                                refine j_iload_n C dX11_set_163 rfl 5 rfl ?_
                                refine j_putI C hwX11 31 0 9 (MR.in0 hM (by decide) (by decide)) rfl rfl (by decide) rfl tyX11 tyX11_ok nmX11 rfl rfl rfl hL30 dX11_set_164 ?_
                                have hM_16 := MR.set (t := 31) (k := 9) (x := v) (v := (nI v)) hM rfl
                                have hs_17 := Same.sI (t := 31) (i := 0) (k := 9) (x := (nI v)) hs0 (by decide)
                                refine j_goto (tgt := 175) C dX11_set_167 (by decide) ?_
                                refine j_aload_n C dX11_set_175 rfl 3 rfl ?_
                                refine c_v0 C (r_V C 31 0 [] (c_X11_settles l D cy base Λ (sI σ0 31 0 9 (nI v)) (mS M 31 9 v) hM_16 (hB.set (show v ≤ mB 31 9 by show v ≤ 40; omega))) (cwV 0 hts gX11_set_X11_settles rfl rfl rfl (by decide +kernel) ⟨by decide, by decide⟩) (MR.in0 hM_16 (by decide) (by decide)) rfl rfl rfl rfl (Nat.le_of_ble_eq_true rfl) dX11_set_176 ⟨by decide, by decide⟩) (fun ub_18 hp => ?_)
                                obtain ⟨hMb_18, hp3⟩ := hp
                                have hsb_18 := Same.tr hs_17 hp3
                                refine j_iload C dX11_set_179 0 rfl ?_
                                exact j_iret C hr hlk (⟨hMb_18, hsb_18, rfl⟩) dX11_set_181
                            · exact z.elim
                          · exact absurd trivial z
                      · exact z.elim
                    · exact absurd trivial z
                  · exact absurd trivial z
                · omega
      · exact z.elim
    · exact absurd trivial z
  · exact z.elim

set_option maxHeartbeats 4000000 in
set_option maxRecDepth 100000 in
theorem c_mset_5 (l : Launch) (D : va_G) (cy : Nat → ClassId) (base : Nat) (Λ : LY) (σ : HS) (M : MM) (hM0 : MR0 Λ σ M) (h00 : M 31 0 = 0) (hB : MBd M)  (v : Nat) (hv : v ≤ 6) (hv1 : 1 ≤ v) : Met l yX11_set wsX11_set ({ frames := 24, cells := 0, slots := 0, locals := 360 }) (va_Pc [.ref (gA Λ 31 0), .int (nI 5), .int (nI v)] (Wd D cy base Λ σ)) (va_Qi (fun q u => MR Λ u (settle (mS M 31 10 v)) ∧ Same nMo σ u ∧ q = nI (M 31 10)) (Wd D cy base Λ) (Ab base)) 0 0 (Ab base) := by
  refine j_start (cc := cX11_set) (nL := 6) (ret := (some .int)) (lv := [(0, .ref (gA Λ 31 0)), (1, .int (nI 5)), (2, .int (nI v))]) (by decide) rfl (Nat.le_of_ble_eq_true rfl) rfl ?_
  intro p e s m below meth c C hr hlk hnm
  have C : Cx p s m ([.ref (gA Λ 31 0), .int (nI 5), .int (nI v)] : List Value).toArray c cX11_set 6 RX11 wsX11_set D cy base := C
  have hts := C.2.2.2.2.1
  have hwX11 : ∀ w ∈ u_ws RX11 TX11 26, w ∈ wsX11_set := by decide +kernel
  have hM33 : (Cond.fieldLink RX11 33 (TX11 10).1 (TX11 10).2.1 (TX11 10).2.2.1).before ([.ref (gA Λ 31 0), .int (nI 5), .int (nI v)] : List Value).toArray s = true := hts (.fieldLink RX11 33 "CodeRoomsModel" "rooms" "I") (by decide +kernel)
  have hL33 : FL RX11 33 (TX11 10).1 (TX11 10).2.1 (TX11 10).2.2.1 ([.ref (gA Λ 31 0), .int (nI 5), .int (nI v)] : List Value).toArray s := Or.inl hM33
  have hM73 : (Cond.fieldLink RX11 73 (TX11 0).1 (TX11 0).2.1 (TX11 0).2.2.1).before ([.ref (gA Λ 31 0), .int (nI 5), .int (nI v)] : List Value).toArray s = true := hts (.fieldLink RX11 73 "CodeRoomsModel" "thrown" "I") (by decide +kernel)
  have hL73 : FL RX11 73 (TX11 0).1 (TX11 0).2.1 (TX11 0).2.2.1 ([.ref (gA Λ 31 0), .int (nI 5), .int (nI v)] : List Value).toArray s := Or.inl hM73
  have hn : M 31 5 ≤ 40 := hB 31 5 rfl
  refine j_aload_n C dX11_set_0 rfl 0 rfl ?_
  refine j_iconst C (nI 0) dX11_set_1 (by decide) ?_
  refine j_putI C hwX11 31 0 0 (MR0.in0 hM0) rfl rfl (by decide) rfl tyX11 tyX11_ok nmX11 rfl rfl rfl hL73 dX11_set_2 ?_
  have hM := MR0.start hM0 h00
  have hs0 : Same nMo σ (sI σ 31 0 0 (nI 0)) := Same.sI Same.rf (by decide)
  generalize sI σ 31 0 0 (nI 0) = σ0 at hM hs0 ⊢
  refine j_iload_n C dX11_set_5 rfl 1 rfl ?_
  refine j_iconst C (nI 5) dX11_set_6 (by decide) ?_
  refine j_icmp_ne (tgt := 14) C (P := True) dX11_set_7 (by decide) (by decide) (fun z => ?_) (fun z => ?_)
  · exact absurd trivial z
  · refine j_iconst C (nI 1) dX11_set_10 (by decide) ?_
    refine j_goto (tgt := 15) C dX11_set_11 (by decide) ?_
    refine j_istore_n C [(3, .int (nI 1)), (0, .ref (gA Λ 31 0)), (1, .int (nI 5)), (2, .int (nI v))] dX11_set_15 rfl (by decide) rfl ?_
    refine j_iload_n C dX11_set_16 rfl 2 rfl ?_
    refine j_iconst C (nI 3) dX11_set_17 (by decide) ?_
    refine j_icmp_ge (tgt := 26) C (P := True) dX11_set_18 (by decide) (by decide) (fun z => ?_) (fun z => ?_)
    · refine j_iload_n C dX11_set_26 rfl 2 rfl ?_
      refine j_iconst C (nI 3) dX11_set_27 (by decide) ?_
      refine j_icmp_ne (tgt := 36) C (P := False) dX11_set_28 (by decide) (by decide) (fun z => ?_) (fun z => ?_)
      · refine j_iload_n C dX11_set_36 rfl 2 rfl ?_
        refine j_iconst C (nI 4) dX11_set_37 (by decide) ?_
        refine j_icmp_ne (tgt := 46) C (P := False) dX11_set_38 (by decide) (by decide) (fun z => ?_) (fun z => ?_)
        · refine j_bipush C (nI 6) dX11_set_46 (by decide) ?_
          refine j_istore C [(4, .int (nI 6)), (3, .int (nI 1)), (0, .ref (gA Λ 31 0)), (1, .int (nI 5)), (2, .int (nI v))] dX11_set_48 (by decide) rfl ?_
          refine j_aload_n C dX11_set_50 rfl 2 rfl ?_
          refine j_iload_n C dX11_set_51 rfl 3 rfl ?_
          refine j_if_lt (tgt := 71) C (P := False) dX11_set_52 (by decide) (by decide) (fun z => ?_) (fun z => ?_)
          · exact z.elim
          · refine j_iload_n C dX11_set_55 rfl 3 rfl ?_
            refine j_iconst C (nI 5) dX11_set_56 (by decide) ?_
            refine j_icmp_gt (tgt := 71) C (P := False) dX11_set_57 (by decide) (by decide) (fun z => ?_) (fun z => ?_)
            · exact z.elim
            · refine j_iload_n C dX11_set_60 rfl 4 rfl ?_
              refine j_iload_n C dX11_set_61 rfl 1 rfl ?_
              refine j_icmp_lt (tgt := 71) C dX11_set_62 (by decide) (nI_ltI (by omega) (by omega)) (fun h62 => ?_) (fun h62 => ?_)
              · omega
              · refine j_iload_n C dX11_set_65 rfl 4 rfl ?_
                refine j_iload C dX11_set_66 0 rfl ?_
                refine j_icmp_le (tgt := 75) C dX11_set_68 (by decide) (nI_leI (by omega) (by omega)) (fun h68 => ?_) (fun h68 => ?_)
                · refine j_iconst C (nI 0) dX11_set_75 (by decide) ?_
                  refine j_iconst C (nI 1) dX11_set_76 (by decide) ?_
                  refine c_i0 C (r_V C 31 0 [.int (nI 0), .int (nI 1)] (c_X11_bad0 l D cy base Λ σ0 (MR.in0 hM (by decide) (by decide)) 1) (cwV 2 hts gX11_set_X11_bad rfl rfl rfl (by decide +kernel) ⟨by decide, by decide⟩) (MR.in0 hM (by decide) (by decide)) rfl rfl rfl rfl (Nat.le_of_ble_eq_true rfl) dX11_set_77 ⟨by decide, by decide⟩) (fun rv uu hp => ?_)
                  rw [hp.1, hp.2]
                  refine j_if_eq (tgt := 85) C (P := True) dX11_set_80 (by decide) (by decide) (fun z => ?_) (fun z => ?_)
                  · refine j_iload_n C dX11_set_85 rfl 3 rfl ?_
                    refine j_iconst C (nI 3) dX11_set_86 (by decide) ?_
                    refine j_icmp_ge (tgt := 99) C (P := True) dX11_set_87 (by decide) (by decide) (fun z => ?_) (fun z => ?_)
                    · refine j_iload_n C dX11_set_99 rfl 3 rfl ?_
                      refine j_iconst C (nI 3) dX11_set_100 (by decide) ?_
                      refine j_icmp_ne (tgt := 111) C (P := False) dX11_set_101 (by decide) (by decide) (fun z => ?_) (fun z => ?_)
                      · refine j_iload_n C dX11_set_111 rfl 3 rfl ?_
                        refine j_iconst C (nI 4) dX11_set_112 (by decide) ?_
                        refine j_icmp_ne (tgt := 123) C (P := False) dX11_set_113 (by decide) (by decide) (fun z => ?_) (fun z => ?_)
                        · refine j_aload_n C dX11_set_123 rfl 2 rfl ?_
                          have hb124 : M 31 10 ≤ 40 := hB 31 10 rfl
                          refine j_getI C hwX11 31 0 10 (MR.in0 hM (by decide) (by decide)) rfl rfl (by decide) rfl (nI (M 31 10)) (hM.1 31 10 rfl) hL33 dX11_set_124 ?_
                          refine j_istore C [(5, .int (nI (M 31 10))), (4, .int (nI 6)), (3, .int (nI 1)), (0, .ref (gA Λ 31 0)), (1, .int (nI 5)), (2, .int (nI v))] dX11_set_127 (by decide) rfl ?_
                          refine j_iload_n C dX11_set_129 rfl 4 rfl ?_
                          refine j_iconst C (nI 3) dX11_set_130 (by decide) ?_
                          refine j_icmp_ge (tgt := 144) C (P := True) dX11_set_131 (by decide) (by decide) (fun z => ?_) (fun z => ?_)
                          · refine j_iload_n C dX11_set_144 rfl 4 rfl ?_
                            refine j_iconst C (nI 3) dX11_set_145 (by decide) ?_
                            refine j_icmp_ne (tgt := 157) C (P := False) dX11_set_146 (by decide) (by decide) (fun z => ?_) (fun z => ?_)
                            · refine j_iload_n C dX11_set_157 rfl 4 rfl ?_
                              refine j_iconst C (nI 4) dX11_set_158 (by decide) ?_
                              refine j_icmp_ne (tgt := 170) C (P := False) dX11_set_159 (by decide) (by decide) (fun z => ?_) (fun z => ?_)
                              · refine j_aload_n C dX11_set_170 rfl 3 rfl ?_
                                refine j_iload_n C dX11_set_171 rfl 5 rfl ?_
                                refine j_putI C hwX11 31 0 10 (MR.in0 hM (by decide) (by decide)) rfl rfl (by decide) rfl tyX11 tyX11_ok nmX11 rfl rfl rfl hL33 dX11_set_172 ?_
                                have hM_16 := MR.set (t := 31) (k := 10) (x := v) (v := (nI v)) hM rfl
                                have hs_17 := Same.sI (t := 31) (i := 0) (k := 10) (x := (nI v)) hs0 (by decide)
                                refine j_aload_n C dX11_set_175 rfl 3 rfl ?_
                                refine c_v0 C (r_V C 31 0 [] (c_X11_settles l D cy base Λ (sI σ0 31 0 10 (nI v)) (mS M 31 10 v) hM_16 (hB.set (show v ≤ mB 31 10 by show v ≤ 40; omega))) (cwV 0 hts gX11_set_X11_settles rfl rfl rfl (by decide +kernel) ⟨by decide, by decide⟩) (MR.in0 hM_16 (by decide) (by decide)) rfl rfl rfl rfl (Nat.le_of_ble_eq_true rfl) dX11_set_176 ⟨by decide, by decide⟩) (fun ub_18 hp => ?_)
                                obtain ⟨hMb_18, hp3⟩ := hp
                                have hsb_18 := Same.tr hs_17 hp3
                                refine j_iload C dX11_set_179 0 rfl ?_
                                exact j_iret C hr hlk (⟨hMb_18, hsb_18, rfl⟩) dX11_set_181
                              · exact z.elim
                            · exact z.elim
                          · exact absurd trivial z
                        · exact z.elim
                      · exact z.elim
                    · exact absurd trivial z
                  · exact absurd trivial z
                · omega
        · exact z.elim
      · exact z.elim
    · exact absurd trivial z

set_option maxHeartbeats 4000000 in
set_option maxRecDepth 100000 in
theorem c_mset_e (l : Launch) (D : va_G) (cy : Nat → ClassId) (base : Nat) (Λ : LY) (σ : HS) (M : MM) (hM0 : MR0 Λ σ M) (h00 : M 31 0 = 0) (hB : MBd M) (w v : Int32) (hA : ¬ sOk w v) : Met l yX11_set wsX11_set ({ frames := 24, cells := 0, slots := 0, locals := 360 }) (va_Pc [.ref (gA Λ 31 0), .int (w), .int (v)] (Wd D cy base Λ σ)) (va_Qi (fun v u => MR Λ u (mS M 31 0 1) ∧ Same nMo σ u) (Wd D cy base Λ) (Ab base)) 0 0 (Ab base) := by
  refine j_start (cc := cX11_set) (nL := 6) (ret := (some .int)) (lv := [(0, .ref (gA Λ 31 0)), (1, .int (w)), (2, .int (v))]) (by decide) rfl (Nat.le_of_ble_eq_true rfl) rfl ?_
  intro p e s m below meth c C hr hlk hnm
  have C : Cx p s m ([.ref (gA Λ 31 0), .int (w), .int (v)] : List Value).toArray c cX11_set 6 RX11 wsX11_set D cy base := C
  have hts := C.2.2.2.2.1
  have hwX11 : ∀ w ∈ u_ws RX11 TX11 26, w ∈ wsX11_set := by decide +kernel
  have hM73 : (Cond.fieldLink RX11 73 (TX11 0).1 (TX11 0).2.1 (TX11 0).2.2.1).before ([.ref (gA Λ 31 0), .int (w), .int (v)] : List Value).toArray s = true := hts (.fieldLink RX11 73 "CodeRoomsModel" "thrown" "I") (by decide +kernel)
  have hL73 : FL RX11 73 (TX11 0).1 (TX11 0).2.1 (TX11 0).2.2.1 ([.ref (gA Λ 31 0), .int (w), .int (v)] : List Value).toArray s := Or.inl hM73
  have hn : M 31 5 ≤ 40 := hB 31 5 rfl
  have z3 : (nI 3).toInt = 3 := by decide
  have z2 : (nI 2).toInt = 2 := by decide
  have z1 : (nI 1).toInt = 1 := by decide
  have z1000 : (nI 1000).toInt = 1000 := by decide
  have z5 : (nI 5).toInt = 5 := by decide
  have z4 : (nI 4).toInt = 4 := by decide
  have z0 : (nI 0).toInt = 0 := by decide
  have z00 : (0 : Int32).toInt = 0 := by decide
  have z9 : (nI 9).toInt = 9 := by decide
  have z100 : (nI 100).toInt = 100 := by decide
  have z40 : (nI 40).toInt = 40 := by decide
  have z6 : (nI 6).toInt = 6 := by decide
  refine j_aload_n C dX11_set_0 rfl 0 rfl ?_
  refine j_iconst C (nI 0) dX11_set_1 (by decide) ?_
  refine j_putI C hwX11 31 0 0 (MR0.in0 hM0) rfl rfl (by decide) rfl tyX11 tyX11_ok nmX11 rfl rfl rfl hL73 dX11_set_2 ?_
  have hM := MR0.start hM0 h00
  have hs0 : Same nMo σ (sI σ 31 0 0 (nI 0)) := Same.sI Same.rf (by decide)
  generalize sI σ 31 0 0 (nI 0) = σ0 at hM hs0 ⊢
  refine j_iload_n C dX11_set_5 rfl 1 rfl ?_
  refine j_iconst C (nI 5) dX11_set_6 (by decide) ?_
  refine j_icmp_ne (tgt := 14) C dX11_set_7 (by decide) (fa_eq _ _) (fun h7 => ?_) (fun h7 => ?_)
  · refine j_iconst C (nI 0) dX11_set_14 (by decide) ?_
    refine j_istore_n C [(3, .int (nI 0)), (0, .ref (gA Λ 31 0)), (1, .int (w)), (2, .int (v))] dX11_set_15 rfl (by decide) rfl ?_
    refine j_iload_n C dX11_set_16 rfl 2 rfl ?_
    refine j_iconst C (nI 3) dX11_set_17 (by decide) ?_
    refine j_icmp_ge (tgt := 26) C dX11_set_18 (by decide) (fa_le _ _) (fun h18 => ?_) (fun h18 => ?_)
    · refine j_iload_n C dX11_set_26 rfl 2 rfl ?_
      refine j_iconst C (nI 3) dX11_set_27 (by decide) ?_
      refine j_icmp_ne (tgt := 36) C dX11_set_28 (by decide) (fa_eq _ _) (fun h28 => ?_) (fun h28 => ?_)
      · refine j_iload_n C dX11_set_36 rfl 2 rfl ?_
        refine j_iconst C (nI 4) dX11_set_37 (by decide) ?_
        refine j_icmp_ne (tgt := 46) C dX11_set_38 (by decide) (fa_eq _ _) (fun h38 => ?_) (fun h38 => ?_)
        · refine j_bipush C (nI 6) dX11_set_46 (by decide) ?_
          refine j_istore C [(4, .int (nI 6)), (3, .int (nI 0)), (0, .ref (gA Λ 31 0)), (1, .int (w)), (2, .int (v))] dX11_set_48 (by decide) rfl ?_
          refine j_aload_n C dX11_set_50 rfl 2 rfl ?_
          refine j_iload_n C dX11_set_51 rfl 3 rfl ?_
          refine j_if_lt (tgt := 71) C dX11_set_52 (by decide) (fa_lt _ _) (fun h52 => ?_) (fun h52 => ?_)
          · refine j_iconst C (nI 1) dX11_set_71 (by decide) ?_
            refine j_goto (tgt := 76) C dX11_set_72 (by decide) ?_
            refine j_iconst C (nI 1) dX11_set_76 (by decide) ?_
            refine c_i0 C (r_V C 31 0 [.int (nI 1), .int (nI 1)] (c_X11_bad1 l D cy base Λ σ0 M hM 1) (cwV 2 hts gX11_set_X11_bad rfl rfl rfl (by decide +kernel) ⟨by decide, by decide⟩) (MR.in0 hM (by decide) (by decide)) rfl rfl rfl rfl (Nat.le_of_ble_eq_true rfl) dX11_set_77 ⟨by decide, by decide⟩) (fun rv ub_6 hp => ?_)
            obtain ⟨hp1, hMb_6, hp3⟩ := hp
            have hsb_6 := Same.tr hs0 hp3
            rw [hp1]
            refine j_if_eq (tgt := 85) C (P := False) dX11_set_80 (by decide) (by decide) (fun z => ?_) (fun z => ?_)
            · exact z.elim
            · refine j_iconst C (nI 0) dX11_set_83 (by decide) ?_
              exact j_iret C hr hlk (⟨hMb_6, hsb_6⟩) dX11_set_84
          · refine j_iload_n C dX11_set_55 rfl 3 rfl ?_
            refine j_iconst C (nI 5) dX11_set_56 (by decide) ?_
            refine j_icmp_gt (tgt := 71) C dX11_set_57 (by decide) (fa_lt _ _) (fun h57 => ?_) (fun h57 => ?_)
            · refine j_iconst C (nI 1) dX11_set_71 (by decide) ?_
              refine j_goto (tgt := 76) C dX11_set_72 (by decide) ?_
              refine j_iconst C (nI 1) dX11_set_76 (by decide) ?_
              refine c_i0 C (r_V C 31 0 [.int (nI 1), .int (nI 1)] (c_X11_bad1 l D cy base Λ σ0 M hM 1) (cwV 2 hts gX11_set_X11_bad rfl rfl rfl (by decide +kernel) ⟨by decide, by decide⟩) (MR.in0 hM (by decide) (by decide)) rfl rfl rfl rfl (Nat.le_of_ble_eq_true rfl) dX11_set_77 ⟨by decide, by decide⟩) (fun rv ub_9 hp => ?_)
              obtain ⟨hp1, hMb_9, hp3⟩ := hp
              have hsb_9 := Same.tr hs0 hp3
              rw [hp1]
              refine j_if_eq (tgt := 85) C (P := False) dX11_set_80 (by decide) (by decide) (fun z => ?_) (fun z => ?_)
              · exact z.elim
              · refine j_iconst C (nI 0) dX11_set_83 (by decide) ?_
                exact j_iret C hr hlk (⟨hMb_9, hsb_9⟩) dX11_set_84
            · refine j_iload_n C dX11_set_60 rfl 4 rfl ?_
              refine j_iload_n C dX11_set_61 rfl 1 rfl ?_
              refine j_icmp_lt (tgt := 71) C dX11_set_62 (by decide) (fa_lt _ _) (fun h62 => ?_) (fun h62 => ?_)
              · refine j_iconst C (nI 1) dX11_set_71 (by decide) ?_
                refine j_goto (tgt := 76) C dX11_set_72 (by decide) ?_
                refine j_iconst C (nI 1) dX11_set_76 (by decide) ?_
                refine c_i0 C (r_V C 31 0 [.int (nI 1), .int (nI 1)] (c_X11_bad1 l D cy base Λ σ0 M hM 1) (cwV 2 hts gX11_set_X11_bad rfl rfl rfl (by decide +kernel) ⟨by decide, by decide⟩) (MR.in0 hM (by decide) (by decide)) rfl rfl rfl rfl (Nat.le_of_ble_eq_true rfl) dX11_set_77 ⟨by decide, by decide⟩) (fun rv ub_12 hp => ?_)
                obtain ⟨hp1, hMb_12, hp3⟩ := hp
                have hsb_12 := Same.tr hs0 hp3
                rw [hp1]
                refine j_if_eq (tgt := 85) C (P := False) dX11_set_80 (by decide) (by decide) (fun z => ?_) (fun z => ?_)
                · exact z.elim
                · refine j_iconst C (nI 0) dX11_set_83 (by decide) ?_
                  exact j_iret C hr hlk (⟨hMb_12, hsb_12⟩) dX11_set_84
              · refine j_iload_n C dX11_set_65 rfl 4 rfl ?_
                refine j_iload C dX11_set_66 0 rfl ?_
                refine j_icmp_le (tgt := 75) C dX11_set_68 (by decide) (fa_le _ _) (fun h68 => ?_) (fun h68 => ?_)
                · exact absurd ⟨by omega, by omega, by omega, by omega, by omega, by omega, by omega, by omega⟩ hA
                · refine j_iconst C (nI 1) dX11_set_71 (by decide) ?_
                  refine j_goto (tgt := 76) C dX11_set_72 (by decide) ?_
                  refine j_iconst C (nI 1) dX11_set_76 (by decide) ?_
                  refine c_i0 C (r_V C 31 0 [.int (nI 1), .int (nI 1)] (c_X11_bad1 l D cy base Λ σ0 M hM 1) (cwV 2 hts gX11_set_X11_bad rfl rfl rfl (by decide +kernel) ⟨by decide, by decide⟩) (MR.in0 hM (by decide) (by decide)) rfl rfl rfl rfl (Nat.le_of_ble_eq_true rfl) dX11_set_77 ⟨by decide, by decide⟩) (fun rv ub_15 hp => ?_)
                  obtain ⟨hp1, hMb_15, hp3⟩ := hp
                  have hsb_15 := Same.tr hs0 hp3
                  rw [hp1]
                  refine j_if_eq (tgt := 85) C (P := False) dX11_set_80 (by decide) (by decide) (fun z => ?_) (fun z => ?_)
                  · exact z.elim
                  · refine j_iconst C (nI 0) dX11_set_83 (by decide) ?_
                    exact j_iret C hr hlk (⟨hMb_15, hsb_15⟩) dX11_set_84
        · refine j_bipush C (nI 40) dX11_set_41 (by decide) ?_
          refine j_goto (tgt := 48) C dX11_set_43 (by decide) ?_
          refine j_istore C [(4, .int (nI 40)), (3, .int (nI 0)), (0, .ref (gA Λ 31 0)), (1, .int (w)), (2, .int (v))] dX11_set_48 (by decide) rfl ?_
          refine j_aload_n C dX11_set_50 rfl 2 rfl ?_
          refine j_iload_n C dX11_set_51 rfl 3 rfl ?_
          refine j_if_lt (tgt := 71) C dX11_set_52 (by decide) (fa_lt _ _) (fun h52 => ?_) (fun h52 => ?_)
          · refine j_iconst C (nI 1) dX11_set_71 (by decide) ?_
            refine j_goto (tgt := 76) C dX11_set_72 (by decide) ?_
            refine j_iconst C (nI 1) dX11_set_76 (by decide) ?_
            refine c_i0 C (r_V C 31 0 [.int (nI 1), .int (nI 1)] (c_X11_bad1 l D cy base Λ σ0 M hM 1) (cwV 2 hts gX11_set_X11_bad rfl rfl rfl (by decide +kernel) ⟨by decide, by decide⟩) (MR.in0 hM (by decide) (by decide)) rfl rfl rfl rfl (Nat.le_of_ble_eq_true rfl) dX11_set_77 ⟨by decide, by decide⟩) (fun rv ub_18 hp => ?_)
            obtain ⟨hp1, hMb_18, hp3⟩ := hp
            have hsb_18 := Same.tr hs0 hp3
            rw [hp1]
            refine j_if_eq (tgt := 85) C (P := False) dX11_set_80 (by decide) (by decide) (fun z => ?_) (fun z => ?_)
            · exact z.elim
            · refine j_iconst C (nI 0) dX11_set_83 (by decide) ?_
              exact j_iret C hr hlk (⟨hMb_18, hsb_18⟩) dX11_set_84
          · refine j_iload_n C dX11_set_55 rfl 3 rfl ?_
            refine j_iconst C (nI 5) dX11_set_56 (by decide) ?_
            refine j_icmp_gt (tgt := 71) C dX11_set_57 (by decide) (fa_lt _ _) (fun h57 => ?_) (fun h57 => ?_)
            · refine j_iconst C (nI 1) dX11_set_71 (by decide) ?_
              refine j_goto (tgt := 76) C dX11_set_72 (by decide) ?_
              refine j_iconst C (nI 1) dX11_set_76 (by decide) ?_
              refine c_i0 C (r_V C 31 0 [.int (nI 1), .int (nI 1)] (c_X11_bad1 l D cy base Λ σ0 M hM 1) (cwV 2 hts gX11_set_X11_bad rfl rfl rfl (by decide +kernel) ⟨by decide, by decide⟩) (MR.in0 hM (by decide) (by decide)) rfl rfl rfl rfl (Nat.le_of_ble_eq_true rfl) dX11_set_77 ⟨by decide, by decide⟩) (fun rv ub_21 hp => ?_)
              obtain ⟨hp1, hMb_21, hp3⟩ := hp
              have hsb_21 := Same.tr hs0 hp3
              rw [hp1]
              refine j_if_eq (tgt := 85) C (P := False) dX11_set_80 (by decide) (by decide) (fun z => ?_) (fun z => ?_)
              · exact z.elim
              · refine j_iconst C (nI 0) dX11_set_83 (by decide) ?_
                exact j_iret C hr hlk (⟨hMb_21, hsb_21⟩) dX11_set_84
            · refine j_iload_n C dX11_set_60 rfl 4 rfl ?_
              refine j_iload_n C dX11_set_61 rfl 1 rfl ?_
              refine j_icmp_lt (tgt := 71) C dX11_set_62 (by decide) (fa_lt _ _) (fun h62 => ?_) (fun h62 => ?_)
              · refine j_iconst C (nI 1) dX11_set_71 (by decide) ?_
                refine j_goto (tgt := 76) C dX11_set_72 (by decide) ?_
                refine j_iconst C (nI 1) dX11_set_76 (by decide) ?_
                refine c_i0 C (r_V C 31 0 [.int (nI 1), .int (nI 1)] (c_X11_bad1 l D cy base Λ σ0 M hM 1) (cwV 2 hts gX11_set_X11_bad rfl rfl rfl (by decide +kernel) ⟨by decide, by decide⟩) (MR.in0 hM (by decide) (by decide)) rfl rfl rfl rfl (Nat.le_of_ble_eq_true rfl) dX11_set_77 ⟨by decide, by decide⟩) (fun rv ub_24 hp => ?_)
                obtain ⟨hp1, hMb_24, hp3⟩ := hp
                have hsb_24 := Same.tr hs0 hp3
                rw [hp1]
                refine j_if_eq (tgt := 85) C (P := False) dX11_set_80 (by decide) (by decide) (fun z => ?_) (fun z => ?_)
                · exact z.elim
                · refine j_iconst C (nI 0) dX11_set_83 (by decide) ?_
                  exact j_iret C hr hlk (⟨hMb_24, hsb_24⟩) dX11_set_84
              · refine j_iload_n C dX11_set_65 rfl 4 rfl ?_
                refine j_iload C dX11_set_66 0 rfl ?_
                refine j_icmp_le (tgt := 75) C dX11_set_68 (by decide) (fa_le _ _) (fun h68 => ?_) (fun h68 => ?_)
                · exact absurd ⟨by omega, by omega, by omega, by omega, by omega, by omega, by omega, by omega⟩ hA
                · refine j_iconst C (nI 1) dX11_set_71 (by decide) ?_
                  refine j_goto (tgt := 76) C dX11_set_72 (by decide) ?_
                  refine j_iconst C (nI 1) dX11_set_76 (by decide) ?_
                  refine c_i0 C (r_V C 31 0 [.int (nI 1), .int (nI 1)] (c_X11_bad1 l D cy base Λ σ0 M hM 1) (cwV 2 hts gX11_set_X11_bad rfl rfl rfl (by decide +kernel) ⟨by decide, by decide⟩) (MR.in0 hM (by decide) (by decide)) rfl rfl rfl rfl (Nat.le_of_ble_eq_true rfl) dX11_set_77 ⟨by decide, by decide⟩) (fun rv ub_27 hp => ?_)
                  obtain ⟨hp1, hMb_27, hp3⟩ := hp
                  have hsb_27 := Same.tr hs0 hp3
                  rw [hp1]
                  refine j_if_eq (tgt := 85) C (P := False) dX11_set_80 (by decide) (by decide) (fun z => ?_) (fun z => ?_)
                  · exact z.elim
                  · refine j_iconst C (nI 0) dX11_set_83 (by decide) ?_
                    exact j_iret C hr hlk (⟨hMb_27, hsb_27⟩) dX11_set_84
      · refine j_bipush C (nI 100) dX11_set_31 (by decide) ?_
        refine j_goto (tgt := 48) C dX11_set_33 (by decide) ?_
        refine j_istore C [(4, .int (nI 100)), (3, .int (nI 0)), (0, .ref (gA Λ 31 0)), (1, .int (w)), (2, .int (v))] dX11_set_48 (by decide) rfl ?_
        refine j_aload_n C dX11_set_50 rfl 2 rfl ?_
        refine j_iload_n C dX11_set_51 rfl 3 rfl ?_
        refine j_if_lt (tgt := 71) C dX11_set_52 (by decide) (fa_lt _ _) (fun h52 => ?_) (fun h52 => ?_)
        · refine j_iconst C (nI 1) dX11_set_71 (by decide) ?_
          refine j_goto (tgt := 76) C dX11_set_72 (by decide) ?_
          refine j_iconst C (nI 1) dX11_set_76 (by decide) ?_
          refine c_i0 C (r_V C 31 0 [.int (nI 1), .int (nI 1)] (c_X11_bad1 l D cy base Λ σ0 M hM 1) (cwV 2 hts gX11_set_X11_bad rfl rfl rfl (by decide +kernel) ⟨by decide, by decide⟩) (MR.in0 hM (by decide) (by decide)) rfl rfl rfl rfl (Nat.le_of_ble_eq_true rfl) dX11_set_77 ⟨by decide, by decide⟩) (fun rv ub_30 hp => ?_)
          obtain ⟨hp1, hMb_30, hp3⟩ := hp
          have hsb_30 := Same.tr hs0 hp3
          rw [hp1]
          refine j_if_eq (tgt := 85) C (P := False) dX11_set_80 (by decide) (by decide) (fun z => ?_) (fun z => ?_)
          · exact z.elim
          · refine j_iconst C (nI 0) dX11_set_83 (by decide) ?_
            exact j_iret C hr hlk (⟨hMb_30, hsb_30⟩) dX11_set_84
        · refine j_iload_n C dX11_set_55 rfl 3 rfl ?_
          refine j_iconst C (nI 5) dX11_set_56 (by decide) ?_
          refine j_icmp_gt (tgt := 71) C dX11_set_57 (by decide) (fa_lt _ _) (fun h57 => ?_) (fun h57 => ?_)
          · refine j_iconst C (nI 1) dX11_set_71 (by decide) ?_
            refine j_goto (tgt := 76) C dX11_set_72 (by decide) ?_
            refine j_iconst C (nI 1) dX11_set_76 (by decide) ?_
            refine c_i0 C (r_V C 31 0 [.int (nI 1), .int (nI 1)] (c_X11_bad1 l D cy base Λ σ0 M hM 1) (cwV 2 hts gX11_set_X11_bad rfl rfl rfl (by decide +kernel) ⟨by decide, by decide⟩) (MR.in0 hM (by decide) (by decide)) rfl rfl rfl rfl (Nat.le_of_ble_eq_true rfl) dX11_set_77 ⟨by decide, by decide⟩) (fun rv ub_33 hp => ?_)
            obtain ⟨hp1, hMb_33, hp3⟩ := hp
            have hsb_33 := Same.tr hs0 hp3
            rw [hp1]
            refine j_if_eq (tgt := 85) C (P := False) dX11_set_80 (by decide) (by decide) (fun z => ?_) (fun z => ?_)
            · exact z.elim
            · refine j_iconst C (nI 0) dX11_set_83 (by decide) ?_
              exact j_iret C hr hlk (⟨hMb_33, hsb_33⟩) dX11_set_84
          · refine j_iload_n C dX11_set_60 rfl 4 rfl ?_
            refine j_iload_n C dX11_set_61 rfl 1 rfl ?_
            refine j_icmp_lt (tgt := 71) C dX11_set_62 (by decide) (fa_lt _ _) (fun h62 => ?_) (fun h62 => ?_)
            · refine j_iconst C (nI 1) dX11_set_71 (by decide) ?_
              refine j_goto (tgt := 76) C dX11_set_72 (by decide) ?_
              refine j_iconst C (nI 1) dX11_set_76 (by decide) ?_
              refine c_i0 C (r_V C 31 0 [.int (nI 1), .int (nI 1)] (c_X11_bad1 l D cy base Λ σ0 M hM 1) (cwV 2 hts gX11_set_X11_bad rfl rfl rfl (by decide +kernel) ⟨by decide, by decide⟩) (MR.in0 hM (by decide) (by decide)) rfl rfl rfl rfl (Nat.le_of_ble_eq_true rfl) dX11_set_77 ⟨by decide, by decide⟩) (fun rv ub_36 hp => ?_)
              obtain ⟨hp1, hMb_36, hp3⟩ := hp
              have hsb_36 := Same.tr hs0 hp3
              rw [hp1]
              refine j_if_eq (tgt := 85) C (P := False) dX11_set_80 (by decide) (by decide) (fun z => ?_) (fun z => ?_)
              · exact z.elim
              · refine j_iconst C (nI 0) dX11_set_83 (by decide) ?_
                exact j_iret C hr hlk (⟨hMb_36, hsb_36⟩) dX11_set_84
            · refine j_iload_n C dX11_set_65 rfl 4 rfl ?_
              refine j_iload C dX11_set_66 0 rfl ?_
              refine j_icmp_le (tgt := 75) C dX11_set_68 (by decide) (fa_le _ _) (fun h68 => ?_) (fun h68 => ?_)
              · exact absurd ⟨by omega, by omega, by omega, by omega, by omega, by omega, by omega, by omega⟩ hA
              · refine j_iconst C (nI 1) dX11_set_71 (by decide) ?_
                refine j_goto (tgt := 76) C dX11_set_72 (by decide) ?_
                refine j_iconst C (nI 1) dX11_set_76 (by decide) ?_
                refine c_i0 C (r_V C 31 0 [.int (nI 1), .int (nI 1)] (c_X11_bad1 l D cy base Λ σ0 M hM 1) (cwV 2 hts gX11_set_X11_bad rfl rfl rfl (by decide +kernel) ⟨by decide, by decide⟩) (MR.in0 hM (by decide) (by decide)) rfl rfl rfl rfl (Nat.le_of_ble_eq_true rfl) dX11_set_77 ⟨by decide, by decide⟩) (fun rv ub_39 hp => ?_)
                obtain ⟨hp1, hMb_39, hp3⟩ := hp
                have hsb_39 := Same.tr hs0 hp3
                rw [hp1]
                refine j_if_eq (tgt := 85) C (P := False) dX11_set_80 (by decide) (by decide) (fun z => ?_) (fun z => ?_)
                · exact z.elim
                · refine j_iconst C (nI 0) dX11_set_83 (by decide) ?_
                  exact j_iret C hr hlk (⟨hMb_39, hsb_39⟩) dX11_set_84
    · refine j_bipush C (nI 9) dX11_set_21 (by decide) ?_
      refine j_goto (tgt := 48) C dX11_set_23 (by decide) ?_
      refine j_istore C [(4, .int (nI 9)), (3, .int (nI 0)), (0, .ref (gA Λ 31 0)), (1, .int (w)), (2, .int (v))] dX11_set_48 (by decide) rfl ?_
      refine j_aload_n C dX11_set_50 rfl 2 rfl ?_
      refine j_iload_n C dX11_set_51 rfl 3 rfl ?_
      refine j_if_lt (tgt := 71) C dX11_set_52 (by decide) (fa_lt _ _) (fun h52 => ?_) (fun h52 => ?_)
      · refine j_iconst C (nI 1) dX11_set_71 (by decide) ?_
        refine j_goto (tgt := 76) C dX11_set_72 (by decide) ?_
        refine j_iconst C (nI 1) dX11_set_76 (by decide) ?_
        refine c_i0 C (r_V C 31 0 [.int (nI 1), .int (nI 1)] (c_X11_bad1 l D cy base Λ σ0 M hM 1) (cwV 2 hts gX11_set_X11_bad rfl rfl rfl (by decide +kernel) ⟨by decide, by decide⟩) (MR.in0 hM (by decide) (by decide)) rfl rfl rfl rfl (Nat.le_of_ble_eq_true rfl) dX11_set_77 ⟨by decide, by decide⟩) (fun rv ub_42 hp => ?_)
        obtain ⟨hp1, hMb_42, hp3⟩ := hp
        have hsb_42 := Same.tr hs0 hp3
        rw [hp1]
        refine j_if_eq (tgt := 85) C (P := False) dX11_set_80 (by decide) (by decide) (fun z => ?_) (fun z => ?_)
        · exact z.elim
        · refine j_iconst C (nI 0) dX11_set_83 (by decide) ?_
          exact j_iret C hr hlk (⟨hMb_42, hsb_42⟩) dX11_set_84
      · refine j_iload_n C dX11_set_55 rfl 3 rfl ?_
        refine j_iconst C (nI 5) dX11_set_56 (by decide) ?_
        refine j_icmp_gt (tgt := 71) C dX11_set_57 (by decide) (fa_lt _ _) (fun h57 => ?_) (fun h57 => ?_)
        · refine j_iconst C (nI 1) dX11_set_71 (by decide) ?_
          refine j_goto (tgt := 76) C dX11_set_72 (by decide) ?_
          refine j_iconst C (nI 1) dX11_set_76 (by decide) ?_
          refine c_i0 C (r_V C 31 0 [.int (nI 1), .int (nI 1)] (c_X11_bad1 l D cy base Λ σ0 M hM 1) (cwV 2 hts gX11_set_X11_bad rfl rfl rfl (by decide +kernel) ⟨by decide, by decide⟩) (MR.in0 hM (by decide) (by decide)) rfl rfl rfl rfl (Nat.le_of_ble_eq_true rfl) dX11_set_77 ⟨by decide, by decide⟩) (fun rv ub_45 hp => ?_)
          obtain ⟨hp1, hMb_45, hp3⟩ := hp
          have hsb_45 := Same.tr hs0 hp3
          rw [hp1]
          refine j_if_eq (tgt := 85) C (P := False) dX11_set_80 (by decide) (by decide) (fun z => ?_) (fun z => ?_)
          · exact z.elim
          · refine j_iconst C (nI 0) dX11_set_83 (by decide) ?_
            exact j_iret C hr hlk (⟨hMb_45, hsb_45⟩) dX11_set_84
        · refine j_iload_n C dX11_set_60 rfl 4 rfl ?_
          refine j_iload_n C dX11_set_61 rfl 1 rfl ?_
          refine j_icmp_lt (tgt := 71) C dX11_set_62 (by decide) (fa_lt _ _) (fun h62 => ?_) (fun h62 => ?_)
          · refine j_iconst C (nI 1) dX11_set_71 (by decide) ?_
            refine j_goto (tgt := 76) C dX11_set_72 (by decide) ?_
            refine j_iconst C (nI 1) dX11_set_76 (by decide) ?_
            refine c_i0 C (r_V C 31 0 [.int (nI 1), .int (nI 1)] (c_X11_bad1 l D cy base Λ σ0 M hM 1) (cwV 2 hts gX11_set_X11_bad rfl rfl rfl (by decide +kernel) ⟨by decide, by decide⟩) (MR.in0 hM (by decide) (by decide)) rfl rfl rfl rfl (Nat.le_of_ble_eq_true rfl) dX11_set_77 ⟨by decide, by decide⟩) (fun rv ub_48 hp => ?_)
            obtain ⟨hp1, hMb_48, hp3⟩ := hp
            have hsb_48 := Same.tr hs0 hp3
            rw [hp1]
            refine j_if_eq (tgt := 85) C (P := False) dX11_set_80 (by decide) (by decide) (fun z => ?_) (fun z => ?_)
            · exact z.elim
            · refine j_iconst C (nI 0) dX11_set_83 (by decide) ?_
              exact j_iret C hr hlk (⟨hMb_48, hsb_48⟩) dX11_set_84
          · refine j_iload_n C dX11_set_65 rfl 4 rfl ?_
            refine j_iload C dX11_set_66 0 rfl ?_
            refine j_icmp_le (tgt := 75) C dX11_set_68 (by decide) (fa_le _ _) (fun h68 => ?_) (fun h68 => ?_)
            · exact absurd ⟨by omega, by omega, by omega, by omega, by omega, by omega, by omega, by omega⟩ hA
            · refine j_iconst C (nI 1) dX11_set_71 (by decide) ?_
              refine j_goto (tgt := 76) C dX11_set_72 (by decide) ?_
              refine j_iconst C (nI 1) dX11_set_76 (by decide) ?_
              refine c_i0 C (r_V C 31 0 [.int (nI 1), .int (nI 1)] (c_X11_bad1 l D cy base Λ σ0 M hM 1) (cwV 2 hts gX11_set_X11_bad rfl rfl rfl (by decide +kernel) ⟨by decide, by decide⟩) (MR.in0 hM (by decide) (by decide)) rfl rfl rfl rfl (Nat.le_of_ble_eq_true rfl) dX11_set_77 ⟨by decide, by decide⟩) (fun rv ub_51 hp => ?_)
              obtain ⟨hp1, hMb_51, hp3⟩ := hp
              have hsb_51 := Same.tr hs0 hp3
              rw [hp1]
              refine j_if_eq (tgt := 85) C (P := False) dX11_set_80 (by decide) (by decide) (fun z => ?_) (fun z => ?_)
              · exact z.elim
              · refine j_iconst C (nI 0) dX11_set_83 (by decide) ?_
                exact j_iret C hr hlk (⟨hMb_51, hsb_51⟩) dX11_set_84
  · refine j_iconst C (nI 1) dX11_set_10 (by decide) ?_
    refine j_goto (tgt := 15) C dX11_set_11 (by decide) ?_
    refine j_istore_n C [(3, .int (nI 1)), (0, .ref (gA Λ 31 0)), (1, .int (w)), (2, .int (v))] dX11_set_15 rfl (by decide) rfl ?_
    refine j_iload_n C dX11_set_16 rfl 2 rfl ?_
    refine j_iconst C (nI 3) dX11_set_17 (by decide) ?_
    refine j_icmp_ge (tgt := 26) C dX11_set_18 (by decide) (fa_le _ _) (fun h18 => ?_) (fun h18 => ?_)
    · refine j_iload_n C dX11_set_26 rfl 2 rfl ?_
      refine j_iconst C (nI 3) dX11_set_27 (by decide) ?_
      refine j_icmp_ne (tgt := 36) C dX11_set_28 (by decide) (fa_eq _ _) (fun h28 => ?_) (fun h28 => ?_)
      · refine j_iload_n C dX11_set_36 rfl 2 rfl ?_
        refine j_iconst C (nI 4) dX11_set_37 (by decide) ?_
        refine j_icmp_ne (tgt := 46) C dX11_set_38 (by decide) (fa_eq _ _) (fun h38 => ?_) (fun h38 => ?_)
        · refine j_bipush C (nI 6) dX11_set_46 (by decide) ?_
          refine j_istore C [(4, .int (nI 6)), (3, .int (nI 1)), (0, .ref (gA Λ 31 0)), (1, .int (w)), (2, .int (v))] dX11_set_48 (by decide) rfl ?_
          refine j_aload_n C dX11_set_50 rfl 2 rfl ?_
          refine j_iload_n C dX11_set_51 rfl 3 rfl ?_
          refine j_if_lt (tgt := 71) C dX11_set_52 (by decide) (fa_lt _ _) (fun h52 => ?_) (fun h52 => ?_)
          · refine j_iconst C (nI 1) dX11_set_71 (by decide) ?_
            refine j_goto (tgt := 76) C dX11_set_72 (by decide) ?_
            refine j_iconst C (nI 1) dX11_set_76 (by decide) ?_
            refine c_i0 C (r_V C 31 0 [.int (nI 1), .int (nI 1)] (c_X11_bad1 l D cy base Λ σ0 M hM 1) (cwV 2 hts gX11_set_X11_bad rfl rfl rfl (by decide +kernel) ⟨by decide, by decide⟩) (MR.in0 hM (by decide) (by decide)) rfl rfl rfl rfl (Nat.le_of_ble_eq_true rfl) dX11_set_77 ⟨by decide, by decide⟩) (fun rv ub_57 hp => ?_)
            obtain ⟨hp1, hMb_57, hp3⟩ := hp
            have hsb_57 := Same.tr hs0 hp3
            rw [hp1]
            refine j_if_eq (tgt := 85) C (P := False) dX11_set_80 (by decide) (by decide) (fun z => ?_) (fun z => ?_)
            · exact z.elim
            · refine j_iconst C (nI 0) dX11_set_83 (by decide) ?_
              exact j_iret C hr hlk (⟨hMb_57, hsb_57⟩) dX11_set_84
          · refine j_iload_n C dX11_set_55 rfl 3 rfl ?_
            refine j_iconst C (nI 5) dX11_set_56 (by decide) ?_
            refine j_icmp_gt (tgt := 71) C dX11_set_57 (by decide) (fa_lt _ _) (fun h57 => ?_) (fun h57 => ?_)
            · refine j_iconst C (nI 1) dX11_set_71 (by decide) ?_
              refine j_goto (tgt := 76) C dX11_set_72 (by decide) ?_
              refine j_iconst C (nI 1) dX11_set_76 (by decide) ?_
              refine c_i0 C (r_V C 31 0 [.int (nI 1), .int (nI 1)] (c_X11_bad1 l D cy base Λ σ0 M hM 1) (cwV 2 hts gX11_set_X11_bad rfl rfl rfl (by decide +kernel) ⟨by decide, by decide⟩) (MR.in0 hM (by decide) (by decide)) rfl rfl rfl rfl (Nat.le_of_ble_eq_true rfl) dX11_set_77 ⟨by decide, by decide⟩) (fun rv ub_60 hp => ?_)
              obtain ⟨hp1, hMb_60, hp3⟩ := hp
              have hsb_60 := Same.tr hs0 hp3
              rw [hp1]
              refine j_if_eq (tgt := 85) C (P := False) dX11_set_80 (by decide) (by decide) (fun z => ?_) (fun z => ?_)
              · exact z.elim
              · refine j_iconst C (nI 0) dX11_set_83 (by decide) ?_
                exact j_iret C hr hlk (⟨hMb_60, hsb_60⟩) dX11_set_84
            · refine j_iload_n C dX11_set_60 rfl 4 rfl ?_
              refine j_iload_n C dX11_set_61 rfl 1 rfl ?_
              refine j_icmp_lt (tgt := 71) C dX11_set_62 (by decide) (fa_lt _ _) (fun h62 => ?_) (fun h62 => ?_)
              · refine j_iconst C (nI 1) dX11_set_71 (by decide) ?_
                refine j_goto (tgt := 76) C dX11_set_72 (by decide) ?_
                refine j_iconst C (nI 1) dX11_set_76 (by decide) ?_
                refine c_i0 C (r_V C 31 0 [.int (nI 1), .int (nI 1)] (c_X11_bad1 l D cy base Λ σ0 M hM 1) (cwV 2 hts gX11_set_X11_bad rfl rfl rfl (by decide +kernel) ⟨by decide, by decide⟩) (MR.in0 hM (by decide) (by decide)) rfl rfl rfl rfl (Nat.le_of_ble_eq_true rfl) dX11_set_77 ⟨by decide, by decide⟩) (fun rv ub_63 hp => ?_)
                obtain ⟨hp1, hMb_63, hp3⟩ := hp
                have hsb_63 := Same.tr hs0 hp3
                rw [hp1]
                refine j_if_eq (tgt := 85) C (P := False) dX11_set_80 (by decide) (by decide) (fun z => ?_) (fun z => ?_)
                · exact z.elim
                · refine j_iconst C (nI 0) dX11_set_83 (by decide) ?_
                  exact j_iret C hr hlk (⟨hMb_63, hsb_63⟩) dX11_set_84
              · refine j_iload_n C dX11_set_65 rfl 4 rfl ?_
                refine j_iload C dX11_set_66 0 rfl ?_
                refine j_icmp_le (tgt := 75) C dX11_set_68 (by decide) (fa_le _ _) (fun h68 => ?_) (fun h68 => ?_)
                · exact absurd ⟨by omega, by omega, by omega, by omega, by omega, by omega, by omega, by omega⟩ hA
                · refine j_iconst C (nI 1) dX11_set_71 (by decide) ?_
                  refine j_goto (tgt := 76) C dX11_set_72 (by decide) ?_
                  refine j_iconst C (nI 1) dX11_set_76 (by decide) ?_
                  refine c_i0 C (r_V C 31 0 [.int (nI 1), .int (nI 1)] (c_X11_bad1 l D cy base Λ σ0 M hM 1) (cwV 2 hts gX11_set_X11_bad rfl rfl rfl (by decide +kernel) ⟨by decide, by decide⟩) (MR.in0 hM (by decide) (by decide)) rfl rfl rfl rfl (Nat.le_of_ble_eq_true rfl) dX11_set_77 ⟨by decide, by decide⟩) (fun rv ub_66 hp => ?_)
                  obtain ⟨hp1, hMb_66, hp3⟩ := hp
                  have hsb_66 := Same.tr hs0 hp3
                  rw [hp1]
                  refine j_if_eq (tgt := 85) C (P := False) dX11_set_80 (by decide) (by decide) (fun z => ?_) (fun z => ?_)
                  · exact z.elim
                  · refine j_iconst C (nI 0) dX11_set_83 (by decide) ?_
                    exact j_iret C hr hlk (⟨hMb_66, hsb_66⟩) dX11_set_84
        · refine j_bipush C (nI 40) dX11_set_41 (by decide) ?_
          refine j_goto (tgt := 48) C dX11_set_43 (by decide) ?_
          refine j_istore C [(4, .int (nI 40)), (3, .int (nI 1)), (0, .ref (gA Λ 31 0)), (1, .int (w)), (2, .int (v))] dX11_set_48 (by decide) rfl ?_
          refine j_aload_n C dX11_set_50 rfl 2 rfl ?_
          refine j_iload_n C dX11_set_51 rfl 3 rfl ?_
          refine j_if_lt (tgt := 71) C dX11_set_52 (by decide) (fa_lt _ _) (fun h52 => ?_) (fun h52 => ?_)
          · refine j_iconst C (nI 1) dX11_set_71 (by decide) ?_
            refine j_goto (tgt := 76) C dX11_set_72 (by decide) ?_
            refine j_iconst C (nI 1) dX11_set_76 (by decide) ?_
            refine c_i0 C (r_V C 31 0 [.int (nI 1), .int (nI 1)] (c_X11_bad1 l D cy base Λ σ0 M hM 1) (cwV 2 hts gX11_set_X11_bad rfl rfl rfl (by decide +kernel) ⟨by decide, by decide⟩) (MR.in0 hM (by decide) (by decide)) rfl rfl rfl rfl (Nat.le_of_ble_eq_true rfl) dX11_set_77 ⟨by decide, by decide⟩) (fun rv ub_69 hp => ?_)
            obtain ⟨hp1, hMb_69, hp3⟩ := hp
            have hsb_69 := Same.tr hs0 hp3
            rw [hp1]
            refine j_if_eq (tgt := 85) C (P := False) dX11_set_80 (by decide) (by decide) (fun z => ?_) (fun z => ?_)
            · exact z.elim
            · refine j_iconst C (nI 0) dX11_set_83 (by decide) ?_
              exact j_iret C hr hlk (⟨hMb_69, hsb_69⟩) dX11_set_84
          · refine j_iload_n C dX11_set_55 rfl 3 rfl ?_
            refine j_iconst C (nI 5) dX11_set_56 (by decide) ?_
            refine j_icmp_gt (tgt := 71) C dX11_set_57 (by decide) (fa_lt _ _) (fun h57 => ?_) (fun h57 => ?_)
            · refine j_iconst C (nI 1) dX11_set_71 (by decide) ?_
              refine j_goto (tgt := 76) C dX11_set_72 (by decide) ?_
              refine j_iconst C (nI 1) dX11_set_76 (by decide) ?_
              refine c_i0 C (r_V C 31 0 [.int (nI 1), .int (nI 1)] (c_X11_bad1 l D cy base Λ σ0 M hM 1) (cwV 2 hts gX11_set_X11_bad rfl rfl rfl (by decide +kernel) ⟨by decide, by decide⟩) (MR.in0 hM (by decide) (by decide)) rfl rfl rfl rfl (Nat.le_of_ble_eq_true rfl) dX11_set_77 ⟨by decide, by decide⟩) (fun rv ub_72 hp => ?_)
              obtain ⟨hp1, hMb_72, hp3⟩ := hp
              have hsb_72 := Same.tr hs0 hp3
              rw [hp1]
              refine j_if_eq (tgt := 85) C (P := False) dX11_set_80 (by decide) (by decide) (fun z => ?_) (fun z => ?_)
              · exact z.elim
              · refine j_iconst C (nI 0) dX11_set_83 (by decide) ?_
                exact j_iret C hr hlk (⟨hMb_72, hsb_72⟩) dX11_set_84
            · refine j_iload_n C dX11_set_60 rfl 4 rfl ?_
              refine j_iload_n C dX11_set_61 rfl 1 rfl ?_
              refine j_icmp_lt (tgt := 71) C dX11_set_62 (by decide) (fa_lt _ _) (fun h62 => ?_) (fun h62 => ?_)
              · refine j_iconst C (nI 1) dX11_set_71 (by decide) ?_
                refine j_goto (tgt := 76) C dX11_set_72 (by decide) ?_
                refine j_iconst C (nI 1) dX11_set_76 (by decide) ?_
                refine c_i0 C (r_V C 31 0 [.int (nI 1), .int (nI 1)] (c_X11_bad1 l D cy base Λ σ0 M hM 1) (cwV 2 hts gX11_set_X11_bad rfl rfl rfl (by decide +kernel) ⟨by decide, by decide⟩) (MR.in0 hM (by decide) (by decide)) rfl rfl rfl rfl (Nat.le_of_ble_eq_true rfl) dX11_set_77 ⟨by decide, by decide⟩) (fun rv ub_75 hp => ?_)
                obtain ⟨hp1, hMb_75, hp3⟩ := hp
                have hsb_75 := Same.tr hs0 hp3
                rw [hp1]
                refine j_if_eq (tgt := 85) C (P := False) dX11_set_80 (by decide) (by decide) (fun z => ?_) (fun z => ?_)
                · exact z.elim
                · refine j_iconst C (nI 0) dX11_set_83 (by decide) ?_
                  exact j_iret C hr hlk (⟨hMb_75, hsb_75⟩) dX11_set_84
              · refine j_iload_n C dX11_set_65 rfl 4 rfl ?_
                refine j_iload C dX11_set_66 0 rfl ?_
                refine j_icmp_le (tgt := 75) C dX11_set_68 (by decide) (fa_le _ _) (fun h68 => ?_) (fun h68 => ?_)
                · exact absurd ⟨by omega, by omega, by omega, by omega, by omega, by omega, by omega, by omega⟩ hA
                · refine j_iconst C (nI 1) dX11_set_71 (by decide) ?_
                  refine j_goto (tgt := 76) C dX11_set_72 (by decide) ?_
                  refine j_iconst C (nI 1) dX11_set_76 (by decide) ?_
                  refine c_i0 C (r_V C 31 0 [.int (nI 1), .int (nI 1)] (c_X11_bad1 l D cy base Λ σ0 M hM 1) (cwV 2 hts gX11_set_X11_bad rfl rfl rfl (by decide +kernel) ⟨by decide, by decide⟩) (MR.in0 hM (by decide) (by decide)) rfl rfl rfl rfl (Nat.le_of_ble_eq_true rfl) dX11_set_77 ⟨by decide, by decide⟩) (fun rv ub_78 hp => ?_)
                  obtain ⟨hp1, hMb_78, hp3⟩ := hp
                  have hsb_78 := Same.tr hs0 hp3
                  rw [hp1]
                  refine j_if_eq (tgt := 85) C (P := False) dX11_set_80 (by decide) (by decide) (fun z => ?_) (fun z => ?_)
                  · exact z.elim
                  · refine j_iconst C (nI 0) dX11_set_83 (by decide) ?_
                    exact j_iret C hr hlk (⟨hMb_78, hsb_78⟩) dX11_set_84
      · refine j_bipush C (nI 100) dX11_set_31 (by decide) ?_
        refine j_goto (tgt := 48) C dX11_set_33 (by decide) ?_
        refine j_istore C [(4, .int (nI 100)), (3, .int (nI 1)), (0, .ref (gA Λ 31 0)), (1, .int (w)), (2, .int (v))] dX11_set_48 (by decide) rfl ?_
        refine j_aload_n C dX11_set_50 rfl 2 rfl ?_
        refine j_iload_n C dX11_set_51 rfl 3 rfl ?_
        refine j_if_lt (tgt := 71) C dX11_set_52 (by decide) (fa_lt _ _) (fun h52 => ?_) (fun h52 => ?_)
        · refine j_iconst C (nI 1) dX11_set_71 (by decide) ?_
          refine j_goto (tgt := 76) C dX11_set_72 (by decide) ?_
          refine j_iconst C (nI 1) dX11_set_76 (by decide) ?_
          refine c_i0 C (r_V C 31 0 [.int (nI 1), .int (nI 1)] (c_X11_bad1 l D cy base Λ σ0 M hM 1) (cwV 2 hts gX11_set_X11_bad rfl rfl rfl (by decide +kernel) ⟨by decide, by decide⟩) (MR.in0 hM (by decide) (by decide)) rfl rfl rfl rfl (Nat.le_of_ble_eq_true rfl) dX11_set_77 ⟨by decide, by decide⟩) (fun rv ub_81 hp => ?_)
          obtain ⟨hp1, hMb_81, hp3⟩ := hp
          have hsb_81 := Same.tr hs0 hp3
          rw [hp1]
          refine j_if_eq (tgt := 85) C (P := False) dX11_set_80 (by decide) (by decide) (fun z => ?_) (fun z => ?_)
          · exact z.elim
          · refine j_iconst C (nI 0) dX11_set_83 (by decide) ?_
            exact j_iret C hr hlk (⟨hMb_81, hsb_81⟩) dX11_set_84
        · refine j_iload_n C dX11_set_55 rfl 3 rfl ?_
          refine j_iconst C (nI 5) dX11_set_56 (by decide) ?_
          refine j_icmp_gt (tgt := 71) C dX11_set_57 (by decide) (fa_lt _ _) (fun h57 => ?_) (fun h57 => ?_)
          · refine j_iconst C (nI 1) dX11_set_71 (by decide) ?_
            refine j_goto (tgt := 76) C dX11_set_72 (by decide) ?_
            refine j_iconst C (nI 1) dX11_set_76 (by decide) ?_
            refine c_i0 C (r_V C 31 0 [.int (nI 1), .int (nI 1)] (c_X11_bad1 l D cy base Λ σ0 M hM 1) (cwV 2 hts gX11_set_X11_bad rfl rfl rfl (by decide +kernel) ⟨by decide, by decide⟩) (MR.in0 hM (by decide) (by decide)) rfl rfl rfl rfl (Nat.le_of_ble_eq_true rfl) dX11_set_77 ⟨by decide, by decide⟩) (fun rv ub_84 hp => ?_)
            obtain ⟨hp1, hMb_84, hp3⟩ := hp
            have hsb_84 := Same.tr hs0 hp3
            rw [hp1]
            refine j_if_eq (tgt := 85) C (P := False) dX11_set_80 (by decide) (by decide) (fun z => ?_) (fun z => ?_)
            · exact z.elim
            · refine j_iconst C (nI 0) dX11_set_83 (by decide) ?_
              exact j_iret C hr hlk (⟨hMb_84, hsb_84⟩) dX11_set_84
          · refine j_iload_n C dX11_set_60 rfl 4 rfl ?_
            refine j_iload_n C dX11_set_61 rfl 1 rfl ?_
            refine j_icmp_lt (tgt := 71) C dX11_set_62 (by decide) (fa_lt _ _) (fun h62 => ?_) (fun h62 => ?_)
            · refine j_iconst C (nI 1) dX11_set_71 (by decide) ?_
              refine j_goto (tgt := 76) C dX11_set_72 (by decide) ?_
              refine j_iconst C (nI 1) dX11_set_76 (by decide) ?_
              refine c_i0 C (r_V C 31 0 [.int (nI 1), .int (nI 1)] (c_X11_bad1 l D cy base Λ σ0 M hM 1) (cwV 2 hts gX11_set_X11_bad rfl rfl rfl (by decide +kernel) ⟨by decide, by decide⟩) (MR.in0 hM (by decide) (by decide)) rfl rfl rfl rfl (Nat.le_of_ble_eq_true rfl) dX11_set_77 ⟨by decide, by decide⟩) (fun rv ub_87 hp => ?_)
              obtain ⟨hp1, hMb_87, hp3⟩ := hp
              have hsb_87 := Same.tr hs0 hp3
              rw [hp1]
              refine j_if_eq (tgt := 85) C (P := False) dX11_set_80 (by decide) (by decide) (fun z => ?_) (fun z => ?_)
              · exact z.elim
              · refine j_iconst C (nI 0) dX11_set_83 (by decide) ?_
                exact j_iret C hr hlk (⟨hMb_87, hsb_87⟩) dX11_set_84
            · refine j_iload_n C dX11_set_65 rfl 4 rfl ?_
              refine j_iload C dX11_set_66 0 rfl ?_
              refine j_icmp_le (tgt := 75) C dX11_set_68 (by decide) (fa_le _ _) (fun h68 => ?_) (fun h68 => ?_)
              · exact absurd ⟨by omega, by omega, by omega, by omega, by omega, by omega, by omega, by omega⟩ hA
              · refine j_iconst C (nI 1) dX11_set_71 (by decide) ?_
                refine j_goto (tgt := 76) C dX11_set_72 (by decide) ?_
                refine j_iconst C (nI 1) dX11_set_76 (by decide) ?_
                refine c_i0 C (r_V C 31 0 [.int (nI 1), .int (nI 1)] (c_X11_bad1 l D cy base Λ σ0 M hM 1) (cwV 2 hts gX11_set_X11_bad rfl rfl rfl (by decide +kernel) ⟨by decide, by decide⟩) (MR.in0 hM (by decide) (by decide)) rfl rfl rfl rfl (Nat.le_of_ble_eq_true rfl) dX11_set_77 ⟨by decide, by decide⟩) (fun rv ub_90 hp => ?_)
                obtain ⟨hp1, hMb_90, hp3⟩ := hp
                have hsb_90 := Same.tr hs0 hp3
                rw [hp1]
                refine j_if_eq (tgt := 85) C (P := False) dX11_set_80 (by decide) (by decide) (fun z => ?_) (fun z => ?_)
                · exact z.elim
                · refine j_iconst C (nI 0) dX11_set_83 (by decide) ?_
                  exact j_iret C hr hlk (⟨hMb_90, hsb_90⟩) dX11_set_84
    · refine j_bipush C (nI 9) dX11_set_21 (by decide) ?_
      refine j_goto (tgt := 48) C dX11_set_23 (by decide) ?_
      refine j_istore C [(4, .int (nI 9)), (3, .int (nI 1)), (0, .ref (gA Λ 31 0)), (1, .int (w)), (2, .int (v))] dX11_set_48 (by decide) rfl ?_
      refine j_aload_n C dX11_set_50 rfl 2 rfl ?_
      refine j_iload_n C dX11_set_51 rfl 3 rfl ?_
      refine j_if_lt (tgt := 71) C dX11_set_52 (by decide) (fa_lt _ _) (fun h52 => ?_) (fun h52 => ?_)
      · refine j_iconst C (nI 1) dX11_set_71 (by decide) ?_
        refine j_goto (tgt := 76) C dX11_set_72 (by decide) ?_
        refine j_iconst C (nI 1) dX11_set_76 (by decide) ?_
        refine c_i0 C (r_V C 31 0 [.int (nI 1), .int (nI 1)] (c_X11_bad1 l D cy base Λ σ0 M hM 1) (cwV 2 hts gX11_set_X11_bad rfl rfl rfl (by decide +kernel) ⟨by decide, by decide⟩) (MR.in0 hM (by decide) (by decide)) rfl rfl rfl rfl (Nat.le_of_ble_eq_true rfl) dX11_set_77 ⟨by decide, by decide⟩) (fun rv ub_93 hp => ?_)
        obtain ⟨hp1, hMb_93, hp3⟩ := hp
        have hsb_93 := Same.tr hs0 hp3
        rw [hp1]
        refine j_if_eq (tgt := 85) C (P := False) dX11_set_80 (by decide) (by decide) (fun z => ?_) (fun z => ?_)
        · exact z.elim
        · refine j_iconst C (nI 0) dX11_set_83 (by decide) ?_
          exact j_iret C hr hlk (⟨hMb_93, hsb_93⟩) dX11_set_84
      · refine j_iload_n C dX11_set_55 rfl 3 rfl ?_
        refine j_iconst C (nI 5) dX11_set_56 (by decide) ?_
        refine j_icmp_gt (tgt := 71) C dX11_set_57 (by decide) (fa_lt _ _) (fun h57 => ?_) (fun h57 => ?_)
        · refine j_iconst C (nI 1) dX11_set_71 (by decide) ?_
          refine j_goto (tgt := 76) C dX11_set_72 (by decide) ?_
          refine j_iconst C (nI 1) dX11_set_76 (by decide) ?_
          refine c_i0 C (r_V C 31 0 [.int (nI 1), .int (nI 1)] (c_X11_bad1 l D cy base Λ σ0 M hM 1) (cwV 2 hts gX11_set_X11_bad rfl rfl rfl (by decide +kernel) ⟨by decide, by decide⟩) (MR.in0 hM (by decide) (by decide)) rfl rfl rfl rfl (Nat.le_of_ble_eq_true rfl) dX11_set_77 ⟨by decide, by decide⟩) (fun rv ub_96 hp => ?_)
          obtain ⟨hp1, hMb_96, hp3⟩ := hp
          have hsb_96 := Same.tr hs0 hp3
          rw [hp1]
          refine j_if_eq (tgt := 85) C (P := False) dX11_set_80 (by decide) (by decide) (fun z => ?_) (fun z => ?_)
          · exact z.elim
          · refine j_iconst C (nI 0) dX11_set_83 (by decide) ?_
            exact j_iret C hr hlk (⟨hMb_96, hsb_96⟩) dX11_set_84
        · refine j_iload_n C dX11_set_60 rfl 4 rfl ?_
          refine j_iload_n C dX11_set_61 rfl 1 rfl ?_
          refine j_icmp_lt (tgt := 71) C dX11_set_62 (by decide) (fa_lt _ _) (fun h62 => ?_) (fun h62 => ?_)
          · refine j_iconst C (nI 1) dX11_set_71 (by decide) ?_
            refine j_goto (tgt := 76) C dX11_set_72 (by decide) ?_
            refine j_iconst C (nI 1) dX11_set_76 (by decide) ?_
            refine c_i0 C (r_V C 31 0 [.int (nI 1), .int (nI 1)] (c_X11_bad1 l D cy base Λ σ0 M hM 1) (cwV 2 hts gX11_set_X11_bad rfl rfl rfl (by decide +kernel) ⟨by decide, by decide⟩) (MR.in0 hM (by decide) (by decide)) rfl rfl rfl rfl (Nat.le_of_ble_eq_true rfl) dX11_set_77 ⟨by decide, by decide⟩) (fun rv ub_99 hp => ?_)
            obtain ⟨hp1, hMb_99, hp3⟩ := hp
            have hsb_99 := Same.tr hs0 hp3
            rw [hp1]
            refine j_if_eq (tgt := 85) C (P := False) dX11_set_80 (by decide) (by decide) (fun z => ?_) (fun z => ?_)
            · exact z.elim
            · refine j_iconst C (nI 0) dX11_set_83 (by decide) ?_
              exact j_iret C hr hlk (⟨hMb_99, hsb_99⟩) dX11_set_84
          · refine j_iload_n C dX11_set_65 rfl 4 rfl ?_
            refine j_iload C dX11_set_66 0 rfl ?_
            refine j_icmp_le (tgt := 75) C dX11_set_68 (by decide) (fa_le _ _) (fun h68 => ?_) (fun h68 => ?_)
            · exact absurd ⟨by omega, by omega, by omega, by omega, by omega, by omega, by omega, by omega⟩ hA
            · refine j_iconst C (nI 1) dX11_set_71 (by decide) ?_
              refine j_goto (tgt := 76) C dX11_set_72 (by decide) ?_
              refine j_iconst C (nI 1) dX11_set_76 (by decide) ?_
              refine c_i0 C (r_V C 31 0 [.int (nI 1), .int (nI 1)] (c_X11_bad1 l D cy base Λ σ0 M hM 1) (cwV 2 hts gX11_set_X11_bad rfl rfl rfl (by decide +kernel) ⟨by decide, by decide⟩) (MR.in0 hM (by decide) (by decide)) rfl rfl rfl rfl (Nat.le_of_ble_eq_true rfl) dX11_set_77 ⟨by decide, by decide⟩) (fun rv ub_102 hp => ?_)
              obtain ⟨hp1, hMb_102, hp3⟩ := hp
              have hsb_102 := Same.tr hs0 hp3
              rw [hp1]
              refine j_if_eq (tgt := 85) C (P := False) dX11_set_80 (by decide) (by decide) (fun z => ?_) (fun z => ?_)
              · exact z.elim
              · refine j_iconst C (nI 0) dX11_set_83 (by decide) ?_
                exact j_iret C hr hlk (⟨hMb_102, hsb_102⟩) dX11_set_84

set_option maxHeartbeats 4000000 in
set_option maxRecDepth 100000 in
theorem c_moctet_no (l : Launch) (D : va_G) (cy : Nat → ClassId) (base : Nat) (Λ : LY) (σ : HS) (M : MM) (hM0 : MR0 Λ σ M) (h00 : M 31 0 = 0) (hB : MBd M) (k : Int32) (hA : k.toInt < 0 ∨ (M 31 18 : Int) ≤ k.toInt) : Met l yX11_octet wsX11_octet ({ frames := 16, cells := 0, slots := 0, locals := 240 }) (va_Pc [.ref (gA Λ 31 0), .int (k)] (Wd D cy base Λ σ)) (va_Qi (fun v u => MR Λ u M ∧ Same nMo σ u ∧ v = -1) (Wd D cy base Λ) (Ab base)) 0 0 (Ab base) := by
  refine j_start (cc := cX11_octet) (nL := 2) (ret := (some .int)) (lv := [(0, .ref (gA Λ 31 0)), (1, .int (k))]) (by decide) rfl (Nat.le_of_ble_eq_true rfl) rfl ?_
  intro p e s m below meth c C hr hlk hnm
  have C : Cx p s m ([.ref (gA Λ 31 0), .int (k)] : List Value).toArray c cX11_octet 2 RX11 wsX11_octet D cy base := C
  have hts := C.2.2.2.2.1
  have hwX11 : ∀ w ∈ u_ws RX11 TX11 26, w ∈ wsX11_octet := by decide +kernel
  have hM73 : (Cond.fieldLink RX11 73 (TX11 0).1 (TX11 0).2.1 (TX11 0).2.2.1).before ([.ref (gA Λ 31 0), .int (k)] : List Value).toArray s = true := hts (.fieldLink RX11 73 "CodeRoomsModel" "thrown" "I") (by decide +kernel)
  have hL73 : FL RX11 73 (TX11 0).1 (TX11 0).2.1 (TX11 0).2.2.1 ([.ref (gA Λ 31 0), .int (k)] : List Value).toArray s := Or.inl hM73
  have hM160 : (Cond.fieldLink RX11 160 (TX11 18).1 (TX11 18).2.1 (TX11 18).2.2.1).before ([.ref (gA Λ 31 0), .int (k)] : List Value).toArray s = true := hts (.fieldLink RX11 160 "CodeRoomsModel" "pageLong" "I") (by decide +kernel)
  have hL160 : FL RX11 160 (TX11 18).1 (TX11 18).2.1 (TX11 18).2.2.1 ([.ref (gA Λ 31 0), .int (k)] : List Value).toArray s := Or.inl hM160
  have hn : M 31 5 ≤ 40 := hB 31 5 rfl
  have z3 : (nI 3).toInt = 3 := by decide
  have z2 : (nI 2).toInt = 2 := by decide
  have z1 : (nI 1).toInt = 1 := by decide
  have z1000 : (nI 1000).toInt = 1000 := by decide
  have z5 : (nI 5).toInt = 5 := by decide
  have z4 : (nI 4).toInt = 4 := by decide
  have z0 : (nI 0).toInt = 0 := by decide
  have z00 : (0 : Int32).toInt = 0 := by decide
  have z9 : (nI 9).toInt = 9 := by decide
  have z100 : (nI 100).toInt = 100 := by decide
  have z40 : (nI 40).toInt = 40 := by decide
  have z6 : (nI 6).toInt = 6 := by decide
  have hpl : M 31 18 ≤ 40 := hB 31 18 rfl
  have hpt : (nI (M 31 18)).toInt = (M 31 18 : Int) := nI_toInt (by omega)
  refine j_aload_n C dX11_octet_0 rfl 0 rfl ?_
  refine j_iconst C (nI 0) dX11_octet_1 (by decide) ?_
  refine j_putI C hwX11 31 0 0 (MR0.in0 hM0) rfl rfl (by decide) rfl tyX11 tyX11_ok nmX11 rfl rfl rfl hL73 dX11_octet_2 ?_
  have hM := MR0.start hM0 h00
  have hs0 : Same nMo σ (sI σ 31 0 0 (nI 0)) := Same.sI Same.rf (by decide)
  generalize sI σ 31 0 0 (nI 0) = σ0 at hM hs0 ⊢
  refine j_iload_n C dX11_octet_5 rfl 1 rfl ?_
  refine j_if_lt (tgt := 26) C dX11_octet_6 (by decide) (fa_lt _ _) (fun h6 => ?_) (fun h6 => ?_)
  · refine j_iconst C ((-1)) dX11_octet_26 (by decide) ?_
    exact j_iret C hr hlk (⟨hM, hs0, rfl⟩) dX11_octet_27
  · refine j_iload_n C dX11_octet_9 rfl 1 rfl ?_
    refine j_aload_n C dX11_octet_10 rfl 0 rfl ?_
    have hb11 : M 31 18 ≤ 40 := hB 31 18 rfl
    refine j_getI C hwX11 31 0 18 (MR.in0 hM (by decide) (by decide)) rfl rfl (by decide) rfl (nI (M 31 18)) (hM.1 31 18 rfl) hL160 dX11_octet_11 ?_
    refine j_icmp_ge (tgt := 26) C dX11_octet_14 (by decide) (fa_le _ _) (fun h14 => ?_) (fun h14 => ?_)
    · refine j_iconst C ((-1)) dX11_octet_26 (by decide) ?_
      exact j_iret C hr hlk (⟨hM, hs0, rfl⟩) dX11_octet_27
    · omega

set_option maxHeartbeats 4000000 in
set_option maxRecDepth 100000 in
theorem c_moctet_ok (l : Launch) (D : va_G) (cy : Nat → ClassId) (base : Nat) (Λ : LY) (σ : HS) (M : MM) (hM0 : MR0 Λ σ M) (h00 : M 31 0 = 0) (hB : MBd M) (k : Nat) (hk : k < M 31 18) (hpl : M 31 18 ≤ 20) : Met l yX11_octet wsX11_octet ({ frames := 16, cells := 0, slots := 0, locals := 240 }) (va_Pc [.ref (gA Λ 31 0), .int (nI k)] (Wd D cy base Λ σ)) (va_Qi (fun v u => MR Λ u M ∧ Same nMo σ u ∧ v = nI (M 43 k)) (Wd D cy base Λ) (Ab base)) 0 0 (Ab base) := by
  refine j_start (cc := cX11_octet) (nL := 2) (ret := (some .int)) (lv := [(0, .ref (gA Λ 31 0)), (1, .int (nI k))]) (by decide) rfl (Nat.le_of_ble_eq_true rfl) rfl ?_
  intro p e s m below meth c C hr hlk hnm
  have C : Cx p s m ([.ref (gA Λ 31 0), .int (nI k)] : List Value).toArray c cX11_octet 2 RX11 wsX11_octet D cy base := C
  have hts := C.2.2.2.2.1
  have hwX11 : ∀ w ∈ u_ws RX11 TX11 26, w ∈ wsX11_octet := by decide +kernel
  have hM55 : (Cond.fieldLink RX11 55 (TX11 17).1 (TX11 17).2.1 (TX11 17).2.2.1).before ([.ref (gA Λ 31 0), .int (nI k)] : List Value).toArray s = true := hts (.fieldLink RX11 55 "CodeRoomsModel" "page" "[B") (by decide +kernel)
  have hL55 : FL RX11 55 (TX11 17).1 (TX11 17).2.1 (TX11 17).2.2.1 ([.ref (gA Λ 31 0), .int (nI k)] : List Value).toArray s := Or.inl hM55
  have hM73 : (Cond.fieldLink RX11 73 (TX11 0).1 (TX11 0).2.1 (TX11 0).2.2.1).before ([.ref (gA Λ 31 0), .int (nI k)] : List Value).toArray s = true := hts (.fieldLink RX11 73 "CodeRoomsModel" "thrown" "I") (by decide +kernel)
  have hL73 : FL RX11 73 (TX11 0).1 (TX11 0).2.1 (TX11 0).2.2.1 ([.ref (gA Λ 31 0), .int (nI k)] : List Value).toArray s := Or.inl hM73
  have hM160 : (Cond.fieldLink RX11 160 (TX11 18).1 (TX11 18).2.1 (TX11 18).2.2.1).before ([.ref (gA Λ 31 0), .int (nI k)] : List Value).toArray s = true := hts (.fieldLink RX11 160 "CodeRoomsModel" "pageLong" "I") (by decide +kernel)
  have hL160 : FL RX11 160 (TX11 18).1 (TX11 18).2.1 (TX11 18).2.2.1 ([.ref (gA Λ 31 0), .int (nI k)] : List Value).toArray s := Or.inl hM160
  have hn : M 31 5 ≤ 40 := hB 31 5 rfl
  refine j_aload_n C dX11_octet_0 rfl 0 rfl ?_
  refine j_iconst C (nI 0) dX11_octet_1 (by decide) ?_
  refine j_putI C hwX11 31 0 0 (MR0.in0 hM0) rfl rfl (by decide) rfl tyX11 tyX11_ok nmX11 rfl rfl rfl hL73 dX11_octet_2 ?_
  have hM := MR0.start hM0 h00
  have hs0 : Same nMo σ (sI σ 31 0 0 (nI 0)) := Same.sI Same.rf (by decide)
  generalize sI σ 31 0 0 (nI 0) = σ0 at hM hs0 ⊢
  refine j_iload_n C dX11_octet_5 rfl 1 rfl ?_
  refine j_if_lt (tgt := 26) C dX11_octet_6 (by decide) (nJ_lt0 (by omega)) (fun h6 => ?_) (fun h6 => ?_)
  · first | omega | exact h6.elim
  · refine j_iload_n C dX11_octet_9 rfl 1 rfl ?_
    refine j_aload_n C dX11_octet_10 rfl 0 rfl ?_
    have hb11 : M 31 18 ≤ 40 := hB 31 18 rfl
    refine j_getI C hwX11 31 0 18 (MR.in0 hM (by decide) (by decide)) rfl rfl (by decide) rfl (nI (M 31 18)) (hM.1 31 18 rfl) hL160 dX11_octet_11 ?_
    refine j_icmp_ge (tgt := 26) C dX11_octet_14 (by decide) (nI_leI (by omega) (by omega)) (fun h14 => ?_) (fun h14 => ?_)
    · first | omega | exact h6.elim
    · refine j_aload_n C dX11_octet_17 rfl 0 rfl ?_
      refine j_getV C hwX11 31 0 17 (MR.in0 hM (by decide) (by decide)) rfl rfl (by decide) rfl 0 (hM.2.2.2 17 rfl) hL55 dX11_octet_18 ?_
      refine j_iload_n C dX11_octet_21 rfl 1 rfl ?_
      have hb22 : M 43 k ≤ 255 := hB 43 k (decide_eq_true (show k < 20 by omega))
      refine j_bald C 43 0 k (MR.in0 hM (by decide) (by decide)) rfl rfl 20 (hM.2.2.1 43 (by decide) (by decide)) (by omega) (by omega) (nI (M 43 k)) (hM.1 43 k (decide_eq_true (show k < 20 by omega))) dX11_octet_22 ?_
      refine j_goto (tgt := 27) C dX11_octet_23 (by decide) ?_
      exact j_iret C hr hlk (⟨hM, hs0, rfl⟩) dX11_octet_27

set_option maxHeartbeats 4000000 in
set_option maxRecDepth 100000 in
theorem c_mfeed_no (l : Launch) (D : va_G) (cy : Nat → ClassId) (base : Nat) (Λ : LY) (σ : HS) (M : MM) (hM0 : MR0 Λ σ M) (h00 : M 31 0 = 0) (hB : MBd M) (a1 a2 a3 a4 a5 : Int32) (hA : 20 < M 31 2) : Met l yX11_feed wsX11_feed ({ frames := 16, cells := 0, slots := 0, locals := 240 }) (va_Pc [.ref (gA Λ 31 0), .int (a1), .int (a2), .int (a3), .int (a4), .int (a5)] (Wd D cy base Λ σ)) (va_Qi (fun v u => MR Λ u M ∧ Same nMo σ u ∧ v = -1) (Wd D cy base Λ) (Ab base)) 0 0 (Ab base) := by
  refine j_start (cc := cX11_feed) (nL := 9) (ret := (some .int)) (lv := [(0, .ref (gA Λ 31 0)), (1, .int (a1)), (2, .int (a2)), (3, .int (a3)), (4, .int (a4)), (5, .int (a5))]) (by decide) rfl (Nat.le_of_ble_eq_true rfl) rfl ?_
  intro p e s m below meth c C hr hlk hnm
  have C : Cx p s m ([.ref (gA Λ 31 0), .int (a1), .int (a2), .int (a3), .int (a4), .int (a5)] : List Value).toArray c cX11_feed 9 RX11 wsX11_feed D cy base := C
  have hts := C.2.2.2.2.1
  have hwX11 : ∀ w ∈ u_ws RX11 TX11 26, w ∈ wsX11_feed := by decide +kernel
  have hM73 : (Cond.fieldLink RX11 73 (TX11 0).1 (TX11 0).2.1 (TX11 0).2.2.1).before ([.ref (gA Λ 31 0), .int (a1), .int (a2), .int (a3), .int (a4), .int (a5)] : List Value).toArray s = true := hts (.fieldLink RX11 73 "CodeRoomsModel" "thrown" "I") (by decide +kernel)
  have hL73 : FL RX11 73 (TX11 0).1 (TX11 0).2.1 (TX11 0).2.2.1 ([.ref (gA Λ 31 0), .int (a1), .int (a2), .int (a3), .int (a4), .int (a5)] : List Value).toArray s := Or.inl hM73
  have hM76 : (Cond.fieldLink RX11 76 (TX11 2).1 (TX11 2).2.1 (TX11 2).2.2.1).before ([.ref (gA Λ 31 0), .int (a1), .int (a2), .int (a3), .int (a4), .int (a5)] : List Value).toArray s = true := hts (.fieldLink RX11 76 "CodeRoomsModel" "taped" "I") (by decide +kernel)
  have hL76 : FL RX11 76 (TX11 2).1 (TX11 2).2.1 (TX11 2).2.2.1 ([.ref (gA Λ 31 0), .int (a1), .int (a2), .int (a3), .int (a4), .int (a5)] : List Value).toArray s := Or.inl hM76
  have hn : M 31 5 ≤ 40 := hB 31 5 rfl
  refine j_aload_n C dX11_feed_0 rfl 0 rfl ?_
  refine j_iconst C (nI 0) dX11_feed_1 (by decide) ?_
  refine j_putI C hwX11 31 0 0 (MR0.in0 hM0) rfl rfl (by decide) rfl tyX11 tyX11_ok nmX11 rfl rfl rfl hL73 dX11_feed_2 ?_
  have hM := MR0.start hM0 h00
  have hs0 : Same nMo σ (sI σ 31 0 0 (nI 0)) := Same.sI Same.rf (by decide)
  generalize sI σ 31 0 0 (nI 0) = σ0 at hM hs0 ⊢
  refine j_aload_n C dX11_feed_5 rfl 0 rfl ?_
  have hb6 : M 31 2 ≤ 40 := hB 31 2 rfl
  refine j_getI C hwX11 31 0 2 (MR.in0 hM (by decide) (by decide)) rfl rfl (by decide) rfl (nI (M 31 2)) (hM.1 31 2 rfl) hL76 dX11_feed_6 ?_
  refine j_bipush C (nI 20) dX11_feed_9 (by decide) ?_
  refine j_iadd C (nI (M 31 2 + 20)) dX11_feed_11 (nI_add _ _) ?_
  refine j_bipush C (nI 40) dX11_feed_12 (by decide) ?_
  refine j_icmp_le (tgt := 19) C dX11_feed_14 (by decide) (nI_leI (by omega) (by omega)) (fun h14 => ?_) (fun h14 => ?_)
  · omega
  · refine j_iconst C ((-1)) dX11_feed_17 (by decide) ?_
    exact j_iret C hr hlk (⟨hM, hs0, rfl⟩) dX11_feed_18

set_option maxHeartbeats 8000000 in
set_option maxRecDepth 100000 in
theorem c_mfeed_ok (l : Launch) (D : va_G) (cy : Nat → ClassId) (base : Nat) (Λ : LY) (σ : HS) (M : MM) (hM0 : MR0 Λ σ M) (h00 : M 31 0 = 0) (hB : MBd M) (a1 a2 a3 a4 a5 : Int32) (hA : M 31 2 ≤ 20) : Met l yX11_feed wsX11_feed ({ frames := 16, cells := 0, slots := 0, locals := 240 }) (va_Pc [.ref (gA Λ 31 0), .int (a1), .int (a2), .int (a3), .int (a4), .int (a5)] (Wd D cy base Λ σ)) (va_Qi (fun v u => MR Λ u (feedTo M (M 31 2) (fedB a1 a2 a3 a4 a5) 20) ∧ Same nMo σ u ∧ v = nI (M 31 2 + 20)) (Wd D cy base Λ) (Ab base)) 0 0 (Ab base) := by
  refine j_start (cc := cX11_feed) (nL := 9) (ret := (some .int)) (lv := [(0, .ref (gA Λ 31 0)), (1, .int (a1)), (2, .int (a2)), (3, .int (a3)), (4, .int (a4)), (5, .int (a5))]) (by decide) rfl (Nat.le_of_ble_eq_true rfl) rfl ?_
  intro p e s m below meth c C hr hlk hnm
  have C : Cx p s m ([.ref (gA Λ 31 0), .int (a1), .int (a2), .int (a3), .int (a4), .int (a5)] : List Value).toArray c cX11_feed 9 RX11 wsX11_feed D cy base := C
  have hts := C.2.2.2.2.1
  have hwX11 : ∀ w ∈ u_ws RX11 TX11 26, w ∈ wsX11_feed := by decide +kernel
  have hM7 : (Cond.fieldLink RX11 7 (TX11 1).1 (TX11 1).2.1 (TX11 1).2.2.1).before ([.ref (gA Λ 31 0), .int (a1), .int (a2), .int (a3), .int (a4), .int (a5)] : List Value).toArray s = true := hts (.fieldLink RX11 7 "CodeRoomsModel" "tape" "[B") (by decide +kernel)
  have hL7 : FL RX11 7 (TX11 1).1 (TX11 1).2.1 (TX11 1).2.2.1 ([.ref (gA Λ 31 0), .int (a1), .int (a2), .int (a3), .int (a4), .int (a5)] : List Value).toArray s := Or.inl hM7
  have hM73 : (Cond.fieldLink RX11 73 (TX11 0).1 (TX11 0).2.1 (TX11 0).2.2.1).before ([.ref (gA Λ 31 0), .int (a1), .int (a2), .int (a3), .int (a4), .int (a5)] : List Value).toArray s = true := hts (.fieldLink RX11 73 "CodeRoomsModel" "thrown" "I") (by decide +kernel)
  have hL73 : FL RX11 73 (TX11 0).1 (TX11 0).2.1 (TX11 0).2.2.1 ([.ref (gA Λ 31 0), .int (a1), .int (a2), .int (a3), .int (a4), .int (a5)] : List Value).toArray s := Or.inl hM73
  have hM76 : (Cond.fieldLink RX11 76 (TX11 2).1 (TX11 2).2.1 (TX11 2).2.2.1).before ([.ref (gA Λ 31 0), .int (a1), .int (a2), .int (a3), .int (a4), .int (a5)] : List Value).toArray s = true := hts (.fieldLink RX11 76 "CodeRoomsModel" "taped" "I") (by decide +kernel)
  have hL76 : FL RX11 76 (TX11 2).1 (TX11 2).2.1 (TX11 2).2.2.1 ([.ref (gA Λ 31 0), .int (a1), .int (a2), .int (a3), .int (a4), .int (a5)] : List Value).toArray s := Or.inl hM76
  have hn : M 31 5 ≤ 40 := hB 31 5 rfl
  refine j_aload_n C dX11_feed_0 rfl 0 rfl ?_
  refine j_iconst C (nI 0) dX11_feed_1 (by decide) ?_
  refine j_putI C hwX11 31 0 0 (MR0.in0 hM0) rfl rfl (by decide) rfl tyX11 tyX11_ok nmX11 rfl rfl rfl hL73 dX11_feed_2 ?_
  have hM := MR0.start hM0 h00
  have hs0 : Same nMo σ (sI σ 31 0 0 (nI 0)) := Same.sI Same.rf (by decide)
  generalize sI σ 31 0 0 (nI 0) = σ0 at hM hs0 ⊢
  refine j_aload_n C dX11_feed_5 rfl 0 rfl ?_
  have hb6 : M 31 2 ≤ 40 := hB 31 2 rfl
  refine j_getI C hwX11 31 0 2 (MR.in0 hM (by decide) (by decide)) rfl rfl (by decide) rfl (nI (M 31 2)) (hM.1 31 2 rfl) hL76 dX11_feed_6 ?_
  refine j_bipush C (nI 20) dX11_feed_9 (by decide) ?_
  refine j_iadd C (nI (M 31 2 + 20)) dX11_feed_11 (nI_add _ _) ?_
  refine j_bipush C (nI 40) dX11_feed_12 (by decide) ?_
  refine j_icmp_le (tgt := 19) C dX11_feed_14 (by decide) (nI_leI (by omega) (by omega)) (fun h14 => ?_) (fun h14 => ?_)
  · refine j_iconst C (nI 0) dX11_feed_19 (by decide) ?_
    refine j_istore C [(6, .int (nI 0)), (0, .ref (gA Λ 31 0)), (1, .int (a1)), (2, .int (a2)), (3, .int (a3)), (4, .int (a4)), (5, .int (a5))] dX11_feed_20 (by decide) rfl ?_
    have lb22 : ∀ (fu : Nat) (σ1 : HS) (w : Nat), (5 - w) < fu → (w ≤ 5) → (MR Λ σ1 (feedTo M (M 31 2) (fedB a1 a2 a3 a4 a5) (4 * w))) → (Same nMo σ σ1) → J p l e ({ frames := 16, cells := 0, slots := 0, locals := 240 }) s m ([.ref (gA Λ 31 0), .int (a1), .int (a2), .int (a3), .int (a4), .int (a5)] : List Value).toArray below meth c 9 D cy base (MQ below (va_Qi (fun v u => MR Λ u (feedTo M (M 31 2) (fedB a1 a2 a3 a4 a5) 20) ∧ Same nMo σ u ∧ v = nI (M 31 2 + 20)) (Wd D cy base Λ) (Ab base)) ([.ref (gA Λ 31 0), .int (a1), .int (a2), .int (a3), .int (a4), .int (a5)] : List Value).toArray s 0 0 (Ab base)) 0 0 Λ 22 [(0, .ref (gA Λ 31 0)), (1, .int (a1)), (2, .int (a2)), (3, .int (a3)), (4, .int (a4)), (5, .int (a5)), (6, .int (nI w))] [] σ1 := by
      intro fu
      induction fu with
      | zero => intro σ1 w hfu; exact absurd hfu (Nat.not_lt_zero _)
      | succ fu ih =>
        intro σ1 w hfu hw hM1 hs1
        have ih22 := ih
        refine j_iload C dX11_feed_22 6 rfl ?_
        refine j_iconst C (nI 5) dX11_feed_24 (by decide) ?_
        refine j_icmp_ge (tgt := 118) C dX11_feed_25 (by decide) (nI_leI (by omega) (by omega)) (fun h25 => ?_) (fun h25 => ?_)
        · have hw5 : w = 5 := by omega
          refine j_aload_n C dX11_feed_118 rfl 0 rfl ?_
          refine j_getI C hwX11 31 0 2 (MR.in0 hM1 (by decide) (by decide)) rfl rfl (by decide) rfl (nI (M 31 2 + (4 * w))) ((hM1.1 31 2 rfl).trans (congrArg (menc 31) feedTo_2)) hL76 dX11_feed_119 ?_
          exact j_iret C hr hlk (⟨by have q := hM1; rw [hw5] at q; exact q, hs1, by rw [hw5]⟩) dX11_feed_122
        · have lb70 : ∀ (v : Int32), (v = wrd a1 a2 a3 a4 a5 w) → J p l e ({ frames := 16, cells := 0, slots := 0, locals := 240 }) s m ([.ref (gA Λ 31 0), .int (a1), .int (a2), .int (a3), .int (a4), .int (a5)] : List Value).toArray below meth c 9 D cy base (MQ below (va_Qi (fun v u => MR Λ u (feedTo M (M 31 2) (fedB a1 a2 a3 a4 a5) 20) ∧ Same nMo σ u ∧ v = nI (M 31 2 + 20)) (Wd D cy base Λ) (Ab base)) ([.ref (gA Λ 31 0), .int (a1), .int (a2), .int (a3), .int (a4), .int (a5)] : List Value).toArray s 0 0 (Ab base)) 0 0 Λ 70 [(0, .ref (gA Λ 31 0)), (1, .int (a1)), (2, .int (a2)), (3, .int (a3)), (4, .int (a4)), (5, .int (a5)), (6, .int (nI w))] [.int (v)] σ1 := by
            intro v hv
            refine j_istore C [(7, .int (v)), (0, .ref (gA Λ 31 0)), (1, .int (a1)), (2, .int (a2)), (3, .int (a3)), (4, .int (a4)), (5, .int (a5)), (6, .int (nI w))] dX11_feed_70 (by decide) rfl ?_
            refine j_bipush C (nI 24) dX11_feed_72 (by decide) ?_
            refine j_istore C [(8, .int (nI 24)), (7, .int (v)), (0, .ref (gA Λ 31 0)), (1, .int (a1)), (2, .int (a2)), (3, .int (a3)), (4, .int (a4)), (5, .int (a5)), (6, .int (nI w))] dX11_feed_74 (by decide) rfl ?_
            have lb76 : ∀ (fu : Nat) (σ2 : HS) (x8 : Int32) (j : Nat), (4 - j) < fu → (j ≤ 4) → (x8 = nI (32 - 8 * j) - nI 8) → (MR Λ σ2 (feedTo M (M 31 2) (fedB a1 a2 a3 a4 a5) (4 * w + j))) → (Same nMo σ σ2) → J p l e ({ frames := 16, cells := 0, slots := 0, locals := 240 }) s m ([.ref (gA Λ 31 0), .int (a1), .int (a2), .int (a3), .int (a4), .int (a5)] : List Value).toArray below meth c 9 D cy base (MQ below (va_Qi (fun v u => MR Λ u (feedTo M (M 31 2) (fedB a1 a2 a3 a4 a5) 20) ∧ Same nMo σ u ∧ v = nI (M 31 2 + 20)) (Wd D cy base Λ) (Ab base)) ([.ref (gA Λ 31 0), .int (a1), .int (a2), .int (a3), .int (a4), .int (a5)] : List Value).toArray s 0 0 (Ab base)) 0 0 Λ 76 [(0, .ref (gA Λ 31 0)), (1, .int (a1)), (2, .int (a2)), (3, .int (a3)), (4, .int (a4)), (5, .int (a5)), (6, .int (nI w)), (7, .int (v)), (8, .int (x8))] [] σ2 := by
              intro fu
              induction fu with
              | zero => intro σ2 x8 j hfu; exact absurd hfu (Nat.not_lt_zero _)
              | succ fu ih =>
                intro σ2 x8 j hfu hj hx8 hM2 hs2
                have ih76 := ih
                refine j_iload C dX11_feed_76 8 rfl ?_
                refine j_if_lt (tgt := 112) C dX11_feed_78 (by decide) (show (x8 < 0) ↔ j = 4 by rw [hx8]; exact x8_neg hj) (fun h78 => ?_) (fun h78 => ?_)
                · refine j_iinc C [(6, .int (nI (w + 1))), (0, .ref (gA Λ 31 0)), (1, .int (a1)), (2, .int (a2)), (3, .int (a3)), (4, .int (a4)), (5, .int (a5)), (7, .int (v)), (8, .int (x8))] (nI (w + 1)) dX11_feed_112 6 rfl (nI_add _ 1) (by decide) rfl ?_
                  refine j_goto (tgt := 22) C dX11_feed_115 (by decide) ?_
                  refine j_lv [1, 2, 3, 4, 5, 6, 0] rfl ?_
                  exact ih22 σ2 (w + 1) (by omega) (by omega) (by rw [show 4 * (w + 1) = 4 * w + j by omega]; exact hM2) hs2
                · have hx9 : x8 = nI (24 - 8 * j) := by rw [hx8]; exact x8_pos (by omega)
                  refine j_aload_n C dX11_feed_81 rfl 0 rfl ?_
                  refine j_getV C hwX11 31 0 1 (MR.in0 hM2 (by decide) (by decide)) rfl rfl (by decide) rfl 0 (hM2.2.2.2 1 rfl) hL7 dX11_feed_82 ?_
                  refine j_aload_n C dX11_feed_85 rfl 0 rfl ?_
                  refine j_getI C hwX11 31 0 2 (MR.in0 hM2 (by decide) (by decide)) rfl rfl (by decide) rfl (nI (M 31 2 + (4 * w + j))) ((hM2.1 31 2 rfl).trans (congrArg (menc 31) feedTo_2)) hL76 dX11_feed_86 ?_
                  refine j_iload C dX11_feed_89 7 rfl ?_
                  refine j_iload C dX11_feed_91 8 rfl ?_
                  refine j_ishr C (v >>> (x8 &&& 31)) dX11_feed_93 rfl ?_
                  refine j_i2b C ((v >>> (x8 &&& 31)).toInt8.toInt32) dX11_feed_94 rfl ?_
                  refine j_bast C 32 0 (M 31 2 + (4 * w + j)) (MR.in0 hM2 (by decide) (by decide)) rfl rfl 40 (hM2.2.2.1 32 (by decide) (by decide)) (by omega) (by omega) ((v >>> (x8 &&& 31)).toInt8.toInt32) (pk_vb _) dX11_feed_95 ?_
                  have hM_7 := MR.set (t := 32) (k := (M 31 2 + (4 * w + j))) (x := (fedB a1 a2 a3 a4 a5 (4 * w + j))) (v := ((v >>> (x8 &&& 31)).toInt8.toInt32)) hM2 (by rw [hx9, by8, shr_byte v (by omega), hv]; show _ = (nI (bytN (wrd a1 a2 a3 a4 a5 ((4 * w + j) / 4)) ((4 * w + j) % 4))).toInt8.toInt32; rw [show (4 * w + j) / 4 = w by omega, show (4 * w + j) % 4 = j by omega])
                  have hs_8 := Same.sI (t := 32) (i := 0) (k := (M 31 2 + (4 * w + j))) (x := ((v >>> (x8 &&& 31)).toInt8.toInt32)) hs2 (by decide)
                  refine j_aload_n C dX11_feed_96 rfl 0 rfl ?_
                  refine j_dup C dX11_feed_97 rfl ?_
                  refine j_getI C hwX11 31 0 2 (MR.in0 hM_7 (by decide) (by decide)) rfl rfl (by decide) rfl (nI (M 31 2 + (4 * w + j))) (((hM_7.1 31 2 rfl).trans (congrArg (menc 31) (mS_ne (Or.inl (by decide))))).trans (congrArg (menc 31) feedTo_2)) hL76 dX11_feed_98 ?_
                  refine j_iconst C (nI 1) dX11_feed_101 (by decide) ?_
                  refine j_iadd C (nI (M 31 2 + (4 * w + j) + 1)) dX11_feed_102 (nI_add _ _) ?_
                  refine j_putI C hwX11 31 0 2 (MR.in0 hM_7 (by decide) (by decide)) rfl rfl (by decide) rfl tyX11 tyX11_ok nmX11 rfl rfl rfl hL76 dX11_feed_103 ?_
                  have hM_9 := MR.set (t := 31) (k := 2) (x := (M 31 2 + (4 * w + j) + 1)) (v := (nI (M 31 2 + (4 * w + j) + 1))) hM_7 rfl
                  have hs_10 := Same.sI (t := 31) (i := 0) (k := 2) (x := (nI (M 31 2 + (4 * w + j) + 1))) hs_8 (by decide)
                  refine j_iinc C [(8, .int (x8 + Int32.ofInt (-8))), (0, .ref (gA Λ 31 0)), (1, .int (a1)), (2, .int (a2)), (3, .int (a3)), (4, .int (a4)), (5, .int (a5)), (6, .int (nI w)), (7, .int (v))] (x8 + Int32.ofInt (-8)) dX11_feed_106 8 rfl rfl (by decide) rfl ?_
                  refine j_goto (tgt := 76) C dX11_feed_109 (by decide) ?_
                  refine j_lv [1, 2, 3, 4, 5, 6, 7, 8, 0] rfl ?_
                  exact ih76 (sI (sI σ2 32 0 (M 31 2 + (4 * w + j)) ((v >>> (x8 &&& 31)).toInt8.toInt32)) 31 0 2 (nI (M 31 2 + (4 * w + j) + 1))) (x8 + Int32.ofInt (-8)) (j + 1) (by omega) (by omega) (by rw [hx8]; exact x8_dec (by omega)) (by rw [show 4 * w + (j + 1) = (4 * w + j) + 1 by omega, ← feedTo_succ (x := fedB a1 a2 a3 a4 a5 (4 * w + j)) rfl rfl]; exact hM_9) hs_10
            refine j_lv [2, 3, 4, 5, 6, 7, 8, 1, 0] rfl ?_
            exact lb76 _ σ1 (nI 24) 0 (Nat.lt_succ_self _) (by omega) (by decide) hM1 hs1
          refine j_iload C dX11_feed_28 6 rfl ?_
          refine j_if_ne (tgt := 37) C dX11_feed_30 (by decide) (nJ_ne0 (by omega)) (fun h30 => ?_) (fun h30 => ?_)
          · refine j_iload C dX11_feed_37 6 rfl ?_
            refine j_iconst C (nI 1) dX11_feed_39 (by decide) ?_
            refine j_icmp_ne (tgt := 47) C dX11_feed_40 (by decide) (nI_eq (by omega) (by omega)) (fun h40 => ?_) (fun h40 => ?_)
            · refine j_iload C dX11_feed_47 6 rfl ?_
              refine j_iconst C (nI 2) dX11_feed_49 (by decide) ?_
              refine j_icmp_ne (tgt := 57) C dX11_feed_50 (by decide) (nI_eq (by omega) (by omega)) (fun h50 => ?_) (fun h50 => ?_)
              · refine j_iload C dX11_feed_57 6 rfl ?_
                refine j_iconst C (nI 3) dX11_feed_59 (by decide) ?_
                refine j_icmp_ne (tgt := 68) C dX11_feed_60 (by decide) (nI_eq (by omega) (by omega)) (fun h60 => ?_) (fun h60 => ?_)
                · refine j_iload C dX11_feed_68 5 rfl ?_
                  exact lb70 a5 (by have hw4 : w = 4 := (by omega); rw [hw4]; rfl)
                · refine j_iload C dX11_feed_63 4 rfl ?_
                  refine j_goto (tgt := 70) C dX11_feed_65 (by decide) ?_
                  exact lb70 a4 (by have hw4 : w = 3 := (by omega); rw [hw4]; rfl)
              · refine j_iload_n C dX11_feed_53 rfl 3 rfl ?_
                refine j_goto (tgt := 70) C dX11_feed_54 (by decide) ?_
                exact lb70 a3 (by have hw4 : w = 2 := (by omega); rw [hw4]; rfl)
            · refine j_iload_n C dX11_feed_43 rfl 2 rfl ?_
              refine j_goto (tgt := 70) C dX11_feed_44 (by decide) ?_
              exact lb70 a2 (by have hw4 : w = 1 := (by omega); rw [hw4]; rfl)
          · refine j_iload_n C dX11_feed_33 rfl 1 rfl ?_
            refine j_goto (tgt := 70) C dX11_feed_34 (by decide) ?_
            exact lb70 a1 (by have hw4 : w = 0 := (by omega); rw [hw4]; rfl)
    refine j_lv [1, 2, 3, 4, 5, 6, 0] rfl ?_
    exact lb22 _ σ0 0 (Nat.lt_succ_self _) (by omega) (by rw [feedTo_0]; exact hM) hs0
  · omega
