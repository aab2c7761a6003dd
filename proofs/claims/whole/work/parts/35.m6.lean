set_option maxHeartbeats 4000000 in
set_option maxRecDepth 100000 in
theorem c_mcost (l : Launch) (D : va_G) (cy : Nat → ClassId) (base : Nat) (Λ : LY) (σ : HS) (M : MM) (hM0 : MR0 Λ σ M) (h00 : M 31 0 = 0) (hB : MBd M)  : Met l yX11_cost wsX11_cost ({ frames := 16, cells := 0, slots := 0, locals := 240 }) (va_Pc [.ref (gA Λ 31 0)] (Wd D cy base Λ σ)) (va_Ql (fun v u => MR Λ u M ∧ Same nMo σ u ∧ v = zL (costN M : Int)) (Wd D cy base Λ) (Ab base)) 0 0 (Ab base) := by
  refine j_start (cc := cX11_cost) (nL := 1) (ret := (some .long)) (lv := [(0, .ref (gA Λ 31 0))]) (by decide) rfl (Nat.le_of_ble_eq_true rfl) rfl ?_
  intro p e s m below meth c C hr hlk hnm
  have C : Cx p s m ([.ref (gA Λ 31 0)] : List Value).toArray c cX11_cost 1 RX11 wsX11_cost D cy base := C
  have hts := C.2.2.2.2.1
  have hwX11 : ∀ w ∈ u_ws RX11 TX11 26, w ∈ wsX11_cost := by decide +kernel
  have hM73 : (Cond.fieldLink RX11 73 (TX11 0).1 (TX11 0).2.1 (TX11 0).2.2.1).before ([.ref (gA Λ 31 0)] : List Value).toArray s = true := hts (.fieldLink RX11 73 "CodeRoomsModel" "thrown" "I") (by decide +kernel)
  have hL73 : FL RX11 73 (TX11 0).1 (TX11 0).2.1 (TX11 0).2.2.1 ([.ref (gA Λ 31 0)] : List Value).toArray s := Or.inl hM73
  have hn : M 31 5 ≤ 40 := hB 31 5 rfl
  refine j_aload_n C dX11_cost_0 rfl 0 rfl ?_
  refine j_iconst C (nI 0) dX11_cost_1 (by decide) ?_
  refine j_putI C hwX11 31 0 0 (MR0.in0 hM0) rfl rfl (by decide) rfl tyX11 tyX11_ok nmX11 rfl rfl rfl hL73 dX11_cost_2 ?_
  have hM := MR0.start hM0 h00
  have hs0 : Same nMo σ (sI σ 31 0 0 (nI 0)) := Same.sI Same.rf (by decide)
  generalize sI σ 31 0 0 (nI 0) = σ0 at hM hs0 ⊢
  refine j_aload_n C dX11_cost_5 rfl 0 rfl ?_
  refine c_l0 C (r_V C 31 0 [] (c_X11_costNow l D cy base Λ σ0 M hM hB) (cwV 0 hts gX11_cost_X11_costNow rfl rfl rfl (by decide +kernel) ⟨by decide, by decide⟩) (MR.in0 hM (by decide) (by decide)) rfl rfl rfl rfl (Nat.le_of_ble_eq_true rfl) dX11_cost_6 ⟨by decide, by decide⟩) (fun rv uu hp => ?_)
  rw [hp.1, hp.2]
  exact j_lret C hr hlk (⟨hM, hs0, rfl⟩) dX11_cost_9

set_option maxHeartbeats 4000000 in
set_option maxRecDepth 100000 in
theorem c_mborder_ok (l : Launch) (D : va_G) (cy : Nat → ClassId) (base : Nat) (Λ : LY) (σ : HS) (M : MM) (hM0 : MR0 Λ σ M) (h00 : M 31 0 = 0) (hB : MBd M) (j : Nat) (hj : j < M 31 5) (hR : M 31 10 ≤ 6) : Met l yX11_border wsX11_border ({ frames := 24, cells := 0, slots := 0, locals := 360 }) (va_Pc [.ref (gA Λ 31 0), .int (nI j)] (Wd D cy base Λ σ)) (va_Ql (fun v u => MR Λ u M ∧ Same nMo σ u ∧ v = zL (bdrV M j)) (Wd D cy base Λ) (Ab base)) 0 0 (Ab base) := by
  refine j_start (cc := cX11_border) (nL := 8) (ret := (some .long)) (lv := [(0, .ref (gA Λ 31 0)), (1, .int (nI j))]) (by decide) rfl (Nat.le_of_ble_eq_true rfl) rfl ?_
  intro p e s m below meth c C hr hlk hnm
  have C : Cx p s m ([.ref (gA Λ 31 0), .int (nI j)] : List Value).toArray c cX11_border 8 RX11 wsX11_border D cy base := C
  have hts := C.2.2.2.2.1
  have hwX11 : ∀ w ∈ u_ws RX11 TX11 26, w ∈ wsX11_border := by decide +kernel
  have hM33 : (Cond.fieldLink RX11 33 (TX11 10).1 (TX11 10).2.1 (TX11 10).2.2.1).before ([.ref (gA Λ 31 0), .int (nI j)] : List Value).toArray s = true := hts (.fieldLink RX11 33 "CodeRoomsModel" "rooms" "I") (by decide +kernel)
  have hL33 : FL RX11 33 (TX11 10).1 (TX11 10).2.1 (TX11 10).2.2.1 ([.ref (gA Λ 31 0), .int (nI j)] : List Value).toArray s := Or.inl hM33
  have hM36 : (Cond.fieldLink RX11 36 (TX11 11).1 (TX11 11).2.1 (TX11 11).2.2.1).before ([.ref (gA Λ 31 0), .int (nI j)] : List Value).toArray s = true := hts (.fieldLink RX11 36 "CodeRoomsModel" "isHub" "[Z") (by decide +kernel)
  have hL36 : FL RX11 36 (TX11 11).1 (TX11 11).2.1 (TX11 11).2.2.1 ([.ref (gA Λ 31 0), .int (nI j)] : List Value).toArray s := Or.inl hM36
  have hM40 : (Cond.fieldLink RX11 40 (TX11 12).1 (TX11 12).2.1 (TX11 12).2.2.1).before ([.ref (gA Λ 31 0), .int (nI j)] : List Value).toArray s = true := hts (.fieldLink RX11 40 "CodeRoomsModel" "roomOf" "[I") (by decide +kernel)
  have hL40 : FL RX11 40 (TX11 12).1 (TX11 12).2.1 (TX11 12).2.2.1 ([.ref (gA Λ 31 0), .int (nI j)] : List Value).toArray s := Or.inl hM40
  have hM73 : (Cond.fieldLink RX11 73 (TX11 0).1 (TX11 0).2.1 (TX11 0).2.2.1).before ([.ref (gA Λ 31 0), .int (nI j)] : List Value).toArray s = true := hts (.fieldLink RX11 73 "CodeRoomsModel" "thrown" "I") (by decide +kernel)
  have hL73 : FL RX11 73 (TX11 0).1 (TX11 0).2.1 (TX11 0).2.2.1 ([.ref (gA Λ 31 0), .int (nI j)] : List Value).toArray s := Or.inl hM73
  have hC147 : (Jvm.Cond.constantLong RX11 147 1000000000).before ([.ref (gA Λ 31 0), .int (nI j)] : List Value).toArray s = true := hts _ (by decide +kernel)
  have hn : M 31 5 ≤ 40 := hB 31 5 rfl
  refine j_aload_n C dX11_border_0 rfl 0 rfl ?_
  refine j_iconst C (nI 0) dX11_border_1 (by decide) ?_
  refine j_putI C hwX11 31 0 0 (MR0.in0 hM0) rfl rfl (by decide) rfl tyX11 tyX11_ok nmX11 rfl rfl rfl hL73 dX11_border_2 ?_
  have hM := MR0.start hM0 h00
  have hs0 : Same nMo σ (sI σ 31 0 0 (nI 0)) := Same.sI Same.rf (by decide)
  generalize sI σ 31 0 0 (nI 0) = σ0 at hM hs0 ⊢
  refine j_aload_n C dX11_border_5 rfl 0 rfl ?_
  refine j_aload_n C dX11_border_6 rfl 0 rfl ?_
  refine j_iload_n C dX11_border_7 rfl 1 rfl ?_
  refine c_i0 C (r_V C 31 0 [.int (nI j)] (c_X11_isRoutine l D cy base Λ σ0 M hM hB (nI j)) (cwV 1 hts gX11_border_X11_isRoutine rfl rfl rfl (by decide +kernel) ⟨by decide, by decide⟩) (MR.in0 hM (by decide) (by decide)) rfl rfl rfl rfl (Nat.le_of_ble_eq_true rfl) dX11_border_8 ⟨by decide, by decide⟩) (fun rv uu hp => ?_)
  rw [hp.1, hp.2]
  refine j_ifne_b (tgt := 18) C dX11_border_11 (by decide) (fun h11 => ?_) (fun h11 => ?_)
  · refine j_iconst C (nI 0) dX11_border_18 (by decide) ?_
    refine j_iconst C (nI 1) dX11_border_19 (by decide) ?_
    refine c_i0 C (r_V C 31 0 [.int (nI 0), .int (nI 1)] (c_X11_bad0 l D cy base Λ σ0 (MR.in0 hM (by decide) (by decide)) 1) (cwV 2 hts gX11_border_X11_bad rfl rfl rfl (by decide +kernel) ⟨by decide, by decide⟩) (MR.in0 hM (by decide) (by decide)) rfl rfl rfl rfl (Nat.le_of_ble_eq_true rfl) dX11_border_20 ⟨by decide, by decide⟩) (fun rv uu hp => ?_)
    rw [hp.1, hp.2]
    refine j_if_eq (tgt := 28) C (P := True) dX11_border_23 (by decide) (by decide) (fun z => ?_) (fun z => ?_)
    · refine j_aload_n C dX11_border_28 rfl 0 rfl ?_
      refine j_getV C hwX11 31 0 11 (MR.in0 hM (by decide) (by decide)) rfl rfl (by decide) rfl 0 (hM.2.2.2 11 rfl) hL36 dX11_border_29 ?_
      refine j_iload_n C dX11_border_32 rfl 1 rfl ?_
      have hb33 : M 37 j ≤ 1 := hB 37 j (decide_eq_true (show j < 40 by omega))
      refine j_zald C 37 0 j (MR.in0 hM (by decide) (by decide)) rfl rfl 40 (hM.2.2.1 37 (by decide) (by decide)) (by omega) (by omega) (nI (M 37 j)) (hM.1 37 j (decide_eq_true (show j < 40 by omega))) dX11_border_33 ?_
      refine j_if_ne (tgt := 45) C dX11_border_34 (by decide) (nJ_ne0 (by omega)) (fun h34 => ?_) (fun h34 => ?_)
      · refine j_ldc2 C (zL 1000000000) hC147 dX11_border_45 (by decide) ?_
        exact j_lret C hr hlk (⟨hM, hs0, (by unfold bdrV; rw [if_pos (by omega)])⟩) dX11_border_48
      · refine j_aload_n C dX11_border_37 rfl 0 rfl ?_
        have hb38 : M 31 10 ≤ 40 := hB 31 10 rfl
        refine j_getI C hwX11 31 0 10 (MR.in0 hM (by decide) (by decide)) rfl rfl (by decide) rfl (nI (M 31 10)) (hM.1 31 10 rfl) hL33 dX11_border_38 ?_
        refine j_iconst C (nI 1) dX11_border_41 (by decide) ?_
        refine j_icmp_ne (tgt := 49) C dX11_border_42 (by decide) (nI_eq (by omega) (by omega)) (fun h42 => ?_) (fun h42 => ?_)
        · refine j_iconst C (nI 0) dX11_border_49 (by decide) ?_
          refine j_istore_n C [(2, .int (nI 0)), (0, .ref (gA Λ 31 0)), (1, .int (nI j))] dX11_border_50 rfl (by decide) rfl ?_
          refine j_lconst C (zL 0) dX11_border_51 (by decide) ?_
          refine j_lstore_n C [(3, .long (zL 0)), (2, .int (nI 0)), (0, .ref (gA Λ 31 0)), (1, .int (nI j))] dX11_border_52 rfl (by decide) rfl ?_
          refine j_iconst C (nI 0) dX11_border_53 (by decide) ?_
          refine j_istore C [(5, .int (nI 0)), (3, .long (zL 0)), (2, .int (nI 0)), (0, .ref (gA Λ 31 0)), (1, .int (nI j))] dX11_border_54 (by decide) rfl ?_
          have lb56 : ∀ (fu : Nat) (q : Nat) (z : Int) (k : Nat), (M 31 10 - k) < fu → (k ≤ M 31 10) → ((q = 0 ∧ bdrZ M j k = none ∧ z = 0) ∨ (q = 1 ∧ bdrZ M j k = some z)) → J p l e ({ frames := 24, cells := 0, slots := 0, locals := 360 }) s m ([.ref (gA Λ 31 0), .int (nI j)] : List Value).toArray below meth c 8 D cy base (MQ below (va_Ql (fun v u => MR Λ u M ∧ Same nMo σ u ∧ v = zL (bdrV M j)) (Wd D cy base Λ) (Ab base)) ([.ref (gA Λ 31 0), .int (nI j)] : List Value).toArray s 0 0 (Ab base)) 0 0 Λ 56 [(0, .ref (gA Λ 31 0)), (1, .int (nI j)), (2, .int (nI q)), (3, .long (zL z)), (5, .int (nI k))] [] σ0 := by
            intro fu
            induction fu with
            | zero => intro q z k hfu; exact absurd hfu (Nat.not_lt_zero _)
            | succ fu ih =>
              intro q z k hfu hk hz
              have ih56 := ih
              refine j_iload C dX11_border_56 4 rfl ?_
              refine j_aload_n C dX11_border_58 rfl 0 rfl ?_
              have hb59 : M 31 10 ≤ 40 := hB 31 10 rfl
              refine j_getI C hwX11 31 0 10 (MR.in0 hM (by decide) (by decide)) rfl rfl (by decide) rfl (nI (M 31 10)) (hM.1 31 10 rfl) hL33 dX11_border_59 ?_
              refine j_icmp_ge (tgt := 114) C dX11_border_62 (by decide) (nI_leI (by omega) (by omega)) (fun h62 => ?_) (fun h62 => ?_)
              · refine j_lload_n C dX11_border_114 rfl 3 rfl ?_
                exact j_lret C hr hlk (⟨hM, hs0, (by unfold bdrV; rw [if_neg (by omega), show M 31 10 = k by omega]; rcases hz with ⟨-, h, rfl⟩ | ⟨-, h⟩ <;> rw [h] <;> rfl)⟩) dX11_border_115
              · refine j_iload C dX11_border_65 4 rfl ?_
                refine j_aload_n C dX11_border_67 rfl 0 rfl ?_
                refine j_getV C hwX11 31 0 12 (MR.in0 hM (by decide) (by decide)) rfl rfl (by decide) rfl 0 (hM.2.2.2 12 rfl) hL40 dX11_border_68 ?_
                refine j_iload_n C dX11_border_71 rfl 1 rfl ?_
                have hb72 : M 38 j ≤ 5 := hB 38 j (decide_eq_true (show j < 40 by omega))
                refine j_iald C 38 0 j (MR.in0 hM (by decide) (by decide)) rfl rfl 40 (hM.2.2.1 38 (by decide) (by decide)) (by omega) (by omega) (nI (M 38 j)) (hM.1 38 j (decide_eq_true (show j < 40 by omega))) dX11_border_72 ?_
                refine j_icmp_ne (tgt := 79) C dX11_border_73 (by decide) (nI_eq (by omega) (by omega)) (fun h73 => ?_) (fun h73 => ?_)
                · have hq1 : q < 2 := hz.elim (fun z => by omega) (fun z => by omega)
                  refine j_aload_n C dX11_border_79 rfl 0 rfl ?_
                  refine j_iload_n C dX11_border_80 rfl 1 rfl ?_
                  refine j_iload C dX11_border_81 4 rfl ?_
                  have hmb := movZ_bd hB hn (r := j) (room := k) (by omega)
                  refine c_l0 C (r_V C 31 0 [.int (nI j), .int (nI k)] (c_X11_moved l D cy base Λ σ0 M hM hB j k (by omega) (by omega)) (cwV 2 hts gX11_border_X11_moved rfl rfl rfl (by decide +kernel) ⟨by decide, by decide⟩) (MR.in0 hM (by decide) (by decide)) rfl rfl rfl rfl (Nat.le_of_ble_eq_true rfl) dX11_border_83 ⟨by decide, by decide⟩) (fun rv uu hp => ?_)
                  rw [hp.1, hp.2]
                  refine j_lstore C [(6, .long (zL (movZ M j k))), (0, .ref (gA Λ 31 0)), (1, .int (nI j)), (2, .int (nI q)), (3, .long (zL z)), (5, .int (nI k))] dX11_border_86 (by decide) rfl ?_
                  refine j_iload_n C dX11_border_88 rfl 3 rfl ?_
                  refine j_if_eq (tgt := 99) C dX11_border_89 (by decide) (nJ_eq0 (by omega)) (fun h89 => ?_) (fun h89 => ?_)
                  · refine j_lload C dX11_border_99 0 rfl ?_
                    refine j_goto (tgt := 105) C dX11_border_101 (by decide) ?_
                    refine j_lstore_n C [(3, .long (zL (movZ M j k))), (6, .long (zL (movZ M j k))), (0, .ref (gA Λ 31 0)), (1, .int (nI j)), (2, .int (nI q)), (5, .int (nI k))] dX11_border_105 rfl (by decide) rfl ?_
                    refine j_iconst C (nI 1) dX11_border_106 (by decide) ?_
                    refine j_istore_n C [(2, .int (nI 1)), (3, .long (zL (movZ M j k))), (6, .long (zL (movZ M j k))), (0, .ref (gA Λ 31 0)), (1, .int (nI j)), (5, .int (nI k))] dX11_border_107 rfl (by decide) rfl ?_
                    refine j_iinc C [(5, .int (nI (k + 1))), (2, .int (nI 1)), (3, .long (zL (movZ M j k))), (6, .long (zL (movZ M j k))), (0, .ref (gA Λ 31 0)), (1, .int (nI j))] (nI (k + 1)) dX11_border_108 5 rfl (nI_add _ 1) (by decide) rfl ?_
                    refine j_goto (tgt := 56) C dX11_border_111 (by decide) ?_
                    refine j_lv [4, 5, 1, 2, 0] rfl ?_
                    exact ih56 1 (movZ M j k) (k + 1) (by omega) (by omega) (Or.inr ⟨rfl, bdr_0 h73 (hz.elim (fun z => z.2.1) (fun z => absurd z.1 (by omega)))⟩)
                  · have hzb := bdrZ_bd hB (by omega) (hz.elim (fun z => absurd z.1 h89) (fun z => z.2))
                    refine j_lload C dX11_border_92 0 rfl ?_
                    refine j_lload_n C dX11_border_94 rfl 4 rfl ?_
                    refine j_lcmp_ge (tgt := 104) C dX11_border_95 dX11_border_96 (by decide) (zL_le (by omega) (by omega) (by omega) (by omega)) (fun h95 => ?_) (fun h95 => ?_)
                    · refine j_lload_n C dX11_border_104 rfl 4 rfl ?_
                      refine j_lstore_n C [(3, .long (zL z)), (6, .long (zL (movZ M j k))), (0, .ref (gA Λ 31 0)), (1, .int (nI j)), (2, .int (nI q)), (5, .int (nI k))] dX11_border_105 rfl (by decide) rfl ?_
                      refine j_iconst C (nI 1) dX11_border_106 (by decide) ?_
                      refine j_istore_n C [(2, .int (nI 1)), (3, .long (zL z)), (6, .long (zL (movZ M j k))), (0, .ref (gA Λ 31 0)), (1, .int (nI j)), (5, .int (nI k))] dX11_border_107 rfl (by decide) rfl ?_
                      refine j_iinc C [(5, .int (nI (k + 1))), (2, .int (nI 1)), (3, .long (zL z)), (6, .long (zL (movZ M j k))), (0, .ref (gA Λ 31 0)), (1, .int (nI j))] (nI (k + 1)) dX11_border_108 5 rfl (nI_add _ 1) (by decide) rfl ?_
                      refine j_goto (tgt := 56) C dX11_border_111 (by decide) ?_
                      refine j_lv [4, 5, 1, 2, 0] rfl ?_
                      exact ih56 1 z (k + 1) (by omega) (by omega) (Or.inr ⟨rfl, by rw [bdr_1 h73 (hz.elim (fun z => absurd z.1 h89) (fun z => z.2)), if_neg (by omega)]⟩)
                    · refine j_lload C dX11_border_99 0 rfl ?_
                      refine j_goto (tgt := 105) C dX11_border_101 (by decide) ?_
                      refine j_lstore_n C [(3, .long (zL (movZ M j k))), (6, .long (zL (movZ M j k))), (0, .ref (gA Λ 31 0)), (1, .int (nI j)), (2, .int (nI q)), (5, .int (nI k))] dX11_border_105 rfl (by decide) rfl ?_
                      refine j_iconst C (nI 1) dX11_border_106 (by decide) ?_
                      refine j_istore_n C [(2, .int (nI 1)), (3, .long (zL (movZ M j k))), (6, .long (zL (movZ M j k))), (0, .ref (gA Λ 31 0)), (1, .int (nI j)), (5, .int (nI k))] dX11_border_107 rfl (by decide) rfl ?_
                      refine j_iinc C [(5, .int (nI (k + 1))), (2, .int (nI 1)), (3, .long (zL (movZ M j k))), (6, .long (zL (movZ M j k))), (0, .ref (gA Λ 31 0)), (1, .int (nI j))] (nI (k + 1)) dX11_border_108 5 rfl (nI_add _ 1) (by decide) rfl ?_
                      refine j_goto (tgt := 56) C dX11_border_111 (by decide) ?_
                      refine j_lv [4, 5, 1, 2, 0] rfl ?_
                      exact ih56 1 (movZ M j k) (k + 1) (by omega) (by omega) (Or.inr ⟨rfl, by rw [bdr_1 h73 (hz.elim (fun z => absurd z.1 h89) (fun z => z.2)), if_pos (by omega)]⟩)
                · refine j_goto (tgt := 108) C dX11_border_76 (by decide) ?_
                  refine j_iinc C [(5, .int (nI (k + 1))), (0, .ref (gA Λ 31 0)), (1, .int (nI j)), (2, .int (nI q)), (3, .long (zL z))] (nI (k + 1)) dX11_border_108 4 rfl (nI_add _ 1) (by decide) rfl ?_
                  refine j_goto (tgt := 56) C dX11_border_111 (by decide) ?_
                  refine j_lv [1, 2, 3, 4, 0] rfl ?_
                  exact ih56 q z (k + 1) (by omega) (by omega) (by rw [bdr_2 h73]; exact hz)
          refine j_lv [3, 4, 2, 1, 0] rfl ?_
          exact lb56 _ 0 0 0 (Nat.lt_succ_self _) (by omega) (Or.inl ⟨rfl, rfl, rfl⟩)
        · refine j_ldc2 C (zL 1000000000) hC147 dX11_border_45 (by decide) ?_
          exact j_lret C hr hlk (⟨hM, hs0, (by unfold bdrV; rw [if_pos (by omega)])⟩) dX11_border_48
    · exact absurd trivial z
  · exact absurd (h11.symm.trans (inR_nI hB hj)) (by decide)

set_option maxHeartbeats 4000000 in
set_option maxRecDepth 100000 in
theorem c_mbetter (l : Launch) (D : va_G) (cy : Nat → ClassId) (base : Nat) (Λ : LY) (σ : HS) (M : MM) (hM0 : MR0 Λ σ M) (h00 : M 31 0 = 0) (hB : MBd M) (hR : M 31 10 ≤ 6) (hR0 : 1 ≤ M 31 10) : Met l yX11_better wsX11_better ({ frames := 28, cells := 0, slots := 0, locals := 420 }) (va_Pc [.ref (gA Λ 31 0)] (Wd D cy base Λ σ)) (va_Qi (fun v u => MR Λ u (btr 100 M).2 ∧ Same nMo σ u ∧ v = nI (btr 100 M).1) (Wd D cy base Λ) (Ab base)) 0 0 (Ab base) := by
  refine j_start (cc := cX11_better) (nL := 2) (ret := (some .int)) (lv := [(0, .ref (gA Λ 31 0))]) (by decide) rfl (Nat.le_of_ble_eq_true rfl) rfl ?_
  intro p e s m below meth c C hr hlk hnm
  have C : Cx p s m ([.ref (gA Λ 31 0)] : List Value).toArray c cX11_better 2 RX11 wsX11_better D cy base := C
  have hts := C.2.2.2.2.1
  have hwX11 : ∀ w ∈ u_ws RX11 TX11 26, w ∈ wsX11_better := by decide +kernel
  have hM73 : (Cond.fieldLink RX11 73 (TX11 0).1 (TX11 0).2.1 (TX11 0).2.2.1).before ([.ref (gA Λ 31 0)] : List Value).toArray s = true := hts (.fieldLink RX11 73 "CodeRoomsModel" "thrown" "I") (by decide +kernel)
  have hL73 : FL RX11 73 (TX11 0).1 (TX11 0).2.1 (TX11 0).2.2.1 ([.ref (gA Λ 31 0)] : List Value).toArray s := Or.inl hM73
  have hn : M 31 5 ≤ 40 := hB 31 5 rfl
  refine j_aload_n C dX11_better_0 rfl 0 rfl ?_
  refine j_iconst C (nI 0) dX11_better_1 (by decide) ?_
  refine j_putI C hwX11 31 0 0 (MR0.in0 hM0) rfl rfl (by decide) rfl tyX11 tyX11_ok nmX11 rfl rfl rfl hL73 dX11_better_2 ?_
  have hM := MR0.start hM0 h00
  have hs0 : Same nMo σ (sI σ 31 0 0 (nI 0)) := Same.sI Same.rf (by decide)
  generalize sI σ 31 0 0 (nI 0) = σ0 at hM hs0 ⊢
  refine j_iconst C (nI 0) dX11_better_5 (by decide) ?_
  refine j_istore_n C [(1, .int (nI 0)), (0, .ref (gA Λ 31 0))] dX11_better_6 rfl (by decide) rfl ?_
  have lb7 : ∀ (fu : Nat) (σ1 : HS) (n : Nat) (M1 : MM), (100 - n) < fu → (n ≤ 100) → (MR Λ σ1 M1) → (Same nMo σ σ1) → (MBd M1) → (M1 31 10 ≤ 6) → (1 ≤ M1 31 10) → (btr 100 M = (n + (btr (100 - n) M1).1, (btr (100 - n) M1).2)) → J p l e ({ frames := 28, cells := 0, slots := 0, locals := 420 }) s m ([.ref (gA Λ 31 0)] : List Value).toArray below meth c 2 D cy base (MQ below (va_Qi (fun v u => MR Λ u (btr 100 M).2 ∧ Same nMo σ u ∧ v = nI (btr 100 M).1) (Wd D cy base Λ) (Ab base)) ([.ref (gA Λ 31 0)] : List Value).toArray s 0 0 (Ab base)) 0 0 Λ 7 [(0, .ref (gA Λ 31 0)), (1, .int (nI n))] [] σ1 := by
    intro fu
    induction fu with
    | zero => intro σ1 n M1 hfu; exact absurd hfu (Nat.not_lt_zero _)
    | succ fu ih =>
      intro σ1 n M1 hfu hn100 hM1 hs1 hB1 hR6 hR1 hb
      have ih7 := ih
      refine j_iload_n C dX11_better_7 rfl 1 rfl ?_
      refine j_bipush C (nI 100) dX11_better_8 (by decide) ?_
      refine j_icmp_ge (tgt := 26) C dX11_better_10 (by decide) (nI_leI (by omega) (by omega)) (fun h10 => ?_) (fun h10 => ?_)
      · refine j_iload_n C dX11_better_26 rfl 1 rfl ?_
        exact j_iret C hr hlk (⟨by rw [hb, show 100 - n = 0 by omega]; exact hM1, hs1, by rw [hb, show 100 - n = 0 by omega]; rfl⟩) dX11_better_27
      · refine j_aload_n C dX11_better_13 rfl 0 rfl ?_
        refine c_i0 C (r_V C 31 0 [] (c_X11_isBetter l D cy base Λ σ1 M1 hM1 hB1 hR6 hR1) (cwV 0 hts gX11_better_X11_isBetter rfl rfl rfl (by decide +kernel) ⟨by decide, by decide⟩) (MR.in0 hM1 (by decide) (by decide)) rfl rfl rfl rfl (Nat.le_of_ble_eq_true rfl) dX11_better_14 ⟨by decide, by decide⟩) (fun rv ub_3 hp => ?_)
        obtain ⟨hp1, hMb_3, hp3⟩ := hp
        have hsb_3 := Same.tr hs1 hp3
        rw [hp1]
        refine j_ifeq_b (tgt := 26) C dX11_better_17 (by decide) (fun h17 => ?_) (fun h17 => ?_)
        · refine j_iload_n C dX11_better_26 rfl 1 rfl ?_
          exact j_iret C hr hlk (⟨by rw [hb, btr_no _ h17]; have q := hMb_3; rw [betM_id h17] at q; exact q, hsb_3, by rw [hb, btr_no _ h17]; rfl⟩) dX11_better_27
        · refine j_iinc C [(1, .int (nI (n + 1))), (0, .ref (gA Λ 31 0))] (nI (n + 1)) dX11_better_20 1 rfl (nI_add _ 1) (by decide) rfl ?_
          refine j_goto (tgt := 7) C dX11_better_23 (by decide) ?_
          refine j_lv [1, 0] rfl ?_
          exact ih7 ub_3 (n + 1) (betM M1) (by omega) (by omega) hMb_3 hsb_3 (betM_B hB1 hR6) (by rw [betM_nk (by decide)]; exact hR6) (by rw [betM_nk (by decide)]; exact hR1) (by rw [hb, show 100 - n = (100 - (n + 1)) + 1 by omega, btr_yes _ h17]; simp only [Prod.mk.injEq]; exact ⟨by omega, by trivial⟩)
  refine j_lv [1, 0] rfl ?_
  exact lb7 _ σ0 0 M (Nat.lt_succ_self _) (by omega) hM hs0 hB hR hR0 (by simp)

set_option maxHeartbeats 4000000 in
set_option maxRecDepth 100000 in
theorem c_mtie_e1 (l : Launch) (D : va_G) (cy : Nat → ClassId) (base : Nat) (Λ : LY) (σ : HS) (M : MM) (hM0 : MR0 Λ σ M) (h00 : M 31 0 = 0) (hB : MBd M) (a b : Int32) (hA : inR M a = false ∨ inR M b = false) (k n : Int32) : Met l yX11_tie wsX11_tie ({ frames := 24, cells := 0, slots := 0, locals := 360 }) (va_Pc [.ref (gA Λ 31 0), .int (a), .int (b), .int (k), .int (n)] (Wd D cy base Λ σ)) (va_Qi (fun v u => MR Λ u (mS M 31 0 1) ∧ Same nMo σ u) (Wd D cy base Λ) (Ab base)) 0 0 (Ab base) := by
  refine j_start (cc := cX11_tie) (nL := 6) (ret := (some .int)) (lv := [(0, .ref (gA Λ 31 0)), (1, .int (a)), (2, .int (b)), (3, .int (k)), (4, .int (n))]) (by decide) rfl (Nat.le_of_ble_eq_true rfl) rfl ?_
  intro p e s m below meth c C hr hlk hnm
  have C : Cx p s m ([.ref (gA Λ 31 0), .int (a), .int (b), .int (k), .int (n)] : List Value).toArray c cX11_tie 6 RX11 wsX11_tie D cy base := C
  have hts := C.2.2.2.2.1
  have hwX11 : ∀ w ∈ u_ws RX11 TX11 26, w ∈ wsX11_tie := by decide +kernel
  have hM73 : (Cond.fieldLink RX11 73 (TX11 0).1 (TX11 0).2.1 (TX11 0).2.2.1).before ([.ref (gA Λ 31 0), .int (a), .int (b), .int (k), .int (n)] : List Value).toArray s = true := hts (.fieldLink RX11 73 "CodeRoomsModel" "thrown" "I") (by decide +kernel)
  have hL73 : FL RX11 73 (TX11 0).1 (TX11 0).2.1 (TX11 0).2.2.1 ([.ref (gA Λ 31 0), .int (a), .int (b), .int (k), .int (n)] : List Value).toArray s := Or.inl hM73
  have hn : M 31 5 ≤ 40 := hB 31 5 rfl
  refine j_aload_n C dX11_tie_0 rfl 0 rfl ?_
  refine j_iconst C (nI 0) dX11_tie_1 (by decide) ?_
  refine j_putI C hwX11 31 0 0 (MR0.in0 hM0) rfl rfl (by decide) rfl tyX11 tyX11_ok nmX11 rfl rfl rfl hL73 dX11_tie_2 ?_
  have hM := MR0.start hM0 h00
  have hs0 : Same nMo σ (sI σ 31 0 0 (nI 0)) := Same.sI Same.rf (by decide)
  generalize sI σ 31 0 0 (nI 0) = σ0 at hM hs0 ⊢
  refine j_aload_n C dX11_tie_5 rfl 0 rfl ?_
  refine j_aload_n C dX11_tie_6 rfl 0 rfl ?_
  refine j_iload_n C dX11_tie_7 rfl 1 rfl ?_
  refine c_i0 C (r_V C 31 0 [.int (a)] (c_X11_isRoutine l D cy base Λ σ0 M hM hB (a)) (cwV 1 hts gX11_tie_X11_isRoutine rfl rfl rfl (by decide +kernel) ⟨by decide, by decide⟩) (MR.in0 hM (by decide) (by decide)) rfl rfl rfl rfl (Nat.le_of_ble_eq_true rfl) dX11_tie_8 ⟨by decide, by decide⟩) (fun rv uu hp => ?_)
  rw [hp.1, hp.2]
  refine j_ifeq_b (tgt := 22) C dX11_tie_11 (by decide) (fun h11 => ?_) (fun h11 => ?_)
  · refine j_iconst C (nI 1) dX11_tie_22 (by decide) ?_
    refine j_goto (tgt := 27) C dX11_tie_23 (by decide) ?_
    refine j_iconst C (nI 1) dX11_tie_27 (by decide) ?_
    refine c_i0 C (r_V C 31 0 [.int (nI 1), .int (nI 1)] (c_X11_bad1 l D cy base Λ σ0 M hM 1) (cwV 2 hts gX11_tie_X11_bad rfl rfl rfl (by decide +kernel) ⟨by decide, by decide⟩) (MR.in0 hM (by decide) (by decide)) rfl rfl rfl rfl (Nat.le_of_ble_eq_true rfl) dX11_tie_28 ⟨by decide, by decide⟩) (fun rv ub_2 hp => ?_)
    obtain ⟨hp1, hMb_2, hp3⟩ := hp
    have hsb_2 := Same.tr hs0 hp3
    rw [hp1]
    refine j_if_ne (tgt := 75) C (P := False) dX11_tie_31 (by decide) (by decide) (fun z => ?_) (fun z => ?_)
    · refine j_iconst C (nI 0) dX11_tie_75 (by decide) ?_
      exact j_iret C hr hlk (⟨hMb_2, hsb_2⟩) dX11_tie_76
    · exact z.elim
  · refine j_aload_n C dX11_tie_14 rfl 0 rfl ?_
    refine j_iload_n C dX11_tie_15 rfl 2 rfl ?_
    refine c_i0 C (r_V C 31 0 [.int (b)] (c_X11_isRoutine l D cy base Λ σ0 M hM hB (b)) (cwV 1 hts gX11_tie_X11_isRoutine rfl rfl rfl (by decide +kernel) ⟨by decide, by decide⟩) (MR.in0 hM (by decide) (by decide)) rfl rfl rfl rfl (Nat.le_of_ble_eq_true rfl) dX11_tie_16 ⟨by decide, by decide⟩) (fun rv uu hp => ?_)
    rw [hp.1, hp.2]
    refine j_ifne_b (tgt := 26) C dX11_tie_19 (by decide) (fun h19 => ?_) (fun h19 => ?_)
    · exact absurd hA (by rw [h11, h19]; decide)
    · refine j_iconst C (nI 1) dX11_tie_22 (by decide) ?_
      refine j_goto (tgt := 27) C dX11_tie_23 (by decide) ?_
      refine j_iconst C (nI 1) dX11_tie_27 (by decide) ?_
      refine c_i0 C (r_V C 31 0 [.int (nI 1), .int (nI 1)] (c_X11_bad1 l D cy base Λ σ0 M hM 1) (cwV 2 hts gX11_tie_X11_bad rfl rfl rfl (by decide +kernel) ⟨by decide, by decide⟩) (MR.in0 hM (by decide) (by decide)) rfl rfl rfl rfl (Nat.le_of_ble_eq_true rfl) dX11_tie_28 ⟨by decide, by decide⟩) (fun rv ub_5 hp => ?_)
      obtain ⟨hp1, hMb_5, hp3⟩ := hp
      have hsb_5 := Same.tr hs0 hp3
      rw [hp1]
      refine j_if_ne (tgt := 75) C (P := False) dX11_tie_31 (by decide) (by decide) (fun z => ?_) (fun z => ?_)
      · refine j_iconst C (nI 0) dX11_tie_75 (by decide) ?_
        exact j_iret C hr hlk (⟨hMb_5, hsb_5⟩) dX11_tie_76
      · exact z.elim

set_option maxHeartbeats 4000000 in
set_option maxRecDepth 100000 in
theorem c_mties_e1 (l : Launch) (D : va_G) (cy : Nat → ClassId) (base : Nat) (Λ : LY) (σ : HS) (M : MM) (hM0 : MR0 Λ σ M) (h00 : M 31 0 = 0) (hB : MBd M) (a b : Int32) (hA : inR M a = false ∨ inR M b = false) : Met l yX11_ties wsX11_ties ({ frames := 24, cells := 0, slots := 0, locals := 360 }) (va_Pc [.ref (gA Λ 31 0), .int (a), .int (b)] (Wd D cy base Λ σ)) (va_Qi (fun v u => MR Λ u (mS M 31 0 1) ∧ Same nMo σ u) (Wd D cy base Λ) (Ab base)) 0 0 (Ab base) := by
  refine j_start (cc := cX11_ties) (nL := 3) (ret := (some .int)) (lv := [(0, .ref (gA Λ 31 0)), (1, .int (a)), (2, .int (b))]) (by decide) rfl (Nat.le_of_ble_eq_true rfl) rfl ?_
  intro p e s m below meth c C hr hlk hnm
  have C : Cx p s m ([.ref (gA Λ 31 0), .int (a), .int (b)] : List Value).toArray c cX11_ties 3 RX11 wsX11_ties D cy base := C
  have hts := C.2.2.2.2.1
  have hwX11 : ∀ w ∈ u_ws RX11 TX11 26, w ∈ wsX11_ties := by decide +kernel
  have hM73 : (Cond.fieldLink RX11 73 (TX11 0).1 (TX11 0).2.1 (TX11 0).2.2.1).before ([.ref (gA Λ 31 0), .int (a), .int (b)] : List Value).toArray s = true := hts (.fieldLink RX11 73 "CodeRoomsModel" "thrown" "I") (by decide +kernel)
  have hL73 : FL RX11 73 (TX11 0).1 (TX11 0).2.1 (TX11 0).2.2.1 ([.ref (gA Λ 31 0), .int (a), .int (b)] : List Value).toArray s := Or.inl hM73
  have hn : M 31 5 ≤ 40 := hB 31 5 rfl
  refine j_aload_n C dX11_ties_0 rfl 0 rfl ?_
  refine j_iconst C (nI 0) dX11_ties_1 (by decide) ?_
  refine j_putI C hwX11 31 0 0 (MR0.in0 hM0) rfl rfl (by decide) rfl tyX11 tyX11_ok nmX11 rfl rfl rfl hL73 dX11_ties_2 ?_
  have hM := MR0.start hM0 h00
  have hs0 : Same nMo σ (sI σ 31 0 0 (nI 0)) := Same.sI Same.rf (by decide)
  generalize sI σ 31 0 0 (nI 0) = σ0 at hM hs0 ⊢
  refine j_aload_n C dX11_ties_5 rfl 0 rfl ?_
  refine j_aload_n C dX11_ties_6 rfl 0 rfl ?_
  refine j_iload_n C dX11_ties_7 rfl 1 rfl ?_
  refine c_i0 C (r_V C 31 0 [.int (a)] (c_X11_isRoutine l D cy base Λ σ0 M hM hB (a)) (cwV 1 hts gX11_ties_X11_isRoutine rfl rfl rfl (by decide +kernel) ⟨by decide, by decide⟩) (MR.in0 hM (by decide) (by decide)) rfl rfl rfl rfl (Nat.le_of_ble_eq_true rfl) dX11_ties_8 ⟨by decide, by decide⟩) (fun rv uu hp => ?_)
  rw [hp.1, hp.2]
  refine j_ifeq_b (tgt := 22) C dX11_ties_11 (by decide) (fun h11 => ?_) (fun h11 => ?_)
  · refine j_iconst C (nI 1) dX11_ties_22 (by decide) ?_
    refine j_goto (tgt := 27) C dX11_ties_23 (by decide) ?_
    refine j_iconst C (nI 1) dX11_ties_27 (by decide) ?_
    refine c_i0 C (r_V C 31 0 [.int (nI 1), .int (nI 1)] (c_X11_bad1 l D cy base Λ σ0 M hM 1) (cwV 2 hts gX11_ties_X11_bad rfl rfl rfl (by decide +kernel) ⟨by decide, by decide⟩) (MR.in0 hM (by decide) (by decide)) rfl rfl rfl rfl (Nat.le_of_ble_eq_true rfl) dX11_ties_28 ⟨by decide, by decide⟩) (fun rv ub_2 hp => ?_)
    obtain ⟨hp1, hMb_2, hp3⟩ := hp
    have hsb_2 := Same.tr hs0 hp3
    rw [hp1]
    refine j_if_ne (tgt := 52) C (P := False) dX11_ties_31 (by decide) (by decide) (fun z => ?_) (fun z => ?_)
    · refine j_iconst C (nI 0) dX11_ties_52 (by decide) ?_
      exact j_iret C hr hlk (⟨hMb_2, hsb_2⟩) dX11_ties_53
    · exact z.elim
  · refine j_aload_n C dX11_ties_14 rfl 0 rfl ?_
    refine j_iload_n C dX11_ties_15 rfl 2 rfl ?_
    refine c_i0 C (r_V C 31 0 [.int (b)] (c_X11_isRoutine l D cy base Λ σ0 M hM hB (b)) (cwV 1 hts gX11_ties_X11_isRoutine rfl rfl rfl (by decide +kernel) ⟨by decide, by decide⟩) (MR.in0 hM (by decide) (by decide)) rfl rfl rfl rfl (Nat.le_of_ble_eq_true rfl) dX11_ties_16 ⟨by decide, by decide⟩) (fun rv uu hp => ?_)
    rw [hp.1, hp.2]
    refine j_ifne_b (tgt := 26) C dX11_ties_19 (by decide) (fun h19 => ?_) (fun h19 => ?_)
    · exact absurd hA (by rw [h11, h19]; decide)
    · refine j_iconst C (nI 1) dX11_ties_22 (by decide) ?_
      refine j_goto (tgt := 27) C dX11_ties_23 (by decide) ?_
      refine j_iconst C (nI 1) dX11_ties_27 (by decide) ?_
      refine c_i0 C (r_V C 31 0 [.int (nI 1), .int (nI 1)] (c_X11_bad1 l D cy base Λ σ0 M hM 1) (cwV 2 hts gX11_ties_X11_bad rfl rfl rfl (by decide +kernel) ⟨by decide, by decide⟩) (MR.in0 hM (by decide) (by decide)) rfl rfl rfl rfl (Nat.le_of_ble_eq_true rfl) dX11_ties_28 ⟨by decide, by decide⟩) (fun rv ub_5 hp => ?_)
      obtain ⟨hp1, hMb_5, hp3⟩ := hp
      have hsb_5 := Same.tr hs0 hp3
      rw [hp1]
      refine j_if_ne (tgt := 52) C (P := False) dX11_ties_31 (by decide) (by decide) (fun z => ?_) (fun z => ?_)
      · refine j_iconst C (nI 0) dX11_ties_52 (by decide) ?_
        exact j_iret C hr hlk (⟨hMb_5, hsb_5⟩) dX11_ties_53
      · exact z.elim

set_option maxHeartbeats 4000000 in
set_option maxRecDepth 100000 in
theorem c_mmust_e1 (l : Launch) (D : va_G) (cy : Nat → ClassId) (base : Nat) (Λ : LY) (σ : HS) (M : MM) (hM0 : MR0 Λ σ M) (h00 : M 31 0 = 0) (hB : MBd M) (a b : Int32) (hA : inR M a = false ∨ inR M b = false) (k : Int32) : Met l yX11_must wsX11_must ({ frames := 24, cells := 0, slots := 0, locals := 360 }) (va_Pc [.ref (gA Λ 31 0), .int (a), .int (b), .int (k)] (Wd D cy base Λ σ)) (va_Qi (fun v u => MR Λ u (mS M 31 0 1) ∧ Same nMo σ u) (Wd D cy base Λ) (Ab base)) 0 0 (Ab base) := by
  refine j_start (cc := cX11_must) (nL := 5) (ret := (some .int)) (lv := [(0, .ref (gA Λ 31 0)), (1, .int (a)), (2, .int (b)), (3, .int (k))]) (by decide) rfl (Nat.le_of_ble_eq_true rfl) rfl ?_
  intro p e s m below meth c C hr hlk hnm
  have C : Cx p s m ([.ref (gA Λ 31 0), .int (a), .int (b), .int (k)] : List Value).toArray c cX11_must 5 RX11 wsX11_must D cy base := C
  have hts := C.2.2.2.2.1
  have hwX11 : ∀ w ∈ u_ws RX11 TX11 26, w ∈ wsX11_must := by decide +kernel
  have hM73 : (Cond.fieldLink RX11 73 (TX11 0).1 (TX11 0).2.1 (TX11 0).2.2.1).before ([.ref (gA Λ 31 0), .int (a), .int (b), .int (k)] : List Value).toArray s = true := hts (.fieldLink RX11 73 "CodeRoomsModel" "thrown" "I") (by decide +kernel)
  have hL73 : FL RX11 73 (TX11 0).1 (TX11 0).2.1 (TX11 0).2.2.1 ([.ref (gA Λ 31 0), .int (a), .int (b), .int (k)] : List Value).toArray s := Or.inl hM73
  have hn : M 31 5 ≤ 40 := hB 31 5 rfl
  refine j_aload_n C dX11_must_0 rfl 0 rfl ?_
  refine j_iconst C (nI 0) dX11_must_1 (by decide) ?_
  refine j_putI C hwX11 31 0 0 (MR0.in0 hM0) rfl rfl (by decide) rfl tyX11 tyX11_ok nmX11 rfl rfl rfl hL73 dX11_must_2 ?_
  have hM := MR0.start hM0 h00
  have hs0 : Same nMo σ (sI σ 31 0 0 (nI 0)) := Same.sI Same.rf (by decide)
  generalize sI σ 31 0 0 (nI 0) = σ0 at hM hs0 ⊢
  refine j_aload_n C dX11_must_5 rfl 0 rfl ?_
  refine j_aload_n C dX11_must_6 rfl 0 rfl ?_
  refine j_iload_n C dX11_must_7 rfl 1 rfl ?_
  refine c_i0 C (r_V C 31 0 [.int (a)] (c_X11_isRoutine l D cy base Λ σ0 M hM hB (a)) (cwV 1 hts gX11_must_X11_isRoutine rfl rfl rfl (by decide +kernel) ⟨by decide, by decide⟩) (MR.in0 hM (by decide) (by decide)) rfl rfl rfl rfl (Nat.le_of_ble_eq_true rfl) dX11_must_8 ⟨by decide, by decide⟩) (fun rv uu hp => ?_)
  rw [hp.1, hp.2]
  refine j_ifeq_b (tgt := 22) C dX11_must_11 (by decide) (fun h11 => ?_) (fun h11 => ?_)
  · refine j_iconst C (nI 1) dX11_must_22 (by decide) ?_
    refine j_goto (tgt := 27) C dX11_must_23 (by decide) ?_
    refine j_iconst C (nI 1) dX11_must_27 (by decide) ?_
    refine c_i0 C (r_V C 31 0 [.int (nI 1), .int (nI 1)] (c_X11_bad1 l D cy base Λ σ0 M hM 1) (cwV 2 hts gX11_must_X11_bad rfl rfl rfl (by decide +kernel) ⟨by decide, by decide⟩) (MR.in0 hM (by decide) (by decide)) rfl rfl rfl rfl (Nat.le_of_ble_eq_true rfl) dX11_must_28 ⟨by decide, by decide⟩) (fun rv ub_2 hp => ?_)
    obtain ⟨hp1, hMb_2, hp3⟩ := hp
    have hsb_2 := Same.tr hs0 hp3
    rw [hp1]
    refine j_if_ne (tgt := 61) C (P := False) dX11_must_31 (by decide) (by decide) (fun z => ?_) (fun z => ?_)
    · refine j_iconst C (nI 0) dX11_must_61 (by decide) ?_
      exact j_iret C hr hlk (⟨hMb_2, hsb_2⟩) dX11_must_62
    · exact z.elim
  · refine j_aload_n C dX11_must_14 rfl 0 rfl ?_
    refine j_iload_n C dX11_must_15 rfl 2 rfl ?_
    refine c_i0 C (r_V C 31 0 [.int (b)] (c_X11_isRoutine l D cy base Λ σ0 M hM hB (b)) (cwV 1 hts gX11_must_X11_isRoutine rfl rfl rfl (by decide +kernel) ⟨by decide, by decide⟩) (MR.in0 hM (by decide) (by decide)) rfl rfl rfl rfl (Nat.le_of_ble_eq_true rfl) dX11_must_16 ⟨by decide, by decide⟩) (fun rv uu hp => ?_)
    rw [hp.1, hp.2]
    refine j_ifne_b (tgt := 26) C dX11_must_19 (by decide) (fun h19 => ?_) (fun h19 => ?_)
    · exact absurd hA (by rw [h11, h19]; decide)
    · refine j_iconst C (nI 1) dX11_must_22 (by decide) ?_
      refine j_goto (tgt := 27) C dX11_must_23 (by decide) ?_
      refine j_iconst C (nI 1) dX11_must_27 (by decide) ?_
      refine c_i0 C (r_V C 31 0 [.int (nI 1), .int (nI 1)] (c_X11_bad1 l D cy base Λ σ0 M hM 1) (cwV 2 hts gX11_must_X11_bad rfl rfl rfl (by decide +kernel) ⟨by decide, by decide⟩) (MR.in0 hM (by decide) (by decide)) rfl rfl rfl rfl (Nat.le_of_ble_eq_true rfl) dX11_must_28 ⟨by decide, by decide⟩) (fun rv ub_5 hp => ?_)
      obtain ⟨hp1, hMb_5, hp3⟩ := hp
      have hsb_5 := Same.tr hs0 hp3
      rw [hp1]
      refine j_if_ne (tgt := 61) C (P := False) dX11_must_31 (by decide) (by decide) (fun z => ?_) (fun z => ?_)
      · refine j_iconst C (nI 0) dX11_must_61 (by decide) ?_
        exact j_iret C hr hlk (⟨hMb_5, hsb_5⟩) dX11_must_62
      · exact z.elim

set_option maxHeartbeats 4000000 in
set_option maxRecDepth 100000 in
theorem c_mtie_e2 (l : Launch) (D : va_G) (cy : Nat → ClassId) (base : Nat) (Λ : LY) (σ : HS) (M : MM) (hM0 : MR0 Λ σ M) (h00 : M 31 0 = 0) (hB : MBd M) (i j : Nat) (hi : i < M 31 5) (hj : j < M 31 5) (k n : Int32) (hA : i = j ∨ k.toInt < 0 ∨ 3 ≤ k.toInt ∨ n.toInt < 1 ∨ 1000 < n.toInt) : Met l yX11_tie wsX11_tie ({ frames := 24, cells := 0, slots := 0, locals := 360 }) (va_Pc [.ref (gA Λ 31 0), .int (nI i), .int (nI j), .int (k), .int (n)] (Wd D cy base Λ σ)) (va_Qi (fun v u => MR Λ u (mS M 31 0 2) ∧ Same nMo σ u) (Wd D cy base Λ) (Ab base)) 0 0 (Ab base) := by
  refine j_start (cc := cX11_tie) (nL := 6) (ret := (some .int)) (lv := [(0, .ref (gA Λ 31 0)), (1, .int (nI i)), (2, .int (nI j)), (3, .int (k)), (4, .int (n))]) (by decide) rfl (Nat.le_of_ble_eq_true rfl) rfl ?_
  intro p e s m below meth c C hr hlk hnm
  have C : Cx p s m ([.ref (gA Λ 31 0), .int (nI i), .int (nI j), .int (k), .int (n)] : List Value).toArray c cX11_tie 6 RX11 wsX11_tie D cy base := C
  have hts := C.2.2.2.2.1
  have hwX11 : ∀ w ∈ u_ws RX11 TX11 26, w ∈ wsX11_tie := by decide +kernel
  have hM73 : (Cond.fieldLink RX11 73 (TX11 0).1 (TX11 0).2.1 (TX11 0).2.2.1).before ([.ref (gA Λ 31 0), .int (nI i), .int (nI j), .int (k), .int (n)] : List Value).toArray s = true := hts (.fieldLink RX11 73 "CodeRoomsModel" "thrown" "I") (by decide +kernel)
  have hL73 : FL RX11 73 (TX11 0).1 (TX11 0).2.1 (TX11 0).2.2.1 ([.ref (gA Λ 31 0), .int (nI i), .int (nI j), .int (k), .int (n)] : List Value).toArray s := Or.inl hM73
  have hn : M 31 5 ≤ 40 := hB 31 5 rfl
  have z3 : (nI 3).toInt = 3 := by decide
  have z2 : (nI 2).toInt = 2 := by decide
  have z1 : (nI 1).toInt = 1 := by decide
  have z1000 : (nI 1000).toInt = 1000 := by decide
  have z5 : (nI 5).toInt = 5 := by decide
  have z4 : (nI 4).toInt = 4 := by decide
  have z0 : (nI 0).toInt = 0 := by decide
  have z00 : (0 : Int32).toInt = 0 := by decide
  have z9 : (nI 9).toInt = 9 := by decide
  have z100 : (nI 100).toInt = 100 := by decide
  have z40 : (nI 40).toInt = 40 := by decide
  have z6 : (nI 6).toInt = 6 := by decide
  refine j_aload_n C dX11_tie_0 rfl 0 rfl ?_
  refine j_iconst C (nI 0) dX11_tie_1 (by decide) ?_
  refine j_putI C hwX11 31 0 0 (MR0.in0 hM0) rfl rfl (by decide) rfl tyX11 tyX11_ok nmX11 rfl rfl rfl hL73 dX11_tie_2 ?_
  have hM := MR0.start hM0 h00
  have hs0 : Same nMo σ (sI σ 31 0 0 (nI 0)) := Same.sI Same.rf (by decide)
  generalize sI σ 31 0 0 (nI 0) = σ0 at hM hs0 ⊢
  refine j_aload_n C dX11_tie_5 rfl 0 rfl ?_
  refine j_aload_n C dX11_tie_6 rfl 0 rfl ?_
  refine j_iload_n C dX11_tie_7 rfl 1 rfl ?_
  refine c_i0 C (r_V C 31 0 [.int (nI i)] (c_X11_isRoutine l D cy base Λ σ0 M hM hB (nI i)) (cwV 1 hts gX11_tie_X11_isRoutine rfl rfl rfl (by decide +kernel) ⟨by decide, by decide⟩) (MR.in0 hM (by decide) (by decide)) rfl rfl rfl rfl (Nat.le_of_ble_eq_true rfl) dX11_tie_8 ⟨by decide, by decide⟩) (fun rv uu hp => ?_)
  rw [hp.1, hp.2]
  refine j_ifeq_b (tgt := 22) C dX11_tie_11 (by decide) (fun h11 => ?_) (fun h11 => ?_)
  · exact absurd (h11.symm.trans (inR_nI hB hi)) (by decide)
  · refine j_aload_n C dX11_tie_14 rfl 0 rfl ?_
    refine j_iload_n C dX11_tie_15 rfl 2 rfl ?_
    refine c_i0 C (r_V C 31 0 [.int (nI j)] (c_X11_isRoutine l D cy base Λ σ0 M hM hB (nI j)) (cwV 1 hts gX11_tie_X11_isRoutine rfl rfl rfl (by decide +kernel) ⟨by decide, by decide⟩) (MR.in0 hM (by decide) (by decide)) rfl rfl rfl rfl (Nat.le_of_ble_eq_true rfl) dX11_tie_16 ⟨by decide, by decide⟩) (fun rv uu hp => ?_)
    rw [hp.1, hp.2]
    refine j_ifne_b (tgt := 26) C dX11_tie_19 (by decide) (fun h19 => ?_) (fun h19 => ?_)
    · refine j_iconst C (nI 0) dX11_tie_26 (by decide) ?_
      refine j_iconst C (nI 1) dX11_tie_27 (by decide) ?_
      refine c_i0 C (r_V C 31 0 [.int (nI 0), .int (nI 1)] (c_X11_bad0 l D cy base Λ σ0 (MR.in0 hM (by decide) (by decide)) 1) (cwV 2 hts gX11_tie_X11_bad rfl rfl rfl (by decide +kernel) ⟨by decide, by decide⟩) (MR.in0 hM (by decide) (by decide)) rfl rfl rfl rfl (Nat.le_of_ble_eq_true rfl) dX11_tie_28 ⟨by decide, by decide⟩) (fun rv uu hp => ?_)
      rw [hp.1, hp.2]
      refine j_if_ne (tgt := 75) C (P := True) dX11_tie_31 (by decide) (by decide) (fun z => ?_) (fun z => ?_)
      · exact absurd trivial z
      · refine j_aload_n C dX11_tie_34 rfl 0 rfl ?_
        refine j_iload_n C dX11_tie_35 rfl 1 rfl ?_
        refine j_iload_n C dX11_tie_36 rfl 2 rfl ?_
        refine j_icmp_eq (tgt := 63) C dX11_tie_37 (by decide) (nI_eq (by omega) (by omega)) (fun h37 => ?_) (fun h37 => ?_)
        · refine j_iconst C (nI 1) dX11_tie_63 (by decide) ?_
          refine j_goto (tgt := 68) C dX11_tie_64 (by decide) ?_
          refine j_iconst C (nI 2) dX11_tie_68 (by decide) ?_
          refine c_i0 C (r_V C 31 0 [.int (nI 1), .int (nI 2)] (c_X11_bad1 l D cy base Λ σ0 M hM 2) (cwV 2 hts gX11_tie_X11_bad rfl rfl rfl (by decide +kernel) ⟨by decide, by decide⟩) (MR.in0 hM (by decide) (by decide)) rfl rfl rfl rfl (Nat.le_of_ble_eq_true rfl) dX11_tie_69 ⟨by decide, by decide⟩) (fun rv ub_5 hp => ?_)
          obtain ⟨hp1, hMb_5, hp3⟩ := hp
          have hsb_5 := Same.tr hs0 hp3
          rw [hp1]
          refine j_if_eq (tgt := 77) C (P := False) dX11_tie_72 (by decide) (by decide) (fun z => ?_) (fun z => ?_)
          · exact z.elim
          · refine j_iconst C (nI 0) dX11_tie_75 (by decide) ?_
            exact j_iret C hr hlk (⟨hMb_5, hsb_5⟩) dX11_tie_76
        · refine j_iload_n C dX11_tie_40 rfl 3 rfl ?_
          refine j_if_lt (tgt := 63) C dX11_tie_41 (by decide) (fa_lt _ _) (fun h41 => ?_) (fun h41 => ?_)
          · refine j_iconst C (nI 1) dX11_tie_63 (by decide) ?_
            refine j_goto (tgt := 68) C dX11_tie_64 (by decide) ?_
            refine j_iconst C (nI 2) dX11_tie_68 (by decide) ?_
            refine c_i0 C (r_V C 31 0 [.int (nI 1), .int (nI 2)] (c_X11_bad1 l D cy base Λ σ0 M hM 2) (cwV 2 hts gX11_tie_X11_bad rfl rfl rfl (by decide +kernel) ⟨by decide, by decide⟩) (MR.in0 hM (by decide) (by decide)) rfl rfl rfl rfl (Nat.le_of_ble_eq_true rfl) dX11_tie_69 ⟨by decide, by decide⟩) (fun rv ub_8 hp => ?_)
            obtain ⟨hp1, hMb_8, hp3⟩ := hp
            have hsb_8 := Same.tr hs0 hp3
            rw [hp1]
            refine j_if_eq (tgt := 77) C (P := False) dX11_tie_72 (by decide) (by decide) (fun z => ?_) (fun z => ?_)
            · exact z.elim
            · refine j_iconst C (nI 0) dX11_tie_75 (by decide) ?_
              exact j_iret C hr hlk (⟨hMb_8, hsb_8⟩) dX11_tie_76
          · refine j_iload_n C dX11_tie_44 rfl 3 rfl ?_
            refine j_iconst C (nI 3) dX11_tie_45 (by decide) ?_
            refine j_icmp_ge (tgt := 63) C dX11_tie_46 (by decide) (fa_le _ _) (fun h46 => ?_) (fun h46 => ?_)
            · refine j_iconst C (nI 1) dX11_tie_63 (by decide) ?_
              refine j_goto (tgt := 68) C dX11_tie_64 (by decide) ?_
              refine j_iconst C (nI 2) dX11_tie_68 (by decide) ?_
              refine c_i0 C (r_V C 31 0 [.int (nI 1), .int (nI 2)] (c_X11_bad1 l D cy base Λ σ0 M hM 2) (cwV 2 hts gX11_tie_X11_bad rfl rfl rfl (by decide +kernel) ⟨by decide, by decide⟩) (MR.in0 hM (by decide) (by decide)) rfl rfl rfl rfl (Nat.le_of_ble_eq_true rfl) dX11_tie_69 ⟨by decide, by decide⟩) (fun rv ub_11 hp => ?_)
              obtain ⟨hp1, hMb_11, hp3⟩ := hp
              have hsb_11 := Same.tr hs0 hp3
              rw [hp1]
              refine j_if_eq (tgt := 77) C (P := False) dX11_tie_72 (by decide) (by decide) (fun z => ?_) (fun z => ?_)
              · exact z.elim
              · refine j_iconst C (nI 0) dX11_tie_75 (by decide) ?_
                exact j_iret C hr hlk (⟨hMb_11, hsb_11⟩) dX11_tie_76
            · refine j_iload C dX11_tie_49 4 rfl ?_
              refine j_iconst C (nI 1) dX11_tie_51 (by decide) ?_
              refine j_icmp_lt (tgt := 63) C dX11_tie_52 (by decide) (fa_lt _ _) (fun h52 => ?_) (fun h52 => ?_)
              · refine j_iconst C (nI 1) dX11_tie_63 (by decide) ?_
                refine j_goto (tgt := 68) C dX11_tie_64 (by decide) ?_
                refine j_iconst C (nI 2) dX11_tie_68 (by decide) ?_
                refine c_i0 C (r_V C 31 0 [.int (nI 1), .int (nI 2)] (c_X11_bad1 l D cy base Λ σ0 M hM 2) (cwV 2 hts gX11_tie_X11_bad rfl rfl rfl (by decide +kernel) ⟨by decide, by decide⟩) (MR.in0 hM (by decide) (by decide)) rfl rfl rfl rfl (Nat.le_of_ble_eq_true rfl) dX11_tie_69 ⟨by decide, by decide⟩) (fun rv ub_14 hp => ?_)
                obtain ⟨hp1, hMb_14, hp3⟩ := hp
                have hsb_14 := Same.tr hs0 hp3
                rw [hp1]
                refine j_if_eq (tgt := 77) C (P := False) dX11_tie_72 (by decide) (by decide) (fun z => ?_) (fun z => ?_)
                · exact z.elim
                · refine j_iconst C (nI 0) dX11_tie_75 (by decide) ?_
                  exact j_iret C hr hlk (⟨hMb_14, hsb_14⟩) dX11_tie_76
              · refine j_iload C dX11_tie_55 4 rfl ?_
                refine j_sipush C (nI 1000) dX11_tie_57 (by decide) ?_
                refine j_icmp_le (tgt := 67) C dX11_tie_60 (by decide) (fa_le _ _) (fun h60 => ?_) (fun h60 => ?_)
                · omega
                · refine j_iconst C (nI 1) dX11_tie_63 (by decide) ?_
                  refine j_goto (tgt := 68) C dX11_tie_64 (by decide) ?_
                  refine j_iconst C (nI 2) dX11_tie_68 (by decide) ?_
                  refine c_i0 C (r_V C 31 0 [.int (nI 1), .int (nI 2)] (c_X11_bad1 l D cy base Λ σ0 M hM 2) (cwV 2 hts gX11_tie_X11_bad rfl rfl rfl (by decide +kernel) ⟨by decide, by decide⟩) (MR.in0 hM (by decide) (by decide)) rfl rfl rfl rfl (Nat.le_of_ble_eq_true rfl) dX11_tie_69 ⟨by decide, by decide⟩) (fun rv ub_17 hp => ?_)
                  obtain ⟨hp1, hMb_17, hp3⟩ := hp
                  have hsb_17 := Same.tr hs0 hp3
                  rw [hp1]
                  refine j_if_eq (tgt := 77) C (P := False) dX11_tie_72 (by decide) (by decide) (fun z => ?_) (fun z => ?_)
                  · exact z.elim
                  · refine j_iconst C (nI 0) dX11_tie_75 (by decide) ?_
                    exact j_iret C hr hlk (⟨hMb_17, hsb_17⟩) dX11_tie_76
    · exact absurd (h19.symm.trans (inR_nI hB hj)) (by decide)

set_option maxHeartbeats 4000000 in
set_option maxRecDepth 100000 in
theorem c_mties_e2 (l : Launch) (D : va_G) (cy : Nat → ClassId) (base : Nat) (Λ : LY) (σ : HS) (M : MM) (hM0 : MR0 Λ σ M) (h00 : M 31 0 = 0) (hB : MBd M) (i : Nat) (hi : i < M 31 5) : Met l yX11_ties wsX11_ties ({ frames := 24, cells := 0, slots := 0, locals := 360 }) (va_Pc [.ref (gA Λ 31 0), .int (nI i), .int (nI i)] (Wd D cy base Λ σ)) (va_Qi (fun v u => MR Λ u (mS M 31 0 2) ∧ Same nMo σ u) (Wd D cy base Λ) (Ab base)) 0 0 (Ab base) := by
  refine j_start (cc := cX11_ties) (nL := 3) (ret := (some .int)) (lv := [(0, .ref (gA Λ 31 0)), (1, .int (nI i)), (2, .int (nI i))]) (by decide) rfl (Nat.le_of_ble_eq_true rfl) rfl ?_
  intro p e s m below meth c C hr hlk hnm
  have C : Cx p s m ([.ref (gA Λ 31 0), .int (nI i), .int (nI i)] : List Value).toArray c cX11_ties 3 RX11 wsX11_ties D cy base := C
  have hts := C.2.2.2.2.1
  have hwX11 : ∀ w ∈ u_ws RX11 TX11 26, w ∈ wsX11_ties := by decide +kernel
  have hM73 : (Cond.fieldLink RX11 73 (TX11 0).1 (TX11 0).2.1 (TX11 0).2.2.1).before ([.ref (gA Λ 31 0), .int (nI i), .int (nI i)] : List Value).toArray s = true := hts (.fieldLink RX11 73 "CodeRoomsModel" "thrown" "I") (by decide +kernel)
  have hL73 : FL RX11 73 (TX11 0).1 (TX11 0).2.1 (TX11 0).2.2.1 ([.ref (gA Λ 31 0), .int (nI i), .int (nI i)] : List Value).toArray s := Or.inl hM73
  have hn : M 31 5 ≤ 40 := hB 31 5 rfl
  refine j_aload_n C dX11_ties_0 rfl 0 rfl ?_
  refine j_iconst C (nI 0) dX11_ties_1 (by decide) ?_
  refine j_putI C hwX11 31 0 0 (MR0.in0 hM0) rfl rfl (by decide) rfl tyX11 tyX11_ok nmX11 rfl rfl rfl hL73 dX11_ties_2 ?_
  have hM := MR0.start hM0 h00
  have hs0 : Same nMo σ (sI σ 31 0 0 (nI 0)) := Same.sI Same.rf (by decide)
  generalize sI σ 31 0 0 (nI 0) = σ0 at hM hs0 ⊢
  refine j_aload_n C dX11_ties_5 rfl 0 rfl ?_
  refine j_aload_n C dX11_ties_6 rfl 0 rfl ?_
  refine j_iload_n C dX11_ties_7 rfl 1 rfl ?_
  refine c_i0 C (r_V C 31 0 [.int (nI i)] (c_X11_isRoutine l D cy base Λ σ0 M hM hB (nI i)) (cwV 1 hts gX11_ties_X11_isRoutine rfl rfl rfl (by decide +kernel) ⟨by decide, by decide⟩) (MR.in0 hM (by decide) (by decide)) rfl rfl rfl rfl (Nat.le_of_ble_eq_true rfl) dX11_ties_8 ⟨by decide, by decide⟩) (fun rv uu hp => ?_)
  rw [hp.1, hp.2]
  refine j_ifeq_b (tgt := 22) C dX11_ties_11 (by decide) (fun h11 => ?_) (fun h11 => ?_)
  · exact absurd (h11.symm.trans (inR_nI hB hi)) (by decide)
  · refine j_aload_n C dX11_ties_14 rfl 0 rfl ?_
    refine j_iload_n C dX11_ties_15 rfl 2 rfl ?_
    refine c_i0 C (r_V C 31 0 [.int (nI i)] (c_X11_isRoutine l D cy base Λ σ0 M hM hB (nI i)) (cwV 1 hts gX11_ties_X11_isRoutine rfl rfl rfl (by decide +kernel) ⟨by decide, by decide⟩) (MR.in0 hM (by decide) (by decide)) rfl rfl rfl rfl (Nat.le_of_ble_eq_true rfl) dX11_ties_16 ⟨by decide, by decide⟩) (fun rv uu hp => ?_)
    rw [hp.1, hp.2]
    refine j_ifne_b (tgt := 26) C dX11_ties_19 (by decide) (fun h19 => ?_) (fun h19 => ?_)
    · refine j_iconst C (nI 0) dX11_ties_26 (by decide) ?_
      refine j_iconst C (nI 1) dX11_ties_27 (by decide) ?_
      refine c_i0 C (r_V C 31 0 [.int (nI 0), .int (nI 1)] (c_X11_bad0 l D cy base Λ σ0 (MR.in0 hM (by decide) (by decide)) 1) (cwV 2 hts gX11_ties_X11_bad rfl rfl rfl (by decide +kernel) ⟨by decide, by decide⟩) (MR.in0 hM (by decide) (by decide)) rfl rfl rfl rfl (Nat.le_of_ble_eq_true rfl) dX11_ties_28 ⟨by decide, by decide⟩) (fun rv uu hp => ?_)
      rw [hp.1, hp.2]
      refine j_if_ne (tgt := 52) C (P := True) dX11_ties_31 (by decide) (by decide) (fun z => ?_) (fun z => ?_)
      · exact absurd trivial z
      · refine j_aload_n C dX11_ties_34 rfl 0 rfl ?_
        refine j_iload_n C dX11_ties_35 rfl 1 rfl ?_
        refine j_iload_n C dX11_ties_36 rfl 2 rfl ?_
        refine j_icmp_ne (tgt := 44) C dX11_ties_37 (by decide) (nI_eq (by omega) (by omega)) (fun h37 => ?_) (fun h37 => ?_)
        · omega
        · refine j_iconst C (nI 1) dX11_ties_40 (by decide) ?_
          refine j_goto (tgt := 45) C dX11_ties_41 (by decide) ?_
          refine j_iconst C (nI 2) dX11_ties_45 (by decide) ?_
          refine c_i0 C (r_V C 31 0 [.int (nI 1), .int (nI 2)] (c_X11_bad1 l D cy base Λ σ0 M hM 2) (cwV 2 hts gX11_ties_X11_bad rfl rfl rfl (by decide +kernel) ⟨by decide, by decide⟩) (MR.in0 hM (by decide) (by decide)) rfl rfl rfl rfl (Nat.le_of_ble_eq_true rfl) dX11_ties_46 ⟨by decide, by decide⟩) (fun rv ub_5 hp => ?_)
          obtain ⟨hp1, hMb_5, hp3⟩ := hp
          have hsb_5 := Same.tr hs0 hp3
          rw [hp1]
          refine j_if_eq (tgt := 54) C (P := False) dX11_ties_49 (by decide) (by decide) (fun z => ?_) (fun z => ?_)
          · exact z.elim
          · refine j_iconst C (nI 0) dX11_ties_52 (by decide) ?_
            exact j_iret C hr hlk (⟨hMb_5, hsb_5⟩) dX11_ties_53
    · exact absurd (h19.symm.trans (inR_nI hB hi)) (by decide)

set_option maxHeartbeats 4000000 in
set_option maxRecDepth 100000 in
theorem c_mmust_e2 (l : Launch) (D : va_G) (cy : Nat → ClassId) (base : Nat) (Λ : LY) (σ : HS) (M : MM) (hM0 : MR0 Λ σ M) (h00 : M 31 0 = 0) (hB : MBd M) (i j : Nat) (hi : i < M 31 5) (hj : j < M 31 5) (k : Int32) (hA : i = j ∨ k.toInt < 0 ∨ 2 < k.toInt) : Met l yX11_must wsX11_must ({ frames := 24, cells := 0, slots := 0, locals := 360 }) (va_Pc [.ref (gA Λ 31 0), .int (nI i), .int (nI j), .int (k)] (Wd D cy base Λ σ)) (va_Qi (fun v u => MR Λ u (mS M 31 0 2) ∧ Same nMo σ u) (Wd D cy base Λ) (Ab base)) 0 0 (Ab base) := by
  refine j_start (cc := cX11_must) (nL := 5) (ret := (some .int)) (lv := [(0, .ref (gA Λ 31 0)), (1, .int (nI i)), (2, .int (nI j)), (3, .int (k))]) (by decide) rfl (Nat.le_of_ble_eq_true rfl) rfl ?_
  intro p e s m below meth c C hr hlk hnm
  have C : Cx p s m ([.ref (gA Λ 31 0), .int (nI i), .int (nI j), .int (k)] : List Value).toArray c cX11_must 5 RX11 wsX11_must D cy base := C
  have hts := C.2.2.2.2.1
  have hwX11 : ∀ w ∈ u_ws RX11 TX11 26, w ∈ wsX11_must := by decide +kernel
  have hM73 : (Cond.fieldLink RX11 73 (TX11 0).1 (TX11 0).2.1 (TX11 0).2.2.1).before ([.ref (gA Λ 31 0), .int (nI i), .int (nI j), .int (k)] : List Value).toArray s = true := hts (.fieldLink RX11 73 "CodeRoomsModel" "thrown" "I") (by decide +kernel)
  have hL73 : FL RX11 73 (TX11 0).1 (TX11 0).2.1 (TX11 0).2.2.1 ([.ref (gA Λ 31 0), .int (nI i), .int (nI j), .int (k)] : List Value).toArray s := Or.inl hM73
  have hn : M 31 5 ≤ 40 := hB 31 5 rfl
  have z3 : (nI 3).toInt = 3 := by decide
  have z2 : (nI 2).toInt = 2 := by decide
  have z1 : (nI 1).toInt = 1 := by decide
  have z1000 : (nI 1000).toInt = 1000 := by decide
  have z5 : (nI 5).toInt = 5 := by decide
  have z4 : (nI 4).toInt = 4 := by decide
  have z0 : (nI 0).toInt = 0 := by decide
  have z00 : (0 : Int32).toInt = 0 := by decide
  have z9 : (nI 9).toInt = 9 := by decide
  have z100 : (nI 100).toInt = 100 := by decide
  have z40 : (nI 40).toInt = 40 := by decide
  have z6 : (nI 6).toInt = 6 := by decide
  refine j_aload_n C dX11_must_0 rfl 0 rfl ?_
  refine j_iconst C (nI 0) dX11_must_1 (by decide) ?_
  refine j_putI C hwX11 31 0 0 (MR0.in0 hM0) rfl rfl (by decide) rfl tyX11 tyX11_ok nmX11 rfl rfl rfl hL73 dX11_must_2 ?_
  have hM := MR0.start hM0 h00
  have hs0 : Same nMo σ (sI σ 31 0 0 (nI 0)) := Same.sI Same.rf (by decide)
  generalize sI σ 31 0 0 (nI 0) = σ0 at hM hs0 ⊢
  refine j_aload_n C dX11_must_5 rfl 0 rfl ?_
  refine j_aload_n C dX11_must_6 rfl 0 rfl ?_
  refine j_iload_n C dX11_must_7 rfl 1 rfl ?_
  refine c_i0 C (r_V C 31 0 [.int (nI i)] (c_X11_isRoutine l D cy base Λ σ0 M hM hB (nI i)) (cwV 1 hts gX11_must_X11_isRoutine rfl rfl rfl (by decide +kernel) ⟨by decide, by decide⟩) (MR.in0 hM (by decide) (by decide)) rfl rfl rfl rfl (Nat.le_of_ble_eq_true rfl) dX11_must_8 ⟨by decide, by decide⟩) (fun rv uu hp => ?_)
  rw [hp.1, hp.2]
  refine j_ifeq_b (tgt := 22) C dX11_must_11 (by decide) (fun h11 => ?_) (fun h11 => ?_)
  · exact absurd (h11.symm.trans (inR_nI hB hi)) (by decide)
  · refine j_aload_n C dX11_must_14 rfl 0 rfl ?_
    refine j_iload_n C dX11_must_15 rfl 2 rfl ?_
    refine c_i0 C (r_V C 31 0 [.int (nI j)] (c_X11_isRoutine l D cy base Λ σ0 M hM hB (nI j)) (cwV 1 hts gX11_must_X11_isRoutine rfl rfl rfl (by decide +kernel) ⟨by decide, by decide⟩) (MR.in0 hM (by decide) (by decide)) rfl rfl rfl rfl (Nat.le_of_ble_eq_true rfl) dX11_must_16 ⟨by decide, by decide⟩) (fun rv uu hp => ?_)
    rw [hp.1, hp.2]
    refine j_ifne_b (tgt := 26) C dX11_must_19 (by decide) (fun h19 => ?_) (fun h19 => ?_)
    · refine j_iconst C (nI 0) dX11_must_26 (by decide) ?_
      refine j_iconst C (nI 1) dX11_must_27 (by decide) ?_
      refine c_i0 C (r_V C 31 0 [.int (nI 0), .int (nI 1)] (c_X11_bad0 l D cy base Λ σ0 (MR.in0 hM (by decide) (by decide)) 1) (cwV 2 hts gX11_must_X11_bad rfl rfl rfl (by decide +kernel) ⟨by decide, by decide⟩) (MR.in0 hM (by decide) (by decide)) rfl rfl rfl rfl (Nat.le_of_ble_eq_true rfl) dX11_must_28 ⟨by decide, by decide⟩) (fun rv uu hp => ?_)
      rw [hp.1, hp.2]
      refine j_if_ne (tgt := 61) C (P := True) dX11_must_31 (by decide) (by decide) (fun z => ?_) (fun z => ?_)
      · exact absurd trivial z
      · refine j_aload_n C dX11_must_34 rfl 0 rfl ?_
        refine j_iload_n C dX11_must_35 rfl 1 rfl ?_
        refine j_iload_n C dX11_must_36 rfl 2 rfl ?_
        refine j_icmp_eq (tgt := 49) C dX11_must_37 (by decide) (nI_eq (by omega) (by omega)) (fun h37 => ?_) (fun h37 => ?_)
        · refine j_iconst C (nI 1) dX11_must_49 (by decide) ?_
          refine j_goto (tgt := 54) C dX11_must_50 (by decide) ?_
          refine j_iconst C (nI 2) dX11_must_54 (by decide) ?_
          refine c_i0 C (r_V C 31 0 [.int (nI 1), .int (nI 2)] (c_X11_bad1 l D cy base Λ σ0 M hM 2) (cwV 2 hts gX11_must_X11_bad rfl rfl rfl (by decide +kernel) ⟨by decide, by decide⟩) (MR.in0 hM (by decide) (by decide)) rfl rfl rfl rfl (Nat.le_of_ble_eq_true rfl) dX11_must_55 ⟨by decide, by decide⟩) (fun rv ub_5 hp => ?_)
          obtain ⟨hp1, hMb_5, hp3⟩ := hp
          have hsb_5 := Same.tr hs0 hp3
          rw [hp1]
          refine j_if_eq (tgt := 63) C (P := False) dX11_must_58 (by decide) (by decide) (fun z => ?_) (fun z => ?_)
          · exact z.elim
          · refine j_iconst C (nI 0) dX11_must_61 (by decide) ?_
            exact j_iret C hr hlk (⟨hMb_5, hsb_5⟩) dX11_must_62
        · refine j_iload_n C dX11_must_40 rfl 3 rfl ?_
          refine j_if_lt (tgt := 49) C dX11_must_41 (by decide) (fa_lt _ _) (fun h41 => ?_) (fun h41 => ?_)
          · refine j_iconst C (nI 1) dX11_must_49 (by decide) ?_
            refine j_goto (tgt := 54) C dX11_must_50 (by decide) ?_
            refine j_iconst C (nI 2) dX11_must_54 (by decide) ?_
            refine c_i0 C (r_V C 31 0 [.int (nI 1), .int (nI 2)] (c_X11_bad1 l D cy base Λ σ0 M hM 2) (cwV 2 hts gX11_must_X11_bad rfl rfl rfl (by decide +kernel) ⟨by decide, by decide⟩) (MR.in0 hM (by decide) (by decide)) rfl rfl rfl rfl (Nat.le_of_ble_eq_true rfl) dX11_must_55 ⟨by decide, by decide⟩) (fun rv ub_8 hp => ?_)
            obtain ⟨hp1, hMb_8, hp3⟩ := hp
            have hsb_8 := Same.tr hs0 hp3
            rw [hp1]
            refine j_if_eq (tgt := 63) C (P := False) dX11_must_58 (by decide) (by decide) (fun z => ?_) (fun z => ?_)
            · exact z.elim
            · refine j_iconst C (nI 0) dX11_must_61 (by decide) ?_
              exact j_iret C hr hlk (⟨hMb_8, hsb_8⟩) dX11_must_62
          · refine j_iload_n C dX11_must_44 rfl 3 rfl ?_
            refine j_iconst C (nI 2) dX11_must_45 (by decide) ?_
            refine j_icmp_le (tgt := 53) C dX11_must_46 (by decide) (fa_le _ _) (fun h46 => ?_) (fun h46 => ?_)
            · omega
            · refine j_iconst C (nI 1) dX11_must_49 (by decide) ?_
              refine j_goto (tgt := 54) C dX11_must_50 (by decide) ?_
              refine j_iconst C (nI 2) dX11_must_54 (by decide) ?_
              refine c_i0 C (r_V C 31 0 [.int (nI 1), .int (nI 2)] (c_X11_bad1 l D cy base Λ σ0 M hM 2) (cwV 2 hts gX11_must_X11_bad rfl rfl rfl (by decide +kernel) ⟨by decide, by decide⟩) (MR.in0 hM (by decide) (by decide)) rfl rfl rfl rfl (Nat.le_of_ble_eq_true rfl) dX11_must_55 ⟨by decide, by decide⟩) (fun rv ub_11 hp => ?_)
              obtain ⟨hp1, hMb_11, hp3⟩ := hp
              have hsb_11 := Same.tr hs0 hp3
              rw [hp1]
              refine j_if_eq (tgt := 63) C (P := False) dX11_must_58 (by decide) (by decide) (fun z => ?_) (fun z => ?_)
              · exact z.elim
              · refine j_iconst C (nI 0) dX11_must_61 (by decide) ?_
                exact j_iret C hr hlk (⟨hMb_11, hsb_11⟩) dX11_must_62
    · exact absurd (h19.symm.trans (inR_nI hB hj)) (by decide)

set_option maxHeartbeats 4000000 in
set_option maxRecDepth 100000 in
theorem c_mties_ok (l : Launch) (D : va_G) (cy : Nat → ClassId) (base : Nat) (Λ : LY) (σ : HS) (M : MM) (hM0 : MR0 Λ σ M) (h00 : M 31 0 = 0) (hB : MBd M) (i j : Nat) (hi : i < M 31 5) (hj : j < M 31 5) (hij : i ≠ j) : Met l yX11_ties wsX11_ties ({ frames := 24, cells := 0, slots := 0, locals := 360 }) (va_Pc [.ref (gA Λ 31 0), .int (nI i), .int (nI j)] (Wd D cy base Λ σ)) (va_Qi (fun v u => MR Λ u M ∧ Same nMo σ u ∧ v = nI (tieN M i j)) (Wd D cy base Λ) (Ab base)) 0 0 (Ab base) := by
  refine j_start (cc := cX11_ties) (nL := 3) (ret := (some .int)) (lv := [(0, .ref (gA Λ 31 0)), (1, .int (nI i)), (2, .int (nI j))]) (by decide) rfl (Nat.le_of_ble_eq_true rfl) rfl ?_
  intro p e s m below meth c C hr hlk hnm
  have C : Cx p s m ([.ref (gA Λ 31 0), .int (nI i), .int (nI j)] : List Value).toArray c cX11_ties 3 RX11 wsX11_ties D cy base := C
  have hts := C.2.2.2.2.1
  have hwX11 : ∀ w ∈ u_ws RX11 TX11 26, w ∈ wsX11_ties := by decide +kernel
  have hM73 : (Cond.fieldLink RX11 73 (TX11 0).1 (TX11 0).2.1 (TX11 0).2.2.1).before ([.ref (gA Λ 31 0), .int (nI i), .int (nI j)] : List Value).toArray s = true := hts (.fieldLink RX11 73 "CodeRoomsModel" "thrown" "I") (by decide +kernel)
  have hL73 : FL RX11 73 (TX11 0).1 (TX11 0).2.1 (TX11 0).2.2.1 ([.ref (gA Λ 31 0), .int (nI i), .int (nI j)] : List Value).toArray s := Or.inl hM73
  have hn : M 31 5 ≤ 40 := hB 31 5 rfl
  refine j_aload_n C dX11_ties_0 rfl 0 rfl ?_
  refine j_iconst C (nI 0) dX11_ties_1 (by decide) ?_
  refine j_putI C hwX11 31 0 0 (MR0.in0 hM0) rfl rfl (by decide) rfl tyX11 tyX11_ok nmX11 rfl rfl rfl hL73 dX11_ties_2 ?_
  have hM := MR0.start hM0 h00
  have hs0 : Same nMo σ (sI σ 31 0 0 (nI 0)) := Same.sI Same.rf (by decide)
  generalize sI σ 31 0 0 (nI 0) = σ0 at hM hs0 ⊢
  refine j_aload_n C dX11_ties_5 rfl 0 rfl ?_
  refine j_aload_n C dX11_ties_6 rfl 0 rfl ?_
  refine j_iload_n C dX11_ties_7 rfl 1 rfl ?_
  refine c_i0 C (r_V C 31 0 [.int (nI i)] (c_X11_isRoutine l D cy base Λ σ0 M hM hB (nI i)) (cwV 1 hts gX11_ties_X11_isRoutine rfl rfl rfl (by decide +kernel) ⟨by decide, by decide⟩) (MR.in0 hM (by decide) (by decide)) rfl rfl rfl rfl (Nat.le_of_ble_eq_true rfl) dX11_ties_8 ⟨by decide, by decide⟩) (fun rv uu hp => ?_)
  rw [hp.1, hp.2]
  refine j_ifeq_b (tgt := 22) C dX11_ties_11 (by decide) (fun h11 => ?_) (fun h11 => ?_)
  · exact absurd (h11.symm.trans (inR_nI hB hi)) (by decide)
  · refine j_aload_n C dX11_ties_14 rfl 0 rfl ?_
    refine j_iload_n C dX11_ties_15 rfl 2 rfl ?_
    refine c_i0 C (r_V C 31 0 [.int (nI j)] (c_X11_isRoutine l D cy base Λ σ0 M hM hB (nI j)) (cwV 1 hts gX11_ties_X11_isRoutine rfl rfl rfl (by decide +kernel) ⟨by decide, by decide⟩) (MR.in0 hM (by decide) (by decide)) rfl rfl rfl rfl (Nat.le_of_ble_eq_true rfl) dX11_ties_16 ⟨by decide, by decide⟩) (fun rv uu hp => ?_)
    rw [hp.1, hp.2]
    refine j_ifne_b (tgt := 26) C dX11_ties_19 (by decide) (fun h19 => ?_) (fun h19 => ?_)
    · refine j_iconst C (nI 0) dX11_ties_26 (by decide) ?_
      refine j_iconst C (nI 1) dX11_ties_27 (by decide) ?_
      refine c_i0 C (r_V C 31 0 [.int (nI 0), .int (nI 1)] (c_X11_bad0 l D cy base Λ σ0 (MR.in0 hM (by decide) (by decide)) 1) (cwV 2 hts gX11_ties_X11_bad rfl rfl rfl (by decide +kernel) ⟨by decide, by decide⟩) (MR.in0 hM (by decide) (by decide)) rfl rfl rfl rfl (Nat.le_of_ble_eq_true rfl) dX11_ties_28 ⟨by decide, by decide⟩) (fun rv uu hp => ?_)
      rw [hp.1, hp.2]
      refine j_if_ne (tgt := 52) C (P := True) dX11_ties_31 (by decide) (by decide) (fun z => ?_) (fun z => ?_)
      · exact absurd trivial z
      · refine j_aload_n C dX11_ties_34 rfl 0 rfl ?_
        refine j_iload_n C dX11_ties_35 rfl 1 rfl ?_
        refine j_iload_n C dX11_ties_36 rfl 2 rfl ?_
        refine j_icmp_ne (tgt := 44) C dX11_ties_37 (by decide) (nI_eq (by omega) (by omega)) (fun h37 => ?_) (fun h37 => ?_)
        · refine j_iconst C (nI 0) dX11_ties_44 (by decide) ?_
          refine j_iconst C (nI 2) dX11_ties_45 (by decide) ?_
          refine c_i0 C (r_V C 31 0 [.int (nI 0), .int (nI 2)] (c_X11_bad0 l D cy base Λ σ0 (MR.in0 hM (by decide) (by decide)) 2) (cwV 2 hts gX11_ties_X11_bad rfl rfl rfl (by decide +kernel) ⟨by decide, by decide⟩) (MR.in0 hM (by decide) (by decide)) rfl rfl rfl rfl (Nat.le_of_ble_eq_true rfl) dX11_ties_46 ⟨by decide, by decide⟩) (fun rv uu hp => ?_)
          rw [hp.1, hp.2]
          refine j_if_eq (tgt := 54) C (P := True) dX11_ties_49 (by decide) (by decide) (fun z => ?_) (fun z => ?_)
          · refine j_aload_n C dX11_ties_54 rfl 0 rfl ?_
            refine j_iload_n C dX11_ties_55 rfl 1 rfl ?_
            refine j_iload_n C dX11_ties_56 rfl 2 rfl ?_
            have hbt57 := tieN_le hB (a := i) (b := j) (by omega) (by omega)
            refine c_i0 C (r_V C 31 0 [.int (nI i), .int (nI j)] (c_X11_tieOf l D cy base Λ σ0 M hM hB i j (by omega) (by omega) (tieN M i j) rfl) (cwV 2 hts gX11_ties_X11_tieOf rfl rfl rfl (by decide +kernel) ⟨by decide, by decide⟩) (MR.in0 hM (by decide) (by decide)) rfl rfl rfl rfl (Nat.le_of_ble_eq_true rfl) dX11_ties_57 ⟨by decide, by decide⟩) (fun rv uu hp => ?_)
            rw [hp.1, hp.2]
            exact j_iret C hr hlk (⟨hM, hs0, rfl⟩) dX11_ties_60
          · exact absurd trivial z
        · omega
    · exact absurd (h19.symm.trans (inR_nI hB hj)) (by decide)

set_option maxHeartbeats 4000000 in
set_option maxRecDepth 100000 in
theorem c_mtie_ok (l : Launch) (D : va_G) (cy : Nat → ClassId) (base : Nat) (Λ : LY) (σ : HS) (M : MM) (hM0 : MR0 Λ σ M) (h00 : M 31 0 = 0) (hB : MBd M) (i j : Nat) (hi : i < M 31 5) (hj : j < M 31 5) (k n : Nat) (hij : i ≠ j) (hk : k < 3) (hn1 : 1 ≤ n) (hn2 : n ≤ 1000) : Met l yX11_tie wsX11_tie ({ frames := 24, cells := 0, slots := 0, locals := 360 }) (va_Pc [.ref (gA Λ 31 0), .int (nI i), .int (nI j), .int (nI k), .int (nI n)] (Wd D cy base Λ σ)) (va_Qi (fun v u => MR Λ u (settle (tieM M i j k n)) ∧ Same nMo σ u ∧ v = nI (tieV M i j k n)) (Wd D cy base Λ) (Ab base)) 0 0 (Ab base) := by
  refine j_start (cc := cX11_tie) (nL := 6) (ret := (some .int)) (lv := [(0, .ref (gA Λ 31 0)), (1, .int (nI i)), (2, .int (nI j)), (3, .int (nI k)), (4, .int (nI n))]) (by decide) rfl (Nat.le_of_ble_eq_true rfl) rfl ?_
  intro p e s m below meth c C hr hlk hnm
  have C : Cx p s m ([.ref (gA Λ 31 0), .int (nI i), .int (nI j), .int (nI k), .int (nI n)] : List Value).toArray c cX11_tie 6 RX11 wsX11_tie D cy base := C
  have hts := C.2.2.2.2.1
  have hwX11 : ∀ w ∈ u_ws RX11 TX11 26, w ∈ wsX11_tie := by decide +kernel
  have hM20 : (Cond.fieldLink RX11 20 (TX11 6).1 (TX11 6).2.1 (TX11 6).2.2.1).before ([.ref (gA Λ 31 0), .int (nI i), .int (nI j), .int (nI k), .int (nI n)] : List Value).toArray s = true := hts (.fieldLink RX11 20 "CodeRoomsModel" "numbers" "[I") (by decide +kernel)
  have hL20 : FL RX11 20 (TX11 6).1 (TX11 6).2.1 (TX11 6).2.2.1 ([.ref (gA Λ 31 0), .int (nI i), .int (nI j), .int (nI k), .int (nI n)] : List Value).toArray s := Or.inl hM20
  have hM73 : (Cond.fieldLink RX11 73 (TX11 0).1 (TX11 0).2.1 (TX11 0).2.2.1).before ([.ref (gA Λ 31 0), .int (nI i), .int (nI j), .int (nI k), .int (nI n)] : List Value).toArray s = true := hts (.fieldLink RX11 73 "CodeRoomsModel" "thrown" "I") (by decide +kernel)
  have hL73 : FL RX11 73 (TX11 0).1 (TX11 0).2.1 (TX11 0).2.2.1 ([.ref (gA Λ 31 0), .int (nI i), .int (nI j), .int (nI k), .int (nI n)] : List Value).toArray s := Or.inl hM73
  have hC104 : (Jvm.Cond.constant RX11 104 999999).before ([.ref (gA Λ 31 0), .int (nI i), .int (nI j), .int (nI k), .int (nI n)] : List Value).toArray s = true := hts _ (by decide +kernel)
  have hn : M 31 5 ≤ 40 := hB 31 5 rfl
  refine j_aload_n C dX11_tie_0 rfl 0 rfl ?_
  refine j_iconst C (nI 0) dX11_tie_1 (by decide) ?_
  refine j_putI C hwX11 31 0 0 (MR0.in0 hM0) rfl rfl (by decide) rfl tyX11 tyX11_ok nmX11 rfl rfl rfl hL73 dX11_tie_2 ?_
  have hM := MR0.start hM0 h00
  have hs0 : Same nMo σ (sI σ 31 0 0 (nI 0)) := Same.sI Same.rf (by decide)
  generalize sI σ 31 0 0 (nI 0) = σ0 at hM hs0 ⊢
  refine j_aload_n C dX11_tie_5 rfl 0 rfl ?_
  refine j_aload_n C dX11_tie_6 rfl 0 rfl ?_
  refine j_iload_n C dX11_tie_7 rfl 1 rfl ?_
  refine c_i0 C (r_V C 31 0 [.int (nI i)] (c_X11_isRoutine l D cy base Λ σ0 M hM hB (nI i)) (cwV 1 hts gX11_tie_X11_isRoutine rfl rfl rfl (by decide +kernel) ⟨by decide, by decide⟩) (MR.in0 hM (by decide) (by decide)) rfl rfl rfl rfl (Nat.le_of_ble_eq_true rfl) dX11_tie_8 ⟨by decide, by decide⟩) (fun rv uu hp => ?_)
  rw [hp.1, hp.2]
  refine j_ifeq_b (tgt := 22) C dX11_tie_11 (by decide) (fun h11 => ?_) (fun h11 => ?_)
  · exact absurd (h11.symm.trans (inR_nI hB hi)) (by decide)
  · refine j_aload_n C dX11_tie_14 rfl 0 rfl ?_
    refine j_iload_n C dX11_tie_15 rfl 2 rfl ?_
    refine c_i0 C (r_V C 31 0 [.int (nI j)] (c_X11_isRoutine l D cy base Λ σ0 M hM hB (nI j)) (cwV 1 hts gX11_tie_X11_isRoutine rfl rfl rfl (by decide +kernel) ⟨by decide, by decide⟩) (MR.in0 hM (by decide) (by decide)) rfl rfl rfl rfl (Nat.le_of_ble_eq_true rfl) dX11_tie_16 ⟨by decide, by decide⟩) (fun rv uu hp => ?_)
    rw [hp.1, hp.2]
    refine j_ifne_b (tgt := 26) C dX11_tie_19 (by decide) (fun h19 => ?_) (fun h19 => ?_)
    · refine j_iconst C (nI 0) dX11_tie_26 (by decide) ?_
      refine j_iconst C (nI 1) dX11_tie_27 (by decide) ?_
      refine c_i0 C (r_V C 31 0 [.int (nI 0), .int (nI 1)] (c_X11_bad0 l D cy base Λ σ0 (MR.in0 hM (by decide) (by decide)) 1) (cwV 2 hts gX11_tie_X11_bad rfl rfl rfl (by decide +kernel) ⟨by decide, by decide⟩) (MR.in0 hM (by decide) (by decide)) rfl rfl rfl rfl (Nat.le_of_ble_eq_true rfl) dX11_tie_28 ⟨by decide, by decide⟩) (fun rv uu hp => ?_)
      rw [hp.1, hp.2]
      refine j_if_ne (tgt := 75) C (P := True) dX11_tie_31 (by decide) (by decide) (fun z => ?_) (fun z => ?_)
      · exact absurd trivial z
      · refine j_aload_n C dX11_tie_34 rfl 0 rfl ?_
        refine j_iload_n C dX11_tie_35 rfl 1 rfl ?_
        refine j_iload_n C dX11_tie_36 rfl 2 rfl ?_
        refine j_icmp_eq (tgt := 63) C dX11_tie_37 (by decide) (nI_eq (by omega) (by omega)) (fun h37 => ?_) (fun h37 => ?_)
        · first | omega | exact h41.elim
        · refine j_iload_n C dX11_tie_40 rfl 3 rfl ?_
          refine j_if_lt (tgt := 63) C dX11_tie_41 (by decide) (nJ_lt0 (by omega)) (fun h41 => ?_) (fun h41 => ?_)
          · exact h41.elim
          · refine j_iload_n C dX11_tie_44 rfl 3 rfl ?_
            refine j_iconst C (nI 3) dX11_tie_45 (by decide) ?_
            refine j_icmp_ge (tgt := 63) C dX11_tie_46 (by decide) (nI_leI (by omega) (by omega)) (fun h46 => ?_) (fun h46 => ?_)
            · first | omega | exact h41.elim
            · refine j_iload C dX11_tie_49 4 rfl ?_
              refine j_iconst C (nI 1) dX11_tie_51 (by decide) ?_
              refine j_icmp_lt (tgt := 63) C dX11_tie_52 (by decide) (nI_ltI (by omega) (by omega)) (fun h52 => ?_) (fun h52 => ?_)
              · first | omega | exact h41.elim
              · refine j_iload C dX11_tie_55 4 rfl ?_
                refine j_sipush C (nI 1000) dX11_tie_57 (by decide) ?_
                refine j_icmp_le (tgt := 67) C dX11_tie_60 (by decide) (nI_leI (by omega) (by omega)) (fun h60 => ?_) (fun h60 => ?_)
                · refine j_iconst C (nI 0) dX11_tie_67 (by decide) ?_
                  refine j_iconst C (nI 2) dX11_tie_68 (by decide) ?_
                  refine c_i0 C (r_V C 31 0 [.int (nI 0), .int (nI 2)] (c_X11_bad0 l D cy base Λ σ0 (MR.in0 hM (by decide) (by decide)) 2) (cwV 2 hts gX11_tie_X11_bad rfl rfl rfl (by decide +kernel) ⟨by decide, by decide⟩) (MR.in0 hM (by decide) (by decide)) rfl rfl rfl rfl (Nat.le_of_ble_eq_true rfl) dX11_tie_69 ⟨by decide, by decide⟩) (fun rv uu hp => ?_)
                  rw [hp.1, hp.2]
                  refine j_if_eq (tgt := 77) C (P := True) dX11_tie_72 (by decide) (by decide) (fun z => ?_) (fun z => ?_)
                  · refine j_aload_n C dX11_tie_77 rfl 0 rfl ?_
                    refine j_getV C hwX11 31 0 6 (MR.in0 hM (by decide) (by decide)) rfl rfl (by decide) rfl 0 (hM.2.2.2 6 rfl) hL20 dX11_tie_78 ?_
                    refine j_iload_n C dX11_tie_81 rfl 3 rfl ?_
                    refine j_iload_n C dX11_tie_82 rfl 1 rfl ?_
                    refine j_iload_n C dX11_tie_83 rfl 2 rfl ?_
                    refine c_i0 C (r_S C [.int (nI k), .int (nI i), .int (nI j)] (c_X11_cell l D cy base Λ σ0 k i j) (va_cwS 3 hts gX11_tie_X11_cell rfl rfl rfl (by decide +kernel) ⟨by decide, by decide⟩) rfl rfl (Nat.le_of_ble_eq_true rfl) dX11_tie_84 ⟨by decide, by decide⟩) (fun rv uu hp => ?_)
                    rw [hp.1, hp.2]
                    have hb87 : M 35 ((40 * k + i) * 40 + j) ≤ 999999 := hB 35 ((40 * k + i) * 40 + j) (decide_eq_true (show (40 * k + i) * 40 + j < 4800 by omega))
                    refine j_iald C 35 0 ((40 * k + i) * 40 + j) (MR.in0 hM (by decide) (by decide)) rfl rfl 4800 (hM.2.2.1 35 (by decide) (by decide)) (by omega) (by omega) (nI (M 35 ((40 * k + i) * 40 + j))) (hM.1 35 ((40 * k + i) * 40 + j) (decide_eq_true (show (40 * k + i) * 40 + j < 4800 by omega))) dX11_tie_87 ?_
                    refine j_iload C dX11_tie_88 4 rfl ?_
                    refine j_iadd C (nI (M 35 ((40 * k + i) * 40 + j) + n)) dX11_tie_90 (nI_add _ _) ?_
                    refine j_istore C [(5, .int (nI (M 35 ((40 * k + i) * 40 + j) + n))), (0, .ref (gA Λ 31 0)), (1, .int (nI i)), (2, .int (nI j)), (3, .int (nI k)), (4, .int (nI n))] dX11_tie_91 (by decide) rfl ?_
                    have lb107 : ∀ (q : Nat), (q = tieV M i j k n) → J p l e ({ frames := 24, cells := 0, slots := 0, locals := 360 }) s m ([.ref (gA Λ 31 0), .int (nI i), .int (nI j), .int (nI k), .int (nI n)] : List Value).toArray below meth c 6 D cy base (MQ below (va_Qi (fun v u => MR Λ u (settle (tieM M i j k n)) ∧ Same nMo σ u ∧ v = nI (tieV M i j k n)) (Wd D cy base Λ) (Ab base)) ([.ref (gA Λ 31 0), .int (nI i), .int (nI j), .int (nI k), .int (nI n)] : List Value).toArray s 0 0 (Ab base)) 0 0 Λ 107 [(0, .ref (gA Λ 31 0)), (1, .int (nI i)), (2, .int (nI j)), (3, .int (nI k)), (4, .int (nI n)), (5, .int (nI (M 35 ((40 * k + i) * 40 + j) + n)))] [.int (nI q)] σ0 := by
                      intro q hq
                      refine j_istore C [(5, .int (nI q)), (0, .ref (gA Λ 31 0)), (1, .int (nI i)), (2, .int (nI j)), (3, .int (nI k)), (4, .int (nI n))] dX11_tie_107 (by decide) rfl ?_
                      refine j_aload_n C dX11_tie_109 rfl 1 rfl ?_
                      refine j_getV C hwX11 31 0 6 (MR.in0 hM (by decide) (by decide)) rfl rfl (by decide) rfl 0 (hM.2.2.2 6 rfl) hL20 dX11_tie_110 ?_
                      refine j_iload_n C dX11_tie_113 rfl 4 rfl ?_
                      refine j_iload_n C dX11_tie_114 rfl 2 rfl ?_
                      refine j_iload_n C dX11_tie_115 rfl 3 rfl ?_
                      refine c_i0 C (r_S C [.int (nI k), .int (nI i), .int (nI j)] (c_X11_cell l D cy base Λ σ0 k i j) (va_cwS 3 hts gX11_tie_X11_cell rfl rfl rfl (by decide +kernel) ⟨by decide, by decide⟩) rfl rfl (Nat.le_of_ble_eq_true rfl) dX11_tie_116 ⟨by decide, by decide⟩) (fun rv uu hp => ?_)
                      rw [hp.1, hp.2]
                      refine j_iload C dX11_tie_119 0 rfl ?_
                      refine j_iast C 35 0 ((40 * k + i) * 40 + j) (MR.in0 hM (by decide) (by decide)) rfl rfl 4800 (hM.2.2.1 35 (by decide) (by decide)) (by omega) (by omega) (nI q) rfl dX11_tie_121 ?_
                      have hM_11 := MR.set (t := 35) (k := ((40 * k + i) * 40 + j)) (x := q) (v := (nI q)) hM rfl
                      have hs_12 := Same.sI (t := 35) (i := 0) (k := ((40 * k + i) * 40 + j)) (x := (nI q)) hs0 (by decide)
                      refine j_iload_n C dX11_tie_122 rfl 4 rfl ?_
                      refine j_if_le (tgt := 139) C dX11_tie_123 (by decide) (nJ_le0 (by omega)) (fun h123 => ?_) (fun h123 => ?_)
                      · refine j_aload_n C dX11_tie_139 rfl 1 rfl ?_
                        refine c_v0 C (r_V C 31 0 [] (c_X11_settles l D cy base Λ (sI σ0 35 0 ((40 * k + i) * 40 + j) (nI q)) (mS M 35 ((40 * k + i) * 40 + j) q) hM_11 (hB.set (show q ≤ 999999 by rw [hq]; exact tieV_le))) (cwV 0 hts gX11_tie_X11_settles rfl rfl rfl (by decide +kernel) ⟨by decide, by decide⟩) (MR.in0 hM_11 (by decide) (by decide)) rfl rfl rfl rfl (Nat.le_of_ble_eq_true rfl) dX11_tie_140 ⟨by decide, by decide⟩) (fun ub_14 hp => ?_)
                        obtain ⟨hMb_14, hp3⟩ := hp
                        have hsb_14 := Same.tr hs_12 hp3
                        refine j_iload C dX11_tie_143 0 rfl ?_
                        exact j_iret C hr hlk (⟨by unfold tieM; rw [if_pos h123, ← hq]; exact hMb_14, hsb_14, by rw [hq]⟩) dX11_tie_145
                      · refine j_aload_n C dX11_tie_126 rfl 1 rfl ?_
                        refine j_getV C hwX11 31 0 6 (MR.in0 hM_11 (by decide) (by decide)) rfl rfl (by decide) rfl 0 (hM_11.2.2.2 6 rfl) hL20 dX11_tie_127 ?_
                        refine j_iload_n C dX11_tie_130 rfl 4 rfl ?_
                        refine j_iload_n C dX11_tie_131 rfl 3 rfl ?_
                        refine j_iload_n C dX11_tie_132 rfl 2 rfl ?_
                        refine c_i0 C (r_S C [.int (nI k), .int (nI j), .int (nI i)] (c_X11_cell l D cy base Λ (sI σ0 35 0 ((40 * k + i) * 40 + j) (nI q)) k j i) (va_cwS 3 hts gX11_tie_X11_cell rfl rfl rfl (by decide +kernel) ⟨by decide, by decide⟩) rfl rfl (Nat.le_of_ble_eq_true rfl) dX11_tie_133 ⟨by decide, by decide⟩) (fun rv uu hp => ?_)
                        rw [hp.1, hp.2]
                        refine j_iload C dX11_tie_136 0 rfl ?_
                        refine j_iast C 35 0 ((40 * k + j) * 40 + i) (MR.in0 hM_11 (by decide) (by decide)) rfl rfl 4800 (hM_11.2.2.1 35 (by decide) (by decide)) (by omega) (by omega) (nI q) rfl dX11_tie_138 ?_
                        have hM_15 := MR.set (t := 35) (k := ((40 * k + j) * 40 + i)) (x := q) (v := (nI q)) hM_11 rfl
                        have hs_16 := Same.sI (t := 35) (i := 0) (k := ((40 * k + j) * 40 + i)) (x := (nI q)) hs_12 (by decide)
                        refine j_aload_n C dX11_tie_139 rfl 1 rfl ?_
                        refine c_v0 C (r_V C 31 0 [] (c_X11_settles l D cy base Λ (sI (sI σ0 35 0 ((40 * k + i) * 40 + j) (nI q)) 35 0 ((40 * k + j) * 40 + i) (nI q)) (mS (mS M 35 ((40 * k + i) * 40 + j) q) 35 ((40 * k + j) * 40 + i) q) hM_15 (MBd.set (hB.set (show q ≤ 999999 by rw [hq]; exact tieV_le)) (show q ≤ 999999 by rw [hq]; exact tieV_le))) (cwV 0 hts gX11_tie_X11_settles rfl rfl rfl (by decide +kernel) ⟨by decide, by decide⟩) (MR.in0 hM_15 (by decide) (by decide)) rfl rfl rfl rfl (Nat.le_of_ble_eq_true rfl) dX11_tie_140 ⟨by decide, by decide⟩) (fun ub_17 hp => ?_)
                        obtain ⟨hMb_17, hp3⟩ := hp
                        have hsb_17 := Same.tr hs_16 hp3
                        refine j_iload C dX11_tie_143 0 rfl ?_
                        exact j_iret C hr hlk (⟨by unfold tieM; rw [if_neg h123, ← hq]; exact hMb_17, hsb_17, by rw [hq]⟩) dX11_tie_145
                    refine j_iload C dX11_tie_93 0 rfl ?_
                    refine j_ldc C (nI 999999) hC104 dX11_tie_95 (by decide) ?_
                    refine j_icmp_le (tgt := 105) C dX11_tie_97 (by decide) (nI_leI (by omega) (by omega)) (fun h97 => ?_) (fun h97 => ?_)
                    · refine j_iload C dX11_tie_105 0 rfl ?_
                      refine j_lv [1, 2, 3, 4, 5, 0] rfl ?_
                      exact lb107 (M 35 ((40 * k + i) * 40 + j) + n) (by unfold tieV; rw [if_neg (by omega)])
                    · refine j_ldc C (nI 999999) hC104 dX11_tie_100 (by decide) ?_
                      refine j_goto (tgt := 107) C dX11_tie_102 (by decide) ?_
                      refine j_lv [1, 2, 3, 4, 5, 0] rfl ?_
                      exact lb107 999999 (by unfold tieV; rw [if_pos (by omega)])
                  · exact absurd trivial z
                · first | omega | exact h41.elim
    · exact absurd (h19.symm.trans (inR_nI hB hj)) (by decide)

set_option maxHeartbeats 4000000 in
set_option maxRecDepth 100000 in
theorem c_mmust_ok (l : Launch) (D : va_G) (cy : Nat → ClassId) (base : Nat) (Λ : LY) (σ : HS) (M : MM) (hM0 : MR0 Λ σ M) (h00 : M 31 0 = 0) (hB : MBd M) (i j : Nat) (hi : i < M 31 5) (hj : j < M 31 5) (k : Nat) (hij : i ≠ j) (hk : k ≤ 2) : Met l yX11_must wsX11_must ({ frames := 24, cells := 0, slots := 0, locals := 360 }) (va_Pc [.ref (gA Λ 31 0), .int (nI i), .int (nI j), .int (nI k)] (Wd D cy base Λ σ)) (va_Qi (fun v u => MR Λ u (mS (mS M 39 (40 * i + j) k) 39 (40 * j + i) k) ∧ Same nMo σ u ∧ v = nI (M 39 (40 * i + j))) (Wd D cy base Λ) (Ab base)) 0 0 (Ab base) := by
  refine j_start (cc := cX11_must) (nL := 5) (ret := (some .int)) (lv := [(0, .ref (gA Λ 31 0)), (1, .int (nI i)), (2, .int (nI j)), (3, .int (nI k))]) (by decide) rfl (Nat.le_of_ble_eq_true rfl) rfl ?_
  intro p e s m below meth c C hr hlk hnm
  have C : Cx p s m ([.ref (gA Λ 31 0), .int (nI i), .int (nI j), .int (nI k)] : List Value).toArray c cX11_must 5 RX11 wsX11_must D cy base := C
  have hts := C.2.2.2.2.1
  have hwX11 : ∀ w ∈ u_ws RX11 TX11 26, w ∈ wsX11_must := by decide +kernel
  have hM43 : (Cond.fieldLink RX11 43 (TX11 13).1 (TX11 13).2.1 (TX11 13).2.2.1).before ([.ref (gA Λ 31 0), .int (nI i), .int (nI j), .int (nI k)] : List Value).toArray s = true := hts (.fieldLink RX11 43 "CodeRoomsModel" "musts" "[I") (by decide +kernel)
  have hL43 : FL RX11 43 (TX11 13).1 (TX11 13).2.1 (TX11 13).2.2.1 ([.ref (gA Λ 31 0), .int (nI i), .int (nI j), .int (nI k)] : List Value).toArray s := Or.inl hM43
  have hM73 : (Cond.fieldLink RX11 73 (TX11 0).1 (TX11 0).2.1 (TX11 0).2.2.1).before ([.ref (gA Λ 31 0), .int (nI i), .int (nI j), .int (nI k)] : List Value).toArray s = true := hts (.fieldLink RX11 73 "CodeRoomsModel" "thrown" "I") (by decide +kernel)
  have hL73 : FL RX11 73 (TX11 0).1 (TX11 0).2.1 (TX11 0).2.2.1 ([.ref (gA Λ 31 0), .int (nI i), .int (nI j), .int (nI k)] : List Value).toArray s := Or.inl hM73
  have hn : M 31 5 ≤ 40 := hB 31 5 rfl
  refine j_aload_n C dX11_must_0 rfl 0 rfl ?_
  refine j_iconst C (nI 0) dX11_must_1 (by decide) ?_
  refine j_putI C hwX11 31 0 0 (MR0.in0 hM0) rfl rfl (by decide) rfl tyX11 tyX11_ok nmX11 rfl rfl rfl hL73 dX11_must_2 ?_
  have hM := MR0.start hM0 h00
  have hs0 : Same nMo σ (sI σ 31 0 0 (nI 0)) := Same.sI Same.rf (by decide)
  generalize sI σ 31 0 0 (nI 0) = σ0 at hM hs0 ⊢
  refine j_aload_n C dX11_must_5 rfl 0 rfl ?_
  refine j_aload_n C dX11_must_6 rfl 0 rfl ?_
  refine j_iload_n C dX11_must_7 rfl 1 rfl ?_
  refine c_i0 C (r_V C 31 0 [.int (nI i)] (c_X11_isRoutine l D cy base Λ σ0 M hM hB (nI i)) (cwV 1 hts gX11_must_X11_isRoutine rfl rfl rfl (by decide +kernel) ⟨by decide, by decide⟩) (MR.in0 hM (by decide) (by decide)) rfl rfl rfl rfl (Nat.le_of_ble_eq_true rfl) dX11_must_8 ⟨by decide, by decide⟩) (fun rv uu hp => ?_)
  rw [hp.1, hp.2]
  refine j_ifeq_b (tgt := 22) C dX11_must_11 (by decide) (fun h11 => ?_) (fun h11 => ?_)
  · exact absurd (h11.symm.trans (inR_nI hB hi)) (by decide)
  · refine j_aload_n C dX11_must_14 rfl 0 rfl ?_
    refine j_iload_n C dX11_must_15 rfl 2 rfl ?_
    refine c_i0 C (r_V C 31 0 [.int (nI j)] (c_X11_isRoutine l D cy base Λ σ0 M hM hB (nI j)) (cwV 1 hts gX11_must_X11_isRoutine rfl rfl rfl (by decide +kernel) ⟨by decide, by decide⟩) (MR.in0 hM (by decide) (by decide)) rfl rfl rfl rfl (Nat.le_of_ble_eq_true rfl) dX11_must_16 ⟨by decide, by decide⟩) (fun rv uu hp => ?_)
    rw [hp.1, hp.2]
    refine j_ifne_b (tgt := 26) C dX11_must_19 (by decide) (fun h19 => ?_) (fun h19 => ?_)
    · refine j_iconst C (nI 0) dX11_must_26 (by decide) ?_
      refine j_iconst C (nI 1) dX11_must_27 (by decide) ?_
      refine c_i0 C (r_V C 31 0 [.int (nI 0), .int (nI 1)] (c_X11_bad0 l D cy base Λ σ0 (MR.in0 hM (by decide) (by decide)) 1) (cwV 2 hts gX11_must_X11_bad rfl rfl rfl (by decide +kernel) ⟨by decide, by decide⟩) (MR.in0 hM (by decide) (by decide)) rfl rfl rfl rfl (Nat.le_of_ble_eq_true rfl) dX11_must_28 ⟨by decide, by decide⟩) (fun rv uu hp => ?_)
      rw [hp.1, hp.2]
      refine j_if_ne (tgt := 61) C (P := True) dX11_must_31 (by decide) (by decide) (fun z => ?_) (fun z => ?_)
      · exact absurd trivial z
      · refine j_aload_n C dX11_must_34 rfl 0 rfl ?_
        refine j_iload_n C dX11_must_35 rfl 1 rfl ?_
        refine j_iload_n C dX11_must_36 rfl 2 rfl ?_
        refine j_icmp_eq (tgt := 49) C dX11_must_37 (by decide) (nI_eq (by omega) (by omega)) (fun h37 => ?_) (fun h37 => ?_)
        · first | omega | exact h41.elim
        · refine j_iload_n C dX11_must_40 rfl 3 rfl ?_
          refine j_if_lt (tgt := 49) C dX11_must_41 (by decide) (nJ_lt0 (by omega)) (fun h41 => ?_) (fun h41 => ?_)
          · first | omega | exact h41.elim
          · refine j_iload_n C dX11_must_44 rfl 3 rfl ?_
            refine j_iconst C (nI 2) dX11_must_45 (by decide) ?_
            refine j_icmp_le (tgt := 53) C dX11_must_46 (by decide) (nI_leI (by omega) (by omega)) (fun h46 => ?_) (fun h46 => ?_)
            · refine j_iconst C (nI 0) dX11_must_53 (by decide) ?_
              refine j_iconst C (nI 2) dX11_must_54 (by decide) ?_
              refine c_i0 C (r_V C 31 0 [.int (nI 0), .int (nI 2)] (c_X11_bad0 l D cy base Λ σ0 (MR.in0 hM (by decide) (by decide)) 2) (cwV 2 hts gX11_must_X11_bad rfl rfl rfl (by decide +kernel) ⟨by decide, by decide⟩) (MR.in0 hM (by decide) (by decide)) rfl rfl rfl rfl (Nat.le_of_ble_eq_true rfl) dX11_must_55 ⟨by decide, by decide⟩) (fun rv uu hp => ?_)
              rw [hp.1, hp.2]
              refine j_if_eq (tgt := 63) C (P := True) dX11_must_58 (by decide) (by decide) (fun z => ?_) (fun z => ?_)
              · refine j_aload_n C dX11_must_63 rfl 0 rfl ?_
                refine j_getV C hwX11 31 0 13 (MR.in0 hM (by decide) (by decide)) rfl rfl (by decide) rfl 0 (hM.2.2.2 13 rfl) hL43 dX11_must_64 ?_
                refine j_bipush C (nI 40) dX11_must_67 (by decide) ?_
                refine j_iload_n C dX11_must_69 rfl 1 rfl ?_
                refine j_imul C (nI (40 * i)) dX11_must_70 (pk_mul _ _) ?_
                refine j_iload_n C dX11_must_71 rfl 2 rfl ?_
                refine j_iadd C (nI (40 * i + j)) dX11_must_72 (nI_add _ _) ?_
                have hb73 : M 39 (40 * i + j) ≤ 2 := hB 39 (40 * i + j) (decide_eq_true (show 40 * i + j < 1600 by omega))
                refine j_iald C 39 0 (40 * i + j) (MR.in0 hM (by decide) (by decide)) rfl rfl 1600 (hM.2.2.1 39 (by decide) (by decide)) (by omega) (by omega) (nI (M 39 (40 * i + j))) (hM.1 39 (40 * i + j) (decide_eq_true (show 40 * i + j < 1600 by omega))) dX11_must_73 ?_
                refine j_istore C [(4, .int (nI (M 39 (40 * i + j)))), (0, .ref (gA Λ 31 0)), (1, .int (nI i)), (2, .int (nI j)), (3, .int (nI k))] dX11_must_74 (by decide) rfl ?_
                refine j_aload_n C dX11_must_76 rfl 1 rfl ?_
                refine j_getV C hwX11 31 0 13 (MR.in0 hM (by decide) (by decide)) rfl rfl (by decide) rfl 0 (hM.2.2.2 13 rfl) hL43 dX11_must_77 ?_
                refine j_bipush C (nI 40) dX11_must_80 (by decide) ?_
                refine j_iload_n C dX11_must_82 rfl 2 rfl ?_
                refine j_imul C (nI (40 * i)) dX11_must_83 (pk_mul _ _) ?_
                refine j_iload_n C dX11_must_84 rfl 3 rfl ?_
                refine j_iadd C (nI (40 * i + j)) dX11_must_85 (nI_add _ _) ?_
                refine j_iload_n C dX11_must_86 rfl 4 rfl ?_
                refine j_iast C 39 0 (40 * i + j) (MR.in0 hM (by decide) (by decide)) rfl rfl 1600 (hM.2.2.1 39 (by decide) (by decide)) (by omega) (by omega) (nI k) rfl dX11_must_87 ?_
                have hM_8 := MR.set (t := 39) (k := (40 * i + j)) (x := k) (v := (nI k)) hM rfl
                have hs_9 := Same.sI (t := 39) (i := 0) (k := (40 * i + j)) (x := (nI k)) hs0 (by decide)
                refine j_aload_n C dX11_must_88 rfl 1 rfl ?_
                refine j_getV C hwX11 31 0 13 (MR.in0 hM_8 (by decide) (by decide)) rfl rfl (by decide) rfl 0 (hM_8.2.2.2 13 rfl) hL43 dX11_must_89 ?_
                refine j_bipush C (nI 40) dX11_must_92 (by decide) ?_
                refine j_iload_n C dX11_must_94 rfl 3 rfl ?_
                refine j_imul C (nI (40 * j)) dX11_must_95 (pk_mul _ _) ?_
                refine j_iload_n C dX11_must_96 rfl 2 rfl ?_
                refine j_iadd C (nI (40 * j + i)) dX11_must_97 (nI_add _ _) ?_
                refine j_iload_n C dX11_must_98 rfl 4 rfl ?_
                refine j_iast C 39 0 (40 * j + i) (MR.in0 hM_8 (by decide) (by decide)) rfl rfl 1600 (hM_8.2.2.1 39 (by decide) (by decide)) (by omega) (by omega) (nI k) rfl dX11_must_99 ?_
                have hM_10 := MR.set (t := 39) (k := (40 * j + i)) (x := k) (v := (nI k)) hM_8 rfl
                have hs_11 := Same.sI (t := 39) (i := 0) (k := (40 * j + i)) (x := (nI k)) hs_9 (by decide)
                refine j_iload C dX11_must_100 0 rfl ?_
                exact j_iret C hr hlk (⟨hM_10, hs_11, rfl⟩) dX11_must_102
              · exact absurd trivial z
            · first | omega | exact h41.elim
    · exact absurd (h19.symm.trans (inR_nI hB hj)) (by decide)
