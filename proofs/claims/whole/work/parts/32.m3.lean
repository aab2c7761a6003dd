set_option maxHeartbeats 4000000 in
set_option maxRecDepth 100000 in
theorem c_X11_costNow (l : Launch) (D : va_G) (cy : Nat → ClassId) (base : Nat) (Λ : LY) (σ : HS) (M : MM) (hM : MR Λ σ M) (hB : MBd M) : Met l yX11_costNow wsX11_costNow ({ frames := 12, cells := 0, slots := 0, locals := 180 }) (va_Pc [.ref (gA Λ 31 0)] (Wd D cy base Λ σ)) (va_Ql (fun r u => r = zL (costN M : Int) ∧ u = σ) (Wd D cy base Λ) (Ab base)) 0 0 (Ab base) := by
  refine j_start (cc := cX11_costNow) (nL := 5) (ret := (some .long)) (lv := [(0, .ref (gA Λ 31 0))]) (by decide) rfl (Nat.le_of_ble_eq_true rfl) rfl ?_
  intro p e s m below meth c C hr hlk hnm
  have C : Cx p s m ([.ref (gA Λ 31 0)] : List Value).toArray c cX11_costNow 5 RX11 wsX11_costNow D cy base := C
  have hts := C.2.2.2.2.1
  have hwX11 : ∀ w ∈ u_ws RX11 TX11 26, w ∈ wsX11_costNow := by decide +kernel
  have hM26 : (Cond.fieldLink RX11 26 (TX11 8).1 (TX11 8).2.1 (TX11 8).2.2.1).before ([.ref (gA Λ 31 0)] : List Value).toArray s = true := hts (.fieldLink RX11 26 "CodeRoomsModel" "even" "I") (by decide +kernel)
  have hL26 : FL RX11 26 (TX11 8).1 (TX11 8).2.1 (TX11 8).2.2.1 ([.ref (gA Λ 31 0)] : List Value).toArray s := Or.inl hM26
  have hM33 : (Cond.fieldLink RX11 33 (TX11 10).1 (TX11 10).2.1 (TX11 10).2.2.1).before ([.ref (gA Λ 31 0)] : List Value).toArray s = true := hts (.fieldLink RX11 33 "CodeRoomsModel" "rooms" "I") (by decide +kernel)
  have hL33 : FL RX11 33 (TX11 10).1 (TX11 10).2.1 (TX11 10).2.2.1 ([.ref (gA Λ 31 0)] : List Value).toArray s := Or.inl hM33
  have hM36 : (Cond.fieldLink RX11 36 (TX11 11).1 (TX11 11).2.1 (TX11 11).2.2.1).before ([.ref (gA Λ 31 0)] : List Value).toArray s = true := hts (.fieldLink RX11 36 "CodeRoomsModel" "isHub" "[Z") (by decide +kernel)
  have hL36 : FL RX11 36 (TX11 11).1 (TX11 11).2.1 (TX11 11).2.2.1 ([.ref (gA Λ 31 0)] : List Value).toArray s := Or.inl hM36
  have hM40 : (Cond.fieldLink RX11 40 (TX11 12).1 (TX11 12).2.1 (TX11 12).2.2.1).before ([.ref (gA Λ 31 0)] : List Value).toArray s = true := hts (.fieldLink RX11 40 "CodeRoomsModel" "roomOf" "[I") (by decide +kernel)
  have hL40 : FL RX11 40 (TX11 12).1 (TX11 12).2.1 (TX11 12).2.2.1 ([.ref (gA Λ 31 0)] : List Value).toArray s := Or.inl hM40
  have hM83 : (Cond.fieldLink RX11 83 (TX11 5).1 (TX11 5).2.1 (TX11 5).2.2.1).before ([.ref (gA Λ 31 0)] : List Value).toArray s = true := hts (.fieldLink RX11 83 "CodeRoomsModel" "many" "I") (by decide +kernel)
  have hL83 : FL RX11 83 (TX11 5).1 (TX11 5).2.1 (TX11 5).2.2.1 ([.ref (gA Λ 31 0)] : List Value).toArray s := Or.inl hM83
  have hC116 : (Jvm.Cond.constantLong RX11 116 1000000).before ([.ref (gA Λ 31 0)] : List Value).toArray s = true := hts _ (by decide +kernel)
  have hn : M 31 5 ≤ 40 := hB 31 5 rfl
  have hbk := brkN_le hn
  refine j_ldc2 C (zL 1000000) hC116 dX11_costNow_0 (by decide) ?_
  refine j_aload_n C dX11_costNow_3 rfl 0 rfl ?_
  refine c_i0 C (r_V C 31 0 [] (c_X11_brokenMany l D cy base Λ σ M hM hB) (cwV 0 hts gX11_costNow_X11_brokenMany rfl rfl rfl (by decide +kernel) ⟨by decide, by decide⟩) (MR.in0 hM (by decide) (by decide)) rfl rfl rfl rfl (Nat.le_of_ble_eq_true rfl) dX11_costNow_4 ⟨by decide, by decide⟩) (fun rv uu hp => ?_)
  rw [hp.1, hp.2]
  refine j_i2l C (zL (brkN M : Int)) dX11_costNow_7 (nI_zL (by omega)) ?_
  refine j_lmul C (zL (1000000 * (brkN M : Int))) dX11_costNow_8 (zL_mul _ _) ?_
  refine j_lstore_n C [(1, .long (zL (1000000 * (brkN M : Int)))), (0, .ref (gA Λ 31 0))] dX11_costNow_9 rfl (by decide) rfl ?_
  refine j_iconst C (nI 0) dX11_costNow_10 (by decide) ?_
  refine j_istore_n C [(3, .int (nI 0)), (1, .long (zL (1000000 * (brkN M : Int)))), (0, .ref (gA Λ 31 0))] dX11_costNow_11 rfl (by decide) rfl ?_
  have lb12 : ∀ (fu : Nat) (z : Int) (k : Nat), (M 31 10 - k) < fu → (k ≤ M 31 10) → (z = ((1000000 * brkN M + fb_sm (fun room => M 31 8 * szN M room * szN M room) k : Nat) : Int)) → J p l e ({ frames := 12, cells := 0, slots := 0, locals := 180 }) s m ([.ref (gA Λ 31 0)] : List Value).toArray below meth c 5 D cy base (MQ below (va_Ql (fun r u => r = zL (costN M : Int) ∧ u = σ) (Wd D cy base Λ) (Ab base)) ([.ref (gA Λ 31 0)] : List Value).toArray s 0 0 (Ab base)) 0 0 Λ 12 [(0, .ref (gA Λ 31 0)), (1, .long (zL z)), (3, .int (nI k))] [] σ := by
    intro fu
    induction fu with
    | zero => intro z k hfu; exact absurd hfu (Nat.not_lt_zero _)
    | succ fu ih =>
      intro z k hfu hk hz
      have hR : M 31 10 ≤ 40 := hB 31 10 rfl
      have hsz := szN_le M k
      have ih12 := ih
      refine j_iload_n C dX11_costNow_12 rfl 2 rfl ?_
      refine j_aload_n C dX11_costNow_13 rfl 0 rfl ?_
      have hb14 : M 31 10 ≤ 40 := hB 31 10 rfl
      refine j_getI C hwX11 31 0 10 (MR.in0 hM (by decide) (by decide)) rfl rfl (by decide) rfl (nI (M 31 10)) (hM.1 31 10 rfl) hL33 dX11_costNow_14 ?_
      refine j_icmp_ge (tgt := 48) C dX11_costNow_17 (by decide) (nI_leI (by omega) (by omega)) (fun h17 => ?_) (fun h17 => ?_)
      · refine j_iconst C (nI 0) dX11_costNow_48 (by decide) ?_
        refine j_istore_n C [(3, .int (nI 0)), (0, .ref (gA Λ 31 0)), (1, .long (zL z))] dX11_costNow_49 rfl (by decide) rfl ?_
        have lb50 : ∀ (fu : Nat) (z : Int) (a : Nat), (M 31 5 - a) < fu → (a ≤ M 31 5) → (z = ((1000000 * brkN M + fb_sm (fun room => M 31 8 * szN M room * szN M room) (M 31 10) + fb_sm (fun a => fb_sm (cutT M a) (M 31 5)) a : Nat) : Int)) → J p l e ({ frames := 12, cells := 0, slots := 0, locals := 180 }) s m ([.ref (gA Λ 31 0)] : List Value).toArray below meth c 5 D cy base (MQ below (va_Ql (fun r u => r = zL (costN M : Int) ∧ u = σ) (Wd D cy base Λ) (Ab base)) ([.ref (gA Λ 31 0)] : List Value).toArray s 0 0 (Ab base)) 0 0 Λ 50 [(0, .ref (gA Λ 31 0)), (1, .long (zL z)), (3, .int (nI a))] [] σ := by
          intro fu
          induction fu with
          | zero => intro z a hfu; exact absurd hfu (Nat.not_lt_zero _)
          | succ fu ih =>
            intro z a hfu ha hz
            have ih50 := ih
            refine j_iload_n C dX11_costNow_50 rfl 2 rfl ?_
            refine j_aload_n C dX11_costNow_51 rfl 0 rfl ?_
            have hb52 : M 31 5 ≤ 40 := hB 31 5 rfl
            refine j_getI C hwX11 31 0 5 (MR.in0 hM (by decide) (by decide)) rfl rfl (by decide) rfl (nI (M 31 5)) (hM.1 31 5 rfl) hL83 dX11_costNow_52 ?_
            refine j_icmp_ge (tgt := 134) C dX11_costNow_55 (by decide) (nI_leI (by omega) (by omega)) (fun h55 => ?_) (fun h55 => ?_)
            · refine j_lload_n C dX11_costNow_134 rfl 1 rfl ?_
              exact j_lret C hr hlk (⟨by rw [hz, show a = M 31 5 by omega]; rfl, rfl⟩) dX11_costNow_135
            · refine j_iload_n C dX11_costNow_58 rfl 2 rfl ?_
              refine j_iconst C (nI 1) dX11_costNow_59 (by decide) ?_
              refine j_iadd C (nI (a + 1)) dX11_costNow_60 (nI_add _ _) ?_
              refine j_istore C [(4, .int (nI (a + 1))), (0, .ref (gA Λ 31 0)), (1, .long (zL z)), (3, .int (nI a))] dX11_costNow_61 (by decide) rfl ?_
              have lb63 : ∀ (fu : Nat) (z2 : Int) (b : Nat), (M 31 5 - b) < fu → (b ≤ M 31 5) → (a < b) → (z2 = z + ((fb_sm (cutT M a) b : Nat) : Int)) → J p l e ({ frames := 12, cells := 0, slots := 0, locals := 180 }) s m ([.ref (gA Λ 31 0)] : List Value).toArray below meth c 5 D cy base (MQ below (va_Ql (fun r u => r = zL (costN M : Int) ∧ u = σ) (Wd D cy base Λ) (Ab base)) ([.ref (gA Λ 31 0)] : List Value).toArray s 0 0 (Ab base)) 0 0 Λ 63 [(0, .ref (gA Λ 31 0)), (1, .long (zL z2)), (3, .int (nI a)), (4, .int (nI b))] [] σ := by
                intro fu
                induction fu with
                | zero => intro z2 b hfu; exact absurd hfu (Nat.not_lt_zero _)
                | succ fu ih =>
                  intro z2 b hfu hb hab hz2
                  have ih63 := ih
                  refine j_iload C dX11_costNow_63 3 rfl ?_
                  refine j_aload_n C dX11_costNow_65 rfl 0 rfl ?_
                  have hb66 : M 31 5 ≤ 40 := hB 31 5 rfl
                  refine j_getI C hwX11 31 0 5 (MR.in0 hM (by decide) (by decide)) rfl rfl (by decide) rfl (nI (M 31 5)) (hM.1 31 5 rfl) hL83 dX11_costNow_66 ?_
                  refine j_icmp_ge (tgt := 128) C dX11_costNow_69 (by decide) (nI_leI (by omega) (by omega)) (fun h69 => ?_) (fun h69 => ?_)
                  · refine j_iinc C [(3, .int (nI (a + 1))), (0, .ref (gA Λ 31 0)), (1, .long (zL z2)), (4, .int (nI b))] (nI (a + 1)) dX11_costNow_128 2 rfl (nI_add _ 1) (by decide) rfl ?_
                    refine j_goto (tgt := 50) C dX11_costNow_131 (by decide) ?_
                    refine j_lv [1, 2, 0] rfl ?_
                    exact ih50 z2 (a + 1) (by omega) (by omega) (by rw [fb_sm_succ, hz2, hz, show b = M 31 5 by omega]; omega)
                  · refine j_lload_n C dX11_costNow_72 rfl 1 rfl ?_
                    refine j_aload_n C dX11_costNow_73 rfl 0 rfl ?_
                    refine j_getV C hwX11 31 0 11 (MR.in0 hM (by decide) (by decide)) rfl rfl (by decide) rfl 0 (hM.2.2.2 11 rfl) hL36 dX11_costNow_74 ?_
                    refine j_iload_n C dX11_costNow_77 rfl 2 rfl ?_
                    have hb78 : M 37 a ≤ 1 := hB 37 a (decide_eq_true (show a < 40 by omega))
                    refine j_zald C 37 0 a (MR.in0 hM (by decide) (by decide)) rfl rfl 40 (hM.2.2.1 37 (by decide) (by decide)) (by omega) (by omega) (nI (M 37 a)) (hM.1 37 a (decide_eq_true (show a < 40 by omega))) dX11_costNow_78 ?_
                    refine j_if_ne (tgt := 108) C dX11_costNow_79 (by decide) (nJ_ne0 (by omega)) (fun h79 => ?_) (fun h79 => ?_)
                    · refine j_lconst C (zL 0) dX11_costNow_108 (by decide) ?_
                      refine j_goto (tgt := 120) C dX11_costNow_109 (by decide) ?_
                      refine j_ladd C (zL (z2 + 0)) dX11_costNow_120 (zL_add _ _) ?_
                      refine j_lstore_n C [(1, .long (zL (z2 + 0))), (0, .ref (gA Λ 31 0)), (3, .int (nI a)), (4, .int (nI b))] dX11_costNow_121 rfl (by decide) rfl ?_
                      refine j_iinc C [(4, .int (nI (b + 1))), (1, .long (zL (z2 + 0))), (0, .ref (gA Λ 31 0)), (3, .int (nI a))] (nI (b + 1)) dX11_costNow_122 3 rfl (nI_add _ 1) (by decide) rfl ?_
                      refine j_goto (tgt := 63) C dX11_costNow_125 (by decide) ?_
                      refine j_lv [2, 1, 3, 0] rfl ?_
                      exact ih63 (z2 + 0) (b + 1) (by omega) (by omega) (by omega) (by rw [fb_sm_succ, hz2]; simp [cutT, hab, h69, h79]; try omega)
                    · refine j_aload_n C dX11_costNow_82 rfl 0 rfl ?_
                      refine j_getV C hwX11 31 0 11 (MR.in0 hM (by decide) (by decide)) rfl rfl (by decide) rfl 0 (hM.2.2.2 11 rfl) hL36 dX11_costNow_83 ?_
                      refine j_iload C dX11_costNow_86 3 rfl ?_
                      have hb88 : M 37 b ≤ 1 := hB 37 b (decide_eq_true (show b < 40 by omega))
                      refine j_zald C 37 0 b (MR.in0 hM (by decide) (by decide)) rfl rfl 40 (hM.2.2.1 37 (by decide) (by decide)) (by omega) (by omega) (nI (M 37 b)) (hM.1 37 b (decide_eq_true (show b < 40 by omega))) dX11_costNow_88 ?_
                      refine j_if_ne (tgt := 108) C dX11_costNow_89 (by decide) (nJ_ne0 (by omega)) (fun h89 => ?_) (fun h89 => ?_)
                      · refine j_lconst C (zL 0) dX11_costNow_108 (by decide) ?_
                        refine j_goto (tgt := 120) C dX11_costNow_109 (by decide) ?_
                        refine j_ladd C (zL (z2 + 0)) dX11_costNow_120 (zL_add _ _) ?_
                        refine j_lstore_n C [(1, .long (zL (z2 + 0))), (0, .ref (gA Λ 31 0)), (3, .int (nI a)), (4, .int (nI b))] dX11_costNow_121 rfl (by decide) rfl ?_
                        refine j_iinc C [(4, .int (nI (b + 1))), (1, .long (zL (z2 + 0))), (0, .ref (gA Λ 31 0)), (3, .int (nI a))] (nI (b + 1)) dX11_costNow_122 3 rfl (nI_add _ 1) (by decide) rfl ?_
                        refine j_goto (tgt := 63) C dX11_costNow_125 (by decide) ?_
                        refine j_lv [2, 1, 3, 0] rfl ?_
                        exact ih63 (z2 + 0) (b + 1) (by omega) (by omega) (by omega) (by rw [fb_sm_succ, hz2]; simp [cutT, hab, h69, h79, h89]; try omega)
                      · refine j_aload_n C dX11_costNow_92 rfl 0 rfl ?_
                        refine j_getV C hwX11 31 0 12 (MR.in0 hM (by decide) (by decide)) rfl rfl (by decide) rfl 0 (hM.2.2.2 12 rfl) hL40 dX11_costNow_93 ?_
                        refine j_iload_n C dX11_costNow_96 rfl 2 rfl ?_
                        have hb97 : M 38 a ≤ 5 := hB 38 a (decide_eq_true (show a < 40 by omega))
                        refine j_iald C 38 0 a (MR.in0 hM (by decide) (by decide)) rfl rfl 40 (hM.2.2.1 38 (by decide) (by decide)) (by omega) (by omega) (nI (M 38 a)) (hM.1 38 a (decide_eq_true (show a < 40 by omega))) dX11_costNow_97 ?_
                        refine j_aload_n C dX11_costNow_98 rfl 0 rfl ?_
                        refine j_getV C hwX11 31 0 12 (MR.in0 hM (by decide) (by decide)) rfl rfl (by decide) rfl 0 (hM.2.2.2 12 rfl) hL40 dX11_costNow_99 ?_
                        refine j_iload C dX11_costNow_102 3 rfl ?_
                        have hb104 : M 38 b ≤ 5 := hB 38 b (decide_eq_true (show b < 40 by omega))
                        refine j_iald C 38 0 b (MR.in0 hM (by decide) (by decide)) rfl rfl 40 (hM.2.2.1 38 (by decide) (by decide)) (by omega) (by omega) (nI (M 38 b)) (hM.1 38 b (decide_eq_true (show b < 40 by omega))) dX11_costNow_104 ?_
                        refine j_icmp_ne (tgt := 112) C dX11_costNow_105 (by decide) (nI_eq (by omega) (by omega)) (fun h105 => ?_) (fun h105 => ?_)
                        · refine j_aload_n C dX11_costNow_112 rfl 0 rfl ?_
                          refine j_iload_n C dX11_costNow_113 rfl 2 rfl ?_
                          refine j_iload C dX11_costNow_114 3 rfl ?_
                          have hbt116 := tieN_le hB (a := a) (b := b) (by omega) (by omega)
                          refine c_i0 C (r_V C 31 0 [.int (nI a), .int (nI b)] (c_X11_tieOf l D cy base Λ σ M hM hB a b (by omega) (by omega) (tieN M a b) rfl) (cwV 2 hts gX11_costNow_X11_tieOf rfl rfl rfl (by decide +kernel) ⟨by decide, by decide⟩) (MR.in0 hM (by decide) (by decide)) rfl rfl rfl rfl (Nat.le_of_ble_eq_true rfl) dX11_costNow_116 ⟨by decide, by decide⟩) (fun rv uu hp => ?_)
                          rw [hp.1, hp.2]
                          refine j_i2l C (zL (tieN M a b : Int)) dX11_costNow_119 (nI_zL (by omega)) ?_
                          refine j_ladd C (zL (z2 + (tieN M a b : Int))) dX11_costNow_120 (zL_add _ _) ?_
                          refine j_lstore_n C [(1, .long (zL (z2 + (tieN M a b : Int)))), (0, .ref (gA Λ 31 0)), (3, .int (nI a)), (4, .int (nI b))] dX11_costNow_121 rfl (by decide) rfl ?_
                          refine j_iinc C [(4, .int (nI (b + 1))), (1, .long (zL (z2 + (tieN M a b : Int)))), (0, .ref (gA Λ 31 0)), (3, .int (nI a))] (nI (b + 1)) dX11_costNow_122 3 rfl (nI_add _ 1) (by decide) rfl ?_
                          refine j_goto (tgt := 63) C dX11_costNow_125 (by decide) ?_
                          refine j_lv [2, 1, 3, 0] rfl ?_
                          exact ih63 (z2 + (tieN M a b : Int)) (b + 1) (by omega) (by omega) (by omega) (by rw [fb_sm_succ, hz2]; simp [cutT, hab, h69, h79, h89, h105]; try omega)
                        · refine j_lconst C (zL 0) dX11_costNow_108 (by decide) ?_
                          refine j_goto (tgt := 120) C dX11_costNow_109 (by decide) ?_
                          refine j_ladd C (zL (z2 + 0)) dX11_costNow_120 (zL_add _ _) ?_
                          refine j_lstore_n C [(1, .long (zL (z2 + 0))), (0, .ref (gA Λ 31 0)), (3, .int (nI a)), (4, .int (nI b))] dX11_costNow_121 rfl (by decide) rfl ?_
                          refine j_iinc C [(4, .int (nI (b + 1))), (1, .long (zL (z2 + 0))), (0, .ref (gA Λ 31 0)), (3, .int (nI a))] (nI (b + 1)) dX11_costNow_122 3 rfl (nI_add _ 1) (by decide) rfl ?_
                          refine j_goto (tgt := 63) C dX11_costNow_125 (by decide) ?_
                          refine j_lv [2, 1, 3, 0] rfl ?_
                          exact ih63 (z2 + 0) (b + 1) (by omega) (by omega) (by omega) (by rw [fb_sm_succ, hz2]; simp [cutT, hab, h69, h79, h89, h105]; try omega)
              refine j_lv [1, 2, 3, 0] rfl ?_
              exact lb63 _ z (a + 1) (Nat.lt_succ_self _) (by omega) (by omega) (by rw [fb_sm_skip (fun k hk => by unfold cutT; rw [if_neg (fun z => absurd z.1 (by omega))])]; simp)
        refine j_lv [1, 2, 0] rfl ?_
        exact lb50 _ z 0 (Nat.lt_succ_self _) (by omega) (by rw [hz, show k = M 31 10 by omega]; simp [fb_sm])
      · refine j_lload_n C dX11_costNow_20 rfl 1 rfl ?_
        refine j_aload_n C dX11_costNow_21 rfl 0 rfl ?_
        have hb22 : M 31 8 ≤ 100 := hB 31 8 rfl
        refine j_getI C hwX11 31 0 8 (MR.in0 hM (by decide) (by decide)) rfl rfl (by decide) rfl (nI (M 31 8)) (hM.1 31 8 rfl) hL26 dX11_costNow_22 ?_
        refine j_i2l C (zL (M 31 8 : Int)) dX11_costNow_25 (nI_zL (by omega)) ?_
        refine j_aload_n C dX11_costNow_26 rfl 0 rfl ?_
        refine j_iload_n C dX11_costNow_27 rfl 2 rfl ?_
        refine c_i0 C (r_V C 31 0 [.int (nI k)] (c_X11_sizeOf l D cy base Λ σ M hM hB k (by omega)) (cwV 1 hts gX11_costNow_X11_sizeOf rfl rfl rfl (by decide +kernel) ⟨by decide, by decide⟩) (MR.in0 hM (by decide) (by decide)) rfl rfl rfl rfl (Nat.le_of_ble_eq_true rfl) dX11_costNow_28 ⟨by decide, by decide⟩) (fun rv uu hp => ?_)
        rw [hp.1, hp.2]
        refine j_i2l C (zL (szN M k : Int)) dX11_costNow_31 (nI_zL (by omega)) ?_
        refine j_lmul C (zL ((M 31 8 : Int) * (szN M k : Int))) dX11_costNow_32 (zL_mul _ _) ?_
        refine j_aload_n C dX11_costNow_33 rfl 0 rfl ?_
        refine j_iload_n C dX11_costNow_34 rfl 2 rfl ?_
        refine c_i0 C (r_V C 31 0 [.int (nI k)] (c_X11_sizeOf l D cy base Λ σ M hM hB k (by omega)) (cwV 1 hts gX11_costNow_X11_sizeOf rfl rfl rfl (by decide +kernel) ⟨by decide, by decide⟩) (MR.in0 hM (by decide) (by decide)) rfl rfl rfl rfl (Nat.le_of_ble_eq_true rfl) dX11_costNow_35 ⟨by decide, by decide⟩) (fun rv uu hp => ?_)
        rw [hp.1, hp.2]
        refine j_i2l C (zL (szN M k : Int)) dX11_costNow_38 (nI_zL (by omega)) ?_
        refine j_lmul C (zL (((M 31 8 : Int) * (szN M k : Int)) * (szN M k : Int))) dX11_costNow_39 (zL_mul _ _) ?_
        refine j_ladd C (zL (z + (((M 31 8 : Int) * (szN M k : Int)) * (szN M k : Int)))) dX11_costNow_40 (zL_add _ _) ?_
        refine j_lstore_n C [(1, .long (zL (z + (((M 31 8 : Int) * (szN M k : Int)) * (szN M k : Int))))), (0, .ref (gA Λ 31 0)), (3, .int (nI k))] dX11_costNow_41 rfl (by decide) rfl ?_
        refine j_iinc C [(3, .int (nI (k + 1))), (1, .long (zL (z + (((M 31 8 : Int) * (szN M k : Int)) * (szN M k : Int))))), (0, .ref (gA Λ 31 0))] (nI (k + 1)) dX11_costNow_42 2 rfl (nI_add _ 1) (by decide) rfl ?_
        refine j_goto (tgt := 12) C dX11_costNow_45 (by decide) ?_
        refine j_lv [2, 1, 0] rfl ?_
        exact ih12 (z + (((M 31 8 : Int) * (szN M k : Int)) * (szN M k : Int))) (k + 1) (by omega) (by omega) (by rw [fb_sm_succ, hz]; simp only [Int.natCast_add, Int.natCast_mul]; omega)
  refine j_lv [2, 1, 0] rfl ?_
  exact lb12 _ (1000000 * (brkN M : Int)) 0 (Nat.lt_succ_self _) (by omega) (by simp [fb_sm])

set_option maxHeartbeats 4000000 in
set_option maxRecDepth 100000 in
theorem c_X11_hangs (l : Launch) (D : va_G) (cy : Nat → ClassId) (base : Nat) (Λ : LY) (σ : HS) (M : MM) (hM : MR Λ σ M) (hB : MBd M) (r room : Nat) (bt : Int32) (hr0 : r < 40) (hrm : room < 2 ^ 31) : Met l yX11_hangs wsX11_hangs ({ frames := 12, cells := 0, slots := 0, locals := 180 }) (va_Pc [.ref (gA Λ 31 0), .int (nI r), .int (nI room), .int (bt)] (Wd D cy base Λ σ)) (va_Ql (fun v u => v = zL (hangN M r room bt : Int) ∧ u = σ) (Wd D cy base Λ) (Ab base)) 0 0 (Ab base) := by
  refine j_start (cc := cX11_hangs) (nL := 7) (ret := (some .long)) (lv := [(0, .ref (gA Λ 31 0)), (1, .int (nI r)), (2, .int (nI room)), (3, .int (bt))]) (by decide) rfl (Nat.le_of_ble_eq_true rfl) rfl ?_
  intro p e s m below meth c C hr hlk hnm
  have C : Cx p s m ([.ref (gA Λ 31 0), .int (nI r), .int (nI room), .int (bt)] : List Value).toArray c cX11_hangs 7 RX11 wsX11_hangs D cy base := C
  have hts := C.2.2.2.2.1
  have hwX11 : ∀ w ∈ u_ws RX11 TX11 26, w ∈ wsX11_hangs := by decide +kernel
  have hM36 : (Cond.fieldLink RX11 36 (TX11 11).1 (TX11 11).2.1 (TX11 11).2.2.1).before ([.ref (gA Λ 31 0), .int (nI r), .int (nI room), .int (bt)] : List Value).toArray s = true := hts (.fieldLink RX11 36 "CodeRoomsModel" "isHub" "[Z") (by decide +kernel)
  have hL36 : FL RX11 36 (TX11 11).1 (TX11 11).2.1 (TX11 11).2.2.1 ([.ref (gA Λ 31 0), .int (nI r), .int (nI room), .int (bt)] : List Value).toArray s := Or.inl hM36
  have hM40 : (Cond.fieldLink RX11 40 (TX11 12).1 (TX11 12).2.1 (TX11 12).2.2.1).before ([.ref (gA Λ 31 0), .int (nI r), .int (nI room), .int (bt)] : List Value).toArray s = true := hts (.fieldLink RX11 40 "CodeRoomsModel" "roomOf" "[I") (by decide +kernel)
  have hL40 : FL RX11 40 (TX11 12).1 (TX11 12).2.1 (TX11 12).2.2.1 ([.ref (gA Λ 31 0), .int (nI r), .int (nI room), .int (bt)] : List Value).toArray s := Or.inl hM40
  have hM43 : (Cond.fieldLink RX11 43 (TX11 13).1 (TX11 13).2.1 (TX11 13).2.2.1).before ([.ref (gA Λ 31 0), .int (nI r), .int (nI room), .int (bt)] : List Value).toArray s = true := hts (.fieldLink RX11 43 "CodeRoomsModel" "musts" "[I") (by decide +kernel)
  have hL43 : FL RX11 43 (TX11 13).1 (TX11 13).2.1 (TX11 13).2.2.1 ([.ref (gA Λ 31 0), .int (nI r), .int (nI room), .int (bt)] : List Value).toArray s := Or.inl hM43
  have hM46 : (Cond.fieldLink RX11 46 (TX11 14).1 (TX11 14).2.1 (TX11 14).2.2.1).before ([.ref (gA Λ 31 0), .int (nI r), .int (nI room), .int (bt)] : List Value).toArray s = true := hts (.fieldLink RX11 46 "CodeRoomsModel" "fixed" "[I") (by decide +kernel)
  have hL46 : FL RX11 46 (TX11 14).1 (TX11 14).2.1 (TX11 14).2.2.1 ([.ref (gA Λ 31 0), .int (nI r), .int (nI room), .int (bt)] : List Value).toArray s := Or.inl hM46
  have hM83 : (Cond.fieldLink RX11 83 (TX11 5).1 (TX11 5).2.1 (TX11 5).2.2.1).before ([.ref (gA Λ 31 0), .int (nI r), .int (nI room), .int (bt)] : List Value).toArray s = true := hts (.fieldLink RX11 83 "CodeRoomsModel" "many" "I") (by decide +kernel)
  have hL83 : FL RX11 83 (TX11 5).1 (TX11 5).2.1 (TX11 5).2.2.1 ([.ref (gA Λ 31 0), .int (nI r), .int (nI room), .int (bt)] : List Value).toArray s := Or.inl hM83
  have hC116 : (Jvm.Cond.constantLong RX11 116 1000000).before ([.ref (gA Λ 31 0), .int (nI r), .int (nI room), .int (bt)] : List Value).toArray s = true := hts _ (by decide +kernel)
  have hn : M 31 5 ≤ 40 := hB 31 5 rfl
  have lb31 : ∀ (fu : Nat) (z : Int) (o : Nat), (M 31 5 - o) < fu → (o ≤ M 31 5) → (z = (((if fxB M r room then 1000000 else 0) + fb_sm (hangT M r room bt) o : Nat) : Int)) → J p l e ({ frames := 12, cells := 0, slots := 0, locals := 180 }) s m ([.ref (gA Λ 31 0), .int (nI r), .int (nI room), .int (bt)] : List Value).toArray below meth c 7 D cy base (MQ below (va_Ql (fun v u => v = zL (hangN M r room bt : Int) ∧ u = σ) (Wd D cy base Λ) (Ab base)) ([.ref (gA Λ 31 0), .int (nI r), .int (nI room), .int (bt)] : List Value).toArray s 0 0 (Ab base)) 0 0 Λ 31 [(0, .ref (gA Λ 31 0)), (1, .int (nI r)), (2, .int (nI room)), (3, .int (bt)), (4, .long (zL z)), (6, .int (nI o))] [] σ := by
    intro fu
    induction fu with
    | zero => intro z o hfu; exact absurd hfu (Nat.not_lt_zero _)
    | succ fu ih =>
      intro z o hfu ho hz
      have ih31 := ih
      refine j_iload C dX11_hangs_31 5 rfl ?_
      refine j_aload_n C dX11_hangs_33 rfl 0 rfl ?_
      have hb34 : M 31 5 ≤ 40 := hB 31 5 rfl
      refine j_getI C hwX11 31 0 5 (MR.in0 hM (by decide) (by decide)) rfl rfl (by decide) rfl (nI (M 31 5)) (hM.1 31 5 rfl) hL83 dX11_hangs_34 ?_
      refine j_icmp_ge (tgt := 137) C dX11_hangs_37 (by decide) (nI_leI (by omega) (by omega)) (fun h37 => ?_) (fun h37 => ?_)
      · refine j_lload C dX11_hangs_137 4 rfl ?_
        exact j_lret C hr hlk (⟨by rw [hz, show o = M 31 5 by omega]; rfl, rfl⟩) dX11_hangs_139
      · refine j_iload C dX11_hangs_40 5 rfl ?_
        refine j_iload_n C dX11_hangs_42 rfl 1 rfl ?_
        refine j_icmp_eq (tgt := 131) C dX11_hangs_43 (by decide) (nI_eq (by omega) (by omega)) (fun h43 => ?_) (fun h43 => ?_)
        · refine j_iinc C [(6, .int (nI (o + 1))), (0, .ref (gA Λ 31 0)), (1, .int (nI r)), (2, .int (nI room)), (3, .int (bt)), (4, .long (zL z))] (nI (o + 1)) dX11_hangs_131 5 rfl (nI_add _ 1) (by decide) rfl ?_
          refine j_goto (tgt := 31) C dX11_hangs_134 (by decide) ?_
          refine j_lv [1, 2, 3, 4, 5, 0] rfl ?_
          exact ih31 z (o + 1) (by omega) (by omega) (by rw [fb_sm_succ, hz]; simp [hangT, h37, h43]; try omega)
        · refine j_iload C dX11_hangs_46 5 rfl ?_
          refine j_iload_n C dX11_hangs_48 rfl 3 rfl ?_
          refine j_icmp_eq (tgt := 131) C dX11_hangs_49 (by decide) Iff.rfl (fun h49 => ?_) (fun h49 => ?_)
          · refine j_iinc C [(6, .int (nI (o + 1))), (0, .ref (gA Λ 31 0)), (1, .int (nI r)), (2, .int (nI room)), (3, .int (bt)), (4, .long (zL z))] (nI (o + 1)) dX11_hangs_131 5 rfl (nI_add _ 1) (by decide) rfl ?_
            refine j_goto (tgt := 31) C dX11_hangs_134 (by decide) ?_
            refine j_lv [1, 2, 3, 4, 5, 0] rfl ?_
            exact ih31 z (o + 1) (by omega) (by omega) (by rw [fb_sm_succ, hz]; simp [hangT, h37, h43, h49]; try omega)
          · refine j_aload_n C dX11_hangs_52 rfl 0 rfl ?_
            refine j_getV C hwX11 31 0 11 (MR.in0 hM (by decide) (by decide)) rfl rfl (by decide) rfl 0 (hM.2.2.2 11 rfl) hL36 dX11_hangs_53 ?_
            refine j_iload C dX11_hangs_56 5 rfl ?_
            have hb58 : M 37 o ≤ 1 := hB 37 o (decide_eq_true (show o < 40 by omega))
            refine j_zald C 37 0 o (MR.in0 hM (by decide) (by decide)) rfl rfl 40 (hM.2.2.1 37 (by decide) (by decide)) (by omega) (by omega) (nI (M 37 o)) (hM.1 37 o (decide_eq_true (show o < 40 by omega))) dX11_hangs_58 ?_
            refine j_if_eq (tgt := 65) C dX11_hangs_59 (by decide) (nJ_eq0 (by omega)) (fun h59 => ?_) (fun h59 => ?_)
            · have lb90 : ∀ (y : Int), (y = ((if M 38 o = room then 0 else tieN M r o : Nat) : Int)) → J p l e ({ frames := 12, cells := 0, slots := 0, locals := 180 }) s m ([.ref (gA Λ 31 0), .int (nI r), .int (nI room), .int (bt)] : List Value).toArray below meth c 7 D cy base (MQ below (va_Ql (fun v u => v = zL (hangN M r room bt : Int) ∧ u = σ) (Wd D cy base Λ) (Ab base)) ([.ref (gA Λ 31 0), .int (nI r), .int (nI room), .int (bt)] : List Value).toArray s 0 0 (Ab base)) 0 0 Λ 90 [(0, .ref (gA Λ 31 0)), (1, .int (nI r)), (2, .int (nI room)), (3, .int (bt)), (4, .long (zL z)), (6, .int (nI o))] [.long (zL y), .long (zL z)] σ := by
                intro y hy
                refine j_ladd C (zL (z + y)) dX11_hangs_90 (zL_add _ _) ?_
                refine j_lstore C [(4, .long (zL (z + y))), (0, .ref (gA Λ 31 0)), (1, .int (nI r)), (2, .int (nI room)), (3, .int (bt)), (6, .int (nI o))] dX11_hangs_91 (by decide) rfl ?_
                refine j_lload C dX11_hangs_93 0 rfl ?_
                refine j_aload_n C dX11_hangs_95 rfl 1 rfl ?_
                refine j_getV C hwX11 31 0 13 (MR.in0 hM (by decide) (by decide)) rfl rfl (by decide) rfl 0 (hM.2.2.2 13 rfl) hL43 dX11_hangs_96 ?_
                refine j_bipush C (nI 40) dX11_hangs_99 (by decide) ?_
                refine j_iload_n C dX11_hangs_101 rfl 2 rfl ?_
                refine j_imul C (nI (40 * r)) dX11_hangs_102 (pk_mul _ _) ?_
                refine j_iload C dX11_hangs_103 5 rfl ?_
                refine j_iadd C (nI (40 * r + o)) dX11_hangs_105 (nI_add _ _) ?_
                have hb106 : M 39 (40 * r + o) ≤ 2 := hB 39 (40 * r + o) (decide_eq_true (show 40 * r + o < 1600 by omega))
                refine j_iald C 39 0 (40 * r + o) (MR.in0 hM (by decide) (by decide)) rfl rfl 1600 (hM.2.2.1 39 (by decide) (by decide)) (by omega) (by omega) (nI (M 39 (40 * r + o))) (hM.1 39 (40 * r + o) (decide_eq_true (show 40 * r + o < 1600 by omega))) dX11_hangs_106 ?_
                refine j_iload_n C dX11_hangs_107 rfl 3 rfl ?_
                refine j_aload_n C dX11_hangs_108 rfl 1 rfl ?_
                refine j_getV C hwX11 31 0 12 (MR.in0 hM (by decide) (by decide)) rfl rfl (by decide) rfl 0 (hM.2.2.2 12 rfl) hL40 dX11_hangs_109 ?_
                refine j_iload C dX11_hangs_112 5 rfl ?_
                have hb114 : M 38 o ≤ 5 := hB 38 o (decide_eq_true (show o < 40 by omega))
                refine j_iald C 38 0 o (MR.in0 hM (by decide) (by decide)) rfl rfl 40 (hM.2.2.1 38 (by decide) (by decide)) (by omega) (by omega) (nI (M 38 o)) (hM.1 38 o (decide_eq_true (show o < 40 by omega))) dX11_hangs_114 ?_
                refine c_i0 C (r_S C [.int (nI (M 39 (40 * r + o))), .int (nI room), .int (nI (M 38 o))] (c_X11_isBroken l D cy base Λ σ (M 39 (40 * r + o)) room (M 38 o) (by omega) (by omega) (by omega)) (va_cwS 3 hts gX11_hangs_X11_isBroken rfl rfl rfl (by decide +kernel) ⟨by decide, by decide⟩) rfl rfl (Nat.le_of_ble_eq_true rfl) dX11_hangs_115 ⟨by decide, by decide⟩) (fun rv uu hp => ?_)
                rw [hp.1, hp.2]
                refine j_ifeq_b (tgt := 127) C dX11_hangs_118 (by decide) (fun h118 => ?_) (fun h118 => ?_)
                · refine j_lconst C (zL 0) dX11_hangs_127 (by decide) ?_
                  refine j_ladd C (zL ((z + y) + 0)) dX11_hangs_128 (zL_add _ _) ?_
                  refine j_lstore C [(4, .long (zL ((z + y) + 0))), (0, .ref (gA Λ 31 0)), (1, .int (nI r)), (2, .int (nI room)), (3, .int (bt)), (6, .int (nI o))] dX11_hangs_129 (by decide) rfl ?_
                  refine j_iinc C [(6, .int (nI (o + 1))), (4, .long (zL ((z + y) + 0))), (0, .ref (gA Λ 31 0)), (1, .int (nI r)), (2, .int (nI room)), (3, .int (bt))] (nI (o + 1)) dX11_hangs_131 5 rfl (nI_add _ 1) (by decide) rfl ?_
                  refine j_goto (tgt := 31) C dX11_hangs_134 (by decide) ?_
                  refine j_lv [2, 3, 4, 5, 1, 0] rfl ?_
                  exact ih31 ((z + y) + 0) (o + 1) (by omega) (by omega) (by rw [fb_sm_succ, hz, hy]; simp [hangT, h37, h43, h49, h59, h118]; try omega)
                · refine j_ldc2 C (zL 1000000) hC116 dX11_hangs_121 (by decide) ?_
                  refine j_goto (tgt := 128) C dX11_hangs_124 (by decide) ?_
                  refine j_ladd C (zL ((z + y) + 1000000)) dX11_hangs_128 (zL_add _ _) ?_
                  refine j_lstore C [(4, .long (zL ((z + y) + 1000000))), (0, .ref (gA Λ 31 0)), (1, .int (nI r)), (2, .int (nI room)), (3, .int (bt)), (6, .int (nI o))] dX11_hangs_129 (by decide) rfl ?_
                  refine j_iinc C [(6, .int (nI (o + 1))), (4, .long (zL ((z + y) + 1000000))), (0, .ref (gA Λ 31 0)), (1, .int (nI r)), (2, .int (nI room)), (3, .int (bt))] (nI (o + 1)) dX11_hangs_131 5 rfl (nI_add _ 1) (by decide) rfl ?_
                  refine j_goto (tgt := 31) C dX11_hangs_134 (by decide) ?_
                  refine j_lv [2, 3, 4, 5, 1, 0] rfl ?_
                  exact ih31 ((z + y) + 1000000) (o + 1) (by omega) (by omega) (by rw [fb_sm_succ, hz, hy]; simp [hangT, h37, h43, h49, h59, h118]; try omega)
              refine j_lload C dX11_hangs_65 4 rfl ?_
              refine j_aload_n C dX11_hangs_67 rfl 0 rfl ?_
              refine j_getV C hwX11 31 0 12 (MR.in0 hM (by decide) (by decide)) rfl rfl (by decide) rfl 0 (hM.2.2.2 12 rfl) hL40 dX11_hangs_68 ?_
              refine j_iload C dX11_hangs_71 5 rfl ?_
              have hb73 : M 38 o ≤ 5 := hB 38 o (decide_eq_true (show o < 40 by omega))
              refine j_iald C 38 0 o (MR.in0 hM (by decide) (by decide)) rfl rfl 40 (hM.2.2.1 38 (by decide) (by decide)) (by omega) (by omega) (nI (M 38 o)) (hM.1 38 o (decide_eq_true (show o < 40 by omega))) dX11_hangs_73 ?_
              refine j_iload_n C dX11_hangs_74 rfl 2 rfl ?_
              refine j_icmp_ne (tgt := 82) C dX11_hangs_75 (by decide) (nI_eq (by omega) (by omega)) (fun h75 => ?_) (fun h75 => ?_)
              · refine j_aload_n C dX11_hangs_82 rfl 0 rfl ?_
                refine j_iload_n C dX11_hangs_83 rfl 1 rfl ?_
                refine j_iload C dX11_hangs_84 5 rfl ?_
                have hbt86 := tieN_le hB (a := r) (b := o) (by omega) (by omega)
                refine c_i0 C (r_V C 31 0 [.int (nI r), .int (nI o)] (c_X11_tieOf l D cy base Λ σ M hM hB r o (by omega) (by omega) (tieN M r o) rfl) (cwV 2 hts gX11_hangs_X11_tieOf rfl rfl rfl (by decide +kernel) ⟨by decide, by decide⟩) (MR.in0 hM (by decide) (by decide)) rfl rfl rfl rfl (Nat.le_of_ble_eq_true rfl) dX11_hangs_86 ⟨by decide, by decide⟩) (fun rv uu hp => ?_)
                rw [hp.1, hp.2]
                refine j_i2l C (zL (tieN M r o : Int)) dX11_hangs_89 (nI_zL (by omega)) ?_
                exact lb90 (tieN M r o : Int) (by simp [h37, h43, h49, h59, h75])
              · refine j_lconst C (zL 0) dX11_hangs_78 (by decide) ?_
                refine j_goto (tgt := 90) C dX11_hangs_79 (by decide) ?_
                exact lb90 0 (by simp [h37, h43, h49, h59, h75])
            · refine j_goto (tgt := 131) C dX11_hangs_62 (by decide) ?_
              refine j_iinc C [(6, .int (nI (o + 1))), (0, .ref (gA Λ 31 0)), (1, .int (nI r)), (2, .int (nI room)), (3, .int (bt)), (4, .long (zL z))] (nI (o + 1)) dX11_hangs_131 5 rfl (nI_add _ 1) (by decide) rfl ?_
              refine j_goto (tgt := 31) C dX11_hangs_134 (by decide) ?_
              refine j_lv [1, 2, 3, 4, 5, 0] rfl ?_
              exact ih31 z (o + 1) (by omega) (by omega) (by rw [fb_sm_succ, hz]; simp [hangT, h37, h43, h49, h59]; try omega)
  refine j_aload_n C dX11_hangs_0 rfl 0 rfl ?_
  refine j_getV C hwX11 31 0 14 (MR.in0 hM (by decide) (by decide)) rfl rfl (by decide) rfl 0 (hM.2.2.2 14 rfl) hL46 dX11_hangs_1 ?_
  refine j_iload_n C dX11_hangs_4 rfl 1 rfl ?_
  have hb5 : M 40 r ≤ 6 := hB 40 r (decide_eq_true (show r < 40 by omega))
  refine j_iald C 40 0 r (MR.in0 hM (by decide) (by decide)) rfl rfl 40 (hM.2.2.1 40 (by decide) (by decide)) (by omega) (by omega) (nI (M 40 r) - 1) (hM.1 40 r (decide_eq_true (show r < 40 by omega))) dX11_hangs_5 ?_
  refine j_if_lt (tgt := 25) C dX11_hangs_6 (by decide) (m1_lt (by omega)) (fun h6 => ?_) (fun h6 => ?_)
  · refine j_lconst C (zL 0) dX11_hangs_25 (by decide) ?_
    refine j_lstore C [(4, .long (zL 0)), (0, .ref (gA Λ 31 0)), (1, .int (nI r)), (2, .int (nI room)), (3, .int (bt))] dX11_hangs_26 (by decide) rfl ?_
    refine j_iconst C (nI 0) dX11_hangs_28 (by decide) ?_
    refine j_istore C [(6, .int (nI 0)), (4, .long (zL 0)), (0, .ref (gA Λ 31 0)), (1, .int (nI r)), (2, .int (nI room)), (3, .int (bt))] dX11_hangs_29 (by decide) rfl ?_
    refine j_lv [2, 3, 4, 5, 1, 0] rfl ?_
    exact lb31 _ 0 0 (Nat.lt_succ_self _) (by omega) (by simp [fb_sm, fxB, Nat.pos_iff_ne_zero, h6])
  · refine j_aload_n C dX11_hangs_9 rfl 0 rfl ?_
    refine j_getV C hwX11 31 0 14 (MR.in0 hM (by decide) (by decide)) rfl rfl (by decide) rfl 0 (hM.2.2.2 14 rfl) hL46 dX11_hangs_10 ?_
    refine j_iload_n C dX11_hangs_13 rfl 1 rfl ?_
    have hb14 : M 40 r ≤ 6 := hB 40 r (decide_eq_true (show r < 40 by omega))
    refine j_iald C 40 0 r (MR.in0 hM (by decide) (by decide)) rfl rfl 40 (hM.2.2.1 40 (by decide) (by decide)) (by omega) (by omega) (nI (M 40 r) - 1) (hM.1 40 r (decide_eq_true (show r < 40 by omega))) dX11_hangs_14 ?_
    refine j_iload_n C dX11_hangs_15 rfl 2 rfl ?_
    refine j_icmp_eq (tgt := 25) C dX11_hangs_16 (by decide) (m1_eqb (by omega) (by omega)) (fun h16 => ?_) (fun h16 => ?_)
    · refine j_lconst C (zL 0) dX11_hangs_25 (by decide) ?_
      refine j_lstore C [(4, .long (zL 0)), (0, .ref (gA Λ 31 0)), (1, .int (nI r)), (2, .int (nI room)), (3, .int (bt))] dX11_hangs_26 (by decide) rfl ?_
      refine j_iconst C (nI 0) dX11_hangs_28 (by decide) ?_
      refine j_istore C [(6, .int (nI 0)), (4, .long (zL 0)), (0, .ref (gA Λ 31 0)), (1, .int (nI r)), (2, .int (nI room)), (3, .int (bt))] dX11_hangs_29 (by decide) rfl ?_
      refine j_lv [2, 3, 4, 5, 1, 0] rfl ?_
      exact lb31 _ 0 0 (Nat.lt_succ_self _) (by omega) (by simp [fb_sm, fxB, Nat.pos_iff_ne_zero, h6, h16])
    · refine j_ldc2 C (zL 1000000) hC116 dX11_hangs_19 (by decide) ?_
      refine j_goto (tgt := 26) C dX11_hangs_22 (by decide) ?_
      refine j_lstore C [(4, .long (zL 1000000)), (0, .ref (gA Λ 31 0)), (1, .int (nI r)), (2, .int (nI room)), (3, .int (bt))] dX11_hangs_26 (by decide) rfl ?_
      refine j_iconst C (nI 0) dX11_hangs_28 (by decide) ?_
      refine j_istore C [(6, .int (nI 0)), (4, .long (zL 1000000)), (0, .ref (gA Λ 31 0)), (1, .int (nI r)), (2, .int (nI room)), (3, .int (bt))] dX11_hangs_29 (by decide) rfl ?_
      refine j_lv [2, 3, 4, 5, 1, 0] rfl ?_
      exact lb31 _ 1000000 0 (Nat.lt_succ_self _) (by omega) (by simp [fb_sm, fxB, Nat.pos_iff_ne_zero, h6, h16])
