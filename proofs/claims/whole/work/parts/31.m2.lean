set_option maxHeartbeats 4000000 in
set_option maxRecDepth 100000 in
theorem c_X11_settles (l : Launch) (D : va_G) (cy : Nat → ClassId) (base : Nat) (Λ : LY) (σ : HS) (M : MM) (hM : MR Λ σ M) (hB : MBd M) : Met l yX11_settles wsX11_settles ({ frames := 12, cells := 0, slots := 0, locals := 180 }) (va_Pc [.ref (gA Λ 31 0)] (Wd D cy base Λ σ)) (va_Qv (fun u => MR Λ u (settle M) ∧ Same nMo σ u) (Wd D cy base Λ) (Ab base)) 0 0 (Ab base) := by
  refine j_start (cc := cX11_settles) (nL := 4) (ret := none) (lv := [(0, .ref (gA Λ 31 0))]) (by decide) rfl (Nat.le_of_ble_eq_true rfl) rfl ?_
  intro p e s m below meth c C hr hlk hnm
  have C : Cx p s m ([.ref (gA Λ 31 0)] : List Value).toArray c cX11_settles 4 RX11 wsX11_settles D cy base := C
  have hts := C.2.2.2.2.1
  have hwX11 : ∀ w ∈ u_ws RX11 TX11 26, w ∈ wsX11_settles := by decide +kernel
  have hM30 : (Cond.fieldLink RX11 30 (TX11 9).1 (TX11 9).2.1 (TX11 9).2.2.1).before ([.ref (gA Λ 31 0)] : List Value).toArray s = true := hts (.fieldLink RX11 30 "CodeRoomsModel" "limit" "I") (by decide +kernel)
  have hL30 : FL RX11 30 (TX11 9).1 (TX11 9).2.1 (TX11 9).2.2.1 ([.ref (gA Λ 31 0)] : List Value).toArray s := Or.inl hM30
  have hM33 : (Cond.fieldLink RX11 33 (TX11 10).1 (TX11 10).2.1 (TX11 10).2.2.1).before ([.ref (gA Λ 31 0)] : List Value).toArray s = true := hts (.fieldLink RX11 33 "CodeRoomsModel" "rooms" "I") (by decide +kernel)
  have hL33 : FL RX11 33 (TX11 10).1 (TX11 10).2.1 (TX11 10).2.2.1 ([.ref (gA Λ 31 0)] : List Value).toArray s := Or.inl hM33
  have hM36 : (Cond.fieldLink RX11 36 (TX11 11).1 (TX11 11).2.1 (TX11 11).2.2.1).before ([.ref (gA Λ 31 0)] : List Value).toArray s = true := hts (.fieldLink RX11 36 "CodeRoomsModel" "isHub" "[Z") (by decide +kernel)
  have hL36 : FL RX11 36 (TX11 11).1 (TX11 11).2.1 (TX11 11).2.2.1 ([.ref (gA Λ 31 0)] : List Value).toArray s := Or.inl hM36
  have hM40 : (Cond.fieldLink RX11 40 (TX11 12).1 (TX11 12).2.1 (TX11 12).2.2.1).before ([.ref (gA Λ 31 0)] : List Value).toArray s = true := hts (.fieldLink RX11 40 "CodeRoomsModel" "roomOf" "[I") (by decide +kernel)
  have hL40 : FL RX11 40 (TX11 12).1 (TX11 12).2.1 (TX11 12).2.2.1 ([.ref (gA Λ 31 0)] : List Value).toArray s := Or.inl hM40
  have hM83 : (Cond.fieldLink RX11 83 (TX11 5).1 (TX11 5).2.1 (TX11 5).2.2.1).before ([.ref (gA Λ 31 0)] : List Value).toArray s = true := hts (.fieldLink RX11 83 "CodeRoomsModel" "many" "I") (by decide +kernel)
  have hL83 : FL RX11 83 (TX11 5).1 (TX11 5).2.1 (TX11 5).2.2.1 ([.ref (gA Λ 31 0)] : List Value).toArray s := Or.inl hM83
  refine j_iconst C (nI 0) dX11_settles_0 (by decide) ?_
  refine j_istore_n C [(1, .int (nI 0)), (0, .ref (gA Λ 31 0))] dX11_settles_1 rfl (by decide) rfl ?_
  have lb2 : ∀ (fu : Nat) (σ1 : HS) (i : Nat), (M 31 5 - i) < fu → (MR Λ σ1 (settleTo M i)) → (Same nMo σ σ1) → (i ≤ M 31 5) → J p l e ({ frames := 12, cells := 0, slots := 0, locals := 180 }) s m ([.ref (gA Λ 31 0)] : List Value).toArray below meth c 4 D cy base (MQ below (va_Qv (fun u => MR Λ u (settle M) ∧ Same nMo σ u) (Wd D cy base Λ) (Ab base)) ([.ref (gA Λ 31 0)] : List Value).toArray s 0 0 (Ab base)) 0 0 Λ 2 [(0, .ref (gA Λ 31 0)), (1, .int (nI i))] [] σ1 := by
    intro fu
    induction fu with
    | zero => intro σ1 i hfu; exact absurd hfu (Nat.not_lt_zero _)
    | succ fu ih =>
      intro σ1 i hfu hM1 hs1 hi
      have hn : M 31 5 ≤ 40 := hB 31 5 rfl
      have ih2 := ih
      refine j_iload_n C dX11_settles_2 rfl 1 rfl ?_
      refine j_aload_n C dX11_settles_3 rfl 0 rfl ?_
      have hb4 : M 31 5 ≤ 40 := hB 31 5 rfl
      refine j_getI C hwX11 31 0 5 (MR.in0 hM1 (by decide) (by decide)) rfl rfl (by decide) rfl (nI (M 31 5)) ((hM1.1 31 5 rfl).trans (congrArg (menc 31) (congrFun (settleTo_nk (by decide) (by decide)) _))) hL83 dX11_settles_4 ?_
      refine j_icmp_ge (tgt := 104) C dX11_settles_7 (by decide) (nI_leI (by omega) (by omega)) (fun h7 => ?_) (fun h7 => ?_)
      · exact j_vret C hr hlk (⟨by have q := hM1; rw [show i = M 31 5 by omega] at q; exact q, hs1⟩) dX11_settles_104
      · refine j_iconst C (nI 0) dX11_settles_10 (by decide) ?_
        refine j_istore_n C [(2, .int (nI 0)), (0, .ref (gA Λ 31 0)), (1, .int (nI i))] dX11_settles_11 rfl (by decide) rfl ?_
        refine j_iconst C (nI 0) dX11_settles_12 (by decide) ?_
        refine j_istore_n C [(3, .int (nI 0)), (2, .int (nI 0)), (0, .ref (gA Λ 31 0)), (1, .int (nI i))] dX11_settles_13 rfl (by decide) rfl ?_
        have lb14 : ∀ (fu : Nat) (a o : Nat), (M 31 5 - o) < fu → (o ≤ M 31 5) → (a = fb_ct (fun o => decide (o ≠ i) && decide (0 < tieN M i o)) o) → J p l e ({ frames := 12, cells := 0, slots := 0, locals := 180 }) s m ([.ref (gA Λ 31 0)] : List Value).toArray below meth c 4 D cy base (MQ below (va_Qv (fun u => MR Λ u (settle M) ∧ Same nMo σ u) (Wd D cy base Λ) (Ab base)) ([.ref (gA Λ 31 0)] : List Value).toArray s 0 0 (Ab base)) 0 0 Λ 14 [(0, .ref (gA Λ 31 0)), (1, .int (nI i)), (2, .int (nI a)), (3, .int (nI o))] [] σ1 := by
          intro fu
          induction fu with
          | zero => intro a o hfu; exact absurd hfu (Nat.not_lt_zero _)
          | succ fu ih =>
            intro a o hfu ho ha
            have hal : a ≤ o := by rw [ha]; exact fb_ct_le _ _
            have ih14 := ih
            refine j_iload_n C dX11_settles_14 rfl 3 rfl ?_
            refine j_aload_n C dX11_settles_15 rfl 0 rfl ?_
            have hb16 : M 31 5 ≤ 40 := hB 31 5 rfl
            refine j_getI C hwX11 31 0 5 (MR.in0 hM1 (by decide) (by decide)) rfl rfl (by decide) rfl (nI (M 31 5)) ((hM1.1 31 5 rfl).trans (congrArg (menc 31) (congrFun (settleTo_nk (by decide) (by decide)) _))) hL83 dX11_settles_16 ?_
            refine j_icmp_ge (tgt := 50) C dX11_settles_19 (by decide) (nI_leI (by omega) (by omega)) (fun h19 => ?_) (fun h19 => ?_)
            · refine j_aload_n C dX11_settles_50 rfl 0 rfl ?_
              refine j_getV C hwX11 31 0 11 (MR.in0 hM1 (by decide) (by decide)) rfl rfl (by decide) rfl 0 (hM1.2.2.2 11 rfl) hL36 dX11_settles_51 ?_
              refine j_iload_n C dX11_settles_54 rfl 1 rfl ?_
              refine j_iload_n C dX11_settles_55 rfl 2 rfl ?_
              refine j_aload_n C dX11_settles_56 rfl 0 rfl ?_
              have hb57 : M 31 9 ≤ 40 := hB 31 9 rfl
              refine j_getI C hwX11 31 0 9 (MR.in0 hM1 (by decide) (by decide)) rfl rfl (by decide) rfl (nI (M 31 9)) ((hM1.1 31 9 rfl).trans (congrArg (menc 31) (congrFun (settleTo_nk (by decide) (by decide)) _))) hL30 dX11_settles_57 ?_
              refine j_icmp_le (tgt := 67) C dX11_settles_60 (by decide) (nI_leI (by omega) (by omega)) (fun h60 => ?_) (fun h60 => ?_)
              · refine j_iconst C (nI 0) dX11_settles_67 (by decide) ?_
                refine j_zast C 37 0 i (MR.in0 hM1 (by decide) (by decide)) rfl rfl 40 (hM1.2.2.1 37 (by decide) (by decide)) (by omega) (by omega) (nI 0) (by first | rfl | exact nz_v _) dX11_settles_68 ?_
                have hM_6 := MR.set (t := 37) (k := i) (x := 0) (v := (nI 0)) hM1 rfl
                have hs_7 := Same.sI (t := 37) (i := 0) (k := i) (x := (nI 0)) hs1 (by decide)
                refine j_aload_n C dX11_settles_69 rfl 0 rfl ?_
                refine j_getV C hwX11 31 0 11 (MR.in0 hM_6 (by decide) (by decide)) rfl rfl (by decide) rfl 0 (hM_6.2.2.2 11 rfl) hL36 dX11_settles_70 ?_
                refine j_iload_n C dX11_settles_73 rfl 1 rfl ?_
                refine j_zald C 37 0 i (MR.in0 hM_6 (by decide) (by decide)) rfl rfl 40 (hM_6.2.2.1 37 (by decide) (by decide)) (by omega) (by omega) (nI 0) ((hM_6.1 37 i (decide_eq_true (show i < 40 by omega))).trans (congrArg (menc 37) (mS_same _ _ _ _))) dX11_settles_74 ?_
                refine j_if_ne (tgt := 91) C (P := True) dX11_settles_75 (by decide) (by decide) (fun z => ?_) (fun z => ?_)
                · exact absurd trivial z
                · refine j_aload_n C dX11_settles_78 rfl 0 rfl ?_
                  refine j_getV C hwX11 31 0 12 (MR.in0 hM_6 (by decide) (by decide)) rfl rfl (by decide) rfl 0 (hM_6.2.2.2 12 rfl) hL40 dX11_settles_79 ?_
                  refine j_iload_n C dX11_settles_82 rfl 1 rfl ?_
                  have hb83 : M 38 i ≤ 5 := hB 38 i (decide_eq_true (show i < 40 by omega))
                  refine j_iald C 38 0 i (MR.in0 hM_6 (by decide) (by decide)) rfl rfl 40 (hM_6.2.2.1 38 (by decide) (by decide)) (by omega) (by omega) (nI (M 38 i)) (((hM_6.1 38 i (decide_eq_true (show i < 40 by omega))).trans (congrArg (menc 38) (mS_ne (Or.inl (by decide))))).trans (congrArg (menc 38) (settleTo_38 (Nat.le_refl _)))) dX11_settles_83 ?_
                  refine j_aload_n C dX11_settles_84 rfl 0 rfl ?_
                  have hb85 : M 31 10 ≤ 40 := hB 31 10 rfl
                  refine j_getI C hwX11 31 0 10 (MR.in0 hM_6 (by decide) (by decide)) rfl rfl (by decide) rfl (nI (M 31 10)) (((hM_6.1 31 10 rfl).trans (congrArg (menc 31) (mS_ne (Or.inl (by decide))))).trans (congrArg (menc 31) (congrFun (settleTo_nk (by decide) (by decide)) _))) hL33 dX11_settles_85 ?_
                  refine j_icmp_lt (tgt := 98) C dX11_settles_88 (by decide) (nI_ltI (by omega) (by omega)) (fun h88 => ?_) (fun h88 => ?_)
                  · refine j_iinc C [(1, .int (nI (i + 1))), (0, .ref (gA Λ 31 0)), (2, .int (nI a)), (3, .int (nI o))] (nI (i + 1)) dX11_settles_98 1 rfl (nI_add _ 1) (by decide) rfl ?_
                    refine j_goto (tgt := 2) C dX11_settles_101 (by decide) ?_
                    refine j_lv [1, 0] rfl ?_
                    exact ih2 (sI σ1 37 0 i (nI 0)) (i + 1) (by omega) (by rw [← settle_3 (by rw [show deg M i = a by rw [ha, show o = M 31 5 by omega]; rfl]; omega) (by omega)]; exact hM_6) hs_7 (by omega)
                  · refine j_aload_n C dX11_settles_91 rfl 0 rfl ?_
                    refine j_getV C hwX11 31 0 12 (MR.in0 hM_6 (by decide) (by decide)) rfl rfl (by decide) rfl 0 (hM_6.2.2.2 12 rfl) hL40 dX11_settles_92 ?_
                    refine j_iload_n C dX11_settles_95 rfl 1 rfl ?_
                    refine j_iconst C (nI 0) dX11_settles_96 (by decide) ?_
                    refine j_iast C 38 0 i (MR.in0 hM_6 (by decide) (by decide)) rfl rfl 40 (hM_6.2.2.1 38 (by decide) (by decide)) (by omega) (by omega) (nI 0) rfl dX11_settles_97 ?_
                    have hM_10 := MR.set (t := 38) (k := i) (x := 0) (v := (nI 0)) hM_6 rfl
                    have hs_11 := Same.sI (t := 38) (i := 0) (k := i) (x := (nI 0)) hs_7 (by decide)
                    refine j_iinc C [(1, .int (nI (i + 1))), (0, .ref (gA Λ 31 0)), (2, .int (nI a)), (3, .int (nI o))] (nI (i + 1)) dX11_settles_98 1 rfl (nI_add _ 1) (by decide) rfl ?_
                    refine j_goto (tgt := 2) C dX11_settles_101 (by decide) ?_
                    refine j_lv [1, 0] rfl ?_
                    exact ih2 (sI (sI σ1 37 0 i (nI 0)) 38 0 i (nI 0)) (i + 1) (by omega) (by rw [← settle_2 (by rw [show deg M i = a by rw [ha, show o = M 31 5 by omega]; rfl]; omega) (by omega)]; exact hM_10) hs_11 (by omega)
              · refine j_iconst C (nI 1) dX11_settles_63 (by decide) ?_
                refine j_goto (tgt := 68) C dX11_settles_64 (by decide) ?_
                refine j_zast C 37 0 i (MR.in0 hM1 (by decide) (by decide)) rfl rfl 40 (hM1.2.2.1 37 (by decide) (by decide)) (by omega) (by omega) (nI 1) (by first | rfl | exact nz_v _) dX11_settles_68 ?_
                have hM_12 := MR.set (t := 37) (k := i) (x := 1) (v := (nI 1)) hM1 rfl
                have hs_13 := Same.sI (t := 37) (i := 0) (k := i) (x := (nI 1)) hs1 (by decide)
                refine j_aload_n C dX11_settles_69 rfl 0 rfl ?_
                refine j_getV C hwX11 31 0 11 (MR.in0 hM_12 (by decide) (by decide)) rfl rfl (by decide) rfl 0 (hM_12.2.2.2 11 rfl) hL36 dX11_settles_70 ?_
                refine j_iload_n C dX11_settles_73 rfl 1 rfl ?_
                refine j_zald C 37 0 i (MR.in0 hM_12 (by decide) (by decide)) rfl rfl 40 (hM_12.2.2.1 37 (by decide) (by decide)) (by omega) (by omega) (nI 1) ((hM_12.1 37 i (decide_eq_true (show i < 40 by omega))).trans (congrArg (menc 37) (mS_same _ _ _ _))) dX11_settles_74 ?_
                refine j_if_ne (tgt := 91) C (P := False) dX11_settles_75 (by decide) (by decide) (fun z => ?_) (fun z => ?_)
                · refine j_aload_n C dX11_settles_91 rfl 0 rfl ?_
                  refine j_getV C hwX11 31 0 12 (MR.in0 hM_12 (by decide) (by decide)) rfl rfl (by decide) rfl 0 (hM_12.2.2.2 12 rfl) hL40 dX11_settles_92 ?_
                  refine j_iload_n C dX11_settles_95 rfl 1 rfl ?_
                  refine j_iconst C (nI 0) dX11_settles_96 (by decide) ?_
                  refine j_iast C 38 0 i (MR.in0 hM_12 (by decide) (by decide)) rfl rfl 40 (hM_12.2.2.1 38 (by decide) (by decide)) (by omega) (by omega) (nI 0) rfl dX11_settles_97 ?_
                  have hM_15 := MR.set (t := 38) (k := i) (x := 0) (v := (nI 0)) hM_12 rfl
                  have hs_16 := Same.sI (t := 38) (i := 0) (k := i) (x := (nI 0)) hs_13 (by decide)
                  refine j_iinc C [(1, .int (nI (i + 1))), (0, .ref (gA Λ 31 0)), (2, .int (nI a)), (3, .int (nI o))] (nI (i + 1)) dX11_settles_98 1 rfl (nI_add _ 1) (by decide) rfl ?_
                  refine j_goto (tgt := 2) C dX11_settles_101 (by decide) ?_
                  refine j_lv [1, 0] rfl ?_
                  exact ih2 (sI (sI σ1 37 0 i (nI 1)) 38 0 i (nI 0)) (i + 1) (by omega) (by rw [← settle_1 (by rw [show deg M i = a by rw [ha, show o = M 31 5 by omega]; rfl]; omega)]; exact hM_15) hs_16 (by omega)
                · exact z.elim
            · refine j_iload_n C dX11_settles_22 rfl 2 rfl ?_
              refine j_iload_n C dX11_settles_23 rfl 3 rfl ?_
              refine j_iload_n C dX11_settles_24 rfl 1 rfl ?_
              refine j_icmp_eq (tgt := 41) C dX11_settles_25 (by decide) (nI_eq (by omega) (by omega)) (fun h25 => ?_) (fun h25 => ?_)
              · refine j_iconst C (nI 0) dX11_settles_41 (by decide) ?_
                refine j_iadd C (nI (a + 0)) dX11_settles_42 (nI_add _ _) ?_
                refine j_istore_n C [(2, .int (nI (a + 0))), (0, .ref (gA Λ 31 0)), (1, .int (nI i)), (3, .int (nI o))] dX11_settles_43 rfl (by decide) rfl ?_
                refine j_iinc C [(3, .int (nI (o + 1))), (2, .int (nI (a + 0))), (0, .ref (gA Λ 31 0)), (1, .int (nI i))] (nI (o + 1)) dX11_settles_44 3 rfl (nI_add _ 1) (by decide) rfl ?_
                refine j_goto (tgt := 14) C dX11_settles_47 (by decide) ?_
                refine j_lv [2, 3, 1, 0] rfl ?_
                exact ih14 (a + 0) (o + 1) (by omega) (by omega) (by rw [fb_ct_succ, ← ha]; simp [h19, h25]; try omega)
              · refine j_aload_n C dX11_settles_28 rfl 0 rfl ?_
                refine j_iload_n C dX11_settles_29 rfl 1 rfl ?_
                refine j_iload_n C dX11_settles_30 rfl 3 rfl ?_
                have hbt31 := tieN_le hB (a := i) (b := o) (by omega) (by omega)
                refine c_i0 C (r_V C 31 0 [.int (nI i), .int (nI o)] (c_X11_tieOf l D cy base Λ σ1 (settleTo M i) hM1 (settleTo_B hB i) i o (by omega) (by omega) (tieN M i o) tieN_settleTo) (cwV 2 hts gX11_settles_X11_tieOf rfl rfl rfl (by decide +kernel) ⟨by decide, by decide⟩) (MR.in0 hM1 (by decide) (by decide)) rfl rfl rfl rfl (Nat.le_of_ble_eq_true rfl) dX11_settles_31 ⟨by decide, by decide⟩) (fun rv uu hp => ?_)
                rw [hp.1, hp.2]
                refine j_if_le (tgt := 41) C dX11_settles_34 (by decide) (nJ_le0 (by omega)) (fun h34 => ?_) (fun h34 => ?_)
                · refine j_iconst C (nI 0) dX11_settles_41 (by decide) ?_
                  refine j_iadd C (nI (a + 0)) dX11_settles_42 (nI_add _ _) ?_
                  refine j_istore_n C [(2, .int (nI (a + 0))), (0, .ref (gA Λ 31 0)), (1, .int (nI i)), (3, .int (nI o))] dX11_settles_43 rfl (by decide) rfl ?_
                  refine j_iinc C [(3, .int (nI (o + 1))), (2, .int (nI (a + 0))), (0, .ref (gA Λ 31 0)), (1, .int (nI i))] (nI (o + 1)) dX11_settles_44 3 rfl (nI_add _ 1) (by decide) rfl ?_
                  refine j_goto (tgt := 14) C dX11_settles_47 (by decide) ?_
                  refine j_lv [2, 3, 1, 0] rfl ?_
                  exact ih14 (a + 0) (o + 1) (by omega) (by omega) (by rw [fb_ct_succ, ← ha]; simp [h19, h25, h34]; try omega)
                · refine j_iconst C (nI 1) dX11_settles_37 (by decide) ?_
                  refine j_goto (tgt := 42) C dX11_settles_38 (by decide) ?_
                  refine j_iadd C (nI (a + 1)) dX11_settles_42 (nI_add _ _) ?_
                  refine j_istore_n C [(2, .int (nI (a + 1))), (0, .ref (gA Λ 31 0)), (1, .int (nI i)), (3, .int (nI o))] dX11_settles_43 rfl (by decide) rfl ?_
                  refine j_iinc C [(3, .int (nI (o + 1))), (2, .int (nI (a + 1))), (0, .ref (gA Λ 31 0)), (1, .int (nI i))] (nI (o + 1)) dX11_settles_44 3 rfl (nI_add _ 1) (by decide) rfl ?_
                  refine j_goto (tgt := 14) C dX11_settles_47 (by decide) ?_
                  refine j_lv [2, 3, 1, 0] rfl ?_
                  exact ih14 (a + 1) (o + 1) (by omega) (by omega) (by rw [fb_ct_succ, ← ha]; simp [h19, h25, h34]; try omega)
        refine j_lv [2, 3, 1, 0] rfl ?_
        exact lb14 _ 0 0 (Nat.lt_succ_self _) (by omega) rfl
  refine j_lv [1, 0] rfl ?_
  exact lb2 _ σ 0 (Nat.lt_succ_self _) (by rw [settleTo_0]; exact hM) Same.rf (by omega)

set_option maxHeartbeats 4000000 in
set_option maxRecDepth 100000 in
theorem c_X11_isBroken (l : Launch) (D : va_G) (cy : Nat → ClassId) (base : Nat) (Λ : LY) (σ : HS) (k a b : Nat) (hk : k < 2 ^ 31) (ha : a < 2 ^ 31) (hb : b < 2 ^ 31) : Met l yX11_isBroken wsX11_isBroken ({ frames := 4, cells := 0, slots := 0, locals := 60 }) (va_Pc [.int (nI k), .int (nI a), .int (nI b)] (Wd D cy base Λ σ)) (va_Qi (fun r u => r = bI (brk k a b) ∧ u = σ) (Wd D cy base Λ) (Ab base)) 0 0 (Ab base) := by
  refine j_start (cc := cX11_isBroken) (nL := 3) (ret := (some .boolean)) (lv := [(0, .int (nI k)), (1, .int (nI a)), (2, .int (nI b))]) (by decide) rfl (Nat.le_of_ble_eq_true rfl) rfl ?_
  intro p e s m below meth c C hr hlk hnm
  have C : Cx p s m ([.int (nI k), .int (nI a), .int (nI b)] : List Value).toArray c cX11_isBroken 3 RX11 wsX11_isBroken D cy base := C
  have hts := C.2.2.2.2.1
  refine j_iload_n C dX11_isBroken_0 rfl 0 rfl ?_
  refine j_iconst C (nI 1) dX11_isBroken_1 (by decide) ?_
  refine j_icmp_ne (tgt := 10) C dX11_isBroken_2 (by decide) (nI_eq (by omega) (by omega)) (fun h2 => ?_) (fun h2 => ?_)
  · refine j_iload_n C dX11_isBroken_10 rfl 0 rfl ?_
    refine j_iconst C (nI 2) dX11_isBroken_11 (by decide) ?_
    refine j_icmp_ne (tgt := 24) C dX11_isBroken_12 (by decide) (nI_eq (by omega) (by omega)) (fun h12 => ?_) (fun h12 => ?_)
    · refine j_iconst C (nI 0) dX11_isBroken_24 (by decide) ?_
      exact j_zret C (by first | rfl | exact nz_b _ | exact nz_n (by omega)) hr hlk (⟨rt0 (by first | (exfalso; omega) | simp [brk, h2, h12]), rfl⟩) dX11_isBroken_25
    · refine j_iload_n C dX11_isBroken_15 rfl 1 rfl ?_
      refine j_iload_n C dX11_isBroken_16 rfl 2 rfl ?_
      refine j_icmp_ne (tgt := 24) C dX11_isBroken_17 (by decide) (nI_eq (by omega) (by omega)) (fun h17 => ?_) (fun h17 => ?_)
      · refine j_iconst C (nI 0) dX11_isBroken_24 (by decide) ?_
        exact j_zret C (by first | rfl | exact nz_b _ | exact nz_n (by omega)) hr hlk (⟨rt0 (by first | (exfalso; omega) | simp [brk, h2, h12, h17]), rfl⟩) dX11_isBroken_25
      · refine j_iconst C (nI 1) dX11_isBroken_20 (by decide) ?_
        refine j_goto (tgt := 25) C dX11_isBroken_21 (by decide) ?_
        exact j_zret C (by first | rfl | exact nz_b _ | exact nz_n (by omega)) hr hlk (⟨rt1 (by first | (exfalso; omega) | simp [brk, h2, h12, h17]), rfl⟩) dX11_isBroken_25
  · refine j_iload_n C dX11_isBroken_5 rfl 1 rfl ?_
    refine j_iload_n C dX11_isBroken_6 rfl 2 rfl ?_
    refine j_icmp_ne (tgt := 20) C dX11_isBroken_7 (by decide) (nI_eq (by omega) (by omega)) (fun h7 => ?_) (fun h7 => ?_)
    · refine j_iconst C (nI 1) dX11_isBroken_20 (by decide) ?_
      refine j_goto (tgt := 25) C dX11_isBroken_21 (by decide) ?_
      exact j_zret C (by first | rfl | exact nz_b _ | exact nz_n (by omega)) hr hlk (⟨rt1 (by first | (exfalso; omega) | simp [brk, h2, h7]), rfl⟩) dX11_isBroken_25
    · refine j_iload_n C dX11_isBroken_10 rfl 0 rfl ?_
      refine j_iconst C (nI 2) dX11_isBroken_11 (by decide) ?_
      refine j_icmp_ne (tgt := 24) C dX11_isBroken_12 (by decide) (nI_eq (by omega) (by omega)) (fun h12 => ?_) (fun h12 => ?_)
      · refine j_iconst C (nI 0) dX11_isBroken_24 (by decide) ?_
        exact j_zret C (by first | rfl | exact nz_b _ | exact nz_n (by omega)) hr hlk (⟨rt0 (by first | (exfalso; omega) | simp [brk, h2, h7, h12]), rfl⟩) dX11_isBroken_25
      · refine j_iload_n C dX11_isBroken_15 rfl 1 rfl ?_
        refine j_iload_n C dX11_isBroken_16 rfl 2 rfl ?_
        refine j_icmp_ne (tgt := 24) C dX11_isBroken_17 (by decide) (nI_eq (by omega) (by omega)) (fun h17 => ?_) (fun h17 => ?_)
        · refine j_iconst C (nI 0) dX11_isBroken_24 (by decide) ?_
          exact j_zret C (by first | rfl | exact nz_b _ | exact nz_n (by omega)) hr hlk (⟨rt0 (by first | (exfalso; omega) | simp [brk, h2, h7, h12, h17]), rfl⟩) dX11_isBroken_25
        · refine j_iconst C (nI 1) dX11_isBroken_20 (by decide) ?_
          refine j_goto (tgt := 25) C dX11_isBroken_21 (by decide) ?_
          exact j_zret C (by first | rfl | exact nz_b _ | exact nz_n (by omega)) hr hlk (⟨rt1 (by first | (exfalso; omega) | simp [brk, h2, h7, h12, h17]), rfl⟩) dX11_isBroken_25

set_option maxHeartbeats 4000000 in
set_option maxRecDepth 100000 in
theorem c_X11_brokenMany (l : Launch) (D : va_G) (cy : Nat → ClassId) (base : Nat) (Λ : LY) (σ : HS) (M : MM) (hM : MR Λ σ M) (hB : MBd M) : Met l yX11_brokenMany wsX11_brokenMany ({ frames := 8, cells := 0, slots := 0, locals := 120 }) (va_Pc [.ref (gA Λ 31 0)] (Wd D cy base Λ σ)) (va_Qi (fun r u => r = nI (brkN M) ∧ u = σ) (Wd D cy base Λ) (Ab base)) 0 0 (Ab base) := by
  refine j_start (cc := cX11_brokenMany) (nL := 4) (ret := (some .int)) (lv := [(0, .ref (gA Λ 31 0))]) (by decide) rfl (Nat.le_of_ble_eq_true rfl) rfl ?_
  intro p e s m below meth c C hr hlk hnm
  have C : Cx p s m ([.ref (gA Λ 31 0)] : List Value).toArray c cX11_brokenMany 4 RX11 wsX11_brokenMany D cy base := C
  have hts := C.2.2.2.2.1
  have hwX11 : ∀ w ∈ u_ws RX11 TX11 26, w ∈ wsX11_brokenMany := by decide +kernel
  have hM36 : (Cond.fieldLink RX11 36 (TX11 11).1 (TX11 11).2.1 (TX11 11).2.2.1).before ([.ref (gA Λ 31 0)] : List Value).toArray s = true := hts (.fieldLink RX11 36 "CodeRoomsModel" "isHub" "[Z") (by decide +kernel)
  have hL36 : FL RX11 36 (TX11 11).1 (TX11 11).2.1 (TX11 11).2.2.1 ([.ref (gA Λ 31 0)] : List Value).toArray s := Or.inl hM36
  have hM40 : (Cond.fieldLink RX11 40 (TX11 12).1 (TX11 12).2.1 (TX11 12).2.2.1).before ([.ref (gA Λ 31 0)] : List Value).toArray s = true := hts (.fieldLink RX11 40 "CodeRoomsModel" "roomOf" "[I") (by decide +kernel)
  have hL40 : FL RX11 40 (TX11 12).1 (TX11 12).2.1 (TX11 12).2.2.1 ([.ref (gA Λ 31 0)] : List Value).toArray s := Or.inl hM40
  have hM43 : (Cond.fieldLink RX11 43 (TX11 13).1 (TX11 13).2.1 (TX11 13).2.2.1).before ([.ref (gA Λ 31 0)] : List Value).toArray s = true := hts (.fieldLink RX11 43 "CodeRoomsModel" "musts" "[I") (by decide +kernel)
  have hL43 : FL RX11 43 (TX11 13).1 (TX11 13).2.1 (TX11 13).2.2.1 ([.ref (gA Λ 31 0)] : List Value).toArray s := Or.inl hM43
  have hM46 : (Cond.fieldLink RX11 46 (TX11 14).1 (TX11 14).2.1 (TX11 14).2.2.1).before ([.ref (gA Λ 31 0)] : List Value).toArray s = true := hts (.fieldLink RX11 46 "CodeRoomsModel" "fixed" "[I") (by decide +kernel)
  have hL46 : FL RX11 46 (TX11 14).1 (TX11 14).2.1 (TX11 14).2.2.1 ([.ref (gA Λ 31 0)] : List Value).toArray s := Or.inl hM46
  have hM83 : (Cond.fieldLink RX11 83 (TX11 5).1 (TX11 5).2.1 (TX11 5).2.2.1).before ([.ref (gA Λ 31 0)] : List Value).toArray s = true := hts (.fieldLink RX11 83 "CodeRoomsModel" "many" "I") (by decide +kernel)
  have hL83 : FL RX11 83 (TX11 5).1 (TX11 5).2.1 (TX11 5).2.2.1 ([.ref (gA Λ 31 0)] : List Value).toArray s := Or.inl hM83
  refine j_iconst C (nI 0) dX11_brokenMany_0 (by decide) ?_
  refine j_istore_n C [(1, .int (nI 0)), (0, .ref (gA Λ 31 0))] dX11_brokenMany_1 rfl (by decide) rfl ?_
  refine j_iconst C (nI 0) dX11_brokenMany_2 (by decide) ?_
  refine j_istore_n C [(2, .int (nI 0)), (1, .int (nI 0)), (0, .ref (gA Λ 31 0))] dX11_brokenMany_3 rfl (by decide) rfl ?_
  have lb4 : ∀ (fu : Nat) (a i : Nat), (M 31 5 - i) < fu → (i ≤ M 31 5) → (a = fb_sm (brkRow M) i) → J p l e ({ frames := 8, cells := 0, slots := 0, locals := 120 }) s m ([.ref (gA Λ 31 0)] : List Value).toArray below meth c 4 D cy base (MQ below (va_Qi (fun r u => r = nI (brkN M) ∧ u = σ) (Wd D cy base Λ) (Ab base)) ([.ref (gA Λ 31 0)] : List Value).toArray s 0 0 (Ab base)) 0 0 Λ 4 [(0, .ref (gA Λ 31 0)), (1, .int (nI a)), (2, .int (nI i))] [] σ := by
    intro fu
    induction fu with
    | zero => intro a i hfu; exact absurd hfu (Nat.not_lt_zero _)
    | succ fu ih =>
      intro a i hfu hi ha
      have hn : M 31 5 ≤ 40 := hB 31 5 rfl
      have ih4 := ih
      refine j_iload_n C dX11_brokenMany_4 rfl 2 rfl ?_
      refine j_aload_n C dX11_brokenMany_5 rfl 0 rfl ?_
      have hb6 : M 31 5 ≤ 40 := hB 31 5 rfl
      refine j_getI C hwX11 31 0 5 (MR.in0 hM (by decide) (by decide)) rfl rfl (by decide) rfl (nI (M 31 5)) (hM.1 31 5 rfl) hL83 dX11_brokenMany_6 ?_
      refine j_icmp_ge (tgt := 126) C dX11_brokenMany_9 (by decide) (nI_leI (by omega) (by omega)) (fun h9 => ?_) (fun h9 => ?_)
      · refine j_iload_n C dX11_brokenMany_126 rfl 1 rfl ?_
        exact j_iret C hr hlk (⟨by rw [ha, show i = M 31 5 by omega]; rfl, rfl⟩) dX11_brokenMany_127
      · refine j_aload_n C dX11_brokenMany_12 rfl 0 rfl ?_
        refine j_getV C hwX11 31 0 11 (MR.in0 hM (by decide) (by decide)) rfl rfl (by decide) rfl 0 (hM.2.2.2 11 rfl) hL36 dX11_brokenMany_13 ?_
        refine j_iload_n C dX11_brokenMany_16 rfl 2 rfl ?_
        have hb17 : M 37 i ≤ 1 := hB 37 i (decide_eq_true (show i < 40 by omega))
        refine j_zald C 37 0 i (MR.in0 hM (by decide) (by decide)) rfl rfl 40 (hM.2.2.1 37 (by decide) (by decide)) (by omega) (by omega) (nI (M 37 i)) (hM.1 37 i (decide_eq_true (show i < 40 by omega))) dX11_brokenMany_17 ?_
        refine j_if_eq (tgt := 24) C dX11_brokenMany_18 (by decide) (nJ_eq0 (by omega)) (fun h18 => ?_) (fun h18 => ?_)
        · have lb60 : ∀ (fu : Nat) (q b : Nat), (M 31 5 - b) < fu → (b ≤ M 31 5) → (i < b) → (q = a + (if fxB M i (M 38 i) then 1 else 0) + fb_ct (brkP M i) b) → J p l e ({ frames := 8, cells := 0, slots := 0, locals := 120 }) s m ([.ref (gA Λ 31 0)] : List Value).toArray below meth c 4 D cy base (MQ below (va_Qi (fun r u => r = nI (brkN M) ∧ u = σ) (Wd D cy base Λ) (Ab base)) ([.ref (gA Λ 31 0)] : List Value).toArray s 0 0 (Ab base)) 0 0 Λ 60 [(0, .ref (gA Λ 31 0)), (1, .int (nI q)), (2, .int (nI i)), (3, .int (nI b))] [] σ := by
            intro fu
            induction fu with
            | zero => intro q b hfu; exact absurd hfu (Nat.not_lt_zero _)
            | succ fu ih =>
              intro q b hfu hb hib hq
              have ih60 := ih
              refine j_iload_n C dX11_brokenMany_60 rfl 3 rfl ?_
              refine j_aload_n C dX11_brokenMany_61 rfl 0 rfl ?_
              have hb62 : M 31 5 ≤ 40 := hB 31 5 rfl
              refine j_getI C hwX11 31 0 5 (MR.in0 hM (by decide) (by decide)) rfl rfl (by decide) rfl (nI (M 31 5)) (hM.1 31 5 rfl) hL83 dX11_brokenMany_62 ?_
              refine j_icmp_ge (tgt := 120) C dX11_brokenMany_65 (by decide) (nI_leI (by omega) (by omega)) (fun h65 => ?_) (fun h65 => ?_)
              · refine j_iinc C [(2, .int (nI (i + 1))), (0, .ref (gA Λ 31 0)), (1, .int (nI q)), (3, .int (nI b))] (nI (i + 1)) dX11_brokenMany_120 2 rfl (nI_add _ 1) (by decide) rfl ?_
                refine j_goto (tgt := 4) C dX11_brokenMany_123 (by decide) ?_
                refine j_lv [1, 2, 0] rfl ?_
                exact ih4 q (i + 1) (by omega) (by omega) (by rw [fb_sm_succ, ← ha, hq, show b = M 31 5 by omega]; unfold brkRow; rw [if_pos h18]; omega)
              · refine j_iload_n C dX11_brokenMany_68 rfl 1 rfl ?_
                refine j_aload_n C dX11_brokenMany_69 rfl 0 rfl ?_
                refine j_getV C hwX11 31 0 11 (MR.in0 hM (by decide) (by decide)) rfl rfl (by decide) rfl 0 (hM.2.2.2 11 rfl) hL36 dX11_brokenMany_70 ?_
                refine j_iload_n C dX11_brokenMany_73 rfl 3 rfl ?_
                have hb74 : M 37 b ≤ 1 := hB 37 b (decide_eq_true (show b < 40 by omega))
                refine j_zald C 37 0 b (MR.in0 hM (by decide) (by decide)) rfl rfl 40 (hM.2.2.1 37 (by decide) (by decide)) (by omega) (by omega) (nI (M 37 b)) (hM.1 37 b (decide_eq_true (show b < 40 by omega))) dX11_brokenMany_74 ?_
                refine j_if_ne (tgt := 111) C dX11_brokenMany_75 (by decide) (nJ_ne0 (by omega)) (fun h75 => ?_) (fun h75 => ?_)
                · refine j_iconst C (nI 0) dX11_brokenMany_111 (by decide) ?_
                  refine j_iadd C (nI (q + 0)) dX11_brokenMany_112 (nI_add _ _) ?_
                  refine j_istore_n C [(1, .int (nI (q + 0))), (0, .ref (gA Λ 31 0)), (2, .int (nI i)), (3, .int (nI b))] dX11_brokenMany_113 rfl (by decide) rfl ?_
                  refine j_iinc C [(3, .int (nI (b + 1))), (1, .int (nI (q + 0))), (0, .ref (gA Λ 31 0)), (2, .int (nI i))] (nI (b + 1)) dX11_brokenMany_114 3 rfl (nI_add _ 1) (by decide) rfl ?_
                  refine j_goto (tgt := 60) C dX11_brokenMany_117 (by decide) ?_
                  refine j_lv [2, 1, 3, 0] rfl ?_
                  exact ih60 (q + 0) (b + 1) (by omega) (by omega) (by omega) (by rw [fb_ct_succ, hq]; simp [brkP, hib, h65, h75])
                · refine j_aload_n C dX11_brokenMany_78 rfl 0 rfl ?_
                  refine j_getV C hwX11 31 0 13 (MR.in0 hM (by decide) (by decide)) rfl rfl (by decide) rfl 0 (hM.2.2.2 13 rfl) hL43 dX11_brokenMany_79 ?_
                  refine j_bipush C (nI 40) dX11_brokenMany_82 (by decide) ?_
                  refine j_iload_n C dX11_brokenMany_84 rfl 2 rfl ?_
                  refine j_imul C (nI (40 * i)) dX11_brokenMany_85 (pk_mul _ _) ?_
                  refine j_iload_n C dX11_brokenMany_86 rfl 3 rfl ?_
                  refine j_iadd C (nI (40 * i + b)) dX11_brokenMany_87 (nI_add _ _) ?_
                  have hb88 : M 39 (40 * i + b) ≤ 2 := hB 39 (40 * i + b) (decide_eq_true (show 40 * i + b < 1600 by omega))
                  refine j_iald C 39 0 (40 * i + b) (MR.in0 hM (by decide) (by decide)) rfl rfl 1600 (hM.2.2.1 39 (by decide) (by decide)) (by omega) (by omega) (nI (M 39 (40 * i + b))) (hM.1 39 (40 * i + b) (decide_eq_true (show 40 * i + b < 1600 by omega))) dX11_brokenMany_88 ?_
                  refine j_aload_n C dX11_brokenMany_89 rfl 0 rfl ?_
                  refine j_getV C hwX11 31 0 12 (MR.in0 hM (by decide) (by decide)) rfl rfl (by decide) rfl 0 (hM.2.2.2 12 rfl) hL40 dX11_brokenMany_90 ?_
                  refine j_iload_n C dX11_brokenMany_93 rfl 2 rfl ?_
                  have hb94 : M 38 i ≤ 5 := hB 38 i (decide_eq_true (show i < 40 by omega))
                  refine j_iald C 38 0 i (MR.in0 hM (by decide) (by decide)) rfl rfl 40 (hM.2.2.1 38 (by decide) (by decide)) (by omega) (by omega) (nI (M 38 i)) (hM.1 38 i (decide_eq_true (show i < 40 by omega))) dX11_brokenMany_94 ?_
                  refine j_aload_n C dX11_brokenMany_95 rfl 0 rfl ?_
                  refine j_getV C hwX11 31 0 12 (MR.in0 hM (by decide) (by decide)) rfl rfl (by decide) rfl 0 (hM.2.2.2 12 rfl) hL40 dX11_brokenMany_96 ?_
                  refine j_iload_n C dX11_brokenMany_99 rfl 3 rfl ?_
                  have hb100 : M 38 b ≤ 5 := hB 38 b (decide_eq_true (show b < 40 by omega))
                  refine j_iald C 38 0 b (MR.in0 hM (by decide) (by decide)) rfl rfl 40 (hM.2.2.1 38 (by decide) (by decide)) (by omega) (by omega) (nI (M 38 b)) (hM.1 38 b (decide_eq_true (show b < 40 by omega))) dX11_brokenMany_100 ?_
                  refine c_i0 C (r_S C [.int (nI (M 39 (40 * i + b))), .int (nI (M 38 i)), .int (nI (M 38 b))] (c_X11_isBroken l D cy base Λ σ (M 39 (40 * i + b)) (M 38 i) (M 38 b) (by omega) (by omega) (by omega)) (va_cwS 3 hts gX11_brokenMany_X11_isBroken rfl rfl rfl (by decide +kernel) ⟨by decide, by decide⟩) rfl rfl (Nat.le_of_ble_eq_true rfl) dX11_brokenMany_101 ⟨by decide, by decide⟩) (fun rv uu hp => ?_)
                  rw [hp.1, hp.2]
                  refine j_ifeq_b (tgt := 111) C dX11_brokenMany_104 (by decide) (fun h104 => ?_) (fun h104 => ?_)
                  · refine j_iconst C (nI 0) dX11_brokenMany_111 (by decide) ?_
                    refine j_iadd C (nI (q + 0)) dX11_brokenMany_112 (nI_add _ _) ?_
                    refine j_istore_n C [(1, .int (nI (q + 0))), (0, .ref (gA Λ 31 0)), (2, .int (nI i)), (3, .int (nI b))] dX11_brokenMany_113 rfl (by decide) rfl ?_
                    refine j_iinc C [(3, .int (nI (b + 1))), (1, .int (nI (q + 0))), (0, .ref (gA Λ 31 0)), (2, .int (nI i))] (nI (b + 1)) dX11_brokenMany_114 3 rfl (nI_add _ 1) (by decide) rfl ?_
                    refine j_goto (tgt := 60) C dX11_brokenMany_117 (by decide) ?_
                    refine j_lv [2, 1, 3, 0] rfl ?_
                    exact ih60 (q + 0) (b + 1) (by omega) (by omega) (by omega) (by rw [fb_ct_succ, hq]; simp [brkP, hib, h65, h75, h104])
                  · refine j_iconst C (nI 1) dX11_brokenMany_107 (by decide) ?_
                    refine j_goto (tgt := 112) C dX11_brokenMany_108 (by decide) ?_
                    refine j_iadd C (nI (q + 1)) dX11_brokenMany_112 (nI_add _ _) ?_
                    refine j_istore_n C [(1, .int (nI (q + 1))), (0, .ref (gA Λ 31 0)), (2, .int (nI i)), (3, .int (nI b))] dX11_brokenMany_113 rfl (by decide) rfl ?_
                    refine j_iinc C [(3, .int (nI (b + 1))), (1, .int (nI (q + 1))), (0, .ref (gA Λ 31 0)), (2, .int (nI i))] (nI (b + 1)) dX11_brokenMany_114 3 rfl (nI_add _ 1) (by decide) rfl ?_
                    refine j_goto (tgt := 60) C dX11_brokenMany_117 (by decide) ?_
                    refine j_lv [2, 1, 3, 0] rfl ?_
                    exact ih60 (q + 1) (b + 1) (by omega) (by omega) (by omega) (by rw [fb_ct_succ, hq]; simp [brkP, hib, h65, h75, h104]; omega)
          refine j_iload_n C dX11_brokenMany_24 rfl 1 rfl ?_
          refine j_aload_n C dX11_brokenMany_25 rfl 0 rfl ?_
          refine j_getV C hwX11 31 0 14 (MR.in0 hM (by decide) (by decide)) rfl rfl (by decide) rfl 0 (hM.2.2.2 14 rfl) hL46 dX11_brokenMany_26 ?_
          refine j_iload_n C dX11_brokenMany_29 rfl 2 rfl ?_
          have hb30 : M 40 i ≤ 6 := hB 40 i (decide_eq_true (show i < 40 by omega))
          refine j_iald C 40 0 i (MR.in0 hM (by decide) (by decide)) rfl rfl 40 (hM.2.2.1 40 (by decide) (by decide)) (by omega) (by omega) (nI (M 40 i) - 1) (hM.1 40 i (decide_eq_true (show i < 40 by omega))) dX11_brokenMany_30 ?_
          refine j_if_lt (tgt := 53) C dX11_brokenMany_31 (by decide) (m1_lt (by omega)) (fun h31 => ?_) (fun h31 => ?_)
          · refine j_iconst C (nI 0) dX11_brokenMany_53 (by decide) ?_
            refine j_iadd C (nI (a + 0)) dX11_brokenMany_54 (nI_add _ _) ?_
            refine j_istore_n C [(1, .int (nI (a + 0))), (0, .ref (gA Λ 31 0)), (2, .int (nI i))] dX11_brokenMany_55 rfl (by decide) rfl ?_
            refine j_iload_n C dX11_brokenMany_56 rfl 2 rfl ?_
            refine j_iconst C (nI 1) dX11_brokenMany_57 (by decide) ?_
            refine j_iadd C (nI (i + 1)) dX11_brokenMany_58 (nI_add _ _) ?_
            refine j_istore_n C [(3, .int (nI (i + 1))), (1, .int (nI (a + 0))), (0, .ref (gA Λ 31 0)), (2, .int (nI i))] dX11_brokenMany_59 rfl (by decide) rfl ?_
            refine j_lv [2, 1, 3, 0] rfl ?_
            exact lb60 _ (a + 0) (i + 1) (Nat.lt_succ_self _) (by omega) (by omega) (by rw [fb_ct_skip (fun k hk => by simp [brkP, show ¬ i < k by omega])]; simp [fxB, h9, h18, h31])
          · refine j_aload_n C dX11_brokenMany_34 rfl 0 rfl ?_
            refine j_getV C hwX11 31 0 14 (MR.in0 hM (by decide) (by decide)) rfl rfl (by decide) rfl 0 (hM.2.2.2 14 rfl) hL46 dX11_brokenMany_35 ?_
            refine j_iload_n C dX11_brokenMany_38 rfl 2 rfl ?_
            have hb39 : M 40 i ≤ 6 := hB 40 i (decide_eq_true (show i < 40 by omega))
            refine j_iald C 40 0 i (MR.in0 hM (by decide) (by decide)) rfl rfl 40 (hM.2.2.1 40 (by decide) (by decide)) (by omega) (by omega) (nI (M 40 i) - 1) (hM.1 40 i (decide_eq_true (show i < 40 by omega))) dX11_brokenMany_39 ?_
            refine j_aload_n C dX11_brokenMany_40 rfl 0 rfl ?_
            refine j_getV C hwX11 31 0 12 (MR.in0 hM (by decide) (by decide)) rfl rfl (by decide) rfl 0 (hM.2.2.2 12 rfl) hL40 dX11_brokenMany_41 ?_
            refine j_iload_n C dX11_brokenMany_44 rfl 2 rfl ?_
            have hb45 : M 38 i ≤ 5 := hB 38 i (decide_eq_true (show i < 40 by omega))
            refine j_iald C 38 0 i (MR.in0 hM (by decide) (by decide)) rfl rfl 40 (hM.2.2.1 38 (by decide) (by decide)) (by omega) (by omega) (nI (M 38 i)) (hM.1 38 i (decide_eq_true (show i < 40 by omega))) dX11_brokenMany_45 ?_
            refine j_icmp_eq (tgt := 53) C dX11_brokenMany_46 (by decide) (m1_eq (by omega) (by omega)) (fun h46 => ?_) (fun h46 => ?_)
            · refine j_iconst C (nI 0) dX11_brokenMany_53 (by decide) ?_
              refine j_iadd C (nI (a + 0)) dX11_brokenMany_54 (nI_add _ _) ?_
              refine j_istore_n C [(1, .int (nI (a + 0))), (0, .ref (gA Λ 31 0)), (2, .int (nI i))] dX11_brokenMany_55 rfl (by decide) rfl ?_
              refine j_iload_n C dX11_brokenMany_56 rfl 2 rfl ?_
              refine j_iconst C (nI 1) dX11_brokenMany_57 (by decide) ?_
              refine j_iadd C (nI (i + 1)) dX11_brokenMany_58 (nI_add _ _) ?_
              refine j_istore_n C [(3, .int (nI (i + 1))), (1, .int (nI (a + 0))), (0, .ref (gA Λ 31 0)), (2, .int (nI i))] dX11_brokenMany_59 rfl (by decide) rfl ?_
              refine j_lv [2, 1, 3, 0] rfl ?_
              exact lb60 _ (a + 0) (i + 1) (Nat.lt_succ_self _) (by omega) (by omega) (by rw [fb_ct_skip (fun k hk => by simp [brkP, show ¬ i < k by omega])]; simp [fxB, h9, h18, h31, h46])
            · refine j_iconst C (nI 1) dX11_brokenMany_49 (by decide) ?_
              refine j_goto (tgt := 54) C dX11_brokenMany_50 (by decide) ?_
              refine j_iadd C (nI (a + 1)) dX11_brokenMany_54 (nI_add _ _) ?_
              refine j_istore_n C [(1, .int (nI (a + 1))), (0, .ref (gA Λ 31 0)), (2, .int (nI i))] dX11_brokenMany_55 rfl (by decide) rfl ?_
              refine j_iload_n C dX11_brokenMany_56 rfl 2 rfl ?_
              refine j_iconst C (nI 1) dX11_brokenMany_57 (by decide) ?_
              refine j_iadd C (nI (i + 1)) dX11_brokenMany_58 (nI_add _ _) ?_
              refine j_istore_n C [(3, .int (nI (i + 1))), (1, .int (nI (a + 1))), (0, .ref (gA Λ 31 0)), (2, .int (nI i))] dX11_brokenMany_59 rfl (by decide) rfl ?_
              refine j_lv [2, 1, 3, 0] rfl ?_
              exact lb60 _ (a + 1) (i + 1) (Nat.lt_succ_self _) (by omega) (by omega) (by rw [fb_ct_skip (fun k hk => by simp [brkP, show ¬ i < k by omega])]; simp [fxB, h9, h18, h31, h46])
        · refine j_goto (tgt := 120) C dX11_brokenMany_21 (by decide) ?_
          refine j_iinc C [(2, .int (nI (i + 1))), (0, .ref (gA Λ 31 0)), (1, .int (nI a))] (nI (i + 1)) dX11_brokenMany_120 2 rfl (nI_add _ 1) (by decide) rfl ?_
          refine j_goto (tgt := 4) C dX11_brokenMany_123 (by decide) ?_
          refine j_lv [1, 2, 0] rfl ?_
          exact ih4 a (i + 1) (by omega) (by omega) (by rw [fb_sm_succ, ← ha]; unfold brkRow; rw [if_neg h18]; omega)
  refine j_lv [2, 1, 0] rfl ?_
  exact lb4 _ 0 0 (Nat.lt_succ_self _) (by omega) rfl
