set_option maxHeartbeats 4000000 in
set_option maxRecDepth 100000 in
theorem c_mbest_no (l : Launch) (D : va_G) (cy : Nat → ClassId) (base : Nat) (Λ : LY) (σ : HS) (M : MM) (hM0 : MR0 Λ σ M) (h00 : M 31 0 = 0) (hB : MBd M) (hA : 9 < hcN M ∨ 3 < M 31 10) : Met l yX11_best wsX11_best ({ frames := 24, cells := 0, slots := 0, locals := 360 }) (va_Pc [.ref (gA Λ 31 0)] (Wd D cy base Λ σ)) (va_Ql (fun v u => v = -1 ∧ Same nMo σ u ∧ ∃ M2, MR Λ u M2 ∧ MBd M2 ∧ ∀ t, t ≠ 41 → M2 t = M t) (Wd D cy base Λ) (Ab base)) 0 0 (Ab base) := by
  refine j_start (cc := cX11_best) (nL := 8) (ret := (some .long)) (lv := [(0, .ref (gA Λ 31 0))]) (by decide) rfl (Nat.le_of_ble_eq_true rfl) rfl ?_
  intro p e s m below meth c C hr hlk hnm
  have C : Cx p s m ([.ref (gA Λ 31 0)] : List Value).toArray c cX11_best 8 RX11 wsX11_best D cy base := C
  have hts := C.2.2.2.2.1
  have hwX11 : ∀ w ∈ u_ws RX11 TX11 26, w ∈ wsX11_best := by decide +kernel
  have hM33 : (Cond.fieldLink RX11 33 (TX11 10).1 (TX11 10).2.1 (TX11 10).2.2.1).before ([.ref (gA Λ 31 0)] : List Value).toArray s = true := hts (.fieldLink RX11 33 "CodeRoomsModel" "rooms" "I") (by decide +kernel)
  have hL33 : FL RX11 33 (TX11 10).1 (TX11 10).2.1 (TX11 10).2.2.1 ([.ref (gA Λ 31 0)] : List Value).toArray s := Or.inl hM33
  have hM36 : (Cond.fieldLink RX11 36 (TX11 11).1 (TX11 11).2.1 (TX11 11).2.2.1).before ([.ref (gA Λ 31 0)] : List Value).toArray s = true := hts (.fieldLink RX11 36 "CodeRoomsModel" "isHub" "[Z") (by decide +kernel)
  have hL36 : FL RX11 36 (TX11 11).1 (TX11 11).2.1 (TX11 11).2.2.1 ([.ref (gA Λ 31 0)] : List Value).toArray s := Or.inl hM36
  have hM49 : (Cond.fieldLink RX11 49 (TX11 15).1 (TX11 15).2.1 (TX11 15).2.2.1).before ([.ref (gA Λ 31 0)] : List Value).toArray s = true := hts (.fieldLink RX11 49 "CodeRoomsModel" "free" "[I") (by decide +kernel)
  have hL49 : FL RX11 49 (TX11 15).1 (TX11 15).2.1 (TX11 15).2.2.1 ([.ref (gA Λ 31 0)] : List Value).toArray s := Or.inl hM49
  have hM73 : (Cond.fieldLink RX11 73 (TX11 0).1 (TX11 0).2.1 (TX11 0).2.2.1).before ([.ref (gA Λ 31 0)] : List Value).toArray s = true := hts (.fieldLink RX11 73 "CodeRoomsModel" "thrown" "I") (by decide +kernel)
  have hL73 : FL RX11 73 (TX11 0).1 (TX11 0).2.1 (TX11 0).2.2.1 ([.ref (gA Λ 31 0)] : List Value).toArray s := Or.inl hM73
  have hM83 : (Cond.fieldLink RX11 83 (TX11 5).1 (TX11 5).2.1 (TX11 5).2.2.1).before ([.ref (gA Λ 31 0)] : List Value).toArray s = true := hts (.fieldLink RX11 83 "CodeRoomsModel" "many" "I") (by decide +kernel)
  have hL83 : FL RX11 83 (TX11 5).1 (TX11 5).2.1 (TX11 5).2.2.1 ([.ref (gA Λ 31 0)] : List Value).toArray s := Or.inl hM83
  have hC145 : (Jvm.Cond.constantLong RX11 145 (-1)).before ([.ref (gA Λ 31 0)] : List Value).toArray s = true := hts _ (by decide +kernel)
  have hn : M 31 5 ≤ 40 := hB 31 5 rfl
  have hR40 : M 31 10 ≤ 40 := hB 31 10 rfl
  refine j_aload_n C dX11_best_0 rfl 0 rfl ?_
  refine j_iconst C (nI 0) dX11_best_1 (by decide) ?_
  refine j_putI C hwX11 31 0 0 (MR0.in0 hM0) rfl rfl (by decide) rfl tyX11 tyX11_ok nmX11 rfl rfl rfl hL73 dX11_best_2 ?_
  have hM := MR0.start hM0 h00
  have hs0 : Same nMo σ (sI σ 31 0 0 (nI 0)) := Same.sI Same.rf (by decide)
  generalize sI σ 31 0 0 (nI 0) = σ0 at hM hs0 ⊢
  refine j_iconst C (nI 0) dX11_best_5 (by decide) ?_
  refine j_istore_n C [(1, .int (nI 0)), (0, .ref (gA Λ 31 0))] dX11_best_6 rfl (by decide) rfl ?_
  refine j_iconst C (nI 0) dX11_best_7 (by decide) ?_
  refine j_istore_n C [(2, .int (nI 0)), (1, .int (nI 0)), (0, .ref (gA Λ 31 0))] dX11_best_8 rfl (by decide) rfl ?_
  have lb9 : ∀ (fu : Nat) (σ1 : HS) (M1 : MM) (q r : Nat), (M 31 5 - r) < fu → (r ≤ M 31 5) → (MR Λ σ1 M1) → (MBd M1) → (∀ t, t ≠ 41 → M1 t = M t) → (Same nMo σ σ1) → (q = rkN M r) → (∀ k, k < q → M1 41 k = hs M k) → (q ≤ 9) → J p l e ({ frames := 24, cells := 0, slots := 0, locals := 360 }) s m ([.ref (gA Λ 31 0)] : List Value).toArray below meth c 8 D cy base (MQ below (va_Ql (fun v u => v = -1 ∧ Same nMo σ u ∧ ∃ M2, MR Λ u M2 ∧ MBd M2 ∧ ∀ t, t ≠ 41 → M2 t = M t) (Wd D cy base Λ) (Ab base)) ([.ref (gA Λ 31 0)] : List Value).toArray s 0 0 (Ab base)) 0 0 Λ 9 [(0, .ref (gA Λ 31 0)), (1, .int (nI q)), (2, .int (nI r))] [] σ1 := by
    intro fu
    induction fu with
    | zero => intro σ1 M1 q r hfu; exact absurd hfu (Nat.not_lt_zero _)
    | succ fu ih =>
      intro σ1 M1 q r hfu hr1 hM1 hB1 he1 hs1 hq hfr hq9
      have ih9 := ih
      refine j_iload_n C dX11_best_9 rfl 2 rfl ?_
      refine j_aload_n C dX11_best_10 rfl 0 rfl ?_
      refine j_getI C hwX11 31 0 5 (MR.in0 hM1 (by decide) (by decide)) rfl rfl (by decide) rfl (nI (M 31 5)) ((hM1.1 31 5 rfl).trans (congrArg (menc 31) (congrFun (he1 31 (by decide)) _))) hL83 dX11_best_11 ?_
      refine j_icmp_ge (tgt := 63) C dX11_best_14 (by decide) (nI_leI (by omega) (by omega)) (fun h14 => ?_) (fun h14 => ?_)
      · have hcq : hcN M = q := by rw [hq, show r = M 31 5 by omega]; rfl
        refine j_aload_n C dX11_best_63 rfl 0 rfl ?_
        refine j_getI C hwX11 31 0 10 (MR.in0 hM1 (by decide) (by decide)) rfl rfl (by decide) rfl (nI (M 31 10)) ((hM1.1 31 10 rfl).trans (congrArg (menc 31) (congrFun (he1 31 (by decide)) _))) hL33 dX11_best_64 ?_
        refine j_iconst C (nI 3) dX11_best_67 (by decide) ?_
        refine j_icmp_le (tgt := 75) C dX11_best_68 (by decide) (nI_leI (by omega) (by omega)) (fun h68 => ?_) (fun h68 => ?_)
        · omega
        · refine j_ldc2 C (zL (-1)) hC145 dX11_best_71 (by decide) ?_
          exact j_lret C hr hlk (⟨by decide, hs1, M1, hM1, hB1, he1⟩) dX11_best_74
      · refine j_aload_n C dX11_best_17 rfl 0 rfl ?_
        refine j_getV C hwX11 31 0 11 (MR.in0 hM1 (by decide) (by decide)) rfl rfl (by decide) rfl 0 (hM1.2.2.2 11 rfl) hL36 dX11_best_18 ?_
        refine j_iload_n C dX11_best_21 rfl 2 rfl ?_
        have h37b : M 37 r ≤ 1 := hB 37 r (decide_eq_true (show r < 40 by omega))
        refine j_zald C 37 0 r (MR.in0 hM1 (by decide) (by decide)) rfl rfl 40 (hM1.2.2.1 37 (by decide) (by decide)) (by omega) (by omega) (nI (M 37 r)) ((hM1.1 37 r (decide_eq_true (show r < 40 by omega))).trans (congrArg (menc 37) (congrFun (he1 37 (by decide)) _))) dX11_best_22 ?_
        refine j_if_eq (tgt := 29) C dX11_best_23 (by decide) (nJ_eq0 (by omega)) (fun h23 => ?_) (fun h23 => ?_)
        · refine j_iload_n C dX11_best_29 rfl 1 rfl ?_
          refine j_bipush C (nI 9) dX11_best_30 (by decide) ?_
          refine j_icmp_eq (tgt := 43) C dX11_best_32 (by decide) (nI_eq (by omega) (by omega)) (fun h32 => ?_) (fun h32 => ?_)
          · refine j_ldc2 C (zL (-1)) hC145 dX11_best_43 (by decide) ?_
            exact j_lret C hr hlk (⟨by decide, hs1, M1, hM1, hB1, he1⟩) dX11_best_46
          · refine j_aload_n C dX11_best_35 rfl 0 rfl ?_
            refine j_getI C hwX11 31 0 10 (MR.in0 hM1 (by decide) (by decide)) rfl rfl (by decide) rfl (nI (M 31 10)) ((hM1.1 31 10 rfl).trans (congrArg (menc 31) (congrFun (he1 31 (by decide)) _))) hL33 dX11_best_36 ?_
            refine j_iconst C (nI 3) dX11_best_39 (by decide) ?_
            refine j_icmp_le (tgt := 47) C dX11_best_40 (by decide) (nI_leI (by omega) (by omega)) (fun h40 => ?_) (fun h40 => ?_)
            · refine j_aload_n C dX11_best_47 rfl 0 rfl ?_
              refine j_getV C hwX11 31 0 15 (MR.in0 hM1 (by decide) (by decide)) rfl rfl (by decide) rfl 0 (hM1.2.2.2 15 rfl) hL49 dX11_best_48 ?_
              refine j_iload_n C dX11_best_51 rfl 1 rfl ?_
              refine j_iload_n C dX11_best_52 rfl 2 rfl ?_
              refine j_iast C 41 0 q (MR.in0 hM1 (by decide) (by decide)) rfl rfl 9 (hM1.2.2.1 41 (by decide) (by decide)) (by omega) (by omega) (nI r) rfl dX11_best_53 ?_
              have hM_7 := MR.set (t := 41) (k := q) (x := r) (v := (nI r)) hM1 rfl
              have hs_8 := Same.sI (t := 41) (i := 0) (k := q) (x := (nI r)) hs1 (by decide)
              refine j_iinc C [(1, .int (nI (q + 1))), (0, .ref (gA Λ 31 0)), (2, .int (nI r))] (nI (q + 1)) dX11_best_54 1 rfl (nI_add _ 1) (by decide) rfl ?_
              refine j_iinc C [(2, .int (nI (r + 1))), (1, .int (nI (q + 1))), (0, .ref (gA Λ 31 0))] (nI (r + 1)) dX11_best_57 2 rfl (nI_add _ 1) (by decide) rfl ?_
              refine j_goto (tgt := 9) C dX11_best_60 (by decide) ?_
              refine j_lv [2, 1, 0] rfl ?_
              exact ih9 (sI σ1 41 0 q (nI r)) (mS M1 41 q r) (q + 1) (r + 1) (by omega) (by omega) hM_7 (MBd.set hB1 (show r ≤ 39 by omega)) (fun t ht => by rw [mS_nk ht]; exact he1 t ht) hs_8 (by rw [rkN_succ, if_pos h23, hq]) (fun k hk => by by_cases e9 : k = q; rw [e9, mS_same, hq, hs_of (by omega) h23]; rw [mS_ne (Or.inr e9)]; exact hfr k (by omega)) (by omega)
            · refine j_ldc2 C (zL (-1)) hC145 dX11_best_43 (by decide) ?_
              exact j_lret C hr hlk (⟨by decide, hs1, M1, hM1, hB1, he1⟩) dX11_best_46
        · refine j_goto (tgt := 57) C dX11_best_26 (by decide) ?_
          refine j_iinc C [(2, .int (nI (r + 1))), (0, .ref (gA Λ 31 0)), (1, .int (nI q))] (nI (r + 1)) dX11_best_57 2 rfl (nI_add _ 1) (by decide) rfl ?_
          refine j_goto (tgt := 9) C dX11_best_60 (by decide) ?_
          refine j_lv [1, 2, 0] rfl ?_
          exact ih9 σ1 M1 q (r + 1) (by omega) (by omega) hM1 hB1 he1 hs1 (by rw [rkN_succ, if_neg h23]; exact hq) hfr hq9
  refine j_lv [2, 1, 0] rfl ?_
  exact lb9 _ σ0 M 0 0 (Nat.lt_succ_self _) (by omega) hM hB (fun _ _ => rfl) hs0 rfl (fun k hk => absurd hk (Nat.not_lt_zero _)) (by omega)
