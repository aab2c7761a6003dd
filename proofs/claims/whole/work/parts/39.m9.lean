set_option maxHeartbeats 4000000 in
set_option maxRecDepth 100000 in
theorem c_X11_ends (l : Launch) (D : va_G) (cy : Nat → ClassId) (base : Nat) (Λ : LY) (σ : HS) (M : MM) (hM : MR Λ σ M) (hB : MBd M) (hL : ∀ x, x < 40 → M 34 x ≤ 20) (r k0 : Nat) (hr0 : r < 40) (hk30 : k0 < 2 ^ 30) : Met l yX11_ends wsX11_ends ({ frames := 4, cells := 0, slots := 0, locals := 60 }) (va_Pc [.ref (gA Λ 31 0), .int (nI r), .int (nI k0)] (Wd D cy base Λ σ)) (va_Qi (fun v u => v = nI (endK M r k0) ∧ u = σ) (Wd D cy base Λ) (Ab base)) 0 0 (Ab base) := by
  refine j_start (cc := cX11_ends) (nL := 4) (ret := (some .int)) (lv := [(0, .ref (gA Λ 31 0)), (1, .int (nI r)), (2, .int (nI k0))]) (by decide) rfl (Nat.le_of_ble_eq_true rfl) rfl ?_
  intro p e s m below meth c C hr hlk hnm
  have C : Cx p s m ([.ref (gA Λ 31 0), .int (nI r), .int (nI k0)] : List Value).toArray c cX11_ends 4 RX11 wsX11_ends D cy base := C
  have hts := C.2.2.2.2.1
  have hwX11 : ∀ w ∈ u_ws RX11 TX11 26, w ∈ wsX11_ends := by decide +kernel
  have hM13 : (Cond.fieldLink RX11 13 (TX11 3).1 (TX11 3).2.1 (TX11 3).2.2.1).before ([.ref (gA Λ 31 0), .int (nI r), .int (nI k0)] : List Value).toArray s = true := hts (.fieldLink RX11 13 "CodeRoomsModel" "names" "[B") (by decide +kernel)
  have hL13 : FL RX11 13 (TX11 3).1 (TX11 3).2.1 (TX11 3).2.2.1 ([.ref (gA Λ 31 0), .int (nI r), .int (nI k0)] : List Value).toArray s := Or.inl hM13
  have hM16 : (Cond.fieldLink RX11 16 (TX11 4).1 (TX11 4).2.1 (TX11 4).2.2.1).before ([.ref (gA Λ 31 0), .int (nI r), .int (nI k0)] : List Value).toArray s = true := hts (.fieldLink RX11 16 "CodeRoomsModel" "nameLong" "[I") (by decide +kernel)
  have hL16 : FL RX11 16 (TX11 4).1 (TX11 4).2.1 (TX11 4).2.2.1 ([.ref (gA Λ 31 0), .int (nI r), .int (nI k0)] : List Value).toArray s := Or.inl hM16
  have hl := hL r hr0
  refine j_iload_n C dX11_ends_0 rfl 2 rfl ?_
  refine j_istore_n C [(3, .int (nI k0)), (0, .ref (gA Λ 31 0)), (1, .int (nI r)), (2, .int (nI k0))] dX11_ends_1 rfl (by decide) rfl ?_
  have lb2 : ∀ (fu : Nat) (k : Nat), (M 34 r - k) < fu → (k ≤ 20 ∨ k = k0) → (k0 < 2 ^ 30) → (endK M r k = endK M r k0) → J p l e ({ frames := 4, cells := 0, slots := 0, locals := 60 }) s m ([.ref (gA Λ 31 0), .int (nI r), .int (nI k0)] : List Value).toArray below meth c 4 D cy base (MQ below (va_Qi (fun v u => v = nI (endK M r k0) ∧ u = σ) (Wd D cy base Λ) (Ab base)) ([.ref (gA Λ 31 0), .int (nI r), .int (nI k0)] : List Value).toArray s 0 0 (Ab base)) 0 0 Λ 2 [(0, .ref (gA Λ 31 0)), (1, .int (nI r)), (2, .int (nI k0)), (3, .int (nI k))] [] σ := by
    intro fu
    induction fu with
    | zero => intro k hfu; exact absurd hfu (Nat.not_lt_zero _)
    | succ fu ih =>
      intro k hfu hk hk0 he
      have ih2 := ih
      refine j_iload_n C dX11_ends_2 rfl 3 rfl ?_
      refine j_aload_n C dX11_ends_3 rfl 0 rfl ?_
      refine j_getV C hwX11 31 0 4 (MR.in0 hM (by decide) (by decide)) rfl rfl (by decide) rfl 0 (hM.2.2.2 4 rfl) hL16 dX11_ends_4 ?_
      refine j_iload_n C dX11_ends_7 rfl 1 rfl ?_
      have hb8 : M 34 r ≤ 40 := hB 34 r (decide_eq_true (show r < 40 by omega))
      refine j_iald C 34 0 r (MR.in0 hM (by decide) (by decide)) rfl rfl 40 (hM.2.2.1 34 (by decide) (by decide)) (by omega) (by omega) (nI (M 34 r)) (hM.1 34 r (decide_eq_true (show r < 40 by omega))) dX11_ends_8 ?_
      refine j_icmp_ge (tgt := 34) C dX11_ends_9 (by decide) (nI_leI (by omega) (by omega)) (fun h9 => ?_) (fun h9 => ?_)
      · refine j_iload_n C dX11_ends_34 rfl 3 rfl ?_
        exact j_iret C hr hlk (⟨by rw [← he, endK_stop (by omega)], rfl⟩) dX11_ends_35
      · refine j_aload_n C dX11_ends_12 rfl 0 rfl ?_
        refine j_getV C hwX11 31 0 3 (MR.in0 hM (by decide) (by decide)) rfl rfl (by decide) rfl 0 (hM.2.2.2 3 rfl) hL13 dX11_ends_13 ?_
        refine j_bipush C (nI 20) dX11_ends_16 (by decide) ?_
        refine j_iload_n C dX11_ends_18 rfl 1 rfl ?_
        refine j_imul C (nI (20 * r)) dX11_ends_19 (pk_mul _ _) ?_
        refine j_iload_n C dX11_ends_20 rfl 3 rfl ?_
        refine j_iadd C (nI (20 * r + k)) dX11_ends_21 (nI_add _ _) ?_
        have hb22 : M 33 (20 * r + k) ≤ 255 := hB 33 (20 * r + k) (decide_eq_true (show 20 * r + k < 800 by omega))
        refine j_bald C 33 0 (20 * r + k) (MR.in0 hM (by decide) (by decide)) rfl rfl 800 (hM.2.2.1 33 (by decide) (by decide)) (by omega) (by omega) (nI (M 33 (20 * r + k))) (hM.1 33 (20 * r + k) (decide_eq_true (show 20 * r + k < 800 by omega))) dX11_ends_22 ?_
        refine j_bipush C (nI 95) dX11_ends_23 (by decide) ?_
        refine j_icmp_eq (tgt := 34) C dX11_ends_25 (by decide) (nI_eq (by omega) (by omega)) (fun h25 => ?_) (fun h25 => ?_)
        · refine j_iload_n C dX11_ends_34 rfl 3 rfl ?_
          exact j_iret C hr hlk (⟨by rw [← he, endK_stop (by omega)], rfl⟩) dX11_ends_35
        · refine j_iinc C [(3, .int (nI (k + 1))), (0, .ref (gA Λ 31 0)), (1, .int (nI r)), (2, .int (nI k0))] (nI (k + 1)) dX11_ends_28 3 rfl (nI_add _ 1) (by decide) rfl ?_
          refine j_goto (tgt := 2) C dX11_ends_31 (by decide) ?_
          refine j_lv [1, 2, 3, 0] rfl ?_
          exact ih2 (k + 1) (by omega) (by omega) (by omega) (by rw [← endK_step (by omega) h25]; exact he)
  refine j_lv [1, 2, 3, 0] rfl ?_
  exact lb2 _ k0 (Nat.lt_succ_self _) (by omega) hk30 rfl

set_option maxHeartbeats 4000000 in
set_option maxRecDepth 100000 in
theorem c_X11_compared (l : Launch) (D : va_G) (cy : Nat → ClassId) (base : Nat) (Λ : LY) (σ : HS) (M : MM) (hM : MR Λ σ M) (hB : MBd M) (r k n o q m0 : Nat) (hr0 : r < 40) (ho0 : o < 40) (hkn : k + n ≤ 20) (hqm : q + m0 ≤ 20) : Met l yX11_compared wsX11_compared ({ frames := 4, cells := 0, slots := 0, locals := 60 }) (va_Pc [.ref (gA Λ 31 0), .int (nI r), .int (nI k), .int (nI n), .int (nI o), .int (nI q), .int (nI m0)] (Wd D cy base Λ σ)) (va_Qi (fun v u => cmpOk v n (wdF M r k) m0 (wdF M o q) ∧ u = σ) (Wd D cy base Λ) (Ab base)) 0 0 (Ab base) := by
  refine j_start (cc := cX11_compared) (nL := 8) (ret := (some .int)) (lv := [(0, .ref (gA Λ 31 0)), (1, .int (nI r)), (2, .int (nI k)), (3, .int (nI n)), (4, .int (nI o)), (5, .int (nI q)), (6, .int (nI m0))]) (by decide) rfl (Nat.le_of_ble_eq_true rfl) rfl ?_
  intro p e s m below meth c C hr hlk hnm
  have C : Cx p s m ([.ref (gA Λ 31 0), .int (nI r), .int (nI k), .int (nI n), .int (nI o), .int (nI q), .int (nI m0)] : List Value).toArray c cX11_compared 8 RX11 wsX11_compared D cy base := C
  have hts := C.2.2.2.2.1
  have hwX11 : ∀ w ∈ u_ws RX11 TX11 26, w ∈ wsX11_compared := by decide +kernel
  have hM13 : (Cond.fieldLink RX11 13 (TX11 3).1 (TX11 3).2.1 (TX11 3).2.2.1).before ([.ref (gA Λ 31 0), .int (nI r), .int (nI k), .int (nI n), .int (nI o), .int (nI q), .int (nI m0)] : List Value).toArray s = true := hts (.fieldLink RX11 13 "CodeRoomsModel" "names" "[B") (by decide +kernel)
  have hL13 : FL RX11 13 (TX11 3).1 (TX11 3).2.1 (TX11 3).2.2.1 ([.ref (gA Λ 31 0), .int (nI r), .int (nI k), .int (nI n), .int (nI o), .int (nI q), .int (nI m0)] : List Value).toArray s := Or.inl hM13
  refine j_iconst C (nI 0) dX11_compared_0 (by decide) ?_
  refine j_istore C [(7, .int (nI 0)), (0, .ref (gA Λ 31 0)), (1, .int (nI r)), (2, .int (nI k)), (3, .int (nI n)), (4, .int (nI o)), (5, .int (nI q)), (6, .int (nI m0))] dX11_compared_1 (by decide) rfl ?_
  have lb3 : ∀ (fu : Nat) (i : Nat), (n - i) < fu → (i ≤ n) → (i ≤ m0) → (∀ j, j < i → wdF M r k j = wdF M o q j) → J p l e ({ frames := 4, cells := 0, slots := 0, locals := 60 }) s m ([.ref (gA Λ 31 0), .int (nI r), .int (nI k), .int (nI n), .int (nI o), .int (nI q), .int (nI m0)] : List Value).toArray below meth c 8 D cy base (MQ below (va_Qi (fun v u => cmpOk v n (wdF M r k) m0 (wdF M o q) ∧ u = σ) (Wd D cy base Λ) (Ab base)) ([.ref (gA Λ 31 0), .int (nI r), .int (nI k), .int (nI n), .int (nI o), .int (nI q), .int (nI m0)] : List Value).toArray s 0 0 (Ab base)) 0 0 Λ 3 [(0, .ref (gA Λ 31 0)), (1, .int (nI r)), (2, .int (nI k)), (3, .int (nI n)), (4, .int (nI o)), (5, .int (nI q)), (6, .int (nI m0)), (7, .int (nI i))] [] σ := by
    intro fu
    induction fu with
    | zero => intro i hfu; exact absurd hfu (Nat.not_lt_zero _)
    | succ fu ih =>
      intro i hfu hi hi2 he
      have ih3 := ih
      refine j_iload C dX11_compared_3 7 rfl ?_
      refine j_iload_n C dX11_compared_5 rfl 3 rfl ?_
      refine j_icmp_ge (tgt := 87) C dX11_compared_6 (by decide) (nI_leI (by omega) (by omega)) (fun h6 => ?_) (fun h6 => ?_)
      · refine j_iload_n C dX11_compared_87 rfl 3 rfl ?_
        refine j_iload C dX11_compared_88 6 rfl ?_
        refine j_isub C ((nI n) - (nI m0)) dX11_compared_90 rfl ?_
        exact j_iret C hr hlk (⟨cmp_pre (f := wdF M r k) (g := wdF M o q) (k := i) he (by omega) hi hi2 (by omega) (by omega), rfl⟩) dX11_compared_91
      · refine j_iload C dX11_compared_9 7 rfl ?_
        refine j_iload C dX11_compared_11 6 rfl ?_
        refine j_icmp_ge (tgt := 87) C dX11_compared_13 (by decide) (nI_leI (by omega) (by omega)) (fun h13 => ?_) (fun h13 => ?_)
        · refine j_iload_n C dX11_compared_87 rfl 3 rfl ?_
          refine j_iload C dX11_compared_88 6 rfl ?_
          refine j_isub C ((nI n) - (nI m0)) dX11_compared_90 rfl ?_
          exact j_iret C hr hlk (⟨cmp_pre (f := wdF M r k) (g := wdF M o q) (k := i) he (by omega) hi hi2 (by omega) (by omega), rfl⟩) dX11_compared_91
        · refine j_aload_n C dX11_compared_16 rfl 0 rfl ?_
          refine j_getV C hwX11 31 0 3 (MR.in0 hM (by decide) (by decide)) rfl rfl (by decide) rfl 0 (hM.2.2.2 3 rfl) hL13 dX11_compared_17 ?_
          refine j_bipush C (nI 20) dX11_compared_20 (by decide) ?_
          refine j_iload_n C dX11_compared_22 rfl 1 rfl ?_
          refine j_imul C (nI (20 * r)) dX11_compared_23 (pk_mul _ _) ?_
          refine j_iload_n C dX11_compared_24 rfl 2 rfl ?_
          refine j_iadd C (nI (20 * r + k)) dX11_compared_25 (nI_add _ _) ?_
          refine j_iload C dX11_compared_26 7 rfl ?_
          refine j_iadd C (nI (20 * r + k + i)) dX11_compared_28 (nI_add _ _) ?_
          have hb29 : M 33 (20 * r + k + i) ≤ 255 := hB 33 (20 * r + k + i) (decide_eq_true (show 20 * r + k + i < 800 by omega))
          refine j_bald C 33 0 (20 * r + k + i) (MR.in0 hM (by decide) (by decide)) rfl rfl 800 (hM.2.2.1 33 (by decide) (by decide)) (by omega) (by omega) (nI (M 33 (20 * r + k + i))) (hM.1 33 (20 * r + k + i) (decide_eq_true (show 20 * r + k + i < 800 by omega))) dX11_compared_29 ?_
          refine j_aload_n C dX11_compared_30 rfl 0 rfl ?_
          refine j_getV C hwX11 31 0 3 (MR.in0 hM (by decide) (by decide)) rfl rfl (by decide) rfl 0 (hM.2.2.2 3 rfl) hL13 dX11_compared_31 ?_
          refine j_bipush C (nI 20) dX11_compared_34 (by decide) ?_
          refine j_iload C dX11_compared_36 4 rfl ?_
          refine j_imul C (nI (20 * o)) dX11_compared_38 (pk_mul _ _) ?_
          refine j_iload C dX11_compared_39 5 rfl ?_
          refine j_iadd C (nI (20 * o + q)) dX11_compared_41 (nI_add _ _) ?_
          refine j_iload C dX11_compared_42 7 rfl ?_
          refine j_iadd C (nI (20 * o + q + i)) dX11_compared_44 (nI_add _ _) ?_
          have hb45 : M 33 (20 * o + q + i) ≤ 255 := hB 33 (20 * o + q + i) (decide_eq_true (show 20 * o + q + i < 800 by omega))
          refine j_bald C 33 0 (20 * o + q + i) (MR.in0 hM (by decide) (by decide)) rfl rfl 800 (hM.2.2.1 33 (by decide) (by decide)) (by omega) (by omega) (nI (M 33 (20 * o + q + i))) (hM.1 33 (20 * o + q + i) (decide_eq_true (show 20 * o + q + i < 800 by omega))) dX11_compared_45 ?_
          refine j_icmp_eq (tgt := 81) C dX11_compared_46 (by decide) (nI_eq (by omega) (by omega)) (fun h46 => ?_) (fun h46 => ?_)
          · refine j_iinc C [(7, .int (nI (i + 1))), (0, .ref (gA Λ 31 0)), (1, .int (nI r)), (2, .int (nI k)), (3, .int (nI n)), (4, .int (nI o)), (5, .int (nI q)), (6, .int (nI m0))] (nI (i + 1)) dX11_compared_81 7 rfl (nI_add _ 1) (by decide) rfl ?_
            refine j_goto (tgt := 3) C dX11_compared_84 (by decide) ?_
            refine j_lv [1, 2, 3, 4, 5, 6, 7, 0] rfl ?_
            exact ih3 (i + 1) (by omega) (by omega) (by omega) (fun j hj => (Nat.lt_succ_iff_lt_or_eq.mp hj).elim (he j) (fun e => by rw [e]; exact h46))
          · refine j_aload_n C dX11_compared_49 rfl 0 rfl ?_
            refine j_getV C hwX11 31 0 3 (MR.in0 hM (by decide) (by decide)) rfl rfl (by decide) rfl 0 (hM.2.2.2 3 rfl) hL13 dX11_compared_50 ?_
            refine j_bipush C (nI 20) dX11_compared_53 (by decide) ?_
            refine j_iload_n C dX11_compared_55 rfl 1 rfl ?_
            refine j_imul C (nI (20 * r)) dX11_compared_56 (pk_mul _ _) ?_
            refine j_iload_n C dX11_compared_57 rfl 2 rfl ?_
            refine j_iadd C (nI (20 * r + k)) dX11_compared_58 (nI_add _ _) ?_
            refine j_iload C dX11_compared_59 7 rfl ?_
            refine j_iadd C (nI (20 * r + k + i)) dX11_compared_61 (nI_add _ _) ?_
            have hb62 : M 33 (20 * r + k + i) ≤ 255 := hB 33 (20 * r + k + i) (decide_eq_true (show 20 * r + k + i < 800 by omega))
            refine j_bald C 33 0 (20 * r + k + i) (MR.in0 hM (by decide) (by decide)) rfl rfl 800 (hM.2.2.1 33 (by decide) (by decide)) (by omega) (by omega) (nI (M 33 (20 * r + k + i))) (hM.1 33 (20 * r + k + i) (decide_eq_true (show 20 * r + k + i < 800 by omega))) dX11_compared_62 ?_
            refine j_aload_n C dX11_compared_63 rfl 0 rfl ?_
            refine j_getV C hwX11 31 0 3 (MR.in0 hM (by decide) (by decide)) rfl rfl (by decide) rfl 0 (hM.2.2.2 3 rfl) hL13 dX11_compared_64 ?_
            refine j_bipush C (nI 20) dX11_compared_67 (by decide) ?_
            refine j_iload C dX11_compared_69 4 rfl ?_
            refine j_imul C (nI (20 * o)) dX11_compared_71 (pk_mul _ _) ?_
            refine j_iload C dX11_compared_72 5 rfl ?_
            refine j_iadd C (nI (20 * o + q)) dX11_compared_74 (nI_add _ _) ?_
            refine j_iload C dX11_compared_75 7 rfl ?_
            refine j_iadd C (nI (20 * o + q + i)) dX11_compared_77 (nI_add _ _) ?_
            have hb78 : M 33 (20 * o + q + i) ≤ 255 := hB 33 (20 * o + q + i) (decide_eq_true (show 20 * o + q + i < 800 by omega))
            refine j_bald C 33 0 (20 * o + q + i) (MR.in0 hM (by decide) (by decide)) rfl rfl 800 (hM.2.2.1 33 (by decide) (by decide)) (by omega) (by omega) (nI (M 33 (20 * o + q + i))) (hM.1 33 (20 * o + q + i) (decide_eq_true (show 20 * o + q + i < 800 by omega))) dX11_compared_78 ?_
            refine j_isub C ((nI (M 33 (20 * r + k + i))) - (nI (M 33 (20 * o + q + i)))) dX11_compared_79 rfl ?_
            exact j_iret C hr hlk (⟨cmp_diff (f := wdF M r k) (g := wdF M o q) (k := i) he (by omega) (by omega) h46 (by show M 33 _ ≤ _; omega) (by show M 33 _ ≤ _; omega), rfl⟩) dX11_compared_80
  refine j_lv [1, 2, 3, 4, 5, 6, 7, 0] rfl ?_
  exact lb3 _ 0 (Nat.lt_succ_self _) (by omega) (by omega) (fun j hj => absurd hj (Nat.not_lt_zero _))

set_option maxHeartbeats 4000000 in
set_option maxRecDepth 100000 in
theorem c_X11_hasWord (l : Launch) (D : va_G) (cy : Nat → ClassId) (base : Nat) (Λ : LY) (σ : HS) (M : MM) (hM : MR Λ σ M) (hB : MBd M) (hL : ∀ x, x < 40 → M 34 x ≤ 20) (o r k0 n : Nat) (ho0 : o < 40) (hr0 : r < 40) (hkn : k0 + n ≤ 20) : Met l yX11_hasWord wsX11_hasWord ({ frames := 8, cells := 0, slots := 0, locals := 120 }) (va_Pc [.ref (gA Λ 31 0), .int (nI o), .int (nI r), .int (nI k0), .int (nI n)] (Wd D cy base Λ σ)) (va_Qi (fun v u => v = bI (hasWB M o n (wdF M r k0)) ∧ u = σ) (Wd D cy base Λ) (Ab base)) 0 0 (Ab base) := by
  refine j_start (cc := cX11_hasWord) (nL := 6) (ret := (some .boolean)) (lv := [(0, .ref (gA Λ 31 0)), (1, .int (nI o)), (2, .int (nI r)), (3, .int (nI k0)), (4, .int (nI n))]) (by decide) rfl (Nat.le_of_ble_eq_true rfl) rfl ?_
  intro p e s m below meth c C hr hlk hnm
  have C : Cx p s m ([.ref (gA Λ 31 0), .int (nI o), .int (nI r), .int (nI k0), .int (nI n)] : List Value).toArray c cX11_hasWord 6 RX11 wsX11_hasWord D cy base := C
  have hts := C.2.2.2.2.1
  have hwX11 : ∀ w ∈ u_ws RX11 TX11 26, w ∈ wsX11_hasWord := by decide +kernel
  have hM16 : (Cond.fieldLink RX11 16 (TX11 4).1 (TX11 4).2.1 (TX11 4).2.2.1).before ([.ref (gA Λ 31 0), .int (nI o), .int (nI r), .int (nI k0), .int (nI n)] : List Value).toArray s = true := hts (.fieldLink RX11 16 "CodeRoomsModel" "nameLong" "[I") (by decide +kernel)
  have hL16 : FL RX11 16 (TX11 4).1 (TX11 4).2.1 (TX11 4).2.2.1 ([.ref (gA Λ 31 0), .int (nI o), .int (nI r), .int (nI k0), .int (nI n)] : List Value).toArray s := Or.inl hM16
  have hl := hL o ho0
  refine j_iconst C (nI 0) dX11_hasWord_0 (by decide) ?_
  refine j_istore C [(5, .int (nI 0)), (0, .ref (gA Λ 31 0)), (1, .int (nI o)), (2, .int (nI r)), (3, .int (nI k0)), (4, .int (nI n))] dX11_hasWord_1 (by decide) rfl ?_
  have lb3 : ∀ (fu : Nat) (k : Nat), (21 - k) < fu → (k ≤ 21) → (k = 0 ∨ M 34 o < k ∨ M 33 (20 * o + (k - 1)) = 95) → (∀ s, isSt M o s → s < k → ¬ (lnW M o s = n ∧ ∀ j, j < n → M 33 (20 * o + s + j) = wdF M r k0 j)) → J p l e ({ frames := 8, cells := 0, slots := 0, locals := 120 }) s m ([.ref (gA Λ 31 0), .int (nI o), .int (nI r), .int (nI k0), .int (nI n)] : List Value).toArray below meth c 6 D cy base (MQ below (va_Qi (fun v u => v = bI (hasWB M o n (wdF M r k0)) ∧ u = σ) (Wd D cy base Λ) (Ab base)) ([.ref (gA Λ 31 0), .int (nI o), .int (nI r), .int (nI k0), .int (nI n)] : List Value).toArray s 0 0 (Ab base)) 0 0 Λ 3 [(0, .ref (gA Λ 31 0)), (1, .int (nI o)), (2, .int (nI r)), (3, .int (nI k0)), (4, .int (nI n)), (5, .int (nI k))] [] σ := by
    intro fu
    induction fu with
    | zero => intro k hfu; exact absurd hfu (Nat.not_lt_zero _)
    | succ fu ih =>
      intro k hfu hk hk2 hno
      have ih3 := ih
      refine j_iload C dX11_hasWord_3 5 rfl ?_
      refine j_aload_n C dX11_hasWord_5 rfl 0 rfl ?_
      refine j_getV C hwX11 31 0 4 (MR.in0 hM (by decide) (by decide)) rfl rfl (by decide) rfl 0 (hM.2.2.2 4 rfl) hL16 dX11_hasWord_6 ?_
      refine j_iload_n C dX11_hasWord_9 rfl 1 rfl ?_
      have hb10 : M 34 o ≤ 40 := hB 34 o (decide_eq_true (show o < 40 by omega))
      refine j_iald C 34 0 o (MR.in0 hM (by decide) (by decide)) rfl rfl 40 (hM.2.2.1 34 (by decide) (by decide)) (by omega) (by omega) (nI (M 34 o)) (hM.1 34 o (decide_eq_true (show o < 40 by omega))) dX11_hasWord_10 ?_
      refine j_icmp_ge (tgt := 61) C dX11_hasWord_11 (by decide) (nI_leI (by omega) (by omega)) (fun h11 => ?_) (fun h11 => ?_)
      · refine j_iconst C (nI 0) dX11_hasWord_61 (by decide) ?_
        exact j_zret C (by first | rfl | exact nz_b _ | exact nz_n (by omega)) hr hlk (⟨rt0 (hasWB_f (fun z => by obtain ⟨s, hs1, hs2⟩ := z; exact hno s hs1 (by have := hs1.1; omega) hs2)), rfl⟩) dX11_hasWord_62
      · refine j_aload_n C dX11_hasWord_14 rfl 0 rfl ?_
        refine j_iload_n C dX11_hasWord_15 rfl 1 rfl ?_
        refine j_iload C dX11_hasWord_16 5 rfl ?_
        have hge18 := endK_ge M o k
        have hle18 := endK_le (M := M) (r := o) (k := k) (by omega)
        refine c_i0 C (r_V C 31 0 [.int (nI o), .int (nI k)] (c_X11_ends l D cy base Λ σ M hM hB hL o k (by omega) (by omega)) (cwV 2 hts gX11_hasWord_X11_ends rfl rfl rfl (by decide +kernel) ⟨by decide, by decide⟩) (MR.in0 hM (by decide) (by decide)) rfl rfl rfl rfl (Nat.le_of_ble_eq_true rfl) dX11_hasWord_18 ⟨by decide, by decide⟩) (fun rv uu hp => ?_)
        rw [hp.1, hp.2]
        refine j_iload C dX11_hasWord_21 5 rfl ?_
        refine j_isub C (nI (lnW M o k)) dX11_hasWord_23 (pk_sub (endK_ge M o k)) ?_
        have hlw : lnW M o k ≤ 20 := by unfold lnW; omega
        have hlw2 : k + lnW M o k ≤ 20 := by unfold lnW; omega
        refine j_iload C dX11_hasWord_24 4 rfl ?_
        refine j_icmp_ne (tgt := 47) C dX11_hasWord_26 (by decide) (nI_eq (by omega) (by omega)) (fun h26 => ?_) (fun h26 => ?_)
        · refine j_aload_n C dX11_hasWord_47 rfl 0 rfl ?_
          refine j_iload_n C dX11_hasWord_48 rfl 1 rfl ?_
          refine j_iload C dX11_hasWord_49 5 rfl ?_
          have hge51 := endK_ge M o k
          have hle51 := endK_le (M := M) (r := o) (k := k) (by omega)
          refine c_i0 C (r_V C 31 0 [.int (nI o), .int (nI k)] (c_X11_ends l D cy base Λ σ M hM hB hL o k (by omega) (by omega)) (cwV 2 hts gX11_hasWord_X11_ends rfl rfl rfl (by decide +kernel) ⟨by decide, by decide⟩) (MR.in0 hM (by decide) (by decide)) rfl rfl rfl rfl (Nat.le_of_ble_eq_true rfl) dX11_hasWord_51 ⟨by decide, by decide⟩) (fun rv uu hp => ?_)
          rw [hp.1, hp.2]
          refine j_iconst C (nI 1) dX11_hasWord_54 (by decide) ?_
          refine j_iadd C (nI (endK M o k + 1)) dX11_hasWord_55 (nI_add _ _) ?_
          refine j_istore C [(5, .int (nI (endK M o k + 1))), (0, .ref (gA Λ 31 0)), (1, .int (nI o)), (2, .int (nI r)), (3, .int (nI k0)), (4, .int (nI n))] dX11_hasWord_56 (by decide) rfl ?_
          refine j_goto (tgt := 3) C dX11_hasWord_58 (by decide) ?_
          refine j_lv [1, 2, 3, 4, 5, 0] rfl ?_
          exact ih3 (endK M o k + 1) (by omega) (by omega) (Or.inr ((Nat.lt_or_ge (endK M o k) (M 34 o)).elim (fun z => Or.inr (by rw [Nat.add_sub_cancel]; exact endK_at z)) (fun z => Or.inl (by omega)))) (fun s hs1 hs2 => (Nat.lt_trichotomy s k).elim (fun z => hno s hs1 z) (fun z => z.elim (fun z => by subst z; exact (fun z => h26 z.1)) (fun z => absurd (isSt_next (by omega) hs1 z) (by omega))))
        · refine j_aload_n C dX11_hasWord_29 rfl 0 rfl ?_
          refine j_iload_n C dX11_hasWord_30 rfl 2 rfl ?_
          refine j_iload_n C dX11_hasWord_31 rfl 3 rfl ?_
          refine j_iload C dX11_hasWord_32 4 rfl ?_
          refine j_iload_n C dX11_hasWord_34 rfl 1 rfl ?_
          refine j_iload C dX11_hasWord_35 5 rfl ?_
          refine j_iload C dX11_hasWord_37 4 rfl ?_
          refine c_i0 C (r_V C 31 0 [.int (nI r), .int (nI k0), .int (nI n), .int (nI o), .int (nI k), .int (nI n)] (c_X11_compared l D cy base Λ σ M hM hB r k0 n o k n (by omega) (by omega) (by omega) (by omega)) (cwV 6 hts gX11_hasWord_X11_compared rfl rfl rfl (by decide +kernel) ⟨by decide, by decide⟩) (MR.in0 hM (by decide) (by decide)) rfl rfl rfl rfl (Nat.le_of_ble_eq_true rfl) dX11_hasWord_39 ⟨by decide, by decide⟩) (fun rc_4 uu hp => ?_)
          obtain ⟨hrc_4, hp2⟩ := hp
          rw [hp2]
          refine j_if_ne (tgt := 47) C dX11_hasWord_42 (by decide) (show (rc_4 = 0) ↔ weq n (wdF M r k0) n (wdF M o k) by rw [fa_eq]; exact hrc_4.2) (fun h42 => ?_) (fun h42 => ?_)
          · refine j_aload_n C dX11_hasWord_47 rfl 0 rfl ?_
            refine j_iload_n C dX11_hasWord_48 rfl 1 rfl ?_
            refine j_iload C dX11_hasWord_49 5 rfl ?_
            have hge51 := endK_ge M o k
            have hle51 := endK_le (M := M) (r := o) (k := k) (by omega)
            refine c_i0 C (r_V C 31 0 [.int (nI o), .int (nI k)] (c_X11_ends l D cy base Λ σ M hM hB hL o k (by omega) (by omega)) (cwV 2 hts gX11_hasWord_X11_ends rfl rfl rfl (by decide +kernel) ⟨by decide, by decide⟩) (MR.in0 hM (by decide) (by decide)) rfl rfl rfl rfl (Nat.le_of_ble_eq_true rfl) dX11_hasWord_51 ⟨by decide, by decide⟩) (fun rv uu hp => ?_)
            rw [hp.1, hp.2]
            refine j_iconst C (nI 1) dX11_hasWord_54 (by decide) ?_
            refine j_iadd C (nI (endK M o k + 1)) dX11_hasWord_55 (nI_add _ _) ?_
            refine j_istore C [(5, .int (nI (endK M o k + 1))), (0, .ref (gA Λ 31 0)), (1, .int (nI o)), (2, .int (nI r)), (3, .int (nI k0)), (4, .int (nI n))] dX11_hasWord_56 (by decide) rfl ?_
            refine j_goto (tgt := 3) C dX11_hasWord_58 (by decide) ?_
            refine j_lv [1, 2, 3, 4, 5, 0] rfl ?_
            exact ih3 (endK M o k + 1) (by omega) (by omega) (Or.inr ((Nat.lt_or_ge (endK M o k) (M 34 o)).elim (fun z => Or.inr (by rw [Nat.add_sub_cancel]; exact endK_at z)) (fun z => Or.inl (by omega)))) (fun s hs1 hs2 => (Nat.lt_trichotomy s k).elim (fun z => hno s hs1 z) (fun z => z.elim (fun z => by subst z; exact (fun z => h42 ⟨rfl, fun j hj => (z.2 j hj).symm⟩)) (fun z => absurd (isSt_next (by omega) hs1 z) (by omega))))
          · refine j_iconst C (nI 1) dX11_hasWord_45 (by decide) ?_
            exact j_zret C (by first | rfl | exact nz_b _ | exact nz_n (by omega)) hr hlk (⟨rt1 (hasWB_t.mpr ⟨k, ⟨by omega, hk2.elim Or.inl (fun z => z.elim (fun q => absurd q (by omega)) Or.inr)⟩, h26, fun j hj => (h42.2 j hj).symm⟩), rfl⟩) dX11_hasWord_46
  refine j_lv [1, 2, 3, 4, 5, 0] rfl ?_
  exact lb3 _ 0 (Nat.lt_succ_self _) (by omega) (Or.inl rfl) (fun s _ hs => absurd hs (Nat.not_lt_zero _))

set_option maxHeartbeats 4000000 in
set_option maxRecDepth 100000 in
theorem c_X11_scoreOf (l : Launch) (D : va_G) (cy : Nat → ClassId) (base : Nat) (Λ : LY) (σ : HS) (M : MM) (hM : MR Λ σ M) (hB : MBd M) (hL : ∀ x, x < 40 → M 34 x ≤ 20) (room r k0 n : Nat) (hrm : room < 2 ^ 31) (hr0 : r < 40) (hkn : k0 + n ≤ 20) : Met l yX11_scoreOf wsX11_scoreOf ({ frames := 12, cells := 0, slots := 0, locals := 180 }) (va_Pc [.ref (gA Λ 31 0), .int (nI room), .int (nI r), .int (nI k0), .int (nI n)] (Wd D cy base Λ σ)) (va_Qi (fun v u => v.toInt = scZ M room n (wdF M r k0) ∧ u = σ) (Wd D cy base Λ) (Ab base)) 0 0 (Ab base) := by
  refine j_start (cc := cX11_scoreOf) (nL := 12) (ret := (some .int)) (lv := [(0, .ref (gA Λ 31 0)), (1, .int (nI room)), (2, .int (nI r)), (3, .int (nI k0)), (4, .int (nI n))]) (by decide) rfl (Nat.le_of_ble_eq_true rfl) rfl ?_
  intro p e s m below meth c C hr hlk hnm
  have C : Cx p s m ([.ref (gA Λ 31 0), .int (nI room), .int (nI r), .int (nI k0), .int (nI n)] : List Value).toArray c cX11_scoreOf 12 RX11 wsX11_scoreOf D cy base := C
  have hts := C.2.2.2.2.1
  have hwX11 : ∀ w ∈ u_ws RX11 TX11 26, w ∈ wsX11_scoreOf := by decide +kernel
  have hM36 : (Cond.fieldLink RX11 36 (TX11 11).1 (TX11 11).2.1 (TX11 11).2.2.1).before ([.ref (gA Λ 31 0), .int (nI room), .int (nI r), .int (nI k0), .int (nI n)] : List Value).toArray s = true := hts (.fieldLink RX11 36 "CodeRoomsModel" "isHub" "[Z") (by decide +kernel)
  have hL36 : FL RX11 36 (TX11 11).1 (TX11 11).2.1 (TX11 11).2.2.1 ([.ref (gA Λ 31 0), .int (nI room), .int (nI r), .int (nI k0), .int (nI n)] : List Value).toArray s := Or.inl hM36
  have hM40 : (Cond.fieldLink RX11 40 (TX11 12).1 (TX11 12).2.1 (TX11 12).2.2.1).before ([.ref (gA Λ 31 0), .int (nI room), .int (nI r), .int (nI k0), .int (nI n)] : List Value).toArray s = true := hts (.fieldLink RX11 40 "CodeRoomsModel" "roomOf" "[I") (by decide +kernel)
  have hL40 : FL RX11 40 (TX11 12).1 (TX11 12).2.1 (TX11 12).2.2.1 ([.ref (gA Λ 31 0), .int (nI room), .int (nI r), .int (nI k0), .int (nI n)] : List Value).toArray s := Or.inl hM40
  have hM83 : (Cond.fieldLink RX11 83 (TX11 5).1 (TX11 5).2.1 (TX11 5).2.2.1).before ([.ref (gA Λ 31 0), .int (nI room), .int (nI r), .int (nI k0), .int (nI n)] : List Value).toArray s = true := hts (.fieldLink RX11 83 "CodeRoomsModel" "many" "I") (by decide +kernel)
  have hL83 : FL RX11 83 (TX11 5).1 (TX11 5).2.1 (TX11 5).2.2.1 ([.ref (gA Λ 31 0), .int (nI room), .int (nI r), .int (nI k0), .int (nI n)] : List Value).toArray s := Or.inl hM83
  have hn : M 31 5 ≤ 40 := hB 31 5 rfl
  refine j_iconst C (nI 0) dX11_scoreOf_0 (by decide) ?_
  refine j_istore C [(5, .int (nI 0)), (0, .ref (gA Λ 31 0)), (1, .int (nI room)), (2, .int (nI r)), (3, .int (nI k0)), (4, .int (nI n))] dX11_scoreOf_1 (by decide) rfl ?_
  refine j_iconst C (nI 0) dX11_scoreOf_3 (by decide) ?_
  refine j_istore C [(6, .int (nI 0)), (5, .int (nI 0)), (0, .ref (gA Λ 31 0)), (1, .int (nI room)), (2, .int (nI r)), (3, .int (nI k0)), (4, .int (nI n))] dX11_scoreOf_4 (by decide) rfl ?_
  refine j_iconst C (nI 0) dX11_scoreOf_6 (by decide) ?_
  refine j_istore C [(7, .int (nI 0)), (6, .int (nI 0)), (5, .int (nI 0)), (0, .ref (gA Λ 31 0)), (1, .int (nI room)), (2, .int (nI r)), (3, .int (nI k0)), (4, .int (nI n))] dX11_scoreOf_7 (by decide) rfl ?_
  refine j_iconst C (nI 0) dX11_scoreOf_9 (by decide) ?_
  refine j_istore C [(8, .int (nI 0)), (7, .int (nI 0)), (6, .int (nI 0)), (5, .int (nI 0)), (0, .ref (gA Λ 31 0)), (1, .int (nI room)), (2, .int (nI r)), (3, .int (nI k0)), (4, .int (nI n))] dX11_scoreOf_10 (by decide) rfl ?_
  refine j_iconst C (nI 0) dX11_scoreOf_12 (by decide) ?_
  refine j_istore C [(9, .int (nI 0)), (8, .int (nI 0)), (7, .int (nI 0)), (6, .int (nI 0)), (5, .int (nI 0)), (0, .ref (gA Λ 31 0)), (1, .int (nI room)), (2, .int (nI r)), (3, .int (nI k0)), (4, .int (nI n))] dX11_scoreOf_13 (by decide) rfl ?_
  have lb15 : ∀ (fu : Nat) (a5 a6 a7 a8 o : Nat), (M 31 5 - o) < fu → (o ≤ M 31 5) → (a5 = fb_ct (scP M room n (wdF M r k0) true true) o) → (a6 = fb_ct (scP M room n (wdF M r k0) false true) o) → (a7 = fb_ct (scP M room n (wdF M r k0) true false) o) → (a8 = fb_ct (scP M room n (wdF M r k0) false false) o) → J p l e ({ frames := 12, cells := 0, slots := 0, locals := 180 }) s m ([.ref (gA Λ 31 0), .int (nI room), .int (nI r), .int (nI k0), .int (nI n)] : List Value).toArray below meth c 12 D cy base (MQ below (va_Qi (fun v u => v.toInt = scZ M room n (wdF M r k0) ∧ u = σ) (Wd D cy base Λ) (Ab base)) ([.ref (gA Λ 31 0), .int (nI room), .int (nI r), .int (nI k0), .int (nI n)] : List Value).toArray s 0 0 (Ab base)) 0 0 Λ 15 [(0, .ref (gA Λ 31 0)), (1, .int (nI room)), (2, .int (nI r)), (3, .int (nI k0)), (4, .int (nI n)), (5, .int (nI a5)), (6, .int (nI a6)), (7, .int (nI a7)), (8, .int (nI a8)), (9, .int (nI o))] [] σ := by
    intro fu
    induction fu with
    | zero => intro a5 a6 a7 a8 o hfu; exact absurd hfu (Nat.not_lt_zero _)
    | succ fu ih =>
      intro a5 a6 a7 a8 o hfu ho h5 h6 h7 h8
      have ih15 := ih
      refine j_iload C dX11_scoreOf_15 9 rfl ?_
      refine j_aload_n C dX11_scoreOf_17 rfl 0 rfl ?_
      have hb18 : M 31 5 ≤ 40 := hB 31 5 rfl
      refine j_getI C hwX11 31 0 5 (MR.in0 hM (by decide) (by decide)) rfl rfl (by decide) rfl (nI (M 31 5)) (hM.1 31 5 rfl) hL83 dX11_scoreOf_18 ?_
      refine j_icmp_ge (tgt := 143) C dX11_scoreOf_21 (by decide) (nI_leI (by omega) (by omega)) (fun h21 => ?_) (fun h21 => ?_)
      · refine j_iload C dX11_scoreOf_143 5 rfl ?_
        refine j_iload C dX11_scoreOf_145 8 rfl ?_
        refine j_imul C (nI (a5 * a8)) dX11_scoreOf_147 (pk_mul _ _) ?_
        refine j_iload C dX11_scoreOf_148 6 rfl ?_
        refine j_iload C dX11_scoreOf_150 7 rfl ?_
        refine j_imul C (nI (a6 * a7)) dX11_scoreOf_152 (pk_mul _ _) ?_
        refine j_isub C ((nI (a5 * a8)) - (nI (a6 * a7))) dX11_scoreOf_153 rfl ?_
        exact j_iret C hr hlk (⟨sc_val h5 h6 h7 h8 (by omega) hn, rfl⟩) dX11_scoreOf_154
      · refine j_aload_n C dX11_scoreOf_24 rfl 0 rfl ?_
        refine j_getV C hwX11 31 0 11 (MR.in0 hM (by decide) (by decide)) rfl rfl (by decide) rfl 0 (hM.2.2.2 11 rfl) hL36 dX11_scoreOf_25 ?_
        refine j_iload C dX11_scoreOf_28 9 rfl ?_
        have hb30 : M 37 o ≤ 1 := hB 37 o (decide_eq_true (show o < 40 by omega))
        refine j_zald C 37 0 o (MR.in0 hM (by decide) (by decide)) rfl rfl 40 (hM.2.2.1 37 (by decide) (by decide)) (by omega) (by omega) (nI (M 37 o)) (hM.1 37 o (decide_eq_true (show o < 40 by omega))) dX11_scoreOf_30 ?_
        refine j_if_eq (tgt := 37) C dX11_scoreOf_31 (by decide) (nJ_eq0 (by omega)) (fun h31 => ?_) (fun h31 => ?_)
        · refine j_aload_n C dX11_scoreOf_37 rfl 0 rfl ?_
          refine j_getV C hwX11 31 0 12 (MR.in0 hM (by decide) (by decide)) rfl rfl (by decide) rfl 0 (hM.2.2.2 12 rfl) hL40 dX11_scoreOf_38 ?_
          refine j_iload C dX11_scoreOf_41 9 rfl ?_
          have hb43 : M 38 o ≤ 5 := hB 38 o (decide_eq_true (show o < 40 by omega))
          refine j_iald C 38 0 o (MR.in0 hM (by decide) (by decide)) rfl rfl 40 (hM.2.2.1 38 (by decide) (by decide)) (by omega) (by omega) (nI (M 38 o)) (hM.1 38 o (decide_eq_true (show o < 40 by omega))) dX11_scoreOf_43 ?_
          refine j_iload_n C dX11_scoreOf_44 rfl 1 rfl ?_
          refine j_icmp_ne (tgt := 52) C dX11_scoreOf_45 (by decide) (nI_eq (by omega) (by omega)) (fun h45 => ?_) (fun h45 => ?_)
          · refine j_iconst C (nI 0) dX11_scoreOf_52 (by decide) ?_
            refine j_istore C [(10, .int (nI 0)), (0, .ref (gA Λ 31 0)), (1, .int (nI room)), (2, .int (nI r)), (3, .int (nI k0)), (4, .int (nI n)), (5, .int (nI a5)), (6, .int (nI a6)), (7, .int (nI a7)), (8, .int (nI a8)), (9, .int (nI o))] dX11_scoreOf_53 (by decide) rfl ?_
            refine j_aload_n C dX11_scoreOf_55 rfl 1 rfl ?_
            refine j_iload C dX11_scoreOf_56 10 rfl ?_
            refine j_iload_n C dX11_scoreOf_58 rfl 3 rfl ?_
            refine j_iload_n C dX11_scoreOf_59 rfl 4 rfl ?_
            refine j_iload C dX11_scoreOf_60 5 rfl ?_
            refine c_i0 C (r_V C 31 0 [.int (nI o), .int (nI r), .int (nI k0), .int (nI n)] (c_X11_hasWord l D cy base Λ σ M hM hB hL o r k0 n (by omega) (by omega) (by omega)) (cwV 4 hts gX11_scoreOf_X11_hasWord rfl rfl rfl (by decide +kernel) ⟨by decide, by decide⟩) (MR.in0 hM (by decide) (by decide)) rfl rfl rfl rfl (Nat.le_of_ble_eq_true rfl) dX11_scoreOf_62 ⟨by decide, by decide⟩) (fun rv uu hp => ?_)
            rw [hp.1, hp.2]
            refine j_istore C [(11, .int (bI (hasWB M o n (wdF M r k0)))), (10, .int (nI 0)), (0, .ref (gA Λ 31 0)), (1, .int (nI room)), (2, .int (nI r)), (3, .int (nI k0)), (4, .int (nI n)), (5, .int (nI a5)), (6, .int (nI a6)), (7, .int (nI a7)), (8, .int (nI a8)), (9, .int (nI o))] dX11_scoreOf_65 (by decide) rfl ?_
            refine j_iload C dX11_scoreOf_67 9 rfl ?_
            refine j_iload C dX11_scoreOf_69 1 rfl ?_
            refine j_if_eq (tgt := 78) C (P := True) dX11_scoreOf_71 (by decide) (by decide) (fun z => ?_) (fun z => ?_)
            · refine j_iconst C (nI 0) dX11_scoreOf_78 (by decide) ?_
              refine j_iadd C (nI (a7 + 0)) dX11_scoreOf_79 (nI_add _ _) ?_
              refine j_istore C [(7, .int (nI (a7 + 0))), (11, .int (bI (hasWB M o n (wdF M r k0)))), (10, .int (nI 0)), (0, .ref (gA Λ 31 0)), (1, .int (nI room)), (2, .int (nI r)), (3, .int (nI k0)), (4, .int (nI n)), (5, .int (nI a5)), (6, .int (nI a6)), (8, .int (nI a8)), (9, .int (nI o))] dX11_scoreOf_80 (by decide) rfl ?_
              refine j_iload C dX11_scoreOf_82 10 rfl ?_
              refine j_iload C dX11_scoreOf_84 2 rfl ?_
              refine j_if_eq (tgt := 93) C (P := True) dX11_scoreOf_86 (by decide) (by decide) (fun z => ?_) (fun z => ?_)
              · refine j_iconst C (nI 1) dX11_scoreOf_93 (by decide) ?_
                refine j_iadd C (nI (a8 + 1)) dX11_scoreOf_94 (nI_add _ _) ?_
                refine j_istore C [(8, .int (nI (a8 + 1))), (7, .int (nI (a7 + 0))), (11, .int (bI (hasWB M o n (wdF M r k0)))), (10, .int (nI 0)), (0, .ref (gA Λ 31 0)), (1, .int (nI room)), (2, .int (nI r)), (3, .int (nI k0)), (4, .int (nI n)), (5, .int (nI a5)), (6, .int (nI a6)), (9, .int (nI o))] dX11_scoreOf_95 (by decide) rfl ?_
                refine j_iload C dX11_scoreOf_97 9 rfl ?_
                refine j_iload C dX11_scoreOf_99 3 rfl ?_
                refine j_if_eq (tgt := 113) C (P := True) dX11_scoreOf_101 (by decide) (by decide) (fun z => ?_) (fun z => ?_)
                · refine j_iconst C (nI 0) dX11_scoreOf_113 (by decide) ?_
                  refine j_iadd C (nI (a5 + 0)) dX11_scoreOf_114 (nI_add _ _) ?_
                  refine j_istore C [(5, .int (nI (a5 + 0))), (8, .int (nI (a8 + 1))), (7, .int (nI (a7 + 0))), (11, .int (bI (hasWB M o n (wdF M r k0)))), (10, .int (nI 0)), (0, .ref (gA Λ 31 0)), (1, .int (nI room)), (2, .int (nI r)), (3, .int (nI k0)), (4, .int (nI n)), (6, .int (nI a6)), (9, .int (nI o))] dX11_scoreOf_115 (by decide) rfl ?_
                  refine j_iload C dX11_scoreOf_117 10 rfl ?_
                  refine j_iload C dX11_scoreOf_119 4 rfl ?_
                  refine j_if_ne (tgt := 133) C (P := True) dX11_scoreOf_121 (by decide) (by decide) (fun z => ?_) (fun z => ?_)
                  · exact absurd trivial z
                  · refine j_iload C dX11_scoreOf_124 3 rfl ?_
                    refine j_ifeq_b (tgt := 133) C dX11_scoreOf_126 (by decide) (fun h126 => ?_) (fun h126 => ?_)
                    · refine j_iconst C (nI 0) dX11_scoreOf_133 (by decide) ?_
                      refine j_iadd C (nI (a6 + 0)) dX11_scoreOf_134 (nI_add _ _) ?_
                      refine j_istore C [(6, .int (nI (a6 + 0))), (5, .int (nI (a5 + 0))), (8, .int (nI (a8 + 1))), (7, .int (nI (a7 + 0))), (11, .int (bI (hasWB M o n (wdF M r k0)))), (10, .int (nI 0)), (0, .ref (gA Λ 31 0)), (1, .int (nI room)), (2, .int (nI r)), (3, .int (nI k0)), (4, .int (nI n)), (9, .int (nI o))] dX11_scoreOf_135 (by decide) rfl ?_
                      refine j_iinc C [(9, .int (nI (o + 1))), (6, .int (nI (a6 + 0))), (5, .int (nI (a5 + 0))), (8, .int (nI (a8 + 1))), (7, .int (nI (a7 + 0))), (11, .int (bI (hasWB M o n (wdF M r k0)))), (10, .int (nI 0)), (0, .ref (gA Λ 31 0)), (1, .int (nI room)), (2, .int (nI r)), (3, .int (nI k0)), (4, .int (nI n))] (nI (o + 1)) dX11_scoreOf_137 11 rfl (nI_add _ 1) (by decide) rfl ?_
                      refine j_goto (tgt := 15) C dX11_scoreOf_140 (by decide) ?_
                      refine j_lv [7, 8, 9, 10, 11, 2, 1, 4, 3, 0] rfl ?_
                      exact ih15 (a5 + 0) (a6 + 0) (a7 + 0) (a8 + 1) (o + 1) (by omega) (by omega) (by rw [fb_ct_succ, ← h5]; simp [scP, h21, h31, h45, h126]) (by rw [fb_ct_succ, ← h6]; simp [scP, h21, h31, h45, h126]) (by rw [fb_ct_succ, ← h7]; simp [scP, h21, h31, h45, h126]) (by rw [fb_ct_succ, ← h8]; simp [scP, h21, h31, h45, h126])
                    · refine j_iconst C (nI 1) dX11_scoreOf_129 (by decide) ?_
                      refine j_goto (tgt := 134) C dX11_scoreOf_130 (by decide) ?_
                      refine j_iadd C (nI (a6 + 1)) dX11_scoreOf_134 (nI_add _ _) ?_
                      refine j_istore C [(6, .int (nI (a6 + 1))), (5, .int (nI (a5 + 0))), (8, .int (nI (a8 + 1))), (7, .int (nI (a7 + 0))), (11, .int (bI (hasWB M o n (wdF M r k0)))), (10, .int (nI 0)), (0, .ref (gA Λ 31 0)), (1, .int (nI room)), (2, .int (nI r)), (3, .int (nI k0)), (4, .int (nI n)), (9, .int (nI o))] dX11_scoreOf_135 (by decide) rfl ?_
                      refine j_iinc C [(9, .int (nI (o + 1))), (6, .int (nI (a6 + 1))), (5, .int (nI (a5 + 0))), (8, .int (nI (a8 + 1))), (7, .int (nI (a7 + 0))), (11, .int (bI (hasWB M o n (wdF M r k0)))), (10, .int (nI 0)), (0, .ref (gA Λ 31 0)), (1, .int (nI room)), (2, .int (nI r)), (3, .int (nI k0)), (4, .int (nI n))] (nI (o + 1)) dX11_scoreOf_137 11 rfl (nI_add _ 1) (by decide) rfl ?_
                      refine j_goto (tgt := 15) C dX11_scoreOf_140 (by decide) ?_
                      refine j_lv [7, 8, 9, 10, 11, 2, 1, 4, 3, 0] rfl ?_
                      exact ih15 (a5 + 0) (a6 + 1) (a7 + 0) (a8 + 1) (o + 1) (by omega) (by omega) (by rw [fb_ct_succ, ← h5]; simp [scP, h21, h31, h45, h126]) (by rw [fb_ct_succ, ← h6]; simp [scP, h21, h31, h45, h126]) (by rw [fb_ct_succ, ← h7]; simp [scP, h21, h31, h45, h126]) (by rw [fb_ct_succ, ← h8]; simp [scP, h21, h31, h45, h126])
                · exact absurd trivial z
              · exact absurd trivial z
            · exact absurd trivial z
          · refine j_iconst C (nI 1) dX11_scoreOf_48 (by decide) ?_
            refine j_goto (tgt := 53) C dX11_scoreOf_49 (by decide) ?_
            refine j_istore C [(10, .int (nI 1)), (0, .ref (gA Λ 31 0)), (1, .int (nI room)), (2, .int (nI r)), (3, .int (nI k0)), (4, .int (nI n)), (5, .int (nI a5)), (6, .int (nI a6)), (7, .int (nI a7)), (8, .int (nI a8)), (9, .int (nI o))] dX11_scoreOf_53 (by decide) rfl ?_
            refine j_aload_n C dX11_scoreOf_55 rfl 1 rfl ?_
            refine j_iload C dX11_scoreOf_56 10 rfl ?_
            refine j_iload_n C dX11_scoreOf_58 rfl 3 rfl ?_
            refine j_iload_n C dX11_scoreOf_59 rfl 4 rfl ?_
            refine j_iload C dX11_scoreOf_60 5 rfl ?_
            refine c_i0 C (r_V C 31 0 [.int (nI o), .int (nI r), .int (nI k0), .int (nI n)] (c_X11_hasWord l D cy base Λ σ M hM hB hL o r k0 n (by omega) (by omega) (by omega)) (cwV 4 hts gX11_scoreOf_X11_hasWord rfl rfl rfl (by decide +kernel) ⟨by decide, by decide⟩) (MR.in0 hM (by decide) (by decide)) rfl rfl rfl rfl (Nat.le_of_ble_eq_true rfl) dX11_scoreOf_62 ⟨by decide, by decide⟩) (fun rv uu hp => ?_)
            rw [hp.1, hp.2]
            refine j_istore C [(11, .int (bI (hasWB M o n (wdF M r k0)))), (10, .int (nI 1)), (0, .ref (gA Λ 31 0)), (1, .int (nI room)), (2, .int (nI r)), (3, .int (nI k0)), (4, .int (nI n)), (5, .int (nI a5)), (6, .int (nI a6)), (7, .int (nI a7)), (8, .int (nI a8)), (9, .int (nI o))] dX11_scoreOf_65 (by decide) rfl ?_
            refine j_iload C dX11_scoreOf_67 9 rfl ?_
            refine j_iload C dX11_scoreOf_69 1 rfl ?_
            refine j_if_eq (tgt := 78) C (P := False) dX11_scoreOf_71 (by decide) (by decide) (fun z => ?_) (fun z => ?_)
            · exact z.elim
            · refine j_iconst C (nI 1) dX11_scoreOf_74 (by decide) ?_
              refine j_goto (tgt := 79) C dX11_scoreOf_75 (by decide) ?_
              refine j_iadd C (nI (a7 + 1)) dX11_scoreOf_79 (nI_add _ _) ?_
              refine j_istore C [(7, .int (nI (a7 + 1))), (11, .int (bI (hasWB M o n (wdF M r k0)))), (10, .int (nI 1)), (0, .ref (gA Λ 31 0)), (1, .int (nI room)), (2, .int (nI r)), (3, .int (nI k0)), (4, .int (nI n)), (5, .int (nI a5)), (6, .int (nI a6)), (8, .int (nI a8)), (9, .int (nI o))] dX11_scoreOf_80 (by decide) rfl ?_
              refine j_iload C dX11_scoreOf_82 10 rfl ?_
              refine j_iload C dX11_scoreOf_84 2 rfl ?_
              refine j_if_eq (tgt := 93) C (P := False) dX11_scoreOf_86 (by decide) (by decide) (fun z => ?_) (fun z => ?_)
              · exact z.elim
              · refine j_iconst C (nI 0) dX11_scoreOf_89 (by decide) ?_
                refine j_goto (tgt := 94) C dX11_scoreOf_90 (by decide) ?_
                refine j_iadd C (nI (a8 + 0)) dX11_scoreOf_94 (nI_add _ _) ?_
                refine j_istore C [(8, .int (nI (a8 + 0))), (7, .int (nI (a7 + 1))), (11, .int (bI (hasWB M o n (wdF M r k0)))), (10, .int (nI 1)), (0, .ref (gA Λ 31 0)), (1, .int (nI room)), (2, .int (nI r)), (3, .int (nI k0)), (4, .int (nI n)), (5, .int (nI a5)), (6, .int (nI a6)), (9, .int (nI o))] dX11_scoreOf_95 (by decide) rfl ?_
                refine j_iload C dX11_scoreOf_97 9 rfl ?_
                refine j_iload C dX11_scoreOf_99 3 rfl ?_
                refine j_if_eq (tgt := 113) C (P := False) dX11_scoreOf_101 (by decide) (by decide) (fun z => ?_) (fun z => ?_)
                · exact z.elim
                · refine j_iload C dX11_scoreOf_104 2 rfl ?_
                  refine j_ifeq_b (tgt := 113) C dX11_scoreOf_106 (by decide) (fun h106 => ?_) (fun h106 => ?_)
                  · refine j_iconst C (nI 0) dX11_scoreOf_113 (by decide) ?_
                    refine j_iadd C (nI (a5 + 0)) dX11_scoreOf_114 (nI_add _ _) ?_
                    refine j_istore C [(5, .int (nI (a5 + 0))), (8, .int (nI (a8 + 0))), (7, .int (nI (a7 + 1))), (11, .int (bI (hasWB M o n (wdF M r k0)))), (10, .int (nI 1)), (0, .ref (gA Λ 31 0)), (1, .int (nI room)), (2, .int (nI r)), (3, .int (nI k0)), (4, .int (nI n)), (6, .int (nI a6)), (9, .int (nI o))] dX11_scoreOf_115 (by decide) rfl ?_
                    refine j_iload C dX11_scoreOf_117 10 rfl ?_
                    refine j_iload C dX11_scoreOf_119 4 rfl ?_
                    refine j_if_ne (tgt := 133) C (P := False) dX11_scoreOf_121 (by decide) (by decide) (fun z => ?_) (fun z => ?_)
                    · refine j_iconst C (nI 0) dX11_scoreOf_133 (by decide) ?_
                      refine j_iadd C (nI (a6 + 0)) dX11_scoreOf_134 (nI_add _ _) ?_
                      refine j_istore C [(6, .int (nI (a6 + 0))), (5, .int (nI (a5 + 0))), (8, .int (nI (a8 + 0))), (7, .int (nI (a7 + 1))), (11, .int (bI (hasWB M o n (wdF M r k0)))), (10, .int (nI 1)), (0, .ref (gA Λ 31 0)), (1, .int (nI room)), (2, .int (nI r)), (3, .int (nI k0)), (4, .int (nI n)), (9, .int (nI o))] dX11_scoreOf_135 (by decide) rfl ?_
                      refine j_iinc C [(9, .int (nI (o + 1))), (6, .int (nI (a6 + 0))), (5, .int (nI (a5 + 0))), (8, .int (nI (a8 + 0))), (7, .int (nI (a7 + 1))), (11, .int (bI (hasWB M o n (wdF M r k0)))), (10, .int (nI 1)), (0, .ref (gA Λ 31 0)), (1, .int (nI room)), (2, .int (nI r)), (3, .int (nI k0)), (4, .int (nI n))] (nI (o + 1)) dX11_scoreOf_137 11 rfl (nI_add _ 1) (by decide) rfl ?_
                      refine j_goto (tgt := 15) C dX11_scoreOf_140 (by decide) ?_
                      refine j_lv [7, 8, 9, 10, 11, 2, 1, 4, 3, 0] rfl ?_
                      exact ih15 (a5 + 0) (a6 + 0) (a7 + 1) (a8 + 0) (o + 1) (by omega) (by omega) (by rw [fb_ct_succ, ← h5]; simp [scP, h21, h31, h45, h106]) (by rw [fb_ct_succ, ← h6]; simp [scP, h21, h31, h45, h106]) (by rw [fb_ct_succ, ← h7]; simp [scP, h21, h31, h45, h106]) (by rw [fb_ct_succ, ← h8]; simp [scP, h21, h31, h45, h106])
                    · exact z.elim
                  · refine j_iconst C (nI 1) dX11_scoreOf_109 (by decide) ?_
                    refine j_goto (tgt := 114) C dX11_scoreOf_110 (by decide) ?_
                    refine j_iadd C (nI (a5 + 1)) dX11_scoreOf_114 (nI_add _ _) ?_
                    refine j_istore C [(5, .int (nI (a5 + 1))), (8, .int (nI (a8 + 0))), (7, .int (nI (a7 + 1))), (11, .int (bI (hasWB M o n (wdF M r k0)))), (10, .int (nI 1)), (0, .ref (gA Λ 31 0)), (1, .int (nI room)), (2, .int (nI r)), (3, .int (nI k0)), (4, .int (nI n)), (6, .int (nI a6)), (9, .int (nI o))] dX11_scoreOf_115 (by decide) rfl ?_
                    refine j_iload C dX11_scoreOf_117 10 rfl ?_
                    refine j_iload C dX11_scoreOf_119 4 rfl ?_
                    refine j_if_ne (tgt := 133) C (P := False) dX11_scoreOf_121 (by decide) (by decide) (fun z => ?_) (fun z => ?_)
                    · refine j_iconst C (nI 0) dX11_scoreOf_133 (by decide) ?_
                      refine j_iadd C (nI (a6 + 0)) dX11_scoreOf_134 (nI_add _ _) ?_
                      refine j_istore C [(6, .int (nI (a6 + 0))), (5, .int (nI (a5 + 1))), (8, .int (nI (a8 + 0))), (7, .int (nI (a7 + 1))), (11, .int (bI (hasWB M o n (wdF M r k0)))), (10, .int (nI 1)), (0, .ref (gA Λ 31 0)), (1, .int (nI room)), (2, .int (nI r)), (3, .int (nI k0)), (4, .int (nI n)), (9, .int (nI o))] dX11_scoreOf_135 (by decide) rfl ?_
                      refine j_iinc C [(9, .int (nI (o + 1))), (6, .int (nI (a6 + 0))), (5, .int (nI (a5 + 1))), (8, .int (nI (a8 + 0))), (7, .int (nI (a7 + 1))), (11, .int (bI (hasWB M o n (wdF M r k0)))), (10, .int (nI 1)), (0, .ref (gA Λ 31 0)), (1, .int (nI room)), (2, .int (nI r)), (3, .int (nI k0)), (4, .int (nI n))] (nI (o + 1)) dX11_scoreOf_137 11 rfl (nI_add _ 1) (by decide) rfl ?_
                      refine j_goto (tgt := 15) C dX11_scoreOf_140 (by decide) ?_
                      refine j_lv [7, 8, 9, 10, 11, 2, 1, 4, 3, 0] rfl ?_
                      exact ih15 (a5 + 1) (a6 + 0) (a7 + 1) (a8 + 0) (o + 1) (by omega) (by omega) (by rw [fb_ct_succ, ← h5]; simp [scP, h21, h31, h45, h106]) (by rw [fb_ct_succ, ← h6]; simp [scP, h21, h31, h45, h106]) (by rw [fb_ct_succ, ← h7]; simp [scP, h21, h31, h45, h106]) (by rw [fb_ct_succ, ← h8]; simp [scP, h21, h31, h45, h106])
                    · exact z.elim
        · refine j_goto (tgt := 137) C dX11_scoreOf_34 (by decide) ?_
          refine j_iinc C [(9, .int (nI (o + 1))), (0, .ref (gA Λ 31 0)), (1, .int (nI room)), (2, .int (nI r)), (3, .int (nI k0)), (4, .int (nI n)), (5, .int (nI a5)), (6, .int (nI a6)), (7, .int (nI a7)), (8, .int (nI a8))] (nI (o + 1)) dX11_scoreOf_137 9 rfl (nI_add _ 1) (by decide) rfl ?_
          refine j_goto (tgt := 15) C dX11_scoreOf_140 (by decide) ?_
          refine j_lv [1, 2, 3, 4, 5, 6, 7, 8, 9, 0] rfl ?_
          exact ih15 a5 a6 a7 a8 (o + 1) (by omega) (by omega) (by rw [fb_ct_succ, ← h5]; simp [scP, h21, h31]) (by rw [fb_ct_succ, ← h6]; simp [scP, h21, h31]) (by rw [fb_ct_succ, ← h7]; simp [scP, h21, h31]) (by rw [fb_ct_succ, ← h8]; simp [scP, h21, h31])
  refine j_lv [5, 6, 7, 8, 9, 4, 3, 2, 1, 0] rfl ?_
  exact lb15 _ 0 0 0 0 0 (Nat.lt_succ_self _) (by omega) rfl rfl rfl rfl
