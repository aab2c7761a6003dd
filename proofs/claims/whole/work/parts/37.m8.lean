set_option maxHeartbeats 4000000 in
set_option maxRecDepth 100000 in
theorem c_X11_isName (l : Launch) (D : va_G) (cy : Nat → ClassId) (base : Nat) (Λ : LY) (σ : HS) (M : MM) (hM : MR Λ σ M) (hB : MBd M) (n : Nat) (hn40 : n ≤ 40) : Met l yX11_isName wsX11_isName ({ frames := 4, cells := 0, slots := 0, locals := 60 }) (va_Pc [.ref (gA Λ 31 0), .int (nI n)] (Wd D cy base Λ σ)) (va_Qi (fun v u => v = bI (nameB M n) ∧ u = σ) (Wd D cy base Λ) (Ab base)) 0 0 (Ab base) := by
  refine j_start (cc := cX11_isName) (nL := 4) (ret := (some .boolean)) (lv := [(0, .ref (gA Λ 31 0)), (1, .int (nI n))]) (by decide) rfl (Nat.le_of_ble_eq_true rfl) rfl ?_
  intro p e s m below meth c C hr hlk hnm
  have C : Cx p s m ([.ref (gA Λ 31 0), .int (nI n)] : List Value).toArray c cX11_isName 4 RX11 wsX11_isName D cy base := C
  have hts := C.2.2.2.2.1
  have hwX11 : ∀ w ∈ u_ws RX11 TX11 26, w ∈ wsX11_isName := by decide +kernel
  have hM7 : (Cond.fieldLink RX11 7 (TX11 1).1 (TX11 1).2.1 (TX11 1).2.2.1).before ([.ref (gA Λ 31 0), .int (nI n)] : List Value).toArray s = true := hts (.fieldLink RX11 7 "CodeRoomsModel" "tape" "[B") (by decide +kernel)
  have hL7 : FL RX11 7 (TX11 1).1 (TX11 1).2.1 (TX11 1).2.2.1 ([.ref (gA Λ 31 0), .int (nI n)] : List Value).toArray s := Or.inl hM7
  have lb16 : ∀ (q : Nat), (q = if decide (1 ≤ n ∧ n ≤ 20) = true then 1 else 0) → J p l e ({ frames := 4, cells := 0, slots := 0, locals := 60 }) s m ([.ref (gA Λ 31 0), .int (nI n)] : List Value).toArray below meth c 4 D cy base (MQ below (va_Qi (fun v u => v = bI (nameB M n) ∧ u = σ) (Wd D cy base Λ) (Ab base)) ([.ref (gA Λ 31 0), .int (nI n)] : List Value).toArray s 0 0 (Ab base)) 0 0 Λ 16 [(0, .ref (gA Λ 31 0)), (1, .int (nI n))] [.int (nI q)] σ := by
    intro q hq
    refine j_istore_n C [(2, .int (nI q)), (0, .ref (gA Λ 31 0)), (1, .int (nI n))] dX11_isName_16 rfl (by decide) rfl ?_
    refine j_iconst C (nI 0) dX11_isName_17 (by decide) ?_
    refine j_istore_n C [(3, .int (nI 0)), (2, .int (nI q)), (0, .ref (gA Λ 31 0)), (1, .int (nI n))] dX11_isName_18 rfl (by decide) rfl ?_
    have lb19 : ∀ (fu : Nat) (q i : Nat), (n - i) < fu → (i ≤ n) → (q = if (decide (1 ≤ n ∧ n ≤ 20) && allL M i) = true then 1 else 0) → J p l e ({ frames := 4, cells := 0, slots := 0, locals := 60 }) s m ([.ref (gA Λ 31 0), .int (nI n)] : List Value).toArray below meth c 4 D cy base (MQ below (va_Qi (fun v u => v = bI (nameB M n) ∧ u = σ) (Wd D cy base Λ) (Ab base)) ([.ref (gA Λ 31 0), .int (nI n)] : List Value).toArray s 0 0 (Ab base)) 0 0 Λ 19 [(0, .ref (gA Λ 31 0)), (1, .int (nI n)), (2, .int (nI q)), (3, .int (nI i))] [] σ := by
      intro fu
      induction fu with
      | zero => intro q i hfu; exact absurd hfu (Nat.not_lt_zero _)
      | succ fu ih =>
        intro q i hfu hi hq
        have hq1 : q ≤ 1 := by rw [hq]; split <;> omega
        have ih19 := ih
        refine j_iload_n C dX11_isName_19 rfl 3 rfl ?_
        refine j_iload_n C dX11_isName_20 rfl 1 rfl ?_
        refine j_icmp_ge (tgt := 73) C dX11_isName_21 (by decide) (nI_leI (by omega) (by omega)) (fun h21 => ?_) (fun h21 => ?_)
        · refine j_iload_n C dX11_isName_73 rfl 2 rfl ?_
          exact j_zret C (by first | rfl | exact nz_b _ | exact nz_n (by omega)) hr hlk (⟨(by rw [hq, show i = n by omega]; show nI (if nameB M n = true then 1 else 0) = bI (nameB M n); cases nameB M n <;> rfl), rfl⟩) dX11_isName_74
        · refine j_iload_n C dX11_isName_24 rfl 2 rfl ?_
          refine j_if_eq (tgt := 73) C dX11_isName_25 (by decide) (nJ_eq0 (by omega)) (fun h25 => ?_) (fun h25 => ?_)
          · refine j_iload_n C dX11_isName_73 rfl 2 rfl ?_
            exact j_zret C (by first | rfl | exact nz_b _ | exact nz_n (by omega)) hr hlk (⟨(by rw [h25, show nameB M n = false from nameB_no (i := i) (by cases h : (decide (1 ≤ n ∧ n ≤ 20) && allL M i) <;> simp_all) hi]; rfl), rfl⟩) dX11_isName_74
          · have lb66 : ∀ (y : Nat), (y = if isLet (M 32 i) = true then 1 else 0) → J p l e ({ frames := 4, cells := 0, slots := 0, locals := 60 }) s m ([.ref (gA Λ 31 0), .int (nI n)] : List Value).toArray below meth c 4 D cy base (MQ below (va_Qi (fun v u => v = bI (nameB M n) ∧ u = σ) (Wd D cy base Λ) (Ab base)) ([.ref (gA Λ 31 0), .int (nI n)] : List Value).toArray s 0 0 (Ab base)) 0 0 Λ 66 [(0, .ref (gA Λ 31 0)), (1, .int (nI n)), (2, .int (nI q)), (3, .int (nI i))] [.int (nI y)] σ := by
              intro y hy
              refine j_istore_n C [(2, .int (nI y)), (0, .ref (gA Λ 31 0)), (1, .int (nI n)), (3, .int (nI i))] dX11_isName_66 rfl (by decide) rfl ?_
              refine j_iinc C [(3, .int (nI (i + 1))), (2, .int (nI y)), (0, .ref (gA Λ 31 0)), (1, .int (nI n))] (nI (i + 1)) dX11_isName_67 3 rfl (nI_add _ 1) (by decide) rfl ?_
              refine j_goto (tgt := 19) C dX11_isName_70 (by decide) ?_
              refine j_lv [2, 3, 1, 0] rfl ?_
              exact ih19 y (i + 1) (by omega) (by omega) (by have e : (decide (1 ≤ n ∧ n ≤ 20) && allL M i) = true := (by cases h : (decide (1 ≤ n ∧ n ≤ 20) && allL M i) <;> simp_all); rw [Bool.and_eq_true] at e; show y = if (decide (1 ≤ n ∧ n ≤ 20) && (allL M i && isLet (M 32 i))) = true then 1 else 0; rw [e.1, e.2]; simpa using hy)
            refine j_aload_n C dX11_isName_28 rfl 0 rfl ?_
            refine j_getV C hwX11 31 0 1 (MR.in0 hM (by decide) (by decide)) rfl rfl (by decide) rfl 0 (hM.2.2.2 1 rfl) hL7 dX11_isName_29 ?_
            refine j_iload_n C dX11_isName_32 rfl 3 rfl ?_
            have hb33 : M 32 i ≤ 255 := hB 32 i (decide_eq_true (show i < 40 by omega))
            refine j_bald C 32 0 i (MR.in0 hM (by decide) (by decide)) rfl rfl 40 (hM.2.2.1 32 (by decide) (by decide)) (by omega) (by omega) ((nI (M 32 i)).toInt8.toInt32) (hM.1 32 i (decide_eq_true (show i < 40 by omega))) dX11_isName_33 ?_
            refine j_bipush C (nI 97) dX11_isName_34 (by decide) ?_
            refine j_icmp_lt (tgt := 50) C dX11_isName_36 (by decide) (sb_lt97 _ (by omega)) (fun h36 => ?_) (fun h36 => ?_)
            · refine j_aload_n C dX11_isName_50 rfl 0 rfl ?_
              refine j_getV C hwX11 31 0 1 (MR.in0 hM (by decide) (by decide)) rfl rfl (by decide) rfl 0 (hM.2.2.2 1 rfl) hL7 dX11_isName_51 ?_
              refine j_iload_n C dX11_isName_54 rfl 3 rfl ?_
              have hb55 : M 32 i ≤ 255 := hB 32 i (decide_eq_true (show i < 40 by omega))
              refine j_bald C 32 0 i (MR.in0 hM (by decide) (by decide)) rfl rfl 40 (hM.2.2.1 32 (by decide) (by decide)) (by omega) (by omega) ((nI (M 32 i)).toInt8.toInt32) (hM.1 32 i (decide_eq_true (show i < 40 by omega))) dX11_isName_55 ?_
              refine j_bipush C (nI 95) dX11_isName_56 (by decide) ?_
              refine j_icmp_ne (tgt := 65) C dX11_isName_58 (by decide) (sb_eq95 _ (by omega)) (fun h58 => ?_) (fun h58 => ?_)
              · refine j_iconst C (nI 0) dX11_isName_65 (by decide) ?_
                exact lb66 0 (by simp [isLet]; omega)
              · refine j_iconst C (nI 1) dX11_isName_61 (by decide) ?_
                refine j_goto (tgt := 66) C dX11_isName_62 (by decide) ?_
                exact lb66 1 (by simp [isLet]; omega)
            · refine j_aload_n C dX11_isName_39 rfl 0 rfl ?_
              refine j_getV C hwX11 31 0 1 (MR.in0 hM (by decide) (by decide)) rfl rfl (by decide) rfl 0 (hM.2.2.2 1 rfl) hL7 dX11_isName_40 ?_
              refine j_iload_n C dX11_isName_43 rfl 3 rfl ?_
              have hb44 : M 32 i ≤ 255 := hB 32 i (decide_eq_true (show i < 40 by omega))
              refine j_bald C 32 0 i (MR.in0 hM (by decide) (by decide)) rfl rfl 40 (hM.2.2.1 32 (by decide) (by decide)) (by omega) (by omega) ((nI (M 32 i)).toInt8.toInt32) (hM.1 32 i (decide_eq_true (show i < 40 by omega))) dX11_isName_44 ?_
              refine j_bipush C (nI 122) dX11_isName_45 (by decide) ?_
              refine j_icmp_le (tgt := 61) C dX11_isName_47 (by decide) (sb_le122 _ (by omega)) (fun h47 => ?_) (fun h47 => ?_)
              · refine j_iconst C (nI 1) dX11_isName_61 (by decide) ?_
                refine j_goto (tgt := 66) C dX11_isName_62 (by decide) ?_
                exact lb66 1 (by simp [isLet]; omega)
              · refine j_aload_n C dX11_isName_50 rfl 0 rfl ?_
                refine j_getV C hwX11 31 0 1 (MR.in0 hM (by decide) (by decide)) rfl rfl (by decide) rfl 0 (hM.2.2.2 1 rfl) hL7 dX11_isName_51 ?_
                refine j_iload_n C dX11_isName_54 rfl 3 rfl ?_
                have hb55 : M 32 i ≤ 255 := hB 32 i (decide_eq_true (show i < 40 by omega))
                refine j_bald C 32 0 i (MR.in0 hM (by decide) (by decide)) rfl rfl 40 (hM.2.2.1 32 (by decide) (by decide)) (by omega) (by omega) ((nI (M 32 i)).toInt8.toInt32) (hM.1 32 i (decide_eq_true (show i < 40 by omega))) dX11_isName_55 ?_
                refine j_bipush C (nI 95) dX11_isName_56 (by decide) ?_
                refine j_icmp_ne (tgt := 65) C dX11_isName_58 (by decide) (sb_eq95 _ (by omega)) (fun h58 => ?_) (fun h58 => ?_)
                · refine j_iconst C (nI 0) dX11_isName_65 (by decide) ?_
                  exact lb66 0 (by simp [isLet]; omega)
                · refine j_iconst C (nI 1) dX11_isName_61 (by decide) ?_
                  refine j_goto (tgt := 66) C dX11_isName_62 (by decide) ?_
                  exact lb66 1 (by simp [isLet]; omega)
    refine j_lv [2, 3, 1, 0] rfl ?_
    exact lb19 _ q 0 (Nat.lt_succ_self _) (by omega) (by rw [hq]; simp [allL])
  refine j_iload_n C dX11_isName_0 rfl 1 rfl ?_
  refine j_iconst C (nI 1) dX11_isName_1 (by decide) ?_
  refine j_icmp_lt (tgt := 15) C dX11_isName_2 (by decide) (nI_ltI (by omega) (by omega)) (fun h2 => ?_) (fun h2 => ?_)
  · refine j_iconst C (nI 0) dX11_isName_15 (by decide) ?_
    exact lb16 0 (by simp [h2]; try omega)
  · refine j_iload_n C dX11_isName_5 rfl 1 rfl ?_
    refine j_bipush C (nI 20) dX11_isName_6 (by decide) ?_
    refine j_icmp_gt (tgt := 15) C dX11_isName_8 (by decide) (nI_ltI (by omega) (by omega)) (fun h8 => ?_) (fun h8 => ?_)
    · refine j_iconst C (nI 0) dX11_isName_15 (by decide) ?_
      exact lb16 0 (by simp [h2, h8]; try omega)
    · refine j_iconst C (nI 1) dX11_isName_11 (by decide) ?_
      refine j_goto (tgt := 16) C dX11_isName_12 (by decide) ?_
      exact lb16 1 (by simp [h2, h8]; try omega)

set_option maxHeartbeats 4000000 in
set_option maxRecDepth 100000 in
theorem c_X11_hasName (l : Launch) (D : va_G) (cy : Nat → ClassId) (base : Nat) (Λ : LY) (σ : HS) (M : MM) (hM : MR Λ σ M) (hB : MBd M) (r n : Nat) (hr0 : r < 40) (hn20 : n ≤ 20) (hT : ∀ k, k < n → M 32 k < 128) : Met l yX11_hasName wsX11_hasName ({ frames := 4, cells := 0, slots := 0, locals := 60 }) (va_Pc [.ref (gA Λ 31 0), .int (nI r), .int (nI n)] (Wd D cy base Λ σ)) (va_Qi (fun v u => v = bI (hasN M r n) ∧ u = σ) (Wd D cy base Λ) (Ab base)) 0 0 (Ab base) := by
  refine j_start (cc := cX11_hasName) (nL := 5) (ret := (some .boolean)) (lv := [(0, .ref (gA Λ 31 0)), (1, .int (nI r)), (2, .int (nI n))]) (by decide) rfl (Nat.le_of_ble_eq_true rfl) rfl ?_
  intro p e s m below meth c C hr hlk hnm
  have C : Cx p s m ([.ref (gA Λ 31 0), .int (nI r), .int (nI n)] : List Value).toArray c cX11_hasName 5 RX11 wsX11_hasName D cy base := C
  have hts := C.2.2.2.2.1
  have hwX11 : ∀ w ∈ u_ws RX11 TX11 26, w ∈ wsX11_hasName := by decide +kernel
  have hM7 : (Cond.fieldLink RX11 7 (TX11 1).1 (TX11 1).2.1 (TX11 1).2.2.1).before ([.ref (gA Λ 31 0), .int (nI r), .int (nI n)] : List Value).toArray s = true := hts (.fieldLink RX11 7 "CodeRoomsModel" "tape" "[B") (by decide +kernel)
  have hL7 : FL RX11 7 (TX11 1).1 (TX11 1).2.1 (TX11 1).2.2.1 ([.ref (gA Λ 31 0), .int (nI r), .int (nI n)] : List Value).toArray s := Or.inl hM7
  have hM13 : (Cond.fieldLink RX11 13 (TX11 3).1 (TX11 3).2.1 (TX11 3).2.2.1).before ([.ref (gA Λ 31 0), .int (nI r), .int (nI n)] : List Value).toArray s = true := hts (.fieldLink RX11 13 "CodeRoomsModel" "names" "[B") (by decide +kernel)
  have hL13 : FL RX11 13 (TX11 3).1 (TX11 3).2.1 (TX11 3).2.2.1 ([.ref (gA Λ 31 0), .int (nI r), .int (nI n)] : List Value).toArray s := Or.inl hM13
  have hM16 : (Cond.fieldLink RX11 16 (TX11 4).1 (TX11 4).2.1 (TX11 4).2.2.1).before ([.ref (gA Λ 31 0), .int (nI r), .int (nI n)] : List Value).toArray s = true := hts (.fieldLink RX11 16 "CodeRoomsModel" "nameLong" "[I") (by decide +kernel)
  have hL16 : FL RX11 16 (TX11 4).1 (TX11 4).2.1 (TX11 4).2.2.1 ([.ref (gA Λ 31 0), .int (nI r), .int (nI n)] : List Value).toArray s := Or.inl hM16
  have lb15 : ∀ (q : Nat), (q = if decide (M 34 r = n) = true then 1 else 0) → J p l e ({ frames := 4, cells := 0, slots := 0, locals := 60 }) s m ([.ref (gA Λ 31 0), .int (nI r), .int (nI n)] : List Value).toArray below meth c 5 D cy base (MQ below (va_Qi (fun v u => v = bI (hasN M r n) ∧ u = σ) (Wd D cy base Λ) (Ab base)) ([.ref (gA Λ 31 0), .int (nI r), .int (nI n)] : List Value).toArray s 0 0 (Ab base)) 0 0 Λ 15 [(0, .ref (gA Λ 31 0)), (1, .int (nI r)), (2, .int (nI n))] [.int (nI q)] σ := by
    intro q hq
    refine j_istore_n C [(3, .int (nI q)), (0, .ref (gA Λ 31 0)), (1, .int (nI r)), (2, .int (nI n))] dX11_hasName_15 rfl (by decide) rfl ?_
    refine j_iconst C (nI 0) dX11_hasName_16 (by decide) ?_
    refine j_istore C [(4, .int (nI 0)), (3, .int (nI q)), (0, .ref (gA Λ 31 0)), (1, .int (nI r)), (2, .int (nI n))] dX11_hasName_17 (by decide) rfl ?_
    have lb19 : ∀ (fu : Nat) (q i : Nat), (n - i) < fu → (i ≤ n) → (q = if (decide (M 34 r = n) && eqN M r i) = true then 1 else 0) → J p l e ({ frames := 4, cells := 0, slots := 0, locals := 60 }) s m ([.ref (gA Λ 31 0), .int (nI r), .int (nI n)] : List Value).toArray below meth c 5 D cy base (MQ below (va_Qi (fun v u => v = bI (hasN M r n) ∧ u = σ) (Wd D cy base Λ) (Ab base)) ([.ref (gA Λ 31 0), .int (nI r), .int (nI n)] : List Value).toArray s 0 0 (Ab base)) 0 0 Λ 19 [(0, .ref (gA Λ 31 0)), (1, .int (nI r)), (2, .int (nI n)), (3, .int (nI q)), (4, .int (nI i))] [] σ := by
      intro fu
      induction fu with
      | zero => intro q i hfu; exact absurd hfu (Nat.not_lt_zero _)
      | succ fu ih =>
        intro q i hfu hi hq
        have hq1 : q ≤ 1 := by rw [hq]; split <;> omega
        have ih19 := ih
        refine j_iload C dX11_hasName_19 4 rfl ?_
        refine j_iload_n C dX11_hasName_21 rfl 2 rfl ?_
        refine j_icmp_ge (tgt := 63) C dX11_hasName_22 (by decide) (nI_leI (by omega) (by omega)) (fun h22 => ?_) (fun h22 => ?_)
        · refine j_iload_n C dX11_hasName_63 rfl 3 rfl ?_
          exact j_zret C (by first | rfl | exact nz_b _ | exact nz_n (by omega)) hr hlk (⟨(by rw [hq, show i = n by omega]; show nI (if hasN M r n = true then 1 else 0) = bI (hasN M r n); cases hasN M r n <;> rfl), rfl⟩) dX11_hasName_64
        · refine j_iload_n C dX11_hasName_25 rfl 3 rfl ?_
          refine j_if_eq (tgt := 63) C dX11_hasName_26 (by decide) (nJ_eq0 (by omega)) (fun h26 => ?_) (fun h26 => ?_)
          · refine j_iload_n C dX11_hasName_63 rfl 3 rfl ?_
            exact j_zret C (by first | rfl | exact nz_b _ | exact nz_n (by omega)) hr hlk (⟨(by rw [h26, show hasN M r n = false from hasN_no (i := i) (by cases h : (decide (M 34 r = n) && eqN M r i) <;> simp_all) hi]; rfl), rfl⟩) dX11_hasName_64
          · refine j_aload_n C dX11_hasName_29 rfl 0 rfl ?_
            refine j_getV C hwX11 31 0 3 (MR.in0 hM (by decide) (by decide)) rfl rfl (by decide) rfl 0 (hM.2.2.2 3 rfl) hL13 dX11_hasName_30 ?_
            refine j_bipush C (nI 20) dX11_hasName_33 (by decide) ?_
            refine j_iload_n C dX11_hasName_35 rfl 1 rfl ?_
            refine j_imul C (nI (20 * r)) dX11_hasName_36 (pk_mul _ _) ?_
            refine j_iload C dX11_hasName_37 4 rfl ?_
            refine j_iadd C (nI (20 * r + i)) dX11_hasName_39 (nI_add _ _) ?_
            have hb40 : M 33 (20 * r + i) ≤ 255 := hB 33 (20 * r + i) (decide_eq_true (show 20 * r + i < 800 by omega))
            refine j_bald C 33 0 (20 * r + i) (MR.in0 hM (by decide) (by decide)) rfl rfl 800 (hM.2.2.1 33 (by decide) (by decide)) (by omega) (by omega) (nI (M 33 (20 * r + i))) (hM.1 33 (20 * r + i) (decide_eq_true (show 20 * r + i < 800 by omega))) dX11_hasName_40 ?_
            refine j_aload_n C dX11_hasName_41 rfl 0 rfl ?_
            refine j_getV C hwX11 31 0 1 (MR.in0 hM (by decide) (by decide)) rfl rfl (by decide) rfl 0 (hM.2.2.2 1 rfl) hL7 dX11_hasName_42 ?_
            refine j_iload C dX11_hasName_45 4 rfl ?_
            have hb47 : M 32 i ≤ 255 := hB 32 i (decide_eq_true (show i < 40 by omega))
            refine j_bald C 32 0 i (MR.in0 hM (by decide) (by decide)) rfl rfl 40 (hM.2.2.1 32 (by decide) (by decide)) (by omega) (by omega) ((nI (M 32 i)).toInt8.toInt32) (hM.1 32 i (decide_eq_true (show i < 40 by omega))) dX11_hasName_47 ?_
            refine j_icmp_ne (tgt := 55) C dX11_hasName_48 (by decide) (show (nI (M 33 (20 * r + i)) = (nI (M 32 i)).toInt8.toInt32) ↔ M 33 (20 * r + i) = M 32 i by rw [fa_byte_small (hT i (by omega))]; exact nI_eq (by omega) (by omega)) (fun h48 => ?_) (fun h48 => ?_)
            · refine j_iconst C (nI 0) dX11_hasName_55 (by decide) ?_
              refine j_istore_n C [(3, .int (nI 0)), (0, .ref (gA Λ 31 0)), (1, .int (nI r)), (2, .int (nI n)), (4, .int (nI i))] dX11_hasName_56 rfl (by decide) rfl ?_
              refine j_iinc C [(4, .int (nI (i + 1))), (3, .int (nI 0)), (0, .ref (gA Λ 31 0)), (1, .int (nI r)), (2, .int (nI n))] (nI (i + 1)) dX11_hasName_57 4 rfl (nI_add _ 1) (by decide) rfl ?_
              refine j_goto (tgt := 19) C dX11_hasName_60 (by decide) ?_
              refine j_lv [2, 3, 4, 1, 0] rfl ?_
              exact ih19 0 (i + 1) (by omega) (by omega) (by have e : (decide (M 34 r = n) && eqN M r i) = true := (by cases h : (decide (M 34 r = n) && eqN M r i) <;> simp_all); rw [Bool.and_eq_true] at e; show 0 = if (decide (M 34 r = n) && (eqN M r i && decide (M 33 (20 * r + i) = M 32 i))) = true then 1 else 0; rw [e.1, e.2]; simp [h22, h26, h48])
            · refine j_iconst C (nI 1) dX11_hasName_51 (by decide) ?_
              refine j_goto (tgt := 56) C dX11_hasName_52 (by decide) ?_
              refine j_istore_n C [(3, .int (nI 1)), (0, .ref (gA Λ 31 0)), (1, .int (nI r)), (2, .int (nI n)), (4, .int (nI i))] dX11_hasName_56 rfl (by decide) rfl ?_
              refine j_iinc C [(4, .int (nI (i + 1))), (3, .int (nI 1)), (0, .ref (gA Λ 31 0)), (1, .int (nI r)), (2, .int (nI n))] (nI (i + 1)) dX11_hasName_57 4 rfl (nI_add _ 1) (by decide) rfl ?_
              refine j_goto (tgt := 19) C dX11_hasName_60 (by decide) ?_
              refine j_lv [2, 3, 4, 1, 0] rfl ?_
              exact ih19 1 (i + 1) (by omega) (by omega) (by have e : (decide (M 34 r = n) && eqN M r i) = true := (by cases h : (decide (M 34 r = n) && eqN M r i) <;> simp_all); rw [Bool.and_eq_true] at e; show 1 = if (decide (M 34 r = n) && (eqN M r i && decide (M 33 (20 * r + i) = M 32 i))) = true then 1 else 0; rw [e.1, e.2]; simp [h22, h26, h48])
    refine j_lv [2, 3, 4, 1, 0] rfl ?_
    exact lb19 _ q 0 (Nat.lt_succ_self _) (by omega) (by rw [hq]; simp [eqN])
  refine j_aload_n C dX11_hasName_0 rfl 0 rfl ?_
  refine j_getV C hwX11 31 0 4 (MR.in0 hM (by decide) (by decide)) rfl rfl (by decide) rfl 0 (hM.2.2.2 4 rfl) hL16 dX11_hasName_1 ?_
  refine j_iload_n C dX11_hasName_4 rfl 1 rfl ?_
  have hb5 : M 34 r ≤ 40 := hB 34 r (decide_eq_true (show r < 40 by omega))
  refine j_iald C 34 0 r (MR.in0 hM (by decide) (by decide)) rfl rfl 40 (hM.2.2.1 34 (by decide) (by decide)) (by omega) (by omega) (nI (M 34 r)) (hM.1 34 r (decide_eq_true (show r < 40 by omega))) dX11_hasName_5 ?_
  refine j_iload_n C dX11_hasName_6 rfl 2 rfl ?_
  refine j_icmp_ne (tgt := 14) C dX11_hasName_7 (by decide) (nI_eq (by omega) (by omega)) (fun h7 => ?_) (fun h7 => ?_)
  · refine j_iconst C (nI 0) dX11_hasName_14 (by decide) ?_
    exact lb15 0 (by simp [h7])
  · refine j_iconst C (nI 1) dX11_hasName_10 (by decide) ?_
    refine j_goto (tgt := 15) C dX11_hasName_11 (by decide) ?_
    exact lb15 1 (by simp [h7])

set_option maxHeartbeats 4000000 in
set_option maxRecDepth 100000 in
theorem c_mrout_e1 (l : Launch) (D : va_G) (cy : Nat → ClassId) (base : Nat) (Λ : LY) (σ : HS) (M : MM) (hM0 : MR0 Λ σ M) (h00 : M 31 0 = 0) (hB : MBd M) (n : Int32) (hA : n.toInt < 0 ∨ (M 31 2 : Int) < n.toInt) : Met l yX11_routine wsX11_routine ({ frames := 16, cells := 0, slots := 0, locals := 240 }) (va_Pc [.ref (gA Λ 31 0), .int (n)] (Wd D cy base Λ σ)) (va_Qi (fun v u => MR Λ u (mS M 31 0 1) ∧ Same nMo σ u) (Wd D cy base Λ) (Ab base)) 0 0 (Ab base) := by
  refine j_start (cc := cX11_routine) (nL := 3) (ret := (some .int)) (lv := [(0, .ref (gA Λ 31 0)), (1, .int (n))]) (by decide) rfl (Nat.le_of_ble_eq_true rfl) rfl ?_
  intro p e s m below meth c C hr hlk hnm
  have C : Cx p s m ([.ref (gA Λ 31 0), .int (n)] : List Value).toArray c cX11_routine 3 RX11 wsX11_routine D cy base := C
  have hts := C.2.2.2.2.1
  have hwX11 : ∀ w ∈ u_ws RX11 TX11 26, w ∈ wsX11_routine := by decide +kernel
  have hM73 : (Cond.fieldLink RX11 73 (TX11 0).1 (TX11 0).2.1 (TX11 0).2.2.1).before ([.ref (gA Λ 31 0), .int (n)] : List Value).toArray s = true := hts (.fieldLink RX11 73 "CodeRoomsModel" "thrown" "I") (by decide +kernel)
  have hL73 : FL RX11 73 (TX11 0).1 (TX11 0).2.1 (TX11 0).2.2.1 ([.ref (gA Λ 31 0), .int (n)] : List Value).toArray s := Or.inl hM73
  have hM76 : (Cond.fieldLink RX11 76 (TX11 2).1 (TX11 2).2.1 (TX11 2).2.2.1).before ([.ref (gA Λ 31 0), .int (n)] : List Value).toArray s = true := hts (.fieldLink RX11 76 "CodeRoomsModel" "taped" "I") (by decide +kernel)
  have hL76 : FL RX11 76 (TX11 2).1 (TX11 2).2.1 (TX11 2).2.2.1 ([.ref (gA Λ 31 0), .int (n)] : List Value).toArray s := Or.inl hM76
  have hn : M 31 5 ≤ 40 := hB 31 5 rfl
  have z3 : (nI 3).toInt = 3 := by decide
  have z2 : (nI 2).toInt = 2 := by decide
  have z1 : (nI 1).toInt = 1 := by decide
  have z1000 : (nI 1000).toInt = 1000 := by decide
  have z5 : (nI 5).toInt = 5 := by decide
  have z4 : (nI 4).toInt = 4 := by decide
  have z0 : (nI 0).toInt = 0 := by decide
  have z00 : (0 : Int32).toInt = 0 := by decide
  have z9 : (nI 9).toInt = 9 := by decide
  have z100 : (nI 100).toInt = 100 := by decide
  have z40 : (nI 40).toInt = 40 := by decide
  have z6 : (nI 6).toInt = 6 := by decide
  have htp : M 31 2 ≤ 40 := hB 31 2 rfl
  have htt : (nI (M 31 2)).toInt = (M 31 2 : Int) := nI_toInt (by omega)
  refine j_aload_n C dX11_routine_0 rfl 0 rfl ?_
  refine j_iconst C (nI 0) dX11_routine_1 (by decide) ?_
  refine j_putI C hwX11 31 0 0 (MR0.in0 hM0) rfl rfl (by decide) rfl tyX11 tyX11_ok nmX11 rfl rfl rfl hL73 dX11_routine_2 ?_
  have hM := MR0.start hM0 h00
  have hs0 : Same nMo σ (sI σ 31 0 0 (nI 0)) := Same.sI Same.rf (by decide)
  generalize sI σ 31 0 0 (nI 0) = σ0 at hM hs0 ⊢
  refine j_aload_n C dX11_routine_5 rfl 0 rfl ?_
  refine j_iload_n C dX11_routine_6 rfl 1 rfl ?_
  refine j_if_lt (tgt := 18) C dX11_routine_7 (by decide) (fa_lt _ _) (fun h7 => ?_) (fun h7 => ?_)
  · refine j_iconst C (nI 1) dX11_routine_18 (by decide) ?_
    refine j_goto (tgt := 23) C dX11_routine_19 (by decide) ?_
    refine j_iconst C (nI 1) dX11_routine_23 (by decide) ?_
    refine c_i0 C (r_V C 31 0 [.int (nI 1), .int (nI 1)] (c_X11_bad1 l D cy base Λ σ0 M hM 1) (cwV 2 hts gX11_routine_X11_bad rfl rfl rfl (by decide +kernel) ⟨by decide, by decide⟩) (MR.in0 hM (by decide) (by decide)) rfl rfl rfl rfl (Nat.le_of_ble_eq_true rfl) dX11_routine_24 ⟨by decide, by decide⟩) (fun rv ub_2 hp => ?_)
    obtain ⟨hp1, hMb_2, hp3⟩ := hp
    have hsb_2 := Same.tr hs0 hp3
    rw [hp1]
    refine j_if_ne (tgt := 52) C (P := False) dX11_routine_27 (by decide) (by decide) (fun z => ?_) (fun z => ?_)
    · refine j_iconst C (nI 0) dX11_routine_52 (by decide) ?_
      exact j_iret C hr hlk (⟨hMb_2, hsb_2⟩) dX11_routine_53
    · exact z.elim
  · refine j_iload_n C dX11_routine_10 rfl 1 rfl ?_
    refine j_aload_n C dX11_routine_11 rfl 0 rfl ?_
    have hb12 : M 31 2 ≤ 40 := hB 31 2 rfl
    refine j_getI C hwX11 31 0 2 (MR.in0 hM (by decide) (by decide)) rfl rfl (by decide) rfl (nI (M 31 2)) (hM.1 31 2 rfl) hL76 dX11_routine_12 ?_
    refine j_icmp_le (tgt := 22) C dX11_routine_15 (by decide) (fa_le _ _) (fun h15 => ?_) (fun h15 => ?_)
    · omega
    · refine j_iconst C (nI 1) dX11_routine_18 (by decide) ?_
      refine j_goto (tgt := 23) C dX11_routine_19 (by decide) ?_
      refine j_iconst C (nI 1) dX11_routine_23 (by decide) ?_
      refine c_i0 C (r_V C 31 0 [.int (nI 1), .int (nI 1)] (c_X11_bad1 l D cy base Λ σ0 M hM 1) (cwV 2 hts gX11_routine_X11_bad rfl rfl rfl (by decide +kernel) ⟨by decide, by decide⟩) (MR.in0 hM (by decide) (by decide)) rfl rfl rfl rfl (Nat.le_of_ble_eq_true rfl) dX11_routine_24 ⟨by decide, by decide⟩) (fun rv ub_5 hp => ?_)
      obtain ⟨hp1, hMb_5, hp3⟩ := hp
      have hsb_5 := Same.tr hs0 hp3
      rw [hp1]
      refine j_if_ne (tgt := 52) C (P := False) dX11_routine_27 (by decide) (by decide) (fun z => ?_) (fun z => ?_)
      · refine j_iconst C (nI 0) dX11_routine_52 (by decide) ?_
        exact j_iret C hr hlk (⟨hMb_5, hsb_5⟩) dX11_routine_53
      · exact z.elim

set_option maxHeartbeats 4000000 in
set_option maxRecDepth 100000 in
theorem c_mrout_e2 (l : Launch) (D : va_G) (cy : Nat → ClassId) (base : Nat) (Λ : LY) (σ : HS) (M : MM) (hM0 : MR0 Λ σ M) (h00 : M 31 0 = 0) (hB : MBd M)  (n : Nat) (hA : n ≤ M 31 2) (h40 : M 31 5 = 40) : Met l yX11_routine wsX11_routine ({ frames := 16, cells := 0, slots := 0, locals := 240 }) (va_Pc [.ref (gA Λ 31 0), .int (nI n)] (Wd D cy base Λ σ)) (va_Qi (fun v u => MR Λ u (mS M 31 0 2) ∧ Same nMo σ u) (Wd D cy base Λ) (Ab base)) 0 0 (Ab base) := by
  refine j_start (cc := cX11_routine) (nL := 3) (ret := (some .int)) (lv := [(0, .ref (gA Λ 31 0)), (1, .int (nI n))]) (by decide) rfl (Nat.le_of_ble_eq_true rfl) rfl ?_
  intro p e s m below meth c C hr hlk hnm
  have C : Cx p s m ([.ref (gA Λ 31 0), .int (nI n)] : List Value).toArray c cX11_routine 3 RX11 wsX11_routine D cy base := C
  have hts := C.2.2.2.2.1
  have hwX11 : ∀ w ∈ u_ws RX11 TX11 26, w ∈ wsX11_routine := by decide +kernel
  have hM73 : (Cond.fieldLink RX11 73 (TX11 0).1 (TX11 0).2.1 (TX11 0).2.2.1).before ([.ref (gA Λ 31 0), .int (nI n)] : List Value).toArray s = true := hts (.fieldLink RX11 73 "CodeRoomsModel" "thrown" "I") (by decide +kernel)
  have hL73 : FL RX11 73 (TX11 0).1 (TX11 0).2.1 (TX11 0).2.2.1 ([.ref (gA Λ 31 0), .int (nI n)] : List Value).toArray s := Or.inl hM73
  have hM76 : (Cond.fieldLink RX11 76 (TX11 2).1 (TX11 2).2.1 (TX11 2).2.2.1).before ([.ref (gA Λ 31 0), .int (nI n)] : List Value).toArray s = true := hts (.fieldLink RX11 76 "CodeRoomsModel" "taped" "I") (by decide +kernel)
  have hL76 : FL RX11 76 (TX11 2).1 (TX11 2).2.1 (TX11 2).2.2.1 ([.ref (gA Λ 31 0), .int (nI n)] : List Value).toArray s := Or.inl hM76
  have hM83 : (Cond.fieldLink RX11 83 (TX11 5).1 (TX11 5).2.1 (TX11 5).2.2.1).before ([.ref (gA Λ 31 0), .int (nI n)] : List Value).toArray s = true := hts (.fieldLink RX11 83 "CodeRoomsModel" "many" "I") (by decide +kernel)
  have hL83 : FL RX11 83 (TX11 5).1 (TX11 5).2.1 (TX11 5).2.2.1 ([.ref (gA Λ 31 0), .int (nI n)] : List Value).toArray s := Or.inl hM83
  have hn : M 31 5 ≤ 40 := hB 31 5 rfl
  have z3 : (nI 3).toInt = 3 := by decide
  have z2 : (nI 2).toInt = 2 := by decide
  have z1 : (nI 1).toInt = 1 := by decide
  have z1000 : (nI 1000).toInt = 1000 := by decide
  have z5 : (nI 5).toInt = 5 := by decide
  have z4 : (nI 4).toInt = 4 := by decide
  have z0 : (nI 0).toInt = 0 := by decide
  have z00 : (0 : Int32).toInt = 0 := by decide
  have z9 : (nI 9).toInt = 9 := by decide
  have z100 : (nI 100).toInt = 100 := by decide
  have z40 : (nI 40).toInt = 40 := by decide
  have z6 : (nI 6).toInt = 6 := by decide
  have htp : M 31 2 ≤ 40 := hB 31 2 rfl
  have htt : (nI (M 31 2)).toInt = (M 31 2 : Int) := nI_toInt (by omega)
  refine j_aload_n C dX11_routine_0 rfl 0 rfl ?_
  refine j_iconst C (nI 0) dX11_routine_1 (by decide) ?_
  refine j_putI C hwX11 31 0 0 (MR0.in0 hM0) rfl rfl (by decide) rfl tyX11 tyX11_ok nmX11 rfl rfl rfl hL73 dX11_routine_2 ?_
  have hM := MR0.start hM0 h00
  have hs0 : Same nMo σ (sI σ 31 0 0 (nI 0)) := Same.sI Same.rf (by decide)
  generalize sI σ 31 0 0 (nI 0) = σ0 at hM hs0 ⊢
  refine j_aload_n C dX11_routine_5 rfl 0 rfl ?_
  refine j_iload_n C dX11_routine_6 rfl 1 rfl ?_
  refine j_if_lt (tgt := 18) C dX11_routine_7 (by decide) (nJ_lt0 (by omega)) (fun h7 => ?_) (fun h7 => ?_)
  · first | omega | exact h7.elim
  · refine j_iload_n C dX11_routine_10 rfl 1 rfl ?_
    refine j_aload_n C dX11_routine_11 rfl 0 rfl ?_
    have hb12 : M 31 2 ≤ 40 := hB 31 2 rfl
    refine j_getI C hwX11 31 0 2 (MR.in0 hM (by decide) (by decide)) rfl rfl (by decide) rfl (nI (M 31 2)) (hM.1 31 2 rfl) hL76 dX11_routine_12 ?_
    refine j_icmp_le (tgt := 22) C dX11_routine_15 (by decide) (nI_leI (by omega) (by omega)) (fun h15 => ?_) (fun h15 => ?_)
    · refine j_iconst C (nI 0) dX11_routine_22 (by decide) ?_
      refine j_iconst C (nI 1) dX11_routine_23 (by decide) ?_
      refine c_i0 C (r_V C 31 0 [.int (nI 0), .int (nI 1)] (c_X11_bad0 l D cy base Λ σ0 (MR.in0 hM (by decide) (by decide)) 1) (cwV 2 hts gX11_routine_X11_bad rfl rfl rfl (by decide +kernel) ⟨by decide, by decide⟩) (MR.in0 hM (by decide) (by decide)) rfl rfl rfl rfl (Nat.le_of_ble_eq_true rfl) dX11_routine_24 ⟨by decide, by decide⟩) (fun rv uu hp => ?_)
      rw [hp.1, hp.2]
      refine j_if_ne (tgt := 52) C (P := True) dX11_routine_27 (by decide) (by decide) (fun z => ?_) (fun z => ?_)
      · exact absurd trivial z
      · refine j_aload_n C dX11_routine_30 rfl 0 rfl ?_
        refine j_aload_n C dX11_routine_31 rfl 0 rfl ?_
        have hb32 : M 31 5 ≤ 40 := hB 31 5 rfl
        refine j_getI C hwX11 31 0 5 (MR.in0 hM (by decide) (by decide)) rfl rfl (by decide) rfl (nI (M 31 5)) (hM.1 31 5 rfl) hL83 dX11_routine_32 ?_
        refine j_bipush C (nI 40) dX11_routine_35 (by decide) ?_
        refine j_icmp_ne (tgt := 44) C dX11_routine_37 (by decide) (nI_eq (by omega) (by omega)) (fun h37 => ?_) (fun h37 => ?_)
        · omega
        · refine j_iconst C (nI 1) dX11_routine_40 (by decide) ?_
          refine j_goto (tgt := 45) C dX11_routine_41 (by decide) ?_
          refine j_iconst C (nI 2) dX11_routine_45 (by decide) ?_
          refine c_i0 C (r_V C 31 0 [.int (nI 1), .int (nI 2)] (c_X11_bad1 l D cy base Λ σ0 M hM 2) (cwV 2 hts gX11_routine_X11_bad rfl rfl rfl (by decide +kernel) ⟨by decide, by decide⟩) (MR.in0 hM (by decide) (by decide)) rfl rfl rfl rfl (Nat.le_of_ble_eq_true rfl) dX11_routine_46 ⟨by decide, by decide⟩) (fun rv ub_5 hp => ?_)
          obtain ⟨hp1, hMb_5, hp3⟩ := hp
          have hsb_5 := Same.tr hs0 hp3
          rw [hp1]
          refine j_if_eq (tgt := 54) C (P := False) dX11_routine_49 (by decide) (by decide) (fun z => ?_) (fun z => ?_)
          · exact z.elim
          · refine j_iconst C (nI 0) dX11_routine_52 (by decide) ?_
            exact j_iret C hr hlk (⟨hMb_5, hsb_5⟩) dX11_routine_53
    · first | omega | exact h7.elim

set_option maxHeartbeats 4000000 in
set_option maxRecDepth 100000 in
theorem c_mrout_m1 (l : Launch) (D : va_G) (cy : Nat → ClassId) (base : Nat) (Λ : LY) (σ : HS) (M : MM) (hM0 : MR0 Λ σ M) (h00 : M 31 0 = 0) (hB : MBd M)  (n : Nat) (hA : n ≤ M 31 2) (h40 : M 31 5 < 40) (hN : nameB (mS M 31 2 0) n = false) : Met l yX11_routine wsX11_routine ({ frames := 16, cells := 0, slots := 0, locals := 240 }) (va_Pc [.ref (gA Λ 31 0), .int (nI n)] (Wd D cy base Λ σ)) (va_Qi (fun v u => MR Λ u (mS M 31 2 0) ∧ Same nMo σ u ∧ v = -1) (Wd D cy base Λ) (Ab base)) 0 0 (Ab base) := by
  refine j_start (cc := cX11_routine) (nL := 3) (ret := (some .int)) (lv := [(0, .ref (gA Λ 31 0)), (1, .int (nI n))]) (by decide) rfl (Nat.le_of_ble_eq_true rfl) rfl ?_
  intro p e s m below meth c C hr hlk hnm
  have C : Cx p s m ([.ref (gA Λ 31 0), .int (nI n)] : List Value).toArray c cX11_routine 3 RX11 wsX11_routine D cy base := C
  have hts := C.2.2.2.2.1
  have hwX11 : ∀ w ∈ u_ws RX11 TX11 26, w ∈ wsX11_routine := by decide +kernel
  have hM73 : (Cond.fieldLink RX11 73 (TX11 0).1 (TX11 0).2.1 (TX11 0).2.2.1).before ([.ref (gA Λ 31 0), .int (nI n)] : List Value).toArray s = true := hts (.fieldLink RX11 73 "CodeRoomsModel" "thrown" "I") (by decide +kernel)
  have hL73 : FL RX11 73 (TX11 0).1 (TX11 0).2.1 (TX11 0).2.2.1 ([.ref (gA Λ 31 0), .int (nI n)] : List Value).toArray s := Or.inl hM73
  have hM76 : (Cond.fieldLink RX11 76 (TX11 2).1 (TX11 2).2.1 (TX11 2).2.2.1).before ([.ref (gA Λ 31 0), .int (nI n)] : List Value).toArray s = true := hts (.fieldLink RX11 76 "CodeRoomsModel" "taped" "I") (by decide +kernel)
  have hL76 : FL RX11 76 (TX11 2).1 (TX11 2).2.1 (TX11 2).2.2.1 ([.ref (gA Λ 31 0), .int (nI n)] : List Value).toArray s := Or.inl hM76
  have hM83 : (Cond.fieldLink RX11 83 (TX11 5).1 (TX11 5).2.1 (TX11 5).2.2.1).before ([.ref (gA Λ 31 0), .int (nI n)] : List Value).toArray s = true := hts (.fieldLink RX11 83 "CodeRoomsModel" "many" "I") (by decide +kernel)
  have hL83 : FL RX11 83 (TX11 5).1 (TX11 5).2.1 (TX11 5).2.2.1 ([.ref (gA Λ 31 0), .int (nI n)] : List Value).toArray s := Or.inl hM83
  have hn : M 31 5 ≤ 40 := hB 31 5 rfl
  have z3 : (nI 3).toInt = 3 := by decide
  have z2 : (nI 2).toInt = 2 := by decide
  have z1 : (nI 1).toInt = 1 := by decide
  have z1000 : (nI 1000).toInt = 1000 := by decide
  have z5 : (nI 5).toInt = 5 := by decide
  have z4 : (nI 4).toInt = 4 := by decide
  have z0 : (nI 0).toInt = 0 := by decide
  have z00 : (0 : Int32).toInt = 0 := by decide
  have z9 : (nI 9).toInt = 9 := by decide
  have z100 : (nI 100).toInt = 100 := by decide
  have z40 : (nI 40).toInt = 40 := by decide
  have z6 : (nI 6).toInt = 6 := by decide
  have htp : M 31 2 ≤ 40 := hB 31 2 rfl
  have htt : (nI (M 31 2)).toInt = (M 31 2 : Int) := nI_toInt (by omega)
  refine j_aload_n C dX11_routine_0 rfl 0 rfl ?_
  refine j_iconst C (nI 0) dX11_routine_1 (by decide) ?_
  refine j_putI C hwX11 31 0 0 (MR0.in0 hM0) rfl rfl (by decide) rfl tyX11 tyX11_ok nmX11 rfl rfl rfl hL73 dX11_routine_2 ?_
  have hM := MR0.start hM0 h00
  have hs0 : Same nMo σ (sI σ 31 0 0 (nI 0)) := Same.sI Same.rf (by decide)
  generalize sI σ 31 0 0 (nI 0) = σ0 at hM hs0 ⊢
  refine j_aload_n C dX11_routine_5 rfl 0 rfl ?_
  refine j_iload_n C dX11_routine_6 rfl 1 rfl ?_
  refine j_if_lt (tgt := 18) C dX11_routine_7 (by decide) (nJ_lt0 (by omega)) (fun h7 => ?_) (fun h7 => ?_)
  · first | omega | exact h7.elim
  · refine j_iload_n C dX11_routine_10 rfl 1 rfl ?_
    refine j_aload_n C dX11_routine_11 rfl 0 rfl ?_
    have hb12 : M 31 2 ≤ 40 := hB 31 2 rfl
    refine j_getI C hwX11 31 0 2 (MR.in0 hM (by decide) (by decide)) rfl rfl (by decide) rfl (nI (M 31 2)) (hM.1 31 2 rfl) hL76 dX11_routine_12 ?_
    refine j_icmp_le (tgt := 22) C dX11_routine_15 (by decide) (nI_leI (by omega) (by omega)) (fun h15 => ?_) (fun h15 => ?_)
    · refine j_iconst C (nI 0) dX11_routine_22 (by decide) ?_
      refine j_iconst C (nI 1) dX11_routine_23 (by decide) ?_
      refine c_i0 C (r_V C 31 0 [.int (nI 0), .int (nI 1)] (c_X11_bad0 l D cy base Λ σ0 (MR.in0 hM (by decide) (by decide)) 1) (cwV 2 hts gX11_routine_X11_bad rfl rfl rfl (by decide +kernel) ⟨by decide, by decide⟩) (MR.in0 hM (by decide) (by decide)) rfl rfl rfl rfl (Nat.le_of_ble_eq_true rfl) dX11_routine_24 ⟨by decide, by decide⟩) (fun rv uu hp => ?_)
      rw [hp.1, hp.2]
      refine j_if_ne (tgt := 52) C (P := True) dX11_routine_27 (by decide) (by decide) (fun z => ?_) (fun z => ?_)
      · exact absurd trivial z
      · refine j_aload_n C dX11_routine_30 rfl 0 rfl ?_
        refine j_aload_n C dX11_routine_31 rfl 0 rfl ?_
        have hb32 : M 31 5 ≤ 40 := hB 31 5 rfl
        refine j_getI C hwX11 31 0 5 (MR.in0 hM (by decide) (by decide)) rfl rfl (by decide) rfl (nI (M 31 5)) (hM.1 31 5 rfl) hL83 dX11_routine_32 ?_
        refine j_bipush C (nI 40) dX11_routine_35 (by decide) ?_
        refine j_icmp_ne (tgt := 44) C dX11_routine_37 (by decide) (nI_eq (by omega) (by omega)) (fun h37 => ?_) (fun h37 => ?_)
        · refine j_iconst C (nI 0) dX11_routine_44 (by decide) ?_
          refine j_iconst C (nI 2) dX11_routine_45 (by decide) ?_
          refine c_i0 C (r_V C 31 0 [.int (nI 0), .int (nI 2)] (c_X11_bad0 l D cy base Λ σ0 (MR.in0 hM (by decide) (by decide)) 2) (cwV 2 hts gX11_routine_X11_bad rfl rfl rfl (by decide +kernel) ⟨by decide, by decide⟩) (MR.in0 hM (by decide) (by decide)) rfl rfl rfl rfl (Nat.le_of_ble_eq_true rfl) dX11_routine_46 ⟨by decide, by decide⟩) (fun rv uu hp => ?_)
          rw [hp.1, hp.2]
          refine j_if_eq (tgt := 54) C (P := True) dX11_routine_49 (by decide) (by decide) (fun z => ?_) (fun z => ?_)
          · refine j_aload_n C dX11_routine_54 rfl 0 rfl ?_
            refine j_iconst C (nI 0) dX11_routine_55 (by decide) ?_
            refine j_putI C hwX11 31 0 2 (MR.in0 hM (by decide) (by decide)) rfl rfl (by decide) rfl tyX11 tyX11_ok nmX11 rfl rfl rfl hL76 dX11_routine_56 ?_
            have hM_6 := MR.set (t := 31) (k := 2) (x := 0) (v := (nI 0)) hM rfl
            have hs_7 := Same.sI (t := 31) (i := 0) (k := 2) (x := (nI 0)) hs0 (by decide)
            refine j_aload_n C dX11_routine_59 rfl 0 rfl ?_
            refine j_iload_n C dX11_routine_60 rfl 1 rfl ?_
            refine c_i0 C (r_V C 31 0 [.int (nI n)] (c_X11_isName l D cy base Λ (sI σ0 31 0 2 (nI 0)) (mS M 31 2 0) hM_6 (hB.set (t := 31) (k := 2) (x := 0) (Nat.zero_le _)) n (by omega)) (cwV 1 hts gX11_routine_X11_isName rfl rfl rfl (by decide +kernel) ⟨by decide, by decide⟩) (MR.in0 hM_6 (by decide) (by decide)) rfl rfl rfl rfl (Nat.le_of_ble_eq_true rfl) dX11_routine_61 ⟨by decide, by decide⟩) (fun rv uu hp => ?_)
            rw [hp.1, hp.2]
            refine j_ifne_b (tgt := 69) C dX11_routine_64 (by decide) (fun h64 => ?_) (fun h64 => ?_)
            · exact absurd (h64.symm.trans hN) (by decide)
            · refine j_iconst C ((-1)) dX11_routine_67 (by decide) ?_
              exact j_iret C hr hlk (⟨hM_6, hs_7, rfl⟩) dX11_routine_68
          · exact absurd trivial z
        · omega
    · first | omega | exact h7.elim

set_option maxHeartbeats 4000000 in
set_option maxRecDepth 100000 in
theorem c_mrout_m2 (l : Launch) (D : va_G) (cy : Nat → ClassId) (base : Nat) (Λ : LY) (σ : HS) (M : MM) (hM0 : MR0 Λ σ M) (h00 : M 31 0 = 0) (hB : MBd M)  (n : Nat) (hA : n ≤ M 31 2) (h40 : M 31 5 < 40) (hN : nameB (mS M 31 2 0) n = true) (hD : ∃ r, r < M 31 5 ∧ hasN (mS M 31 2 0) r n = true) : Met l yX11_routine wsX11_routine ({ frames := 16, cells := 0, slots := 0, locals := 240 }) (va_Pc [.ref (gA Λ 31 0), .int (nI n)] (Wd D cy base Λ σ)) (va_Qi (fun v u => MR Λ u (mS M 31 2 0) ∧ Same nMo σ u ∧ v = -2) (Wd D cy base Λ) (Ab base)) 0 0 (Ab base) := by
  refine j_start (cc := cX11_routine) (nL := 3) (ret := (some .int)) (lv := [(0, .ref (gA Λ 31 0)), (1, .int (nI n))]) (by decide) rfl (Nat.le_of_ble_eq_true rfl) rfl ?_
  intro p e s m below meth c C hr hlk hnm
  have C : Cx p s m ([.ref (gA Λ 31 0), .int (nI n)] : List Value).toArray c cX11_routine 3 RX11 wsX11_routine D cy base := C
  have hts := C.2.2.2.2.1
  have hwX11 : ∀ w ∈ u_ws RX11 TX11 26, w ∈ wsX11_routine := by decide +kernel
  have hM73 : (Cond.fieldLink RX11 73 (TX11 0).1 (TX11 0).2.1 (TX11 0).2.2.1).before ([.ref (gA Λ 31 0), .int (nI n)] : List Value).toArray s = true := hts (.fieldLink RX11 73 "CodeRoomsModel" "thrown" "I") (by decide +kernel)
  have hL73 : FL RX11 73 (TX11 0).1 (TX11 0).2.1 (TX11 0).2.2.1 ([.ref (gA Λ 31 0), .int (nI n)] : List Value).toArray s := Or.inl hM73
  have hM76 : (Cond.fieldLink RX11 76 (TX11 2).1 (TX11 2).2.1 (TX11 2).2.2.1).before ([.ref (gA Λ 31 0), .int (nI n)] : List Value).toArray s = true := hts (.fieldLink RX11 76 "CodeRoomsModel" "taped" "I") (by decide +kernel)
  have hL76 : FL RX11 76 (TX11 2).1 (TX11 2).2.1 (TX11 2).2.2.1 ([.ref (gA Λ 31 0), .int (nI n)] : List Value).toArray s := Or.inl hM76
  have hM83 : (Cond.fieldLink RX11 83 (TX11 5).1 (TX11 5).2.1 (TX11 5).2.2.1).before ([.ref (gA Λ 31 0), .int (nI n)] : List Value).toArray s = true := hts (.fieldLink RX11 83 "CodeRoomsModel" "many" "I") (by decide +kernel)
  have hL83 : FL RX11 83 (TX11 5).1 (TX11 5).2.1 (TX11 5).2.2.1 ([.ref (gA Λ 31 0), .int (nI n)] : List Value).toArray s := Or.inl hM83
  have hn : M 31 5 ≤ 40 := hB 31 5 rfl
  have z3 : (nI 3).toInt = 3 := by decide
  have z2 : (nI 2).toInt = 2 := by decide
  have z1 : (nI 1).toInt = 1 := by decide
  have z1000 : (nI 1000).toInt = 1000 := by decide
  have z5 : (nI 5).toInt = 5 := by decide
  have z4 : (nI 4).toInt = 4 := by decide
  have z0 : (nI 0).toInt = 0 := by decide
  have z00 : (0 : Int32).toInt = 0 := by decide
  have z9 : (nI 9).toInt = 9 := by decide
  have z100 : (nI 100).toInt = 100 := by decide
  have z40 : (nI 40).toInt = 40 := by decide
  have z6 : (nI 6).toInt = 6 := by decide
  have htp : M 31 2 ≤ 40 := hB 31 2 rfl
  have htt : (nI (M 31 2)).toInt = (M 31 2 : Int) := nI_toInt (by omega)
  have hNn := nameB_len hN
  have hT : ∀ k, k < n → (mS M 31 2 0) 32 k < 128 := nameB_lt hN
  refine j_aload_n C dX11_routine_0 rfl 0 rfl ?_
  refine j_iconst C (nI 0) dX11_routine_1 (by decide) ?_
  refine j_putI C hwX11 31 0 0 (MR0.in0 hM0) rfl rfl (by decide) rfl tyX11 tyX11_ok nmX11 rfl rfl rfl hL73 dX11_routine_2 ?_
  have hM := MR0.start hM0 h00
  have hs0 : Same nMo σ (sI σ 31 0 0 (nI 0)) := Same.sI Same.rf (by decide)
  generalize sI σ 31 0 0 (nI 0) = σ0 at hM hs0 ⊢
  refine j_aload_n C dX11_routine_5 rfl 0 rfl ?_
  refine j_iload_n C dX11_routine_6 rfl 1 rfl ?_
  refine j_if_lt (tgt := 18) C dX11_routine_7 (by decide) (nJ_lt0 (by omega)) (fun h7 => ?_) (fun h7 => ?_)
  · first | omega | exact h7.elim
  · refine j_iload_n C dX11_routine_10 rfl 1 rfl ?_
    refine j_aload_n C dX11_routine_11 rfl 0 rfl ?_
    have hb12 : M 31 2 ≤ 40 := hB 31 2 rfl
    refine j_getI C hwX11 31 0 2 (MR.in0 hM (by decide) (by decide)) rfl rfl (by decide) rfl (nI (M 31 2)) (hM.1 31 2 rfl) hL76 dX11_routine_12 ?_
    refine j_icmp_le (tgt := 22) C dX11_routine_15 (by decide) (nI_leI (by omega) (by omega)) (fun h15 => ?_) (fun h15 => ?_)
    · refine j_iconst C (nI 0) dX11_routine_22 (by decide) ?_
      refine j_iconst C (nI 1) dX11_routine_23 (by decide) ?_
      refine c_i0 C (r_V C 31 0 [.int (nI 0), .int (nI 1)] (c_X11_bad0 l D cy base Λ σ0 (MR.in0 hM (by decide) (by decide)) 1) (cwV 2 hts gX11_routine_X11_bad rfl rfl rfl (by decide +kernel) ⟨by decide, by decide⟩) (MR.in0 hM (by decide) (by decide)) rfl rfl rfl rfl (Nat.le_of_ble_eq_true rfl) dX11_routine_24 ⟨by decide, by decide⟩) (fun rv uu hp => ?_)
      rw [hp.1, hp.2]
      refine j_if_ne (tgt := 52) C (P := True) dX11_routine_27 (by decide) (by decide) (fun z => ?_) (fun z => ?_)
      · exact absurd trivial z
      · refine j_aload_n C dX11_routine_30 rfl 0 rfl ?_
        refine j_aload_n C dX11_routine_31 rfl 0 rfl ?_
        have hb32 : M 31 5 ≤ 40 := hB 31 5 rfl
        refine j_getI C hwX11 31 0 5 (MR.in0 hM (by decide) (by decide)) rfl rfl (by decide) rfl (nI (M 31 5)) (hM.1 31 5 rfl) hL83 dX11_routine_32 ?_
        refine j_bipush C (nI 40) dX11_routine_35 (by decide) ?_
        refine j_icmp_ne (tgt := 44) C dX11_routine_37 (by decide) (nI_eq (by omega) (by omega)) (fun h37 => ?_) (fun h37 => ?_)
        · refine j_iconst C (nI 0) dX11_routine_44 (by decide) ?_
          refine j_iconst C (nI 2) dX11_routine_45 (by decide) ?_
          refine c_i0 C (r_V C 31 0 [.int (nI 0), .int (nI 2)] (c_X11_bad0 l D cy base Λ σ0 (MR.in0 hM (by decide) (by decide)) 2) (cwV 2 hts gX11_routine_X11_bad rfl rfl rfl (by decide +kernel) ⟨by decide, by decide⟩) (MR.in0 hM (by decide) (by decide)) rfl rfl rfl rfl (Nat.le_of_ble_eq_true rfl) dX11_routine_46 ⟨by decide, by decide⟩) (fun rv uu hp => ?_)
          rw [hp.1, hp.2]
          refine j_if_eq (tgt := 54) C (P := True) dX11_routine_49 (by decide) (by decide) (fun z => ?_) (fun z => ?_)
          · refine j_aload_n C dX11_routine_54 rfl 0 rfl ?_
            refine j_iconst C (nI 0) dX11_routine_55 (by decide) ?_
            refine j_putI C hwX11 31 0 2 (MR.in0 hM (by decide) (by decide)) rfl rfl (by decide) rfl tyX11 tyX11_ok nmX11 rfl rfl rfl hL76 dX11_routine_56 ?_
            have hM_6 := MR.set (t := 31) (k := 2) (x := 0) (v := (nI 0)) hM rfl
            have hs_7 := Same.sI (t := 31) (i := 0) (k := 2) (x := (nI 0)) hs0 (by decide)
            refine j_aload_n C dX11_routine_59 rfl 0 rfl ?_
            refine j_iload_n C dX11_routine_60 rfl 1 rfl ?_
            refine c_i0 C (r_V C 31 0 [.int (nI n)] (c_X11_isName l D cy base Λ (sI σ0 31 0 2 (nI 0)) (mS M 31 2 0) hM_6 (hB.set (t := 31) (k := 2) (x := 0) (Nat.zero_le _)) n (by omega)) (cwV 1 hts gX11_routine_X11_isName rfl rfl rfl (by decide +kernel) ⟨by decide, by decide⟩) (MR.in0 hM_6 (by decide) (by decide)) rfl rfl rfl rfl (Nat.le_of_ble_eq_true rfl) dX11_routine_61 ⟨by decide, by decide⟩) (fun rv uu hp => ?_)
            rw [hp.1, hp.2]
            refine j_ifne_b (tgt := 69) C dX11_routine_64 (by decide) (fun h64 => ?_) (fun h64 => ?_)
            · refine j_iconst C (nI 0) dX11_routine_69 (by decide) ?_
              refine j_istore_n C [(2, .int (nI 0)), (0, .ref (gA Λ 31 0)), (1, .int (nI n))] dX11_routine_70 rfl (by decide) rfl ?_
              have lb71 : ∀ (fu : Nat) (r : Nat), (M 31 5 - r) < fu → (r ≤ M 31 5) → (∀ x, x < r → hasN (mS M 31 2 0) x n = false) → J p l e ({ frames := 16, cells := 0, slots := 0, locals := 240 }) s m ([.ref (gA Λ 31 0), .int (nI n)] : List Value).toArray below meth c 3 D cy base (MQ below (va_Qi (fun v u => MR Λ u (mS M 31 2 0) ∧ Same nMo σ u ∧ v = -2) (Wd D cy base Λ) (Ab base)) ([.ref (gA Λ 31 0), .int (nI n)] : List Value).toArray s 0 0 (Ab base)) 0 0 Λ 71 [(0, .ref (gA Λ 31 0)), (1, .int (nI n)), (2, .int (nI r))] [] (sI σ0 31 0 2 (nI 0)) := by
                intro fu
                induction fu with
                | zero => intro r hfu; exact absurd hfu (Nat.not_lt_zero _)
                | succ fu ih =>
                  intro r hfu hr0 hno
                  have ih71 := ih
                  refine j_iload_n C dX11_routine_71 rfl 2 rfl ?_
                  refine j_aload_n C dX11_routine_72 rfl 0 rfl ?_
                  have hb73 : M 31 5 ≤ 40 := hB 31 5 rfl
                  refine j_getI C hwX11 31 0 5 (MR.in0 hM_6 (by decide) (by decide)) rfl rfl (by decide) rfl (nI (M 31 5)) ((hM_6.1 31 5 rfl).trans (congrArg (menc 31) (mS_ne (Or.inr (by decide))))) hL83 dX11_routine_73 ?_
                  refine j_icmp_ge (tgt := 97) C dX11_routine_76 (by decide) (nI_leI (by omega) (by omega)) (fun h76 => ?_) (fun h76 => ?_)
                  · obtain ⟨x, hx1, hx2⟩ := hD; exact absurd ((hno x (by omega)).symm.trans hx2) (by decide)
                  · refine j_aload_n C dX11_routine_79 rfl 0 rfl ?_
                    refine j_iload_n C dX11_routine_80 rfl 2 rfl ?_
                    refine j_iload_n C dX11_routine_81 rfl 1 rfl ?_
                    refine c_i0 C (r_V C 31 0 [.int (nI r), .int (nI n)] (c_X11_hasName l D cy base Λ (sI σ0 31 0 2 (nI 0)) (mS M 31 2 0) hM_6 (hB.set (t := 31) (k := 2) (x := 0) (Nat.zero_le _)) r n (by omega) (by omega) hT) (cwV 2 hts gX11_routine_X11_hasName rfl rfl rfl (by decide +kernel) ⟨by decide, by decide⟩) (MR.in0 hM_6 (by decide) (by decide)) rfl rfl rfl rfl (Nat.le_of_ble_eq_true rfl) dX11_routine_82 ⟨by decide, by decide⟩) (fun rv uu hp => ?_)
                    rw [hp.1, hp.2]
                    refine j_ifeq_b (tgt := 91) C dX11_routine_85 (by decide) (fun h85 => ?_) (fun h85 => ?_)
                    · refine j_iinc C [(2, .int (nI (r + 1))), (0, .ref (gA Λ 31 0)), (1, .int (nI n))] (nI (r + 1)) dX11_routine_91 2 rfl (nI_add _ 1) (by decide) rfl ?_
                      refine j_goto (tgt := 71) C dX11_routine_94 (by decide) ?_
                      refine j_lv [1, 2, 0] rfl ?_
                      exact ih71 (r + 1) (by omega) (by omega) (fun x hx => (Nat.lt_succ_iff_lt_or_eq.mp hx).elim (hno x) (fun e => by rw [e]; exact h85))
                    · refine j_bipush C ((-2)) dX11_routine_88 (by decide) ?_
                      exact j_iret C hr hlk (⟨hM_6, hs_7, rfl⟩) dX11_routine_90
              refine j_lv [1, 2, 0] rfl ?_
              exact lb71 _ 0 (Nat.lt_succ_self _) (by omega) (fun x hx => absurd hx (Nat.not_lt_zero _))
            · exact absurd (h64.symm.trans hN) (by decide)
          · exact absurd trivial z
        · omega
    · first | omega | exact h7.elim

set_option maxHeartbeats 4000000 in
set_option maxRecDepth 100000 in
theorem c_mrout_ok (l : Launch) (D : va_G) (cy : Nat → ClassId) (base : Nat) (Λ : LY) (σ : HS) (M : MM) (hM0 : MR0 Λ σ M) (h00 : M 31 0 = 0) (hB : MBd M)  (n : Nat) (hA : n ≤ M 31 2) (h40 : M 31 5 < 40) (hN : nameB (mS M 31 2 0) n = true) (hD : ∀ r, r < M 31 5 → hasN (mS M 31 2 0) r n = false) : Met l yX11_routine wsX11_routine ({ frames := 16, cells := 0, slots := 0, locals := 240 }) (va_Pc [.ref (gA Λ 31 0), .int (nI n)] (Wd D cy base Λ σ)) (va_Qi (fun v u => MR Λ u (settle (newM (mS M 31 2 0) n)) ∧ Same nMo σ u ∧ v = nI (M 31 5)) (Wd D cy base Λ) (Ab base)) 0 0 (Ab base) := by
  refine j_start (cc := cX11_routine) (nL := 3) (ret := (some .int)) (lv := [(0, .ref (gA Λ 31 0)), (1, .int (nI n))]) (by decide) rfl (Nat.le_of_ble_eq_true rfl) rfl ?_
  intro p e s m below meth c C hr hlk hnm
  have C : Cx p s m ([.ref (gA Λ 31 0), .int (nI n)] : List Value).toArray c cX11_routine 3 RX11 wsX11_routine D cy base := C
  have hts := C.2.2.2.2.1
  have hwX11 : ∀ w ∈ u_ws RX11 TX11 26, w ∈ wsX11_routine := by decide +kernel
  have hM7 : (Cond.fieldLink RX11 7 (TX11 1).1 (TX11 1).2.1 (TX11 1).2.2.1).before ([.ref (gA Λ 31 0), .int (nI n)] : List Value).toArray s = true := hts (.fieldLink RX11 7 "CodeRoomsModel" "tape" "[B") (by decide +kernel)
  have hL7 : FL RX11 7 (TX11 1).1 (TX11 1).2.1 (TX11 1).2.2.1 ([.ref (gA Λ 31 0), .int (nI n)] : List Value).toArray s := Or.inl hM7
  have hM13 : (Cond.fieldLink RX11 13 (TX11 3).1 (TX11 3).2.1 (TX11 3).2.2.1).before ([.ref (gA Λ 31 0), .int (nI n)] : List Value).toArray s = true := hts (.fieldLink RX11 13 "CodeRoomsModel" "names" "[B") (by decide +kernel)
  have hL13 : FL RX11 13 (TX11 3).1 (TX11 3).2.1 (TX11 3).2.2.1 ([.ref (gA Λ 31 0), .int (nI n)] : List Value).toArray s := Or.inl hM13
  have hM16 : (Cond.fieldLink RX11 16 (TX11 4).1 (TX11 4).2.1 (TX11 4).2.2.1).before ([.ref (gA Λ 31 0), .int (nI n)] : List Value).toArray s = true := hts (.fieldLink RX11 16 "CodeRoomsModel" "nameLong" "[I") (by decide +kernel)
  have hL16 : FL RX11 16 (TX11 4).1 (TX11 4).2.1 (TX11 4).2.2.1 ([.ref (gA Λ 31 0), .int (nI n)] : List Value).toArray s := Or.inl hM16
  have hM46 : (Cond.fieldLink RX11 46 (TX11 14).1 (TX11 14).2.1 (TX11 14).2.2.1).before ([.ref (gA Λ 31 0), .int (nI n)] : List Value).toArray s = true := hts (.fieldLink RX11 46 "CodeRoomsModel" "fixed" "[I") (by decide +kernel)
  have hL46 : FL RX11 46 (TX11 14).1 (TX11 14).2.1 (TX11 14).2.2.1 ([.ref (gA Λ 31 0), .int (nI n)] : List Value).toArray s := Or.inl hM46
  have hM73 : (Cond.fieldLink RX11 73 (TX11 0).1 (TX11 0).2.1 (TX11 0).2.2.1).before ([.ref (gA Λ 31 0), .int (nI n)] : List Value).toArray s = true := hts (.fieldLink RX11 73 "CodeRoomsModel" "thrown" "I") (by decide +kernel)
  have hL73 : FL RX11 73 (TX11 0).1 (TX11 0).2.1 (TX11 0).2.2.1 ([.ref (gA Λ 31 0), .int (nI n)] : List Value).toArray s := Or.inl hM73
  have hM76 : (Cond.fieldLink RX11 76 (TX11 2).1 (TX11 2).2.1 (TX11 2).2.2.1).before ([.ref (gA Λ 31 0), .int (nI n)] : List Value).toArray s = true := hts (.fieldLink RX11 76 "CodeRoomsModel" "taped" "I") (by decide +kernel)
  have hL76 : FL RX11 76 (TX11 2).1 (TX11 2).2.1 (TX11 2).2.2.1 ([.ref (gA Λ 31 0), .int (nI n)] : List Value).toArray s := Or.inl hM76
  have hM83 : (Cond.fieldLink RX11 83 (TX11 5).1 (TX11 5).2.1 (TX11 5).2.2.1).before ([.ref (gA Λ 31 0), .int (nI n)] : List Value).toArray s = true := hts (.fieldLink RX11 83 "CodeRoomsModel" "many" "I") (by decide +kernel)
  have hL83 : FL RX11 83 (TX11 5).1 (TX11 5).2.1 (TX11 5).2.2.1 ([.ref (gA Λ 31 0), .int (nI n)] : List Value).toArray s := Or.inl hM83
  have hn : M 31 5 ≤ 40 := hB 31 5 rfl
  have z3 : (nI 3).toInt = 3 := by decide
  have z2 : (nI 2).toInt = 2 := by decide
  have z1 : (nI 1).toInt = 1 := by decide
  have z1000 : (nI 1000).toInt = 1000 := by decide
  have z5 : (nI 5).toInt = 5 := by decide
  have z4 : (nI 4).toInt = 4 := by decide
  have z0 : (nI 0).toInt = 0 := by decide
  have z00 : (0 : Int32).toInt = 0 := by decide
  have z9 : (nI 9).toInt = 9 := by decide
  have z100 : (nI 100).toInt = 100 := by decide
  have z40 : (nI 40).toInt = 40 := by decide
  have z6 : (nI 6).toInt = 6 := by decide
  have htp : M 31 2 ≤ 40 := hB 31 2 rfl
  have htt : (nI (M 31 2)).toInt = (M 31 2 : Int) := nI_toInt (by omega)
  have hNn := nameB_len hN
  have hT : ∀ k, k < n → (mS M 31 2 0) 32 k < 128 := nameB_lt hN
  refine j_aload_n C dX11_routine_0 rfl 0 rfl ?_
  refine j_iconst C (nI 0) dX11_routine_1 (by decide) ?_
  refine j_putI C hwX11 31 0 0 (MR0.in0 hM0) rfl rfl (by decide) rfl tyX11 tyX11_ok nmX11 rfl rfl rfl hL73 dX11_routine_2 ?_
  have hM := MR0.start hM0 h00
  have hs0 : Same nMo σ (sI σ 31 0 0 (nI 0)) := Same.sI Same.rf (by decide)
  generalize sI σ 31 0 0 (nI 0) = σ0 at hM hs0 ⊢
  refine j_aload_n C dX11_routine_5 rfl 0 rfl ?_
  refine j_iload_n C dX11_routine_6 rfl 1 rfl ?_
  refine j_if_lt (tgt := 18) C dX11_routine_7 (by decide) (nJ_lt0 (by omega)) (fun h7 => ?_) (fun h7 => ?_)
  · first | omega | exact h7.elim
  · refine j_iload_n C dX11_routine_10 rfl 1 rfl ?_
    refine j_aload_n C dX11_routine_11 rfl 0 rfl ?_
    have hb12 : M 31 2 ≤ 40 := hB 31 2 rfl
    refine j_getI C hwX11 31 0 2 (MR.in0 hM (by decide) (by decide)) rfl rfl (by decide) rfl (nI (M 31 2)) (hM.1 31 2 rfl) hL76 dX11_routine_12 ?_
    refine j_icmp_le (tgt := 22) C dX11_routine_15 (by decide) (nI_leI (by omega) (by omega)) (fun h15 => ?_) (fun h15 => ?_)
    · refine j_iconst C (nI 0) dX11_routine_22 (by decide) ?_
      refine j_iconst C (nI 1) dX11_routine_23 (by decide) ?_
      refine c_i0 C (r_V C 31 0 [.int (nI 0), .int (nI 1)] (c_X11_bad0 l D cy base Λ σ0 (MR.in0 hM (by decide) (by decide)) 1) (cwV 2 hts gX11_routine_X11_bad rfl rfl rfl (by decide +kernel) ⟨by decide, by decide⟩) (MR.in0 hM (by decide) (by decide)) rfl rfl rfl rfl (Nat.le_of_ble_eq_true rfl) dX11_routine_24 ⟨by decide, by decide⟩) (fun rv uu hp => ?_)
      rw [hp.1, hp.2]
      refine j_if_ne (tgt := 52) C (P := True) dX11_routine_27 (by decide) (by decide) (fun z => ?_) (fun z => ?_)
      · exact absurd trivial z
      · refine j_aload_n C dX11_routine_30 rfl 0 rfl ?_
        refine j_aload_n C dX11_routine_31 rfl 0 rfl ?_
        have hb32 : M 31 5 ≤ 40 := hB 31 5 rfl
        refine j_getI C hwX11 31 0 5 (MR.in0 hM (by decide) (by decide)) rfl rfl (by decide) rfl (nI (M 31 5)) (hM.1 31 5 rfl) hL83 dX11_routine_32 ?_
        refine j_bipush C (nI 40) dX11_routine_35 (by decide) ?_
        refine j_icmp_ne (tgt := 44) C dX11_routine_37 (by decide) (nI_eq (by omega) (by omega)) (fun h37 => ?_) (fun h37 => ?_)
        · refine j_iconst C (nI 0) dX11_routine_44 (by decide) ?_
          refine j_iconst C (nI 2) dX11_routine_45 (by decide) ?_
          refine c_i0 C (r_V C 31 0 [.int (nI 0), .int (nI 2)] (c_X11_bad0 l D cy base Λ σ0 (MR.in0 hM (by decide) (by decide)) 2) (cwV 2 hts gX11_routine_X11_bad rfl rfl rfl (by decide +kernel) ⟨by decide, by decide⟩) (MR.in0 hM (by decide) (by decide)) rfl rfl rfl rfl (Nat.le_of_ble_eq_true rfl) dX11_routine_46 ⟨by decide, by decide⟩) (fun rv uu hp => ?_)
          rw [hp.1, hp.2]
          refine j_if_eq (tgt := 54) C (P := True) dX11_routine_49 (by decide) (by decide) (fun z => ?_) (fun z => ?_)
          · refine j_aload_n C dX11_routine_54 rfl 0 rfl ?_
            refine j_iconst C (nI 0) dX11_routine_55 (by decide) ?_
            refine j_putI C hwX11 31 0 2 (MR.in0 hM (by decide) (by decide)) rfl rfl (by decide) rfl tyX11 tyX11_ok nmX11 rfl rfl rfl hL76 dX11_routine_56 ?_
            have hM_6 := MR.set (t := 31) (k := 2) (x := 0) (v := (nI 0)) hM rfl
            have hs_7 := Same.sI (t := 31) (i := 0) (k := 2) (x := (nI 0)) hs0 (by decide)
            refine j_aload_n C dX11_routine_59 rfl 0 rfl ?_
            refine j_iload_n C dX11_routine_60 rfl 1 rfl ?_
            refine c_i0 C (r_V C 31 0 [.int (nI n)] (c_X11_isName l D cy base Λ (sI σ0 31 0 2 (nI 0)) (mS M 31 2 0) hM_6 (hB.set (t := 31) (k := 2) (x := 0) (Nat.zero_le _)) n (by omega)) (cwV 1 hts gX11_routine_X11_isName rfl rfl rfl (by decide +kernel) ⟨by decide, by decide⟩) (MR.in0 hM_6 (by decide) (by decide)) rfl rfl rfl rfl (Nat.le_of_ble_eq_true rfl) dX11_routine_61 ⟨by decide, by decide⟩) (fun rv uu hp => ?_)
            rw [hp.1, hp.2]
            refine j_ifne_b (tgt := 69) C dX11_routine_64 (by decide) (fun h64 => ?_) (fun h64 => ?_)
            · refine j_iconst C (nI 0) dX11_routine_69 (by decide) ?_
              refine j_istore_n C [(2, .int (nI 0)), (0, .ref (gA Λ 31 0)), (1, .int (nI n))] dX11_routine_70 rfl (by decide) rfl ?_
              have lb71 : ∀ (fu : Nat) (r : Nat), (M 31 5 - r) < fu → (r ≤ M 31 5) → (∀ x, x < r → hasN (mS M 31 2 0) x n = false) → J p l e ({ frames := 16, cells := 0, slots := 0, locals := 240 }) s m ([.ref (gA Λ 31 0), .int (nI n)] : List Value).toArray below meth c 3 D cy base (MQ below (va_Qi (fun v u => MR Λ u (settle (newM (mS M 31 2 0) n)) ∧ Same nMo σ u ∧ v = nI (M 31 5)) (Wd D cy base Λ) (Ab base)) ([.ref (gA Λ 31 0), .int (nI n)] : List Value).toArray s 0 0 (Ab base)) 0 0 Λ 71 [(0, .ref (gA Λ 31 0)), (1, .int (nI n)), (2, .int (nI r))] [] (sI σ0 31 0 2 (nI 0)) := by
                intro fu
                induction fu with
                | zero => intro r hfu; exact absurd hfu (Nat.not_lt_zero _)
                | succ fu ih =>
                  intro r hfu hr0 hno
                  have ih71 := ih
                  refine j_iload_n C dX11_routine_71 rfl 2 rfl ?_
                  refine j_aload_n C dX11_routine_72 rfl 0 rfl ?_
                  have hb73 : M 31 5 ≤ 40 := hB 31 5 rfl
                  refine j_getI C hwX11 31 0 5 (MR.in0 hM_6 (by decide) (by decide)) rfl rfl (by decide) rfl (nI (M 31 5)) ((hM_6.1 31 5 rfl).trans (congrArg (menc 31) (mS_ne (Or.inr (by decide))))) hL83 dX11_routine_73 ?_
                  refine j_icmp_ge (tgt := 97) C dX11_routine_76 (by decide) (nI_leI (by omega) (by omega)) (fun h76 => ?_) (fun h76 => ?_)
                  · refine j_iconst C (nI 0) dX11_routine_97 (by decide) ?_
                    refine j_istore_n C [(2, .int (nI 0)), (0, .ref (gA Λ 31 0)), (1, .int (nI n))] dX11_routine_98 rfl (by decide) rfl ?_
                    have lb99 : ∀ (fu : Nat) (σ1 : HS) (k : Nat), (n - k) < fu → (k ≤ n) → (MR Λ σ1 (cpyN (mS M 31 2 0) (20 * M 31 5) (k))) → (Same nMo σ σ1) → J p l e ({ frames := 16, cells := 0, slots := 0, locals := 240 }) s m ([.ref (gA Λ 31 0), .int (nI n)] : List Value).toArray below meth c 3 D cy base (MQ below (va_Qi (fun v u => MR Λ u (settle (newM (mS M 31 2 0) n)) ∧ Same nMo σ u ∧ v = nI (M 31 5)) (Wd D cy base Λ) (Ab base)) ([.ref (gA Λ 31 0), .int (nI n)] : List Value).toArray s 0 0 (Ab base)) 0 0 Λ 99 [(0, .ref (gA Λ 31 0)), (1, .int (nI n)), (2, .int (nI k))] [] σ1 := by
                      intro fu
                      induction fu with
                      | zero => intro σ1 k hfu; exact absurd hfu (Nat.not_lt_zero _)
                      | succ fu ih =>
                        intro σ1 k hfu hk hM1 hs1
                        have ih99 := ih
                        refine j_iload_n C dX11_routine_99 rfl 2 rfl ?_
                        refine j_iload_n C dX11_routine_100 rfl 1 rfl ?_
                        refine j_icmp_ge (tgt := 130) C dX11_routine_101 (by decide) (nI_leI (by omega) (by omega)) (fun h101 => ?_) (fun h101 => ?_)
                        · have hkn : k = n := by omega
                          refine j_aload_n C dX11_routine_130 rfl 0 rfl ?_
                          refine j_getV C hwX11 31 0 4 (MR.in0 hM1 (by decide) (by decide)) rfl rfl (by decide) rfl 0 (hM1.2.2.2 4 rfl) hL16 dX11_routine_131 ?_
                          refine j_aload_n C dX11_routine_134 rfl 0 rfl ?_
                          have hb135 : M 31 5 ≤ 40 := hB 31 5 rfl
                          refine j_getI C hwX11 31 0 5 (MR.in0 hM1 (by decide) (by decide)) rfl rfl (by decide) rfl (nI (M 31 5)) ((hM1.1 31 5 rfl).trans (congrArg (menc 31) ((congrFun (cpyN_nk (by decide)) _).trans (mS_ne (Or.inr (by decide)))))) hL83 dX11_routine_135 ?_
                          refine j_iload_n C dX11_routine_138 rfl 1 rfl ?_
                          refine j_iast C 34 0 (M 31 5) (MR.in0 hM1 (by decide) (by decide)) rfl rfl 40 (hM1.2.2.1 34 (by decide) (by decide)) (by omega) (by omega) (nI n) rfl dX11_routine_139 ?_
                          have hM_13 := MR.set (t := 34) (k := (M 31 5)) (x := n) (v := (nI n)) hM1 rfl
                          have hs_14 := Same.sI (t := 34) (i := 0) (k := (M 31 5)) (x := (nI n)) hs1 (by decide)
                          refine j_aload_n C dX11_routine_140 rfl 0 rfl ?_
                          refine j_getV C hwX11 31 0 14 (MR.in0 hM_13 (by decide) (by decide)) rfl rfl (by decide) rfl 0 (hM_13.2.2.2 14 rfl) hL46 dX11_routine_141 ?_
                          refine j_aload_n C dX11_routine_144 rfl 0 rfl ?_
                          have hb145 : M 31 5 ≤ 40 := hB 31 5 rfl
                          refine j_getI C hwX11 31 0 5 (MR.in0 hM_13 (by decide) (by decide)) rfl rfl (by decide) rfl (nI (M 31 5)) (((hM_13.1 31 5 rfl).trans (congrArg (menc 31) (mS_ne (Or.inl (by decide))))).trans (congrArg (menc 31) ((congrFun (cpyN_nk (by decide)) _).trans (mS_ne (Or.inr (by decide)))))) hL83 dX11_routine_145 ?_
                          refine j_iconst C ((-1)) dX11_routine_148 (by decide) ?_
                          refine j_iast C 40 0 (M 31 5) (MR.in0 hM_13 (by decide) (by decide)) rfl rfl 40 (hM_13.2.2.1 40 (by decide) (by decide)) (by omega) (by omega) ((-1)) rfl dX11_routine_149 ?_
                          have hM_15 := MR.set (t := 40) (k := (M 31 5)) (x := 0) (v := (-1)) hM_13 m1_0.symm
                          have hs_16 := Same.sI (t := 40) (i := 0) (k := (M 31 5)) (x := (-1)) hs_14 (by decide)
                          refine j_aload_n C dX11_routine_150 rfl 0 rfl ?_
                          refine j_dup C dX11_routine_151 rfl ?_
                          have hb152 : M 31 5 ≤ 40 := hB 31 5 rfl
                          refine j_getI C hwX11 31 0 5 (MR.in0 hM_15 (by decide) (by decide)) rfl rfl (by decide) rfl (nI (M 31 5)) (((hM_15.1 31 5 rfl).trans (congrArg (menc 31) ((mS_ne (Or.inl (by decide))).trans (mS_ne (Or.inl (by decide)))))).trans (congrArg (menc 31) ((congrFun (cpyN_nk (by decide)) _).trans (mS_ne (Or.inr (by decide)))))) hL83 dX11_routine_152 ?_
                          refine j_iconst C (nI 1) dX11_routine_155 (by decide) ?_
                          refine j_iadd C (nI (M 31 5 + 1)) dX11_routine_156 (nI_add _ _) ?_
                          refine j_putI C hwX11 31 0 5 (MR.in0 hM_15 (by decide) (by decide)) rfl rfl (by decide) rfl tyX11 tyX11_ok nmX11 rfl rfl rfl hL83 dX11_routine_157 ?_
                          have hM_17 := MR.set (t := 31) (k := 5) (x := (M 31 5 + 1)) (v := (nI (M 31 5 + 1))) hM_15 rfl
                          have hs_18 := Same.sI (t := 31) (i := 0) (k := 5) (x := (nI (M 31 5 + 1))) hs_16 (by decide)
                          refine j_aload_n C dX11_routine_160 rfl 0 rfl ?_
                          refine c_v0 C (r_V C 31 0 [] (c_X11_settles l D cy base Λ (sI (sI (sI σ1 34 0 (M 31 5) (nI n)) 40 0 (M 31 5) ((-1))) 31 0 5 (nI (M 31 5 + 1))) (mS (mS (mS (cpyN (mS M 31 2 0) (20 * M 31 5) (k)) 34 (M 31 5) n) 40 (M 31 5) 0) 31 5 (M 31 5 + 1)) hM_17 (MBd.set (MBd.set (MBd.set (cpyN_B (hB.set (t := 31) (k := 2) (x := 0) (Nat.zero_le _)) (by omega)) (show n ≤ 40 by omega)) (show 0 ≤ 6 by omega)) (show M 31 5 + 1 ≤ 40 by omega))) (cwV 0 hts gX11_routine_X11_settles rfl rfl rfl (by decide +kernel) ⟨by decide, by decide⟩) (MR.in0 hM_17 (by decide) (by decide)) rfl rfl rfl rfl (Nat.le_of_ble_eq_true rfl) dX11_routine_161 ⟨by decide, by decide⟩) (fun ub_19 hp => ?_)
                          obtain ⟨hMb_19, hp3⟩ := hp
                          have hsb_19 := Same.tr hs_18 hp3
                          refine j_aload_n C dX11_routine_164 rfl 0 rfl ?_
                          refine j_getI C hwX11 31 0 5 (MR.in0 hMb_19 (by decide) (by decide)) rfl rfl (by decide) rfl (nI (settle (newM (mS M 31 2 0) n) 31 5)) (hMb_19.1 31 5 rfl) hL83 dX11_routine_165 ?_
                          refine j_iconst C (nI 1) dX11_routine_168 (by decide) ?_
                          refine j_isub C (nI (M 31 5)) dX11_routine_169 (by show nI (settle (newM (mS M 31 2 0) n) 31 5) - nI 1 = _; rw [show settle (newM (mS M 31 2 0) n) 31 5 = M 31 5 + 1 from rfl]; exact nI_pred _) ?_
                          exact j_iret C hr hlk (⟨by have q := hMb_19; rw [hkn] at q; exact q, hsb_19, rfl⟩) dX11_routine_170
                        · refine j_aload_n C dX11_routine_104 rfl 0 rfl ?_
                          refine j_getV C hwX11 31 0 3 (MR.in0 hM1 (by decide) (by decide)) rfl rfl (by decide) rfl 0 (hM1.2.2.2 3 rfl) hL13 dX11_routine_105 ?_
                          refine j_bipush C (nI 20) dX11_routine_108 (by decide) ?_
                          refine j_aload_n C dX11_routine_110 rfl 0 rfl ?_
                          have hb111 : M 31 5 ≤ 40 := hB 31 5 rfl
                          refine j_getI C hwX11 31 0 5 (MR.in0 hM1 (by decide) (by decide)) rfl rfl (by decide) rfl (nI (M 31 5)) ((hM1.1 31 5 rfl).trans (congrArg (menc 31) ((congrFun (cpyN_nk (by decide)) _).trans (mS_ne (Or.inr (by decide)))))) hL83 dX11_routine_111 ?_
                          refine j_imul C (nI (20 * (M 31 5))) dX11_routine_114 (pk_mul _ _) ?_
                          refine j_iload_n C dX11_routine_115 rfl 2 rfl ?_
                          refine j_iadd C (nI (20 * (M 31 5) + k)) dX11_routine_116 (nI_add _ _) ?_
                          refine j_aload_n C dX11_routine_117 rfl 0 rfl ?_
                          refine j_getV C hwX11 31 0 1 (MR.in0 hM1 (by decide) (by decide)) rfl rfl (by decide) rfl 0 (hM1.2.2.2 1 rfl) hL7 dX11_routine_118 ?_
                          refine j_iload_n C dX11_routine_121 rfl 2 rfl ?_
                          have hb122 : M 32 k ≤ 255 := hB 32 k (decide_eq_true (show k < 40 by omega))
                          refine j_bald C 32 0 k (MR.in0 hM1 (by decide) (by decide)) rfl rfl 40 (hM1.2.2.1 32 (by decide) (by decide)) (by omega) (by omega) ((nI (M 32 k)).toInt8.toInt32) ((hM1.1 32 k (decide_eq_true (show k < 40 by omega))).trans (congrArg (menc 32) ((congrFun (cpyN_nk (by decide)) _).trans (mS_ne (Or.inl (by decide)))))) dX11_routine_122 ?_
                          refine j_bast C 33 0 (20 * (M 31 5) + k) (MR.in0 hM1 (by decide) (by decide)) rfl rfl 800 (hM1.2.2.1 33 (by decide) (by decide)) (by omega) (by omega) ((nI (M 32 k)).toInt8.toInt32) (pk_vb _) dX11_routine_123 ?_
                          have hM_20 := MR.set (t := 33) (k := (20 * (M 31 5) + k)) (x := (M 32 k)) (v := ((nI (M 32 k)).toInt8.toInt32)) hM1 (fa_byte_small (hT k (by omega)))
                          have hs_21 := Same.sI (t := 33) (i := 0) (k := (20 * (M 31 5) + k)) (x := ((nI (M 32 k)).toInt8.toInt32)) hs1 (by decide)
                          refine j_iinc C [(2, .int (nI (k + 1))), (0, .ref (gA Λ 31 0)), (1, .int (nI n))] (nI (k + 1)) dX11_routine_124 2 rfl (nI_add _ 1) (by decide) rfl ?_
                          refine j_goto (tgt := 99) C dX11_routine_127 (by decide) ?_
                          refine j_lv [1, 2, 0] rfl ?_
                          exact ih99 (sI σ1 33 0 (20 * (M 31 5) + k) ((nI (M 32 k)).toInt8.toInt32)) (k + 1) (by omega) (by omega) (by rw [← cpyN_succ]; exact hM_20) hs_21
                    refine j_lv [1, 2, 0] rfl ?_
                    exact lb99 _ (sI σ0 31 0 2 (nI 0)) 0 (Nat.lt_succ_self _) (by omega) (by rw [cpyN_0]; exact hM_6) hs_7
                  · refine j_aload_n C dX11_routine_79 rfl 0 rfl ?_
                    refine j_iload_n C dX11_routine_80 rfl 2 rfl ?_
                    refine j_iload_n C dX11_routine_81 rfl 1 rfl ?_
                    refine c_i0 C (r_V C 31 0 [.int (nI r), .int (nI n)] (c_X11_hasName l D cy base Λ (sI σ0 31 0 2 (nI 0)) (mS M 31 2 0) hM_6 (hB.set (t := 31) (k := 2) (x := 0) (Nat.zero_le _)) r n (by omega) (by omega) hT) (cwV 2 hts gX11_routine_X11_hasName rfl rfl rfl (by decide +kernel) ⟨by decide, by decide⟩) (MR.in0 hM_6 (by decide) (by decide)) rfl rfl rfl rfl (Nat.le_of_ble_eq_true rfl) dX11_routine_82 ⟨by decide, by decide⟩) (fun rv uu hp => ?_)
                    rw [hp.1, hp.2]
                    refine j_ifeq_b (tgt := 91) C dX11_routine_85 (by decide) (fun h85 => ?_) (fun h85 => ?_)
                    · refine j_iinc C [(2, .int (nI (r + 1))), (0, .ref (gA Λ 31 0)), (1, .int (nI n))] (nI (r + 1)) dX11_routine_91 2 rfl (nI_add _ 1) (by decide) rfl ?_
                      refine j_goto (tgt := 71) C dX11_routine_94 (by decide) ?_
                      refine j_lv [1, 2, 0] rfl ?_
                      exact ih71 (r + 1) (by omega) (by omega) (fun x hx => (Nat.lt_succ_iff_lt_or_eq.mp hx).elim (hno x) (fun e => by rw [e]; exact h85))
                    · exact absurd ((hD r (by omega)).symm.trans h85) (by decide)
              refine j_lv [1, 2, 0] rfl ?_
              exact lb71 _ 0 (Nat.lt_succ_self _) (by omega) (fun x hx => absurd hx (Nat.not_lt_zero _))
            · exact absurd (h64.symm.trans hN) (by decide)
          · exact absurd trivial z
        · omega
    · first | omega | exact h7.elim
