theorem c_mname_ok2 (l : Launch) (D : va_G) (cy : Nat → ClassId) (base : Nat) (Λ : LY) (σ : HS) (M : MM) (hM0 : MR0 Λ σ M) (h00 : M 31 0 = 0) (hB : MBd M) (room : Nat) (hroom : room < M 31 10) (hL : ∀ x, x < 40 → M 34 x ≤ 20) (hL3 : ∀ x, x < 800 → M 33 x < 128) : Met l yX11_name wsX11_name ({ frames := 24, cells := 0, slots := 0, locals := 360 }) (va_Pc [.ref (gA Λ 31 0), .int (nI room)] (Wd D cy base Λ σ)) (va_Qi (fun v u => ∃ M', MR Λ u M' ∧ Same nMo σ u ∧ v = nI (M' 31 18) ∧ NmR M room M' ∧ ∀ k, M' 31 18 ≤ k → M' 43 k = M 43 k) (Wd D cy base Λ) (Ab base)) 0 0 (Ab base) := by
  refine j_start (cc := cX11_name) (nL := 9) (ret := (some .int)) (lv := [(0, .ref (gA Λ 31 0)), (1, .int (nI room))]) (by decide) rfl (Nat.le_of_ble_eq_true rfl) rfl ?_
  intro p e s m below meth c C hr hlk hnm
  have C : Cx p s m ([.ref (gA Λ 31 0), .int (nI room)] : List Value).toArray c cX11_name 9 RX11 wsX11_name D cy base := C
  have hts := C.2.2.2.2.1
  have hwX11 : ∀ w ∈ u_ws RX11 TX11 26, w ∈ wsX11_name := by decide +kernel
  have hM13 : (Cond.fieldLink RX11 13 (TX11 3).1 (TX11 3).2.1 (TX11 3).2.2.1).before ([.ref (gA Λ 31 0), .int (nI room)] : List Value).toArray s = true := hts (.fieldLink RX11 13 "CodeRoomsModel" "names" "[B") (by decide +kernel)
  have hL13 : FL RX11 13 (TX11 3).1 (TX11 3).2.1 (TX11 3).2.2.1 ([.ref (gA Λ 31 0), .int (nI room)] : List Value).toArray s := Or.inl hM13
  have hM16 : (Cond.fieldLink RX11 16 (TX11 4).1 (TX11 4).2.1 (TX11 4).2.2.1).before ([.ref (gA Λ 31 0), .int (nI room)] : List Value).toArray s = true := hts (.fieldLink RX11 16 "CodeRoomsModel" "nameLong" "[I") (by decide +kernel)
  have hL16 : FL RX11 16 (TX11 4).1 (TX11 4).2.1 (TX11 4).2.2.1 ([.ref (gA Λ 31 0), .int (nI room)] : List Value).toArray s := Or.inl hM16
  have hM36 : (Cond.fieldLink RX11 36 (TX11 11).1 (TX11 11).2.1 (TX11 11).2.2.1).before ([.ref (gA Λ 31 0), .int (nI room)] : List Value).toArray s = true := hts (.fieldLink RX11 36 "CodeRoomsModel" "isHub" "[Z") (by decide +kernel)
  have hL36 : FL RX11 36 (TX11 11).1 (TX11 11).2.1 (TX11 11).2.2.1 ([.ref (gA Λ 31 0), .int (nI room)] : List Value).toArray s := Or.inl hM36
  have hM40 : (Cond.fieldLink RX11 40 (TX11 12).1 (TX11 12).2.1 (TX11 12).2.2.1).before ([.ref (gA Λ 31 0), .int (nI room)] : List Value).toArray s = true := hts (.fieldLink RX11 40 "CodeRoomsModel" "roomOf" "[I") (by decide +kernel)
  have hL40 : FL RX11 40 (TX11 12).1 (TX11 12).2.1 (TX11 12).2.2.1 ([.ref (gA Λ 31 0), .int (nI room)] : List Value).toArray s := Or.inl hM40
  have hM55 : (Cond.fieldLink RX11 55 (TX11 17).1 (TX11 17).2.1 (TX11 17).2.2.1).before ([.ref (gA Λ 31 0), .int (nI room)] : List Value).toArray s = true := hts (.fieldLink RX11 55 "CodeRoomsModel" "page" "[B") (by decide +kernel)
  have hL55 : FL RX11 55 (TX11 17).1 (TX11 17).2.1 (TX11 17).2.2.1 ([.ref (gA Λ 31 0), .int (nI room)] : List Value).toArray s := Or.inl hM55
  have hM73 : (Cond.fieldLink RX11 73 (TX11 0).1 (TX11 0).2.1 (TX11 0).2.2.1).before ([.ref (gA Λ 31 0), .int (nI room)] : List Value).toArray s = true := hts (.fieldLink RX11 73 "CodeRoomsModel" "thrown" "I") (by decide +kernel)
  have hL73 : FL RX11 73 (TX11 0).1 (TX11 0).2.1 (TX11 0).2.2.1 ([.ref (gA Λ 31 0), .int (nI room)] : List Value).toArray s := Or.inl hM73
  have hM83 : (Cond.fieldLink RX11 83 (TX11 5).1 (TX11 5).2.1 (TX11 5).2.2.1).before ([.ref (gA Λ 31 0), .int (nI room)] : List Value).toArray s = true := hts (.fieldLink RX11 83 "CodeRoomsModel" "many" "I") (by decide +kernel)
  have hL83 : FL RX11 83 (TX11 5).1 (TX11 5).2.1 (TX11 5).2.2.1 ([.ref (gA Λ 31 0), .int (nI room)] : List Value).toArray s := Or.inl hM83
  have hM160 : (Cond.fieldLink RX11 160 (TX11 18).1 (TX11 18).2.1 (TX11 18).2.2.1).before ([.ref (gA Λ 31 0), .int (nI room)] : List Value).toArray s = true := hts (.fieldLink RX11 160 "CodeRoomsModel" "pageLong" "I") (by decide +kernel)
  have hL160 : FL RX11 160 (TX11 18).1 (TX11 18).2.1 (TX11 18).2.2.1 ([.ref (gA Λ 31 0), .int (nI room)] : List Value).toArray s := Or.inl hM160
  have hn : M 31 5 ≤ 40 := hB 31 5 rfl
  have hR40 : M 31 10 ≤ 40 := hB 31 10 rfl
  refine j_aload_n C dX11_name_0 rfl 0 rfl ?_
  refine j_iconst C (nI 0) dX11_name_1 (by decide) ?_
  refine j_putI C hwX11 31 0 0 (MR0.in0 hM0) rfl rfl (by decide) rfl tyX11 tyX11_ok nmX11 rfl rfl rfl hL73 dX11_name_2 ?_
  have hM := MR0.start hM0 h00
  have hs0 : Same nMo σ (sI σ 31 0 0 (nI 0)) := Same.sI Same.rf (by decide)
  generalize sI σ 31 0 0 (nI 0) = σ0 at hM hs0 ⊢
  refine j_aload_n C dX11_name_5 rfl 0 rfl ?_
  refine j_aload_n C dX11_name_6 rfl 0 rfl ?_
  refine j_iload_n C dX11_name_7 rfl 1 rfl ?_
  refine c_i0 C (r_V C 31 0 [.int (nI room)] (c_X11_isRoom l D cy base Λ σ0 M hM hB (nI room)) (cwV 1 hts gX11_name_X11_isRoom rfl rfl rfl (by decide +kernel) ⟨by decide, by decide⟩) (MR.in0 hM (by decide) (by decide)) rfl rfl rfl rfl (Nat.le_of_ble_eq_true rfl) dX11_name_8 ⟨by decide, by decide⟩) (fun rv uu hp => ?_)
  rw [hp.1, hp.2]
  refine j_ifne_b (tgt := 18) C dX11_name_11 (by decide) (fun h11 => ?_) (fun h11 => ?_)
  · refine j_iconst C (nI 0) dX11_name_18 (by decide) ?_
    refine j_iconst C (nI 1) dX11_name_19 (by decide) ?_
    refine c_i0 C (r_V C 31 0 [.int (nI 0), .int (nI 1)] (c_X11_bad0 l D cy base Λ σ0 (MR.in0 hM (by decide) (by decide)) 1) (cwV 2 hts gX11_name_X11_bad rfl rfl rfl (by decide +kernel) ⟨by decide, by decide⟩) (MR.in0 hM (by decide) (by decide)) rfl rfl rfl rfl (Nat.le_of_ble_eq_true rfl) dX11_name_20 ⟨by decide, by decide⟩) (fun rv uu hp => ?_)
    rw [hp.1, hp.2]
    refine j_if_eq (tgt := 28) C (P := True) dX11_name_23 (by decide) (by decide) (fun z => ?_) (fun z => ?_)
    · refine j_iconst C ((-1)) dX11_name_28 (by decide) ?_
      refine j_istore_n C [(2, .int ((-1))), (0, .ref (gA Λ 31 0)), (1, .int (nI room))] dX11_name_29 rfl (by decide) rfl ?_
      refine j_iconst C (nI 0) dX11_name_30 (by decide) ?_
      refine j_istore_n C [(3, .int (nI 0)), (2, .int ((-1))), (0, .ref (gA Λ 31 0)), (1, .int (nI room))] dX11_name_31 rfl (by decide) rfl ?_
      refine j_iconst C (nI 0) dX11_name_32 (by decide) ?_
      refine j_istore C [(4, .int (nI 0)), (3, .int (nI 0)), (2, .int ((-1))), (0, .ref (gA Λ 31 0)), (1, .int (nI room))] dX11_name_33 (by decide) rfl ?_
      refine j_aload_n C dX11_name_35 rfl 3 rfl ?_
      refine j_iconst C (nI 0) dX11_name_36 (by decide) ?_
      refine j_putI C hwX11 31 0 18 (MR.in0 hM (by decide) (by decide)) rfl rfl (by decide) rfl tyX11 tyX11_ok nmX11 rfl rfl rfl hL160 dX11_name_37 ?_
      have hM_3 := MR.set (t := 31) (k := 18) (x := 0) (v := (nI 0)) hM rfl
      have hs_4 := Same.sI (t := 31) (i := 0) (k := 18) (x := (nI 0)) hs0 (by decide)
      refine j_iconst C (nI 0) dX11_name_40 (by decide) ?_
      refine j_istore C [(5, .int (nI 0)), (4, .int (nI 0)), (3, .int (nI 0)), (2, .int ((-1))), (0, .ref (gA Λ 31 0)), (1, .int (nI room))] dX11_name_41 (by decide) rfl ?_
      have lb43 : ∀ (fu : Nat) (σ1 : HS) (x2 x4 : Int32) (a3 pl r : Nat), (M 31 5 - r) < fu → (r ≤ M 31 5) → (MR Λ σ1 (mS M 31 18 pl)) → (Same nMo σ σ1) → (NmI M room x2 a3 x4 pl r 0) → J p l e ({ frames := 24, cells := 0, slots := 0, locals := 360 }) s m ([.ref (gA Λ 31 0), .int (nI room)] : List Value).toArray below meth c 9 D cy base (MQ below (va_Qi (fun v u => ∃ M', MR Λ u M' ∧ Same nMo σ u ∧ v = nI (M' 31 18) ∧ NmR M room M' ∧ ∀ k, M' 31 18 ≤ k → M' 43 k = M 43 k) (Wd D cy base Λ) (Ab base)) ([.ref (gA Λ 31 0), .int (nI room)] : List Value).toArray s 0 0 (Ab base)) 0 0 Λ 43 [(0, .ref (gA Λ 31 0)), (1, .int (nI room)), (2, .int (x2)), (3, .int (nI a3)), (4, .int (x4)), (5, .int (nI r))] [] σ1 := by
        intro fu
        induction fu with
        | zero => intro σ1 x2 x4 a3 pl r hfu; exact absurd hfu (Nat.not_lt_zero _)
        | succ fu ih =>
          intro σ1 x2 x4 a3 pl r hfu hr0 hM1 hs1 hI
          have hpl := hI.pl hL hn
          have ih43 := ih
          refine j_iload C dX11_name_43 5 rfl ?_
          refine j_aload_n C dX11_name_45 rfl 0 rfl ?_
          have hb46 : M 31 5 ≤ 40 := hB 31 5 rfl
          refine j_getI C hwX11 31 0 5 (MR.in0 hM1 (by decide) (by decide)) rfl rfl (by decide) rfl (nI (M 31 5)) ((hM1.1 31 5 rfl).trans (congrArg (menc 31) (mS_ne (Or.inr (by decide))))) hL83 dX11_name_46 ?_
          refine j_icmp_ge (tgt := 202) C dX11_name_49 (by decide) (nI_leI (by omega) (by omega)) (fun h49 => ?_) (fun h49 => ?_)
          · rcases hI with ⟨e1, e2, e3, e4⟩ | ⟨b, e1, e2, e3, e4, e5⟩
            · subst e1
              subst e2
              refine j_iconst C (nI 0) dX11_name_202 (by decide) ?_
              refine j_istore C [(5, .int (nI 0)), (0, .ref (gA Λ 31 0)), (1, .int (nI room)), (2, .int ((-1))), (3, .int (nI a3)), (4, .int (x4))] dX11_name_203 (by decide) rfl ?_
              refine j_iload C dX11_name_205 0 rfl ?_
              refine j_aload_n C dX11_name_207 rfl 1 rfl ?_
              refine j_getI C hwX11 31 0 18 (MR.in0 hM1 (by decide) (by decide)) rfl rfl (by decide) rfl (nI 0) ((hM1.1 31 18 rfl).trans (congrArg (menc 31) (mS_same _ _ _ _))) hL160 dX11_name_208 ?_
              refine j_icmp_ge (tgt := 241) C (P := True) dX11_name_211 (by decide) (by decide) (fun z => ?_) (fun z => ?_)
              · refine j_aload_n C dX11_name_241 rfl 1 rfl ?_
                refine j_getI C hwX11 31 0 18 (MR.in0 hM1 (by decide) (by decide)) rfl rfl (by decide) rfl (nI 0) ((hM1.1 31 18 rfl).trans (congrArg (menc 31) (mS_same _ _ _ _))) hL160 dX11_name_242 ?_
                exact j_iret C hr hlk (⟨_, hM1, hs1, rfl, ⟨fun t k h1 h2 => mS_ne (by omega), Or.inl ⟨mS_same _ _ _ _, fun r9 k9 hc => e4 r9 k9 hc (Or.inl (by have := hc.1; omega))⟩⟩, fun k9 _ => mS_ne (Or.inl (by decide))⟩) dX11_name_245
              · exact absurd trivial z
            · subst e1
              have hbl := cand_len hL hn e2
              have ebest : BestW M room b a3 := ⟨e2, fun r9 k9 hc => e5 r9 k9 hc (Or.inl (by have := hc.1; omega))⟩
              refine j_iconst C (nI 0) dX11_name_202 (by decide) ?_
              refine j_istore C [(5, .int (nI 0)), (0, .ref (gA Λ 31 0)), (1, .int (nI room)), (2, .int (nI b)), (3, .int (nI a3)), (4, .int (x4))] dX11_name_203 (by decide) rfl ?_
              have lb205 : ∀ (fu : Nat) (σ3 : HS) (i : Nat), (pl - i) < fu → (i ≤ pl) → (MR Λ σ3 (pgTo (mS M 31 18 pl) (wdF M b a3) (i))) → (Same nMo σ σ3) → J p l e ({ frames := 24, cells := 0, slots := 0, locals := 360 }) s m ([.ref (gA Λ 31 0), .int (nI room)] : List Value).toArray below meth c 9 D cy base (MQ below (va_Qi (fun v u => ∃ M', MR Λ u M' ∧ Same nMo σ u ∧ v = nI (M' 31 18) ∧ NmR M room M' ∧ ∀ k, M' 31 18 ≤ k → M' 43 k = M 43 k) (Wd D cy base Λ) (Ab base)) ([.ref (gA Λ 31 0), .int (nI room)] : List Value).toArray s 0 0 (Ab base)) 0 0 Λ 205 [(0, .ref (gA Λ 31 0)), (1, .int (nI room)), (2, .int (nI b)), (3, .int (nI a3)), (4, .int (x4)), (5, .int (nI i))] [] σ3 := by
                intro fu
                induction fu with
                | zero => intro σ3 i hfu; exact absurd hfu (Nat.not_lt_zero _)
                | succ fu ih =>
                  intro σ3 i hfu hi hM3 hs3
                  have sP18 : (pgTo (mS M 31 18 pl) (wdF M b a3) (i)) 31 18 = pl := (congrFun (pgTo_nk (by decide)) _).trans (mS_same _ _ _ _)
                  have ih205 := ih
                  refine j_iload C dX11_name_205 5 rfl ?_
                  refine j_aload_n C dX11_name_207 rfl 0 rfl ?_
                  refine j_getI C hwX11 31 0 18 (MR.in0 hM3 (by decide) (by decide)) rfl rfl (by decide) rfl (nI pl) ((hM3.1 31 18 rfl).trans (congrArg (menc 31) ((congrFun (pgTo_nk (by decide)) _).trans (mS_same _ _ _ _)))) hL160 dX11_name_208 ?_
                  refine j_icmp_ge (tgt := 241) C dX11_name_211 (by decide) (nI_leI (by omega) (by omega)) (fun h211 => ?_) (fun h211 => ?_)
                  · refine j_aload_n C dX11_name_241 rfl 0 rfl ?_
                    refine j_getI C hwX11 31 0 18 (MR.in0 hM3 (by decide) (by decide)) rfl rfl (by decide) rfl (nI pl) ((hM3.1 31 18 rfl).trans (congrArg (menc 31) ((congrFun (pgTo_nk (by decide)) _).trans (mS_same _ _ _ _)))) hL160 dX11_name_242 ?_
                    exact j_iret C hr hlk (⟨_, hM3, hs3, (by rw [sP18]), ⟨fun t k h1 h2 => by rw [pgTo_nk h1]; exact mS_ne (by omega), Or.inr ⟨b, a3, ebest, by rw [sP18]; exact e4, fun j hj => by unfold pgTo; rw [if_pos ⟨rfl, by omega⟩]⟩⟩, fun k9 hk9 => by rw [sP18] at hk9; unfold pgTo; rw [if_neg (fun z => by have := z.2; omega)]; exact mS_ne (Or.inl (by decide))⟩) dX11_name_245
                  · refine j_aload_n C dX11_name_214 rfl 0 rfl ?_
                    refine j_getV C hwX11 31 0 17 (MR.in0 hM3 (by decide) (by decide)) rfl rfl (by decide) rfl 0 (hM3.2.2.2 17 rfl) hL55 dX11_name_215 ?_
                    refine j_iload C dX11_name_218 5 rfl ?_
                    refine j_aload_n C dX11_name_220 rfl 0 rfl ?_
                    refine j_getV C hwX11 31 0 3 (MR.in0 hM3 (by decide) (by decide)) rfl rfl (by decide) rfl 0 (hM3.2.2.2 3 rfl) hL13 dX11_name_221 ?_
                    refine j_bipush C (nI 20) dX11_name_224 (by decide) ?_
                    refine j_iload_n C dX11_name_226 rfl 2 rfl ?_
                    refine j_imul C (nI (20 * b)) dX11_name_227 (pk_mul _ _) ?_
                    refine j_iload_n C dX11_name_228 rfl 3 rfl ?_
                    refine j_iadd C (nI (20 * b + a3)) dX11_name_229 (nI_add _ _) ?_
                    refine j_iload C dX11_name_230 5 rfl ?_
                    refine j_iadd C (nI (20 * b + a3 + i)) dX11_name_232 (nI_add _ _) ?_
                    refine j_bald C 33 0 (20 * b + a3 + i) (MR.in0 hM3 (by decide) (by decide)) rfl rfl 800 (hM3.2.2.1 33 (by decide) (by decide)) (by omega) (by omega) (nI (M 33 (20 * b + a3 + i))) ((hM3.1 33 (20 * b + a3 + i) (decide_eq_true (show 20 * b + a3 + i < 800 by omega))).trans (congrArg (menc 33) ((congrFun (pgTo_nk (by decide)) _).trans (mS_ne (Or.inl (by decide)))))) dX11_name_233 ?_
                    refine j_bast C 43 0 i (MR.in0 hM3 (by decide) (by decide)) rfl rfl 20 (hM3.2.2.1 43 (by decide) (by decide)) (by omega) (by omega) (nI (M 33 (20 * b + a3 + i))) (by rw [vp_nar_byte]; exact fa_byte_small (hL3 _ (by omega))) dX11_name_234 ?_
                    have hM_10 := MR.set (t := 43) (k := i) (x := (M 33 (20 * b + a3 + i))) (v := (nI (M 33 (20 * b + a3 + i)))) hM3 rfl
                    have hs_11 := Same.sI (t := 43) (i := 0) (k := i) (x := (nI (M 33 (20 * b + a3 + i)))) hs3 (by decide)
                    refine j_iinc C [(5, .int (nI (i + 1))), (0, .ref (gA Λ 31 0)), (1, .int (nI room)), (2, .int (nI b)), (3, .int (nI a3)), (4, .int (x4))] (nI (i + 1)) dX11_name_235 5 rfl (nI_add _ 1) (by decide) rfl ?_
                    refine j_goto (tgt := 205) C dX11_name_238 (by decide) ?_
                    refine j_lv [1, 2, 3, 4, 5, 0] rfl ?_
                    exact ih205 (sI σ3 43 0 i (nI (M 33 (20 * b + a3 + i)))) (i + 1) (by omega) (by omega) (by rw [← pgTo_succ]; exact hM_10) hs_11
              refine j_lv [1, 2, 3, 4, 5, 0] rfl ?_
              exact lb205 _ σ1 0 (Nat.lt_succ_self _) (by omega) (by rw [pgTo_0]; exact hM1) hs1
          · refine j_aload_n C dX11_name_52 rfl 0 rfl ?_
            refine j_getV C hwX11 31 0 11 (MR.in0 hM1 (by decide) (by decide)) rfl rfl (by decide) rfl 0 (hM1.2.2.2 11 rfl) hL36 dX11_name_53 ?_
            refine j_iload C dX11_name_56 5 rfl ?_
            have hb58 : M 37 r ≤ 1 := hB 37 r (decide_eq_true (show r < 40 by omega))
            refine j_zald C 37 0 r (MR.in0 hM1 (by decide) (by decide)) rfl rfl 40 (hM1.2.2.1 37 (by decide) (by decide)) (by omega) (by omega) (nI (M 37 r)) ((hM1.1 37 r (decide_eq_true (show r < 40 by omega))).trans (congrArg (menc 37) (mS_ne (Or.inl (by decide))))) dX11_name_58 ?_
            refine j_if_ne (tgt := 196) C dX11_name_59 (by decide) (nJ_ne0 (by omega)) (fun h59 => ?_) (fun h59 => ?_)
            · refine j_iinc C [(5, .int (nI (r + 1))), (0, .ref (gA Λ 31 0)), (1, .int (nI room)), (2, .int (x2)), (3, .int (nI a3)), (4, .int (x4))] (nI (r + 1)) dX11_name_196 5 rfl (nI_add _ 1) (by decide) rfl ?_
              refine j_goto (tgt := 43) C dX11_name_199 (by decide) ?_
              refine j_lv [1, 2, 3, 4, 5, 0] rfl ?_
              exact ih43 σ1 x2 x4 a3 pl (r + 1) (by omega) (by omega) hM1 hs1 (NmI.more hI (fun r9 k9 hc hz => by rcases (show r9 < r ∨ r9 = r by omega) with z | z; exact Or.inl z; subst z; exact absurd hc.2.1 h59))
            · refine j_aload_n C dX11_name_62 rfl 0 rfl ?_
              refine j_getV C hwX11 31 0 12 (MR.in0 hM1 (by decide) (by decide)) rfl rfl (by decide) rfl 0 (hM1.2.2.2 12 rfl) hL40 dX11_name_63 ?_
              refine j_iload C dX11_name_66 5 rfl ?_
              have hb68 : M 38 r ≤ 5 := hB 38 r (decide_eq_true (show r < 40 by omega))
              refine j_iald C 38 0 r (MR.in0 hM1 (by decide) (by decide)) rfl rfl 40 (hM1.2.2.1 38 (by decide) (by decide)) (by omega) (by omega) (nI (M 38 r)) ((hM1.1 38 r (decide_eq_true (show r < 40 by omega))).trans (congrArg (menc 38) (mS_ne (Or.inl (by decide))))) dX11_name_68 ?_
              refine j_iload_n C dX11_name_69 rfl 1 rfl ?_
              refine j_icmp_eq (tgt := 76) C dX11_name_70 (by decide) (nI_eq (by omega) (by omega)) (fun h70 => ?_) (fun h70 => ?_)
              · refine j_iconst C (nI 0) dX11_name_76 (by decide) ?_
                refine j_istore C [(6, .int (nI 0)), (0, .ref (gA Λ 31 0)), (1, .int (nI room)), (2, .int (x2)), (3, .int (nI a3)), (4, .int (x4)), (5, .int (nI r))] dX11_name_77 (by decide) rfl ?_
                have lb79 : ∀ (fu : Nat) (σ2 : HS) (x2 x4 : Int32) (a3 pl k : Nat), (21 - k) < fu → (k ≤ 21) → (k = 0 ∨ M 34 r < k ∨ M 33 (20 * r + (k - 1)) = 95) → (MR Λ σ2 (mS M 31 18 pl)) → (Same nMo σ σ2) → (NmI M room x2 a3 x4 pl r k) → J p l e ({ frames := 24, cells := 0, slots := 0, locals := 360 }) s m ([.ref (gA Λ 31 0), .int (nI room)] : List Value).toArray below meth c 9 D cy base (MQ below (va_Qi (fun v u => ∃ M', MR Λ u M' ∧ Same nMo σ u ∧ v = nI (M' 31 18) ∧ NmR M room M' ∧ ∀ k, M' 31 18 ≤ k → M' 43 k = M 43 k) (Wd D cy base Λ) (Ab base)) ([.ref (gA Λ 31 0), .int (nI room)] : List Value).toArray s 0 0 (Ab base)) 0 0 Λ 79 [(0, .ref (gA Λ 31 0)), (1, .int (nI room)), (2, .int (x2)), (3, .int (nI a3)), (4, .int (x4)), (5, .int (nI r)), (6, .int (nI k))] [] σ2 := by
                  intro fu
                  induction fu with
                  | zero => intro σ2 x2 x4 a3 pl k hfu; exact absurd hfu (Nat.not_lt_zero _)
                  | succ fu ih =>
                    intro σ2 x2 x4 a3 pl k hfu hk hk2 hM2 hs2 hI2
                    have hpl2 := hI2.pl hL hn
                    have hB1 : MBd (mS M 31 18 pl) := hB.set (show pl ≤ 40 by omega)
                    have hlr := hL r (by omega)
                    have ih79 := ih
                    refine j_iload C dX11_name_79 6 rfl ?_
                    refine j_aload_n C dX11_name_81 rfl 0 rfl ?_
                    refine j_getV C hwX11 31 0 4 (MR.in0 hM2 (by decide) (by decide)) rfl rfl (by decide) rfl 0 (hM2.2.2.2 4 rfl) hL16 dX11_name_82 ?_
                    refine j_iload C dX11_name_85 5 rfl ?_
                    have hb87 : M 34 r ≤ 40 := hB 34 r (decide_eq_true (show r < 40 by omega))
                    refine j_iald C 34 0 r (MR.in0 hM2 (by decide) (by decide)) rfl rfl 40 (hM2.2.2.1 34 (by decide) (by decide)) (by omega) (by omega) (nI (M 34 r)) ((hM2.1 34 r (decide_eq_true (show r < 40 by omega))).trans (congrArg (menc 34) (mS_ne (Or.inl (by decide))))) dX11_name_87 ?_
                    refine j_icmp_ge (tgt := 196) C dX11_name_88 (by decide) (nI_leI (by omega) (by omega)) (fun h88 => ?_) (fun h88 => ?_)
                    · refine j_iinc C [(5, .int (nI (r + 1))), (0, .ref (gA Λ 31 0)), (1, .int (nI room)), (2, .int (x2)), (3, .int (nI a3)), (4, .int (x4)), (6, .int (nI k))] (nI (r + 1)) dX11_name_196 5 rfl (nI_add _ 1) (by decide) rfl ?_
                      refine j_goto (tgt := 43) C dX11_name_199 (by decide) ?_
                      refine j_lv [1, 2, 3, 4, 5, 0] rfl ?_
                      exact ih43 σ2 x2 x4 a3 pl (r + 1) (by omega) (by omega) hM2 hs2 (NmI.more hI2 (fun r9 k9 hc hz => by have hc1 := hc.2.2.2.1.1; rcases (show r9 < r ∨ r9 = r by omega) with z | z; exact Or.inl z; subst z; exact Or.inr ⟨rfl, by omega⟩))
                    · refine j_aload_n C dX11_name_91 rfl 0 rfl ?_
                      refine j_iload C dX11_name_92 5 rfl ?_
                      refine j_iload C dX11_name_94 6 rfl ?_
                      have hge96 := endK_ge M r k
                      have hle96 := endK_le (M := M) (r := r) (k := k) (by omega)
                      refine c_i0 C (r_V C 31 0 [.int (nI r), .int (nI k)] (c_X11_ends l D cy base Λ σ2 (mS M 31 18 pl) hM2 hB1 hL r k (by omega) (by omega)) (cwV 2 hts gX11_name_X11_ends rfl rfl rfl (by decide +kernel) ⟨by decide, by decide⟩) (MR.in0 hM2 (by decide) (by decide)) rfl rfl rfl rfl (Nat.le_of_ble_eq_true rfl) dX11_name_96 ⟨by decide, by decide⟩) (fun rv uu hp => ?_)
                      rw [hp.1, hp.2, plE]
                      refine j_iload C dX11_name_99 6 rfl ?_
                      refine j_isub C (nI (lnW M r k)) dX11_name_101 (pk_sub (endK_ge M r k)) ?_
                      have hlw : lnW M r k ≤ 20 := by unfold lnW; omega
                      have hlw2 : k + lnW M r k ≤ 20 := by unfold lnW; omega
                      refine j_istore C [(7, .int (nI (lnW M r k))), (0, .ref (gA Λ 31 0)), (1, .int (nI room)), (2, .int (x2)), (3, .int (nI a3)), (4, .int (x4)), (5, .int (nI r)), (6, .int (nI k))] dX11_name_102 (by decide) rfl ?_
                      refine j_iload C dX11_name_104 0 rfl ?_
                      refine j_if_ne (tgt := 112) C dX11_name_106 (by decide) (nJ_ne0 (by omega)) (fun h106 => ?_) (fun h106 => ?_)
                      · refine j_aload_n C dX11_name_112 rfl 1 rfl ?_
                        refine j_iload_n C dX11_name_113 rfl 2 rfl ?_
                        refine j_iload C dX11_name_114 6 rfl ?_
                        refine j_iload C dX11_name_116 7 rfl ?_
                        refine j_iload C dX11_name_118 0 rfl ?_
                        refine c_i0 C (r_V C 31 0 [.int (nI room), .int (nI r), .int (nI k), .int (nI (lnW M r k))] (c_X11_scoreOf l D cy base Λ σ2 (mS M 31 18 pl) hM2 hB1 hL room r k (lnW M r k) (by omega) (by omega) (by omega)) (cwV 4 hts gX11_name_X11_scoreOf rfl rfl rfl (by decide +kernel) ⟨by decide, by decide⟩) (MR.in0 hM2 (by decide) (by decide)) rfl rfl rfl rfl (Nat.le_of_ble_eq_true rfl) dX11_name_120 ⟨by decide, by decide⟩) (fun rs_17 uu hp => ?_)
                        have hsc : rs_17.toInt = scW M room r k := hp.1.trans plS
                        rw [hp.2]
                        refine j_istore C [(8, .int (rs_17)), (7, .int (nI (lnW M r k))), (0, .ref (gA Λ 31 0)), (1, .int (nI room)), (2, .int (x2)), (3, .int (nI a3)), (4, .int (x4)), (5, .int (nI r)), (6, .int (nI k))] dX11_name_123 (by decide) rfl ?_
                        refine j_iload_n C dX11_name_125 rfl 4 rfl ?_
                        refine j_if_lt (tgt := 165) C dX11_name_126 (by decide) (hI2.neg hn) (fun h126 => ?_) (fun h126 => ?_)
                        · refine j_iload C dX11_name_165 7 rfl ?_
                          refine j_istore_n C [(2, .int (nI r)), (8, .int (rs_17)), (7, .int (nI (lnW M r k))), (0, .ref (gA Λ 31 0)), (1, .int (nI room)), (3, .int (nI a3)), (4, .int (x4)), (5, .int (nI r)), (6, .int (nI k))] dX11_name_167 rfl (by decide) rfl ?_
                          refine j_iload C dX11_name_168 8 rfl ?_
                          refine j_istore_n C [(3, .int (nI k)), (2, .int (nI r)), (8, .int (rs_17)), (7, .int (nI (lnW M r k))), (0, .ref (gA Λ 31 0)), (1, .int (nI room)), (4, .int (x4)), (5, .int (nI r)), (6, .int (nI k))] dX11_name_170 rfl (by decide) rfl ?_
                          refine j_iload C dX11_name_171 2 rfl ?_
                          refine j_istore C [(4, .int (rs_17)), (3, .int (nI k)), (2, .int (nI r)), (8, .int (rs_17)), (7, .int (nI (lnW M r k))), (0, .ref (gA Λ 31 0)), (1, .int (nI room)), (5, .int (nI r)), (6, .int (nI k))] dX11_name_173 (by decide) rfl ?_
                          refine j_aload_n C dX11_name_175 rfl 5 rfl ?_
                          refine j_iload C dX11_name_176 4 rfl ?_
                          refine j_putI C hwX11 31 0 18 (MR.in0 hM2 (by decide) (by decide)) rfl rfl (by decide) rfl tyX11 tyX11_ok nmX11 rfl rfl rfl hL160 dX11_name_178 ?_
                          have hM_19 := MR.set (t := 31) (k := 18) (x := (lnW M r k)) (v := (nI (lnW M r k))) hM2 rfl
                          have hs_20 := Same.sI (t := 31) (i := 0) (k := 18) (x := (nI (lnW M r k))) hs2 (by decide)
                          refine j_aload_n C dX11_name_181 rfl 5 rfl ?_
                          refine j_iload C dX11_name_182 7 rfl ?_
                          refine j_iload C dX11_name_184 8 rfl ?_
                          have hge186 := endK_ge M r k
                          have hle186 := endK_le (M := M) (r := r) (k := k) (by omega)
                          refine c_i0 C (r_V C 31 0 [.int (nI r), .int (nI k)] (c_X11_ends l D cy base Λ (sI σ2 31 0 18 (nI (lnW M r k))) (mS (mS M 31 18 pl) 31 18 (lnW M r k)) hM_19 (hB1.set (show lnW M r k ≤ 40 by omega)) hL r k (by omega) (by omega)) (cwV 2 hts gX11_name_X11_ends rfl rfl rfl (by decide +kernel) ⟨by decide, by decide⟩) (MR.in0 hM_19 (by decide) (by decide)) rfl rfl rfl rfl (Nat.le_of_ble_eq_true rfl) dX11_name_186 ⟨by decide, by decide⟩) (fun rv uu hp => ?_)
                          rw [hp.1, hp.2, plE, plE]
                          refine j_iconst C (nI 1) dX11_name_189 (by decide) ?_
                          refine j_iadd C (nI (endK M r k + 1)) dX11_name_190 (nI_add _ _) ?_
                          refine j_istore C [(6, .int (nI (endK M r k + 1))), (4, .int (rs_17)), (3, .int (nI k)), (2, .int (nI r)), (8, .int (rs_17)), (7, .int (nI (lnW M r k))), (0, .ref (gA Λ 31 0)), (1, .int (nI room)), (5, .int (nI r))] dX11_name_191 (by decide) rfl ?_
                          refine j_goto (tgt := 79) C dX11_name_193 (by decide) ?_
                          refine j_lv [6, 7, 3, 2, 1, 8, 0] rfl ?_
                          exact ih79 (sI σ2 31 0 18 (nI (lnW M r k))) (nI r) rs_17 k (lnW M r k) (endK M r k + 1) (by omega) (by omega) (Or.inr ((Nat.lt_or_ge (endK M r k) (M 34 r)).elim (fun z => Or.inr (by rw [Nat.add_sub_cancel]; exact endK_at z)) (fun z => Or.inl (by omega)))) (by have q := hM_19; rw [mS_twice] at q; exact q) hs_20 (NmI.take hI2 ⟨by omega, h59, h70, ⟨by omega, hk2.elim Or.inl (fun z => z.elim (fun q => absurd q (by omega)) Or.inr)⟩, h106⟩ hsc (fun b h1 hc1 _ _ => by have hc2 := hc1.1; exact absurd (h126.symm.trans h1) (by intro e; have e2 : (-1 : Int32).toInt = (nI b).toInt := (by rw [e]); rw [nI_toInt (by omega)] at e2; have e3 : (-1 : Int32).toInt = -1 := (by decide); omega)) (fun k9 hk9 hk8 => isSt_next (by omega) hk9 hk8))
                        · obtain ⟨b, hb1, hb2, hb3, hb4⟩ := hI2.some h126
                          subst hb1
                          have hbl := cand_len hL hn hb2
                          refine j_iload C dX11_name_129 0 rfl ?_
                          refine j_iload C dX11_name_131 6 rfl ?_
                          refine j_icmp_lt (tgt := 181) C dX11_name_133 (by decide) (fa_lt _ _) (fun h133 => ?_) (fun h133 => ?_)
                          · refine j_aload_n C dX11_name_181 rfl 2 rfl ?_
                            refine j_iload C dX11_name_182 7 rfl ?_
                            refine j_iload C dX11_name_184 8 rfl ?_
                            have hge186 := endK_ge M r k
                            have hle186 := endK_le (M := M) (r := r) (k := k) (by omega)
                            refine c_i0 C (r_V C 31 0 [.int (nI r), .int (nI k)] (c_X11_ends l D cy base Λ σ2 (mS M 31 18 pl) hM2 hB1 hL r k (by omega) (by omega)) (cwV 2 hts gX11_name_X11_ends rfl rfl rfl (by decide +kernel) ⟨by decide, by decide⟩) (MR.in0 hM2 (by decide) (by decide)) rfl rfl rfl rfl (Nat.le_of_ble_eq_true rfl) dX11_name_186 ⟨by decide, by decide⟩) (fun rv uu hp => ?_)
                            rw [hp.1, hp.2, plE]
                            refine j_iconst C (nI 1) dX11_name_189 (by decide) ?_
                            refine j_iadd C (nI (endK M r k + 1)) dX11_name_190 (nI_add _ _) ?_
                            refine j_istore C [(6, .int (nI (endK M r k + 1))), (8, .int (rs_17)), (7, .int (nI (lnW M r k))), (0, .ref (gA Λ 31 0)), (1, .int (nI room)), (2, .int (nI b)), (3, .int (nI a3)), (4, .int (x4)), (5, .int (nI r))] dX11_name_191 (by decide) rfl ?_
                            refine j_goto (tgt := 79) C dX11_name_193 (by decide) ?_
                            refine j_lv [3, 4, 5, 6, 7, 8, 0] rfl ?_
                            exact ih79 σ2 (nI b) x4 a3 pl (endK M r k + 1) (by omega) (by omega) (Or.inr ((Nat.lt_or_ge (endK M r k) (M 34 r)).elim (fun z => Or.inr (by rw [Nat.add_sub_cancel]; exact endK_at z)) (fun z => Or.inl (by omega)))) hM2 hs2 (NmI.skip hI2 (by omega) hn (fun hc1 hs1 hp1 => Or.inl (by rw [← hs1, ← hsc]; exact h133)) (fun k9 hk9 hk8 => isSt_next (by omega) hk9 hk8))
                          · refine j_iload C dX11_name_136 0 rfl ?_
                            refine j_iload C dX11_name_138 6 rfl ?_
                            refine j_icmp_ne (tgt := 165) C dX11_name_140 (by decide) (fa_eq _ _) (fun h140 => ?_) (fun h140 => ?_)
                            · refine j_iload C dX11_name_165 7 rfl ?_
                              refine j_istore_n C [(2, .int (nI r)), (8, .int (rs_17)), (7, .int (nI (lnW M r k))), (0, .ref (gA Λ 31 0)), (1, .int (nI room)), (3, .int (nI a3)), (4, .int (x4)), (5, .int (nI r)), (6, .int (nI k))] dX11_name_167 rfl (by decide) rfl ?_
                              refine j_iload C dX11_name_168 8 rfl ?_
                              refine j_istore_n C [(3, .int (nI k)), (2, .int (nI r)), (8, .int (rs_17)), (7, .int (nI (lnW M r k))), (0, .ref (gA Λ 31 0)), (1, .int (nI room)), (4, .int (x4)), (5, .int (nI r)), (6, .int (nI k))] dX11_name_170 rfl (by decide) rfl ?_
                              refine j_iload C dX11_name_171 2 rfl ?_
                              refine j_istore C [(4, .int (rs_17)), (3, .int (nI k)), (2, .int (nI r)), (8, .int (rs_17)), (7, .int (nI (lnW M r k))), (0, .ref (gA Λ 31 0)), (1, .int (nI room)), (5, .int (nI r)), (6, .int (nI k))] dX11_name_173 (by decide) rfl ?_
                              refine j_aload_n C dX11_name_175 rfl 5 rfl ?_
                              refine j_iload C dX11_name_176 4 rfl ?_
                              refine j_putI C hwX11 31 0 18 (MR.in0 hM2 (by decide) (by decide)) rfl rfl (by decide) rfl tyX11 tyX11_ok nmX11 rfl rfl rfl hL160 dX11_name_178 ?_
                              have hM_23 := MR.set (t := 31) (k := 18) (x := (lnW M r k)) (v := (nI (lnW M r k))) hM2 rfl
                              have hs_24 := Same.sI (t := 31) (i := 0) (k := 18) (x := (nI (lnW M r k))) hs2 (by decide)
                              refine j_aload_n C dX11_name_181 rfl 5 rfl ?_
                              refine j_iload C dX11_name_182 7 rfl ?_
                              refine j_iload C dX11_name_184 8 rfl ?_
                              have hge186 := endK_ge M r k
                              have hle186 := endK_le (M := M) (r := r) (k := k) (by omega)
                              refine c_i0 C (r_V C 31 0 [.int (nI r), .int (nI k)] (c_X11_ends l D cy base Λ (sI σ2 31 0 18 (nI (lnW M r k))) (mS (mS M 31 18 pl) 31 18 (lnW M r k)) hM_23 (hB1.set (show lnW M r k ≤ 40 by omega)) hL r k (by omega) (by omega)) (cwV 2 hts gX11_name_X11_ends rfl rfl rfl (by decide +kernel) ⟨by decide, by decide⟩) (MR.in0 hM_23 (by decide) (by decide)) rfl rfl rfl rfl (Nat.le_of_ble_eq_true rfl) dX11_name_186 ⟨by decide, by decide⟩) (fun rv uu hp => ?_)
                              rw [hp.1, hp.2, plE, plE]
                              refine j_iconst C (nI 1) dX11_name_189 (by decide) ?_
                              refine j_iadd C (nI (endK M r k + 1)) dX11_name_190 (nI_add _ _) ?_
                              refine j_istore C [(6, .int (nI (endK M r k + 1))), (4, .int (rs_17)), (3, .int (nI k)), (2, .int (nI r)), (8, .int (rs_17)), (7, .int (nI (lnW M r k))), (0, .ref (gA Λ 31 0)), (1, .int (nI room)), (5, .int (nI r))] dX11_name_191 (by decide) rfl ?_
                              refine j_goto (tgt := 79) C dX11_name_193 (by decide) ?_
                              refine j_lv [6, 7, 3, 2, 1, 8, 0] rfl ?_
                              exact ih79 (sI σ2 31 0 18 (nI (lnW M r k))) (nI r) rs_17 k (lnW M r k) (endK M r k + 1) (by omega) (by omega) (Or.inr ((Nat.lt_or_ge (endK M r k) (M 34 r)).elim (fun z => Or.inr (by rw [Nat.add_sub_cancel]; exact endK_at z)) (fun z => Or.inl (by omega)))) (by have q := hM_23; rw [mS_twice] at q; exact q) hs_24 (NmI.take hI2 ⟨by omega, h59, h70, ⟨by omega, hk2.elim Or.inl (fun z => z.elim (fun q => absurd q (by omega)) Or.inr)⟩, h106⟩ hsc (fun b9 h1 hc1 hs1 hp1 => Or.inl (by rw [← hs1, ← hsc]; omega)) (fun k9 hk9 hk8 => isSt_next (by omega) hk9 hk8))
                            · refine j_aload_n C dX11_name_143 rfl 2 rfl ?_
                              refine j_iload C dX11_name_144 7 rfl ?_
                              refine j_iload C dX11_name_146 8 rfl ?_
                              refine j_iload C dX11_name_148 1 rfl ?_
                              refine j_iload_n C dX11_name_150 rfl 4 rfl ?_
                              refine j_iload_n C dX11_name_151 rfl 5 rfl ?_
                              refine j_aload_n C dX11_name_152 rfl 2 rfl ?_
                              refine j_getI C hwX11 31 0 18 (MR.in0 hM2 (by decide) (by decide)) rfl rfl (by decide) rfl (nI pl) ((hM2.1 31 18 rfl).trans (congrArg (menc 31) (mS_same _ _ _ _))) hL160 dX11_name_153 ?_
                              refine c_i0 C (r_V C 31 0 [.int (nI r), .int (nI k), .int (nI (lnW M r k)), .int (nI b), .int (nI a3), .int (nI pl)] (c_X11_compared l D cy base Λ σ2 (mS M 31 18 pl) hM2 hB1 r k (lnW M r k) b a3 pl (by omega) (by omega) (by omega) (by omega)) (cwV 6 hts gX11_name_X11_compared rfl rfl rfl (by decide +kernel) ⟨by decide, by decide⟩) (MR.in0 hM2 (by decide) (by decide)) rfl rfl rfl rfl (Nat.le_of_ble_eq_true rfl) dX11_name_156 ⟨by decide, by decide⟩) (fun rc_25 uu hp => ?_)
                              obtain ⟨hrc_25, hp2⟩ := hp
                              rw [hp2]
                              refine j_if_lt (tgt := 165) C dX11_name_159 (by decide) (show (rc_25 < 0) ↔ wlt (lnW M r k) (wdF M r k) pl (wdF M b a3) by rw [fa_lt]; exact hrc_25.1) (fun h159 => ?_) (fun h159 => ?_)
                              · refine j_iload C dX11_name_165 7 rfl ?_
                                refine j_istore_n C [(2, .int (nI r)), (8, .int (rs_17)), (7, .int (nI (lnW M r k))), (0, .ref (gA Λ 31 0)), (1, .int (nI room)), (3, .int (nI a3)), (4, .int (x4)), (5, .int (nI r)), (6, .int (nI k))] dX11_name_167 rfl (by decide) rfl ?_
                                refine j_iload C dX11_name_168 8 rfl ?_
                                refine j_istore_n C [(3, .int (nI k)), (2, .int (nI r)), (8, .int (rs_17)), (7, .int (nI (lnW M r k))), (0, .ref (gA Λ 31 0)), (1, .int (nI room)), (4, .int (x4)), (5, .int (nI r)), (6, .int (nI k))] dX11_name_170 rfl (by decide) rfl ?_
                                refine j_iload C dX11_name_171 2 rfl ?_
                                refine j_istore C [(4, .int (rs_17)), (3, .int (nI k)), (2, .int (nI r)), (8, .int (rs_17)), (7, .int (nI (lnW M r k))), (0, .ref (gA Λ 31 0)), (1, .int (nI room)), (5, .int (nI r)), (6, .int (nI k))] dX11_name_173 (by decide) rfl ?_
                                refine j_aload_n C dX11_name_175 rfl 5 rfl ?_
                                refine j_iload C dX11_name_176 4 rfl ?_
                                refine j_putI C hwX11 31 0 18 (MR.in0 hM2 (by decide) (by decide)) rfl rfl (by decide) rfl tyX11 tyX11_ok nmX11 rfl rfl rfl hL160 dX11_name_178 ?_
                                have hM_27 := MR.set (t := 31) (k := 18) (x := (lnW M r k)) (v := (nI (lnW M r k))) hM2 rfl
                                have hs_28 := Same.sI (t := 31) (i := 0) (k := 18) (x := (nI (lnW M r k))) hs2 (by decide)
                                refine j_aload_n C dX11_name_181 rfl 5 rfl ?_
                                refine j_iload C dX11_name_182 7 rfl ?_
                                refine j_iload C dX11_name_184 8 rfl ?_
                                have hge186 := endK_ge M r k
                                have hle186 := endK_le (M := M) (r := r) (k := k) (by omega)
                                refine c_i0 C (r_V C 31 0 [.int (nI r), .int (nI k)] (c_X11_ends l D cy base Λ (sI σ2 31 0 18 (nI (lnW M r k))) (mS (mS M 31 18 pl) 31 18 (lnW M r k)) hM_27 (hB1.set (show lnW M r k ≤ 40 by omega)) hL r k (by omega) (by omega)) (cwV 2 hts gX11_name_X11_ends rfl rfl rfl (by decide +kernel) ⟨by decide, by decide⟩) (MR.in0 hM_27 (by decide) (by decide)) rfl rfl rfl rfl (Nat.le_of_ble_eq_true rfl) dX11_name_186 ⟨by decide, by decide⟩) (fun rv uu hp => ?_)
                                rw [hp.1, hp.2, plE, plE]
                                refine j_iconst C (nI 1) dX11_name_189 (by decide) ?_
                                refine j_iadd C (nI (endK M r k + 1)) dX11_name_190 (nI_add _ _) ?_
                                refine j_istore C [(6, .int (nI (endK M r k + 1))), (4, .int (rs_17)), (3, .int (nI k)), (2, .int (nI r)), (8, .int (rs_17)), (7, .int (nI (lnW M r k))), (0, .ref (gA Λ 31 0)), (1, .int (nI room)), (5, .int (nI r))] dX11_name_191 (by decide) rfl ?_
                                refine j_goto (tgt := 79) C dX11_name_193 (by decide) ?_
                                refine j_lv [6, 7, 3, 2, 1, 8, 0] rfl ?_
                                exact ih79 (sI σ2 31 0 18 (nI (lnW M r k))) (nI r) rs_17 k (lnW M r k) (endK M r k + 1) (by omega) (by omega) (Or.inr ((Nat.lt_or_ge (endK M r k) (M 34 r)).elim (fun z => Or.inr (by rw [Nat.add_sub_cancel]; exact endK_at z)) (fun z => Or.inl (by omega)))) (by have q := hM_27; rw [mS_twice] at q; exact q) hs_28 (NmI.take hI2 ⟨by omega, h59, h70, ⟨by omega, hk2.elim Or.inl (fun z => z.elim (fun q => absurd q (by omega)) Or.inr)⟩, h106⟩ hsc (fun b9 h1 hc1 hs1 hp1 => by have hc2 := hc1.1; have eb := (nI_eq (by omega) (by omega)).mp h1; subst eb; refine Or.inr ⟨by rw [← hs1, ← hsc]; exact h140.symm, wlt_asym ?_⟩; have q := h159; rw [hp1] at q; exact q) (fun k9 hk9 hk8 => isSt_next (by omega) hk9 hk8))
                              · refine j_goto (tgt := 181) C dX11_name_162 (by decide) ?_
                                refine j_aload_n C dX11_name_181 rfl 2 rfl ?_
                                refine j_iload C dX11_name_182 7 rfl ?_
                                refine j_iload C dX11_name_184 8 rfl ?_
                                have hge186 := endK_ge M r k
                                have hle186 := endK_le (M := M) (r := r) (k := k) (by omega)
                                refine c_i0 C (r_V C 31 0 [.int (nI r), .int (nI k)] (c_X11_ends l D cy base Λ σ2 (mS M 31 18 pl) hM2 hB1 hL r k (by omega) (by omega)) (cwV 2 hts gX11_name_X11_ends rfl rfl rfl (by decide +kernel) ⟨by decide, by decide⟩) (MR.in0 hM2 (by decide) (by decide)) rfl rfl rfl rfl (Nat.le_of_ble_eq_true rfl) dX11_name_186 ⟨by decide, by decide⟩) (fun rv uu hp => ?_)
                                rw [hp.1, hp.2, plE]
                                refine j_iconst C (nI 1) dX11_name_189 (by decide) ?_
                                refine j_iadd C (nI (endK M r k + 1)) dX11_name_190 (nI_add _ _) ?_
                                refine j_istore C [(6, .int (nI (endK M r k + 1))), (8, .int (rs_17)), (7, .int (nI (lnW M r k))), (0, .ref (gA Λ 31 0)), (1, .int (nI room)), (2, .int (nI b)), (3, .int (nI a3)), (4, .int (x4)), (5, .int (nI r))] dX11_name_191 (by decide) rfl ?_
                                refine j_goto (tgt := 79) C dX11_name_193 (by decide) ?_
                                refine j_lv [3, 4, 5, 6, 7, 8, 0] rfl ?_
                                exact ih79 σ2 (nI b) x4 a3 pl (endK M r k + 1) (by omega) (by omega) (Or.inr ((Nat.lt_or_ge (endK M r k) (M 34 r)).elim (fun z => Or.inr (by rw [Nat.add_sub_cancel]; exact endK_at z)) (fun z => Or.inl (by omega)))) hM2 hs2 (NmI.skip hI2 (by omega) hn (fun hc1 hs1 hp1 => Or.inr ⟨by rw [← hs1, ← hsc]; exact h140, fun z => h159 (by rw [hp1]; exact z)⟩) (fun k9 hk9 hk8 => isSt_next (by omega) hk9 hk8))
                      · refine j_goto (tgt := 181) C dX11_name_109 (by decide) ?_
                        refine j_aload_n C dX11_name_181 rfl 1 rfl ?_
                        refine j_iload C dX11_name_182 6 rfl ?_
                        refine j_iload C dX11_name_184 7 rfl ?_
                        have hge186 := endK_ge M r k
                        have hle186 := endK_le (M := M) (r := r) (k := k) (by omega)
                        refine c_i0 C (r_V C 31 0 [.int (nI r), .int (nI k)] (c_X11_ends l D cy base Λ σ2 (mS M 31 18 pl) hM2 hB1 hL r k (by omega) (by omega)) (cwV 2 hts gX11_name_X11_ends rfl rfl rfl (by decide +kernel) ⟨by decide, by decide⟩) (MR.in0 hM2 (by decide) (by decide)) rfl rfl rfl rfl (Nat.le_of_ble_eq_true rfl) dX11_name_186 ⟨by decide, by decide⟩) (fun rv uu hp => ?_)
                        rw [hp.1, hp.2, plE]
                        refine j_iconst C (nI 1) dX11_name_189 (by decide) ?_
                        refine j_iadd C (nI (endK M r k + 1)) dX11_name_190 (nI_add _ _) ?_
                        refine j_istore C [(6, .int (nI (endK M r k + 1))), (7, .int (nI (lnW M r k))), (0, .ref (gA Λ 31 0)), (1, .int (nI room)), (2, .int (x2)), (3, .int (nI a3)), (4, .int (x4)), (5, .int (nI r))] dX11_name_191 (by decide) rfl ?_
                        refine j_goto (tgt := 79) C dX11_name_193 (by decide) ?_
                        refine j_lv [2, 3, 4, 5, 6, 7, 0] rfl ?_
                        exact ih79 σ2 x2 x4 a3 pl (endK M r k + 1) (by omega) (by omega) (Or.inr ((Nat.lt_or_ge (endK M r k) (M 34 r)).elim (fun z => Or.inr (by rw [Nat.add_sub_cancel]; exact endK_at z)) (fun z => Or.inl (by omega)))) hM2 hs2 (NmI.more hI2 (fun r9 k9 hc hz => by rcases hz with z | ⟨z, z2⟩; exact Or.inl z; subst z; refine Or.inr ⟨rfl, ?_⟩; rcases Nat.lt_trichotomy k9 k with q | q | q; exact q; exact absurd (by rw [q]; exact h106) hc.2.2.2.2; exact absurd (isSt_next (by omega) hc.2.2.2.1 q) (by omega)))
                refine j_lv [1, 2, 3, 4, 5, 6, 0] rfl ?_
                exact lb79 _ σ1 x2 x4 a3 pl 0 (Nat.lt_succ_self _) (by omega) (Or.inl rfl) hM1 hs1 hI
              · refine j_goto (tgt := 196) C dX11_name_73 (by decide) ?_
                refine j_iinc C [(5, .int (nI (r + 1))), (0, .ref (gA Λ 31 0)), (1, .int (nI room)), (2, .int (x2)), (3, .int (nI a3)), (4, .int (x4))] (nI (r + 1)) dX11_name_196 5 rfl (nI_add _ 1) (by decide) rfl ?_
                refine j_goto (tgt := 43) C dX11_name_199 (by decide) ?_
                refine j_lv [1, 2, 3, 4, 5, 0] rfl ?_
                exact ih43 σ1 x2 x4 a3 pl (r + 1) (by omega) (by omega) hM1 hs1 (NmI.more hI (fun r9 k9 hc hz => by rcases (show r9 < r ∨ r9 = r by omega) with z | z; exact Or.inl z; subst z; exact absurd hc.2.2.1 h70))
      refine j_lv [4, 5, 3, 2, 1, 0] rfl ?_
      exact lb43 _ (sI σ0 31 0 18 (nI 0)) (-1) (nI 0) 0 0 0 (Nat.lt_succ_self _) (by omega) hM_3 hs_4 (Or.inl ⟨rfl, rfl, rfl, fun r9 k9 hc hz => by omega⟩)
    · exact absurd trivial z
  · exact absurd (h11.symm.trans (inRm_nI hB hroom)) (by decide)
