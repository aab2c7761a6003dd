set_option maxHeartbeats 4000000 in
set_option maxRecDepth 100000 in
theorem c_X0_wordFor (l : Launch) (D : va_G) (cy : Nat → ClassId) (base : Nat) (Λ : LY) (σ : HS) (n ar cp : Nat) (wf tx ln hd : Nat → Nat) (lt : Nat → Nat → Nat) (hL : GL Λ σ n ar cp wf tx ln hd lt) (x y : Nat) (hx : x < 2 ^ 40) (hy : y < 2 ^ 40) (hn450 : n ≤ 450) : Met l yX0_wordFor wsX0_wordFor ({ frames := 16, cells := 0, slots := 0, locals := 240 }) (va_Pc [.ref (gA Λ 14 0), .long (lN x), .long (lN y)] (Wd D cy base Λ σ)) (va_Qq (fun ra u => ∃ co, ra = Option.map (fun q => gA Λ 17 (wf q)) co ∧ u = σ ∧ ChW n (fun q => popN (hd q &&& x)) (fun q => ((popN (hd q &&& x) * popN y : Nat) : Int) - ((popN (hd q &&& y) * popN x : Nat) : Int)) co) (Wd D cy base Λ) (Ab base)) 0 0 (Ab base) := by
  refine j_start (cc := cX0_wordFor) (nL := 13) (ret := (some (.object "CodeRooms$Word"))) (lv := [(0, .ref (gA Λ 14 0)), (1, .long (lN x)), (3, .long (lN y))]) (by decide) rfl (Nat.le_of_ble_eq_true rfl) rfl ?_
  intro p e s m below meth c C hr hlk hnm
  have C : Cx p s m ([.ref (gA Λ 14 0), .long (lN x), .long (lN y)] : List Value).toArray c cX0_wordFor 13 RX0 wsX0_wordFor D cy base := C
  have hts := C.2.2.2.2.1
  have hwX0 : ∀ w ∈ u_ws RX0 TX0 1, w ∈ wsX0_wordFor := by decide +kernel
  have hwX9 : ∀ w ∈ u_ws RX9 TX9 2, w ∈ wsX0_wordFor := by decide +kernel
  have hM10 : (Cond.fieldLink RX0 10 (TX0 0).1 (TX0 0).2.1 (TX0 0).2.2.1).before ([.ref (gA Λ 14 0), .long (lN x), .long (lN y)] : List Value).toArray s = true := hts (.fieldLink RX0 10 "CodeRooms$Glossary" "words" "Ljava/util/ArrayList;") (by decide +kernel)
  have hL10 : FL RX0 10 (TX0 0).1 (TX0 0).2.1 (TX0 0).2.2.1 ([.ref (gA Λ 14 0), .long (lN x), .long (lN y)] : List Value).toArray s := Or.inl hM10
  have hL51 : FL RX0 51 (TX9 1).1 (TX9 1).2.1 (TX9 1).2.2.1 ([.ref (gA Λ 14 0), .long (lN x), .long (lN y)] : List Value).toArray s := Or.inr ⟨_, Ex.nestF C.2.2.2.2.2.2 nf_X0_51⟩
  have hpx := popN_le x
  have hpy := popN_le y
  refine j_lload_n C dX0_wordFor_0 rfl 1 rfl ?_
  refine c_i0 C (r_S C [.long (lN x)] (c_J13_bitCount_95d88 l D cy base Λ σ (x) hx) (va_cwS 1 hts gX0_wordFor_J13_bitCount_95d88 rfl rfl rfl (by decide +kernel) ⟨by decide, by decide⟩) rfl rfl (Nat.le_of_ble_eq_true rfl) dX0_wordFor_1 ⟨by decide, by decide⟩) (fun rv uu hp => ?_)
  rw [hp.1, hp.2]
  have hpl1 := popN_le (x)
  refine j_istore C [(5, .int (nI (popN x))), (0, .ref (gA Λ 14 0)), (1, .long (lN x)), (3, .long (lN y))] dX0_wordFor_4 (by decide) rfl ?_
  refine j_lload_n C dX0_wordFor_6 rfl 3 rfl ?_
  refine c_i0 C (r_S C [.long (lN y)] (c_J13_bitCount_95d88 l D cy base Λ σ (y) hy) (va_cwS 1 hts gX0_wordFor_J13_bitCount_95d88 rfl rfl rfl (by decide +kernel) ⟨by decide, by decide⟩) rfl rfl (Nat.le_of_ble_eq_true rfl) dX0_wordFor_7 ⟨by decide, by decide⟩) (fun rv uu hp => ?_)
  rw [hp.1, hp.2]
  have hpl7 := popN_le (y)
  refine j_istore C [(6, .int (nI (popN y))), (5, .int (nI (popN x))), (0, .ref (gA Λ 14 0)), (1, .long (lN x)), (3, .long (lN y))] dX0_wordFor_10 (by decide) rfl ?_
  refine j_null C dX0_wordFor_12 ?_
  refine j_astoreN C [(7, .null), (6, .int (nI (popN y))), (5, .int (nI (popN x))), (0, .ref (gA Λ 14 0)), (1, .long (lN x)), (3, .long (lN y))] dX0_wordFor_13 (by decide) rfl ?_
  refine j_iconst C (nI 0) dX0_wordFor_15 (by decide) ?_
  refine j_istore C [(8, .int (nI 0)), (7, .null), (6, .int (nI (popN y))), (5, .int (nI (popN x))), (0, .ref (gA Λ 14 0)), (1, .long (lN x)), (3, .long (lN y))] dX0_wordFor_16 (by decide) rfl ?_
  refine j_iconst C (nI 0) dX0_wordFor_18 (by decide) ?_
  refine j_istore C [(9, .int (nI 0)), (8, .int (nI 0)), (7, .null), (6, .int (nI (popN y))), (5, .int (nI (popN x))), (0, .ref (gA Λ 14 0)), (1, .long (lN x)), (3, .long (lN y))] dX0_wordFor_19 (by decide) rfl ?_
  have lb21 : ∀ (fu : Nat) (i9 : Nat) (co : Option Nat) (gs : Int32), (n - i9) < fu → (i9 ≤ n) → (ChW i9 (fun q => popN (hd q &&& x)) (fun q => ((popN (hd q &&& x) * popN y : Nat) : Int) - ((popN (hd q &&& y) * popN x : Nat) : Int)) co) → (∀ b, co = some b → gs.toInt = (fun q => ((popN (hd q &&& x) * popN y : Nat) : Int) - ((popN (hd q &&& y) * popN x : Nat) : Int)) b) → J p l e ({ frames := 16, cells := 0, slots := 0, locals := 240 }) s m ([.ref (gA Λ 14 0), .long (lN x), .long (lN y)] : List Value).toArray below meth c 13 D cy base (MQ below (va_Qq (fun ra u => ∃ co, ra = Option.map (fun q => gA Λ 17 (wf q)) co ∧ u = σ ∧ ChW n (fun q => popN (hd q &&& x)) (fun q => ((popN (hd q &&& x) * popN y : Nat) : Int) - ((popN (hd q &&& y) * popN x : Nat) : Int)) co) (Wd D cy base Λ) (Ab base)) ([.ref (gA Λ 14 0), .long (lN x), .long (lN y)] : List Value).toArray s 0 0 (Ab base)) 0 0 Λ 21 [(0, .ref (gA Λ 14 0)), (1, .long (lN x)), (3, .long (lN y)), (5, .int (nI (popN x))), (6, .int (nI (popN y))), (7, va_rf (Option.map (fun q => gA Λ 17 (wf q)) co)), (8, .int (gs)), (9, .int (nI i9))] [] σ := by
    intro fu
    induction fu with
    | zero => intro i9 co gs hfu; exact absurd hfu (Nat.not_lt_zero _)
    | succ fu ih =>
      intro i9 co gs hfu hi9 hch hgs
      have ih21 := ih
      refine j_iload C dX0_wordFor_21 7 rfl ?_
      refine j_aload_n C dX0_wordFor_23 rfl 0 rfl ?_
      refine j_getV C hwX0 14 0 0 hL.2.2.1.1 rfl rfl (by decide) rfl 0 hL.2.2.1.2 hL10 dX0_wordFor_24 ?_
      refine c_i0 C (r_V C 15 0 [] (c_Jx4a65c_size_8abf5 l D cy base Λ σ n ar cp wf hL.1) (cwV 0 hts gX0_wordFor_Jx4a65c_size_8abf5 rfl rfl rfl (by decide +kernel) ⟨by decide, by decide⟩) hL.1.1 rfl rfl rfl rfl (Nat.le_of_ble_eq_true rfl) dX0_wordFor_27 ⟨by decide, by decide⟩) (fun rv uu hp => ?_)
      rw [hp.1, hp.2]
      refine j_icmp_ge (tgt := 111) C dX0_wordFor_30 (by decide) (nI_leI (by omega) (by omega)) (fun h30 => ?_) (fun h30 => ?_)
      · rcases co with _ | b9
        · refine j_aloadN C dX0_wordFor_111 5 rfl ?_
          exact j_qret (ra := none) C (Or.inl ⟨_, rfl⟩) hr hlk (⟨none, rfl, rfl, (by rw [show i9 = n by omega] at hch; exact hch)⟩) dX0_wordFor_113
        · refine j_aload C dX0_wordFor_111 5 rfl ?_
          exact j_qret (ra := some (gA Λ 17 (wf b9))) C (Or.inl ⟨_, rfl⟩) hr hlk (⟨some b9, rfl, rfl, (by rw [show i9 = n by omega] at hch; exact hch)⟩) dX0_wordFor_113
      · refine j_aload_n C dX0_wordFor_33 rfl 0 rfl ?_
        refine j_getV C hwX0 14 0 0 hL.2.2.1.1 rfl rfl (by decide) rfl 0 hL.2.2.1.2 hL10 dX0_wordFor_34 ?_
        refine j_iload C dX0_wordFor_37 7 rfl ?_
        refine c_r0 C (r_V C 15 0 [.int (nI i9)] (c_Jx4a65c_get_915e3 l D cy base Λ σ n ar cp wf hL.1 i9 (by omega)) (cwV 1 hts gX0_wordFor_Jx4a65c_get_915e3 rfl rfl rfl (by decide +kernel) ⟨by decide, by decide⟩) hL.1.1 rfl rfl rfl rfl (Nat.le_of_ble_eq_true rfl) dX0_wordFor_39 ⟨by decide, by decide⟩) (fun uu jj hp => ?_)
        obtain ⟨hk1, hk2⟩ := Prod.mk.inj hp
        rw [hk1, hk2]
        refine j_cast C 17 (wf i9) (hL.2.2.2.1 i9 (by omega)).1 rfl rfl (hts (.classLink RX0 41 RX9) (by decide +kernel)) dX0_wordFor_42 ?_
        refine j_astore C [(10, .ref (gA Λ 17 (wf i9))), (0, .ref (gA Λ 14 0)), (1, .long (lN x)), (3, .long (lN y)), (5, .int (nI (popN x))), (6, .int (nI (popN y))), (7, va_rf (Option.map (fun q => gA Λ 17 (wf q)) co)), (8, .int (gs)), (9, .int (nI i9))] dX0_wordFor_45 (by decide) rfl ?_
        have hm1 : popN (hd i9 &&& x) * popN y ≤ 1600 := Nat.mul_le_mul (popN_le _) (popN_le _)
        have hm2 : popN (hd i9 &&& y) * popN x ≤ 1600 := Nat.mul_le_mul (popN_le _) (popN_le _)
        refine j_aload C dX0_wordFor_47 0 rfl ?_
        refine j_getJ C hwX9 17 (wf i9) 1 (hL.2.2.2.1 i9 (by omega)).1 rfl rfl (by decide) rfl (lN (hd i9)) (hL.2.2.2.1 i9 (by omega)).2.2.1 hL51 dX0_wordFor_49 ?_
        refine j_lload_n C dX0_wordFor_52 rfl 2 rfl ?_
        refine j_land C (lN (hd i9 &&& x)) dX0_wordFor_53 (lN_and _ _) ?_
        refine c_i0 C (r_S C [.long (lN (hd i9 &&& x))] (c_J13_bitCount_95d88 l D cy base Λ σ (hd i9 &&& x) (and_lt40 (hL.2.2.2.1 i9 (by omega)).2.2.2.1)) (va_cwS 1 hts gX0_wordFor_J13_bitCount_95d88 rfl rfl rfl (by decide +kernel) ⟨by decide, by decide⟩) rfl rfl (Nat.le_of_ble_eq_true rfl) dX0_wordFor_54 ⟨by decide, by decide⟩) (fun rv uu hp => ?_)
        rw [hp.1, hp.2]
        have hpl54 := popN_le (hd i9 &&& x)
        refine j_istore C [(11, .int (nI (popN (hd i9 &&& x)))), (10, .ref (gA Λ 17 (wf i9))), (0, .ref (gA Λ 14 0)), (1, .long (lN x)), (3, .long (lN y)), (5, .int (nI (popN x))), (6, .int (nI (popN y))), (7, va_rf (Option.map (fun q => gA Λ 17 (wf q)) co)), (8, .int (gs)), (9, .int (nI i9))] dX0_wordFor_57 (by decide) rfl ?_
        refine j_iload C dX0_wordFor_59 0 rfl ?_
        refine j_iload C dX0_wordFor_61 6 rfl ?_
        refine j_imul C (nI ((popN (hd i9 &&& x)) * (popN y))) dX0_wordFor_63 (pk_mul _ _) ?_
        refine j_aload C dX0_wordFor_64 1 rfl ?_
        refine j_getJ C hwX9 17 (wf i9) 1 (hL.2.2.2.1 i9 (by omega)).1 rfl rfl (by decide) rfl (lN (hd i9)) (hL.2.2.2.1 i9 (by omega)).2.2.1 hL51 dX0_wordFor_66 ?_
        refine j_lload_n C dX0_wordFor_69 rfl 4 rfl ?_
        refine j_land C (lN (hd i9 &&& y)) dX0_wordFor_70 (lN_and _ _) ?_
        refine c_i0 C (r_S C [.long (lN (hd i9 &&& y))] (c_J13_bitCount_95d88 l D cy base Λ σ (hd i9 &&& y) (and_lt40 (hL.2.2.2.1 i9 (by omega)).2.2.2.1)) (va_cwS 1 hts gX0_wordFor_J13_bitCount_95d88 rfl rfl rfl (by decide +kernel) ⟨by decide, by decide⟩) rfl rfl (Nat.le_of_ble_eq_true rfl) dX0_wordFor_71 ⟨by decide, by decide⟩) (fun rv uu hp => ?_)
        rw [hp.1, hp.2]
        have hpl71 := popN_le (hd i9 &&& y)
        refine j_iload C dX0_wordFor_74 5 rfl ?_
        refine j_imul C (nI ((popN (hd i9 &&& y)) * (popN x))) dX0_wordFor_76 (pk_mul _ _) ?_
        refine j_isub C (nI (popN (hd i9 &&& x) * popN y) - nI (popN (hd i9 &&& y) * popN x)) dX0_wordFor_77 rfl ?_
        refine j_istore C [(12, .int (nI (popN (hd i9 &&& x) * popN y) - nI (popN (hd i9 &&& y) * popN x))), (11, .int (nI (popN (hd i9 &&& x)))), (10, .ref (gA Λ 17 (wf i9))), (0, .ref (gA Λ 14 0)), (1, .long (lN x)), (3, .long (lN y)), (5, .int (nI (popN x))), (6, .int (nI (popN y))), (7, va_rf (Option.map (fun q => gA Λ 17 (wf q)) co)), (8, .int (gs)), (9, .int (nI i9))] dX0_wordFor_78 (by decide) rfl ?_
        refine j_iload C dX0_wordFor_80 1 rfl ?_
        refine j_if_le (tgt := 105) C dX0_wordFor_82 (by decide) (nJ_le0 (by omega)) (fun h82 => ?_) (fun h82 => ?_)
        · refine j_iinc C [(9, .int (nI (i9 + 1))), (12, .int (nI (popN (hd i9 &&& x) * popN y) - nI (popN (hd i9 &&& y) * popN x))), (11, .int (nI (popN (hd i9 &&& x)))), (10, .ref (gA Λ 17 (wf i9))), (0, .ref (gA Λ 14 0)), (1, .long (lN x)), (3, .long (lN y)), (5, .int (nI (popN x))), (6, .int (nI (popN y))), (7, va_rf (Option.map (fun q => gA Λ 17 (wf q)) co)), (8, .int (gs))] (nI (i9 + 1)) dX0_wordFor_105 10 rfl (nI_add _ 1) (by decide) rfl ?_
          refine j_goto (tgt := 21) C dX0_wordFor_108 (by decide) ?_
          refine j_lv [4, 5, 6, 7, 8, 9, 10, 0] rfl ?_
          exact ih21 (i9 + 1) co gs (by omega) (by omega) (ChW.skip hch (by show popN (hd i9 &&& x) = 0; omega)) hgs
        · rcases co with _ | b9
          · refine j_aloadN C dX0_wordFor_85 8 rfl ?_
            refine j_ifnullN (tgt := 97) C dX0_wordFor_87 (by decide) ?_
            refine j_aload C dX0_wordFor_97 2 rfl ?_
            refine j_astore C [(7, .ref (gA Λ 17 (wf i9))), (12, .int (nI (popN (hd i9 &&& x) * popN y) - nI (popN (hd i9 &&& y) * popN x))), (11, .int (nI (popN (hd i9 &&& x)))), (10, .ref (gA Λ 17 (wf i9))), (0, .ref (gA Λ 14 0)), (1, .long (lN x)), (3, .long (lN y)), (5, .int (nI (popN x))), (6, .int (nI (popN y))), (8, .int (gs)), (9, .int (nI i9))] dX0_wordFor_99 (by decide) rfl ?_
            refine j_iload C dX0_wordFor_101 1 rfl ?_
            refine j_istore C [(8, .int (nI (popN (hd i9 &&& x) * popN y) - nI (popN (hd i9 &&& y) * popN x))), (7, .ref (gA Λ 17 (wf i9))), (12, .int (nI (popN (hd i9 &&& x) * popN y) - nI (popN (hd i9 &&& y) * popN x))), (11, .int (nI (popN (hd i9 &&& x)))), (10, .ref (gA Λ 17 (wf i9))), (0, .ref (gA Λ 14 0)), (1, .long (lN x)), (3, .long (lN y)), (5, .int (nI (popN x))), (6, .int (nI (popN y))), (9, .int (nI i9))] dX0_wordFor_103 (by decide) rfl ?_
            refine j_iinc C [(9, .int (nI (i9 + 1))), (8, .int (nI (popN (hd i9 &&& x) * popN y) - nI (popN (hd i9 &&& y) * popN x))), (7, .ref (gA Λ 17 (wf i9))), (12, .int (nI (popN (hd i9 &&& x) * popN y) - nI (popN (hd i9 &&& y) * popN x))), (11, .int (nI (popN (hd i9 &&& x)))), (10, .ref (gA Λ 17 (wf i9))), (0, .ref (gA Λ 14 0)), (1, .long (lN x)), (3, .long (lN y)), (5, .int (nI (popN x))), (6, .int (nI (popN y)))] (nI (i9 + 1)) dX0_wordFor_105 10 rfl (nI_add _ 1) (by decide) rfl ?_
            refine j_goto (tgt := 21) C dX0_wordFor_108 (by decide) ?_
            refine j_lv [6, 7, 8, 9, 10, 2, 1, 0] rfl ?_
            exact ih21 (i9 + 1) (some i9) (nI (popN (hd i9 &&& x) * popN y) - nI (popN (hd i9 &&& y) * popN x)) (by omega) (by omega) (ChW.first hch (Nat.pos_of_ne_zero h82)) (fun b h => by cases h; exact sc_int hm1 hm2)
          · refine j_aload C dX0_wordFor_85 8 rfl ?_
            refine j_ifnull C dX0_wordFor_87 ?_
            refine j_iload C dX0_wordFor_90 0 rfl ?_
            refine j_iload C dX0_wordFor_92 9 rfl ?_
            refine j_icmp_le (tgt := 105) C dX0_wordFor_94 (by decide) Iff.rfl (fun h94 => ?_) (fun h94 => ?_)
            · refine j_iinc C [(9, .int (nI (i9 + 1))), (12, .int (nI (popN (hd i9 &&& x) * popN y) - nI (popN (hd i9 &&& y) * popN x))), (11, .int (nI (popN (hd i9 &&& x)))), (10, .ref (gA Λ 17 (wf i9))), (0, .ref (gA Λ 14 0)), (1, .long (lN x)), (3, .long (lN y)), (5, .int (nI (popN x))), (6, .int (nI (popN y))), (7, .ref (gA Λ 17 (wf b9))), (8, .int (gs))] (nI (i9 + 1)) dX0_wordFor_105 10 rfl (nI_add _ 1) (by decide) rfl ?_
              refine j_goto (tgt := 21) C dX0_wordFor_108 (by decide) ?_
              refine j_lv [4, 5, 6, 7, 8, 9, 10, 0] rfl ?_
              exact ih21 (i9 + 1) (some b9) gs (by omega) (by omega) (ChW.less hch (by have z := hgs b9 rfl; have z2 := sc_int (a := popN (hd i9 &&& x) * popN y) (b := popN (hd i9 &&& y) * popN x) hm1 hm2; rw [Int32.le_iff_toInt_le, z, z2] at h94; exact h94)) hgs
            · refine j_aload C dX0_wordFor_97 2 rfl ?_
              refine j_astore C [(7, .ref (gA Λ 17 (wf i9))), (12, .int (nI (popN (hd i9 &&& x) * popN y) - nI (popN (hd i9 &&& y) * popN x))), (11, .int (nI (popN (hd i9 &&& x)))), (10, .ref (gA Λ 17 (wf i9))), (0, .ref (gA Λ 14 0)), (1, .long (lN x)), (3, .long (lN y)), (5, .int (nI (popN x))), (6, .int (nI (popN y))), (8, .int (gs)), (9, .int (nI i9))] dX0_wordFor_99 (by decide) rfl ?_
              refine j_iload C dX0_wordFor_101 1 rfl ?_
              refine j_istore C [(8, .int (nI (popN (hd i9 &&& x) * popN y) - nI (popN (hd i9 &&& y) * popN x))), (7, .ref (gA Λ 17 (wf i9))), (12, .int (nI (popN (hd i9 &&& x) * popN y) - nI (popN (hd i9 &&& y) * popN x))), (11, .int (nI (popN (hd i9 &&& x)))), (10, .ref (gA Λ 17 (wf i9))), (0, .ref (gA Λ 14 0)), (1, .long (lN x)), (3, .long (lN y)), (5, .int (nI (popN x))), (6, .int (nI (popN y))), (9, .int (nI i9))] dX0_wordFor_103 (by decide) rfl ?_
              refine j_iinc C [(9, .int (nI (i9 + 1))), (8, .int (nI (popN (hd i9 &&& x) * popN y) - nI (popN (hd i9 &&& y) * popN x))), (7, .ref (gA Λ 17 (wf i9))), (12, .int (nI (popN (hd i9 &&& x) * popN y) - nI (popN (hd i9 &&& y) * popN x))), (11, .int (nI (popN (hd i9 &&& x)))), (10, .ref (gA Λ 17 (wf i9))), (0, .ref (gA Λ 14 0)), (1, .long (lN x)), (3, .long (lN y)), (5, .int (nI (popN x))), (6, .int (nI (popN y)))] (nI (i9 + 1)) dX0_wordFor_105 10 rfl (nI_add _ 1) (by decide) rfl ?_
              refine j_goto (tgt := 21) C dX0_wordFor_108 (by decide) ?_
              refine j_lv [6, 7, 8, 9, 10, 2, 1, 0] rfl ?_
              exact ih21 (i9 + 1) (some i9) (nI (popN (hd i9 &&& x) * popN y) - nI (popN (hd i9 &&& y) * popN x)) (by omega) (by omega) (ChW.more hch (Nat.pos_of_ne_zero h82) (by have z := hgs b9 rfl; have z2 := sc_int (a := popN (hd i9 &&& x) * popN y) (b := popN (hd i9 &&& y) * popN x) hm1 hm2; rw [Int32.le_iff_toInt_le, z, z2] at h94; exact Int.not_le.mp h94)) (fun b h => by cases h; exact sc_int hm1 hm2)
  refine j_lv [5, 6, 7, 4, 3, 2, 1, 0] rfl ?_
  exact lb21 _ 0 none (nI 0) (Nat.lt_succ_self _) (by omega) (fun k hk => absurd hk (Nat.not_lt_zero k)) (fun b h => by cases h)
