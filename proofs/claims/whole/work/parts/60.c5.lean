set_option maxHeartbeats 4000000 in
set_option maxRecDepth 100000 in
theorem c_X5_setTie (l : Launch) (D : va_G) (cy : Nat → ClassId) (base : Nat) (Λ : LY) (σ : HS) (M : MM) (hC : CR exT Λ σ M) (hB : MBd M) (T : Nat → Nat → Nat) (hT : TT σ (M 31 5) T) (a b : Nat) (ha : a < M 31 5) (hb : b < M 31 5) (hab : a ≠ b) (x : Nat) (hx : x ≤ 100000000) : Met l yX5_setTie wsX5_setTie ({ frames := 4, cells := 0, slots := 0, locals := 60 }) (va_Pc [.ref (gA Λ 8 a), .ref (gA Λ 8 b), .int (nI x)] (Wd D cy base Λ σ)) (va_Qv (fun u => CR exT Λ u M ∧ TT u (M 31 5) (upT T a b x) ∧ Same nTi σ u) (Wd D cy base Λ) (Ab base)) 0 0 (Ab base) := by
  refine j_start (cc := cX5_setTie) (nL := 3) (ret := none) (lv := [(0, .ref (gA Λ 8 a)), (1, .ref (gA Λ 8 b)), (2, .int (nI x))]) (by decide) rfl (Nat.le_of_ble_eq_true rfl) rfl ?_
  intro p e s m below meth c C hr hlk hnm
  have C : Cx p s m ([.ref (gA Λ 8 a), .ref (gA Λ 8 b), .int (nI x)] : List Value).toArray c cX5_setTie 3 RX5 wsX5_setTie D cy base := C
  have hts := C.2.2.2.2.1
  have hwX5 : ∀ w ∈ u_ws RX5 TX5 13, w ∈ wsX5_setTie := by decide +kernel
  have hM16 : (Cond.fieldLink RX5 16 (TX5 4).1 (TX5 4).2.1 (TX5 4).2.2.1).before ([.ref (gA Λ 8 a), .ref (gA Λ 8 b), .int (nI x)] : List Value).toArray s = true := hts (.fieldLink RX5 16 "CodeRooms$Routine" "tieWith" "[I") (by decide +kernel)
  have hL16 : FL RX5 16 (TX5 4).1 (TX5 4).2.1 (TX5 4).2.2.1 ([.ref (gA Λ 8 a), .ref (gA Λ 8 b), .int (nI x)] : List Value).toArray s := Or.inl hM16
  have hM31 : (Cond.fieldLink RX5 31 (TX5 0).1 (TX5 0).2.1 (TX5 0).2.2.1).before ([.ref (gA Λ 8 a), .ref (gA Λ 8 b), .int (nI x)] : List Value).toArray s = true := hts (.fieldLink RX5 31 "CodeRooms$Routine" "number" "I") (by decide +kernel)
  have hL31 : FL RX5 31 (TX5 0).1 (TX5 0).2.1 (TX5 0).2.2.1 ([.ref (gA Λ 8 a), .ref (gA Λ 8 b), .int (nI x)] : List Value).toArray s := Or.inl hM31
  have hM38 : (Cond.fieldLink RX5 38 (TX5 1).1 (TX5 1).2.1 (TX5 1).2.2.1).before ([.ref (gA Λ 8 a), .ref (gA Λ 8 b), .int (nI x)] : List Value).toArray s = true := hts (.fieldLink RX5 38 "CodeRooms$Routine" "bit" "J") (by decide +kernel)
  have hL38 : FL RX5 38 (TX5 1).1 (TX5 1).2.1 (TX5 1).2.2.1 ([.ref (gA Λ 8 a), .ref (gA Λ 8 b), .int (nI x)] : List Value).toArray s := Or.inl hM38
  have hM42 : (Cond.fieldLink RX5 42 (TX5 7).1 (TX5 7).2.1 (TX5 7).2.2.1).before ([.ref (gA Λ 8 a), .ref (gA Λ 8 b), .int (nI x)] : List Value).toArray s = true := hts (.fieldLink RX5 42 "CodeRooms$Routine" "tiedTo" "J") (by decide +kernel)
  have hL42 : FL RX5 42 (TX5 7).1 (TX5 7).2.1 (TX5 7).2.2.1 ([.ref (gA Λ 8 a), .ref (gA Λ 8 b), .int (nI x)] : List Value).toArray s := Or.inl hM42
  have hC45 : (Jvm.Cond.constantLong RX5 45 (-1)).before ([.ref (gA Λ 8 a), .ref (gA Λ 8 b), .int (nI x)] : List Value).toArray s = true := hts _ (by decide +kernel)
  have hn : M 31 5 ≤ 40 := hB 31 5 rfl
  refine j_aload_n C dX5_setTie_0 rfl 0 rfl ?_
  refine j_getV C hwX5 8 a 4 (CR.n8 hC (by decide) (show a < M 31 5 by omega)) rfl rfl (by decide) rfl a (CR.v hC 8 a 4 ⟨show a < M 31 5 by omega, by decide, by decide⟩ (exT_no (by decide) (by decide))) hL16 dX5_setTie_1 ?_
  refine j_aload_n C dX5_setTie_4 rfl 1 rfl ?_
  refine j_getI C hwX5 8 b 0 (CR.n8 hC (by decide) (show b < M 31 5 by omega)) rfl rfl (by decide) rfl (nI b) (CR.i hC 8 b 0 ⟨show b < M 31 5 by omega, Or.inl rfl⟩ (exT_no (by decide) (by decide))) hL31 dX5_setTie_5 ?_
  refine j_iload_n C dX5_setTie_8 rfl 2 rfl ?_
  refine j_iast C 11 a b (CR.n8 hC (by decide) (show a < M 31 5 by omega)) rfl rfl 40 (CR.l8 hC (show a < M 31 5 by omega)).2.1 (by omega) (by omega) (nI x) rfl dX5_setTie_9 ?_
  have hC_1 := CR.wI (t := 11) (i := a) (k := b) (x := nI x) hC (Or.inl (Or.inl rfl))
  have hs_2 := Same.sI (t := 11) (i := a) (k := b) (x := nI x) (Same.rf : Same nTi σ σ) (by decide)
  refine j_aload_n C dX5_setTie_10 rfl 0 rfl ?_
  refine j_iload_n C dX5_setTie_11 rfl 2 rfl ?_
  refine j_if_le (tgt := 27) C dX5_setTie_12 (by decide) (nJ_le0 (by omega)) (fun h12 => ?_) (fun h12 => ?_)
  · refine j_aload_n C dX5_setTie_27 rfl 0 rfl ?_
    refine j_getJ C hwX5 8 a 7 (CR.n8 hC_1 (by decide) (show a < M 31 5 by omega)) rfl rfl (by decide) rfl (lN (bitS (fun o => decide (o ≠ a) && decide (0 < T a o)) (M 31 5))) (hT.2 a ha) hL42 dX5_setTie_28 ?_
    refine j_aload_n C dX5_setTie_31 rfl 1 rfl ?_
    refine j_getJ C hwX5 8 b 1 (CR.n8 hC_1 (by decide) (show b < M 31 5 by omega)) rfl rfl (by decide) rfl (lN (2 ^ b)) (CR.j hC_1 8 b 1 ⟨show b < M 31 5 by omega, Or.inl rfl⟩ (exT_no (by decide) (by decide))) hL38 dX5_setTie_32 ?_
    refine j_ldc2 C (zL (-1)) hC45 dX5_setTie_35 (by decide) ?_
    refine j_lxor C ((lN (2 ^ b)) ^^^ (zL (-1))) dX5_setTie_38 rfl ?_
    refine j_land C ((lN (bitS (fun o => decide (o ≠ a) && decide (0 < T a o)) (M 31 5))) &&& ((lN (2 ^ b)) ^^^ (zL (-1)))) dX5_setTie_39 rfl ?_
    have lb40 : ∀ (y : Int64), (y = lN (bitS (fun o => decide (o ≠ a) && decide (0 < upT T a b x a o)) (M 31 5))) → J p l e ({ frames := 4, cells := 0, slots := 0, locals := 60 }) s m ([.ref (gA Λ 8 a), .ref (gA Λ 8 b), .int (nI x)] : List Value).toArray below meth c 3 D cy base (MQ below (va_Qv (fun u => CR exT Λ u M ∧ TT u (M 31 5) (upT T a b x) ∧ Same nTi σ u) (Wd D cy base Λ) (Ab base)) ([.ref (gA Λ 8 a), .ref (gA Λ 8 b), .int (nI x)] : List Value).toArray s 0 0 (Ab base)) 0 0 Λ 40 [(0, .ref (gA Λ 8 a)), (1, .ref (gA Λ 8 b)), (2, .int (nI x))] [.long (y), .ref (gA Λ 8 a)] (sI σ 11 a b (nI x)) := by
      intro y hy
      refine j_putJ C hwX5 8 a 7 (CR.n8 hC_1 (by decide) (show a < M 31 5 by omega)) rfl rfl (by decide) rfl tyX5 tyX5_ok nmX5 rfl rfl rfl hL42 dX5_setTie_40 ?_
      have hC_5 := CR.wJ (t := 8) (i := a) (k := 7) (x := y) hC_1 (Or.inl (Or.inr ⟨rfl, rfl⟩))
      have hs_6 := Same.sJ (t := 8) (i := a) (k := 7) (x := y) hs_2 (by decide)
      exact j_vret C hr hlk (⟨hC_5, TT.set hT hy, hs_6⟩) dX5_setTie_43
    exact lb40 ((lN (bitS (fun o => decide (o ≠ a) && decide (0 < T a o)) (M 31 5))) &&& ((lN (2 ^ b)) ^^^ (zL (-1)))) (bs_clr hn (fun j hj => by have hxx : x = 0 := (by omega); unfold upT; by_cases e9 : j = b <;> simp [e9, hxx, Ne.symm hab]))
  · refine j_aload_n C dX5_setTie_15 rfl 0 rfl ?_
    refine j_getJ C hwX5 8 a 7 (CR.n8 hC_1 (by decide) (show a < M 31 5 by omega)) rfl rfl (by decide) rfl (lN (bitS (fun o => decide (o ≠ a) && decide (0 < T a o)) (M 31 5))) (hT.2 a ha) hL42 dX5_setTie_16 ?_
    refine j_aload_n C dX5_setTie_19 rfl 1 rfl ?_
    refine j_getJ C hwX5 8 b 1 (CR.n8 hC_1 (by decide) (show b < M 31 5 by omega)) rfl rfl (by decide) rfl (lN (2 ^ b)) (CR.j hC_1 8 b 1 ⟨show b < M 31 5 by omega, Or.inl rfl⟩ (exT_no (by decide) (by decide))) hL38 dX5_setTie_20 ?_
    refine j_lor C ((lN (bitS (fun o => decide (o ≠ a) && decide (0 < T a o)) (M 31 5))) ||| (lN (2 ^ b))) dX5_setTie_23 rfl ?_
    refine j_goto (tgt := 40) C dX5_setTie_24 (by decide) ?_
    have lb40 : ∀ (y : Int64), (y = lN (bitS (fun o => decide (o ≠ a) && decide (0 < upT T a b x a o)) (M 31 5))) → J p l e ({ frames := 4, cells := 0, slots := 0, locals := 60 }) s m ([.ref (gA Λ 8 a), .ref (gA Λ 8 b), .int (nI x)] : List Value).toArray below meth c 3 D cy base (MQ below (va_Qv (fun u => CR exT Λ u M ∧ TT u (M 31 5) (upT T a b x) ∧ Same nTi σ u) (Wd D cy base Λ) (Ab base)) ([.ref (gA Λ 8 a), .ref (gA Λ 8 b), .int (nI x)] : List Value).toArray s 0 0 (Ab base)) 0 0 Λ 40 [(0, .ref (gA Λ 8 a)), (1, .ref (gA Λ 8 b)), (2, .int (nI x))] [.long (y), .ref (gA Λ 8 a)] (sI σ 11 a b (nI x)) := by
      intro y hy
      refine j_putJ C hwX5 8 a 7 (CR.n8 hC_1 (by decide) (show a < M 31 5 by omega)) rfl rfl (by decide) rfl tyX5 tyX5_ok nmX5 rfl rfl rfl hL42 dX5_setTie_40 ?_
      have hC_8 := CR.wJ (t := 8) (i := a) (k := 7) (x := y) hC_1 (Or.inl (Or.inr ⟨rfl, rfl⟩))
      have hs_9 := Same.sJ (t := 8) (i := a) (k := 7) (x := y) hs_2 (by decide)
      exact j_vret C hr hlk (⟨hC_8, TT.set hT hy, hs_9⟩) dX5_setTie_43
    exact lb40 ((lN (bitS (fun o => decide (o ≠ a) && decide (0 < T a o)) (M 31 5))) ||| (lN (2 ^ b))) (bs_set hb (fun j hj => by have hxx : 0 < x := (by omega); unfold upT; by_cases e9 : j = b <;> simp [e9, hxx, Ne.symm hab]))

set_option maxHeartbeats 4000000 in
set_option maxRecDepth 100000 in
theorem c_X4_weighTie (l : Launch) (D : va_G) (cy : Nat → ClassId) (base : Nat) (Λ : LY) (σ : HS) (M : MM) (hC : CR exT Λ σ M) (hB : MBd M) (T : Nat → Nat → Nat) (hT : TT σ (M 31 5) T) (a b : Nat) (ha : a < M 31 5) (hb : b < M 31 5) (hab : a ≠ b) : Met l yX4_weighTie wsX4_weighTie ({ frames := 8, cells := 0, slots := 0, locals := 120 }) (va_Pc [.ref (gA Λ 3 0), .ref (gA Λ 8 a), .ref (gA Λ 8 b)] (Wd D cy base Λ σ)) (va_Qv (fun u => CR exT Λ u M ∧ TT u (M 31 5) (upT (upT T a b (tieN M a b)) b a (tieN M a b)) ∧ Same nTi σ u) (Wd D cy base Λ) (Ab base)) 0 0 (Ab base) := by
  refine j_start (cc := cX4_weighTie) (nL := 5) (ret := none) (lv := [(0, .ref (gA Λ 3 0)), (1, .ref (gA Λ 8 a)), (2, .ref (gA Λ 8 b))]) (by decide) rfl (Nat.le_of_ble_eq_true rfl) rfl ?_
  intro p e s m below meth c C hr hlk hnm
  have C : Cx p s m ([.ref (gA Λ 3 0), .ref (gA Λ 8 a), .ref (gA Λ 8 b)] : List Value).toArray c cX4_weighTie 5 RX4 wsX4_weighTie D cy base := C
  have hts := C.2.2.2.2.1
  have hwX4 : ∀ w ∈ u_ws RX4 TX4 6, w ∈ wsX4_weighTie := by decide +kernel
  have hwX5 : ∀ w ∈ u_ws RX5 TX5 13, w ∈ wsX4_weighTie := by decide +kernel
  have hM20 : (Cond.fieldLink RX4 20 (TX4 2).1 (TX4 2).2.1 (TX4 2).2.2.1).before ([.ref (gA Λ 3 0), .ref (gA Λ 8 a), .ref (gA Λ 8 b)] : List Value).toArray s = true := hts (.fieldLink RX4 20 "CodeRooms$Plan" "settings" "[I") (by decide +kernel)
  have hL20 : FL RX4 20 (TX4 2).1 (TX4 2).2.1 (TX4 2).2.2.1 ([.ref (gA Λ 3 0), .ref (gA Λ 8 a), .ref (gA Λ 8 b)] : List Value).toArray s := Or.inl hM20
  have hL49 : FL RX4 49 (TX5 3).1 (TX5 3).2.1 (TX5 3).2.2.1 ([.ref (gA Λ 3 0), .ref (gA Λ 8 a), .ref (gA Λ 8 b)] : List Value).toArray s := Or.inr ⟨_, Ex.nestF C.2.2.2.2.2.2 nf_X4_49⟩
  have hL53 : FL RX4 53 (TX5 0).1 (TX5 0).2.1 (TX5 0).2.2.1 ([.ref (gA Λ 3 0), .ref (gA Λ 8 a), .ref (gA Λ 8 b)] : List Value).toArray s := Or.inr ⟨_, Ex.nestF C.2.2.2.2.2.2 nf_X4_53⟩
  have hn : M 31 5 ≤ 40 := hB 31 5 rfl
  have hx := tieN_le hB (a := a) (b := b) (by omega) (by omega)
  have hx : tieN M a b ≤ 100000000 := by omega
  refine j_aload_n C dX4_weighTie_0 rfl 1 rfl ?_
  refine j_getV C hwX5 8 a 3 (CR.n8 hC (by decide) (show a < M 31 5 by omega)) rfl rfl (by decide) rfl a (CR.v hC 8 a 3 ⟨show a < M 31 5 by omega, by decide, by decide⟩ (exT_no (by decide) (by decide))) hL49 dX4_weighTie_1 ?_
  refine j_iconst C (nI 0) dX4_weighTie_4 (by decide) ?_
  refine j_aald C 9 a 0 (CR.n8 hC (by decide) (show a < M 31 5 by omega)) rfl (by decide) (by decide) 3 (CR.l8 hC (show a < M 31 5 by omega)).1 (by omega) (by omega) (3 * a + 0) (CR.v hC 9 a 0 ⟨show a < M 31 5 by omega, by omega⟩ (exT_no (by decide) (fun z => absurd z.1 (by decide)))) dX4_weighTie_5 ?_
  refine j_aload_n C dX4_weighTie_6 rfl 2 rfl ?_
  refine j_getI C hwX5 8 b 0 (CR.n8 hC (by decide) (show b < M 31 5 by omega)) rfl rfl (by decide) rfl (nI b) (CR.i hC 8 b 0 ⟨show b < M 31 5 by omega, Or.inl rfl⟩ (exT_no (by decide) (by decide))) hL53 dX4_weighTie_7 ?_
  have hb10 : M 35 ((40 * 0 + a) * 40 + b) ≤ 999999 := hB 35 _ (decide_eq_true (show (40 * 0 + a) * 40 + b < 4800 by omega))
  refine j_iald C 10 (3 * a + 0) b (CR.n10 hC (show 3 * a + 0 < 3 * M 31 5 by omega)) rfl rfl 40 (CR.l10 hC (show 3 * a + 0 < 3 * M 31 5 by omega)) (by omega) (by omega) (nI (M 35 ((40 * 0 + a) * 40 + b))) ((CR.i hC 10 (3 * a + 0) b ⟨show 3 * a + 0 < 3 * M 31 5 by omega, by omega⟩ (exT_no (by decide) (fun z => absurd z.1 (by decide)))).trans (c10 (by omega))) dX4_weighTie_10 ?_
  refine j_aload_n C dX4_weighTie_11 rfl 2 rfl ?_
  refine j_getV C hwX5 8 b 3 (CR.n8 hC (by decide) (show b < M 31 5 by omega)) rfl rfl (by decide) rfl b (CR.v hC 8 b 3 ⟨show b < M 31 5 by omega, by decide, by decide⟩ (exT_no (by decide) (by decide))) hL49 dX4_weighTie_12 ?_
  refine j_iconst C (nI 0) dX4_weighTie_15 (by decide) ?_
  refine j_aald C 9 b 0 (CR.n8 hC (by decide) (show b < M 31 5 by omega)) rfl (by decide) (by decide) 3 (CR.l8 hC (show b < M 31 5 by omega)).1 (by omega) (by omega) (3 * b + 0) (CR.v hC 9 b 0 ⟨show b < M 31 5 by omega, by omega⟩ (exT_no (by decide) (fun z => absurd z.1 (by decide)))) dX4_weighTie_16 ?_
  refine j_aload_n C dX4_weighTie_17 rfl 1 rfl ?_
  refine j_getI C hwX5 8 a 0 (CR.n8 hC (by decide) (show a < M 31 5 by omega)) rfl rfl (by decide) rfl (nI a) (CR.i hC 8 a 0 ⟨show a < M 31 5 by omega, Or.inl rfl⟩ (exT_no (by decide) (by decide))) hL53 dX4_weighTie_18 ?_
  have hb21 : M 35 ((40 * 0 + b) * 40 + a) ≤ 999999 := hB 35 _ (decide_eq_true (show (40 * 0 + b) * 40 + a < 4800 by omega))
  refine j_iald C 10 (3 * b + 0) a (CR.n10 hC (show 3 * b + 0 < 3 * M 31 5 by omega)) rfl rfl 40 (CR.l10 hC (show 3 * b + 0 < 3 * M 31 5 by omega)) (by omega) (by omega) (nI (M 35 ((40 * 0 + b) * 40 + a))) ((CR.i hC 10 (3 * b + 0) a ⟨show 3 * b + 0 < 3 * M 31 5 by omega, by omega⟩ (exT_no (by decide) (fun z => absurd z.1 (by decide)))).trans (c10 (by omega))) dX4_weighTie_21 ?_
  refine j_iadd C (nI (M 35 ((40 * 0 + a) * 40 + b) + (M 35 ((40 * 0 + b) * 40 + a)))) dX4_weighTie_22 (nI_add _ _) ?_
  refine j_istore_n C [(3, .int (nI (M 35 ((40 * 0 + a) * 40 + b) + (M 35 ((40 * 0 + b) * 40 + a))))), (0, .ref (gA Λ 3 0)), (1, .ref (gA Λ 8 a)), (2, .ref (gA Λ 8 b))] dX4_weighTie_23 rfl (by decide) rfl ?_
  refine j_aload_n C dX4_weighTie_24 rfl 1 rfl ?_
  refine j_getV C hwX4 3 0 2 (CR.n1 hC (by decide)) rfl rfl (by decide) rfl 0 (CR.v hC 3 0 2 ⟨rfl, by decide⟩ (exT_no (by decide) (fun z => absurd z.1 (by decide)))) hL20 dX4_weighTie_25 ?_
  refine j_iconst C (nI 0) dX4_weighTie_28 (by decide) ?_
  have hb29 : M 36 0 ≤ 9 := hB 36 0 rfl
  refine j_iald C 6 0 0 (CR.n1 hC (by decide)) rfl rfl 6 (CR.l1 hC (by decide)) (by omega) (by omega) (nI (M 36 0)) (CR.i hC 6 0 0 ⟨rfl, by decide⟩ (exT_no (by decide) (fun z => absurd z.1 (by decide)))) dX4_weighTie_29 ?_
  refine j_iload_n C dX4_weighTie_30 rfl 0 rfl ?_
  refine j_imul C (nI ((M 36 0) * (M 35 ((40 * 0 + a) * 40 + b) + (M 35 ((40 * 0 + b) * 40 + a))))) dX4_weighTie_31 (pk_mul _ _) ?_
  refine j_aload_n C dX4_weighTie_32 rfl 1 rfl ?_
  refine j_getV C hwX4 3 0 2 (CR.n1 hC (by decide)) rfl rfl (by decide) rfl 0 (CR.v hC 3 0 2 ⟨rfl, by decide⟩ (exT_no (by decide) (fun z => absurd z.1 (by decide)))) hL20 dX4_weighTie_33 ?_
  refine j_iconst C (nI 1) dX4_weighTie_36 (by decide) ?_
  have hb37 : M 36 1 ≤ 9 := hB 36 1 rfl
  refine j_iald C 6 0 1 (CR.n1 hC (by decide)) rfl rfl 6 (CR.l1 hC (by decide)) (by omega) (by omega) (nI (M 36 1)) (CR.i hC 6 0 1 ⟨rfl, by decide⟩ (exT_no (by decide) (fun z => absurd z.1 (by decide)))) dX4_weighTie_37 ?_
  refine j_aload_n C dX4_weighTie_38 rfl 2 rfl ?_
  refine j_getV C hwX5 8 a 3 (CR.n8 hC (by decide) (show a < M 31 5 by omega)) rfl rfl (by decide) rfl a (CR.v hC 8 a 3 ⟨show a < M 31 5 by omega, by decide, by decide⟩ (exT_no (by decide) (by decide))) hL49 dX4_weighTie_39 ?_
  refine j_iconst C (nI 1) dX4_weighTie_42 (by decide) ?_
  refine j_aald C 9 a 1 (CR.n8 hC (by decide) (show a < M 31 5 by omega)) rfl (by decide) (by decide) 3 (CR.l8 hC (show a < M 31 5 by omega)).1 (by omega) (by omega) (3 * a + 1) (CR.v hC 9 a 1 ⟨show a < M 31 5 by omega, by omega⟩ (exT_no (by decide) (fun z => absurd z.1 (by decide)))) dX4_weighTie_43 ?_
  refine j_aload_n C dX4_weighTie_44 rfl 3 rfl ?_
  refine j_getI C hwX5 8 b 0 (CR.n8 hC (by decide) (show b < M 31 5 by omega)) rfl rfl (by decide) rfl (nI b) (CR.i hC 8 b 0 ⟨show b < M 31 5 by omega, Or.inl rfl⟩ (exT_no (by decide) (by decide))) hL53 dX4_weighTie_45 ?_
  have hb48 : M 35 ((40 * 1 + a) * 40 + b) ≤ 999999 := hB 35 _ (decide_eq_true (show (40 * 1 + a) * 40 + b < 4800 by omega))
  refine j_iald C 10 (3 * a + 1) b (CR.n10 hC (show 3 * a + 1 < 3 * M 31 5 by omega)) rfl rfl 40 (CR.l10 hC (show 3 * a + 1 < 3 * M 31 5 by omega)) (by omega) (by omega) (nI (M 35 ((40 * 1 + a) * 40 + b))) ((CR.i hC 10 (3 * a + 1) b ⟨show 3 * a + 1 < 3 * M 31 5 by omega, by omega⟩ (exT_no (by decide) (fun z => absurd z.1 (by decide)))).trans (c10 (by omega))) dX4_weighTie_48 ?_
  refine j_imul C (nI ((M 36 1) * (M 35 ((40 * 1 + a) * 40 + b)))) dX4_weighTie_49 (pk_mul _ _) ?_
  refine j_iadd C (nI ((M 36 0) * (M 35 ((40 * 0 + a) * 40 + b) + (M 35 ((40 * 0 + b) * 40 + a))) + ((M 36 1) * (M 35 ((40 * 1 + a) * 40 + b))))) dX4_weighTie_50 (nI_add _ _) ?_
  refine j_aload_n C dX4_weighTie_51 rfl 1 rfl ?_
  refine j_getV C hwX4 3 0 2 (CR.n1 hC (by decide)) rfl rfl (by decide) rfl 0 (CR.v hC 3 0 2 ⟨rfl, by decide⟩ (exT_no (by decide) (fun z => absurd z.1 (by decide)))) hL20 dX4_weighTie_52 ?_
  refine j_iconst C (nI 2) dX4_weighTie_55 (by decide) ?_
  have hb56 : M 36 2 ≤ 9 := hB 36 2 rfl
  refine j_iald C 6 0 2 (CR.n1 hC (by decide)) rfl rfl 6 (CR.l1 hC (by decide)) (by omega) (by omega) (nI (M 36 2)) (CR.i hC 6 0 2 ⟨rfl, by decide⟩ (exT_no (by decide) (fun z => absurd z.1 (by decide)))) dX4_weighTie_56 ?_
  refine j_aload_n C dX4_weighTie_57 rfl 2 rfl ?_
  refine j_getV C hwX5 8 a 3 (CR.n8 hC (by decide) (show a < M 31 5 by omega)) rfl rfl (by decide) rfl a (CR.v hC 8 a 3 ⟨show a < M 31 5 by omega, by decide, by decide⟩ (exT_no (by decide) (by decide))) hL49 dX4_weighTie_58 ?_
  refine j_iconst C (nI 2) dX4_weighTie_61 (by decide) ?_
  refine j_aald C 9 a 2 (CR.n8 hC (by decide) (show a < M 31 5 by omega)) rfl (by decide) (by decide) 3 (CR.l8 hC (show a < M 31 5 by omega)).1 (by omega) (by omega) (3 * a + 2) (CR.v hC 9 a 2 ⟨show a < M 31 5 by omega, by omega⟩ (exT_no (by decide) (fun z => absurd z.1 (by decide)))) dX4_weighTie_62 ?_
  refine j_aload_n C dX4_weighTie_63 rfl 3 rfl ?_
  refine j_getI C hwX5 8 b 0 (CR.n8 hC (by decide) (show b < M 31 5 by omega)) rfl rfl (by decide) rfl (nI b) (CR.i hC 8 b 0 ⟨show b < M 31 5 by omega, Or.inl rfl⟩ (exT_no (by decide) (by decide))) hL53 dX4_weighTie_64 ?_
  have hb67 : M 35 ((40 * 2 + a) * 40 + b) ≤ 999999 := hB 35 _ (decide_eq_true (show (40 * 2 + a) * 40 + b < 4800 by omega))
  refine j_iald C 10 (3 * a + 2) b (CR.n10 hC (show 3 * a + 2 < 3 * M 31 5 by omega)) rfl rfl 40 (CR.l10 hC (show 3 * a + 2 < 3 * M 31 5 by omega)) (by omega) (by omega) (nI (M 35 ((40 * 2 + a) * 40 + b))) ((CR.i hC 10 (3 * a + 2) b ⟨show 3 * a + 2 < 3 * M 31 5 by omega, by omega⟩ (exT_no (by decide) (fun z => absurd z.1 (by decide)))).trans (c10 (by omega))) dX4_weighTie_67 ?_
  refine j_imul C (nI ((M 36 2) * (M 35 ((40 * 2 + a) * 40 + b)))) dX4_weighTie_68 (pk_mul _ _) ?_
  refine j_iadd C (nI (tieN M a b)) dX4_weighTie_69 (nI_add _ _) ?_
  refine j_istore C [(4, .int (nI (tieN M a b))), (3, .int (nI (M 35 ((40 * 0 + a) * 40 + b) + (M 35 ((40 * 0 + b) * 40 + a))))), (0, .ref (gA Λ 3 0)), (1, .ref (gA Λ 8 a)), (2, .ref (gA Λ 8 b))] dX4_weighTie_70 (by decide) rfl ?_
  refine j_aload_n C dX4_weighTie_72 rfl 3 rfl ?_
  refine j_aload_n C dX4_weighTie_73 rfl 4 rfl ?_
  refine j_iload C dX4_weighTie_74 0 rfl ?_
  refine c_v0 C (r_V C 8 a [.ref (gA Λ 8 b), .int (nI (tieN M a b))] (c_X5_setTie l D cy base Λ σ M hC hB T hT a b (by omega) (by omega) hab (tieN M a b) hx) (cwV 2 hts gX4_weighTie_X5_setTie rfl rfl rfl (by decide +kernel) ⟨by decide, by decide⟩) (CR.n8 hC (by decide) (show a < M 31 5 by omega)) rfl rfl rfl rfl (Nat.le_of_ble_eq_true rfl) dX4_weighTie_76 ⟨by decide, by decide⟩) (fun ut_1 hp => ?_)
  obtain ⟨hCt_1, hTt_1, hst_1⟩ := hp
  refine j_aload_n C dX4_weighTie_79 rfl 4 rfl ?_
  refine j_aload_n C dX4_weighTie_80 rfl 3 rfl ?_
  refine j_iload C dX4_weighTie_81 0 rfl ?_
  refine c_v0 C (r_V C 8 b [.ref (gA Λ 8 a), .int (nI (tieN M a b))] (c_X5_setTie l D cy base Λ ut_1 M hCt_1 hB (upT T a b (tieN M a b)) hTt_1 b a (by omega) (by omega) (Ne.symm hab) (tieN M a b) hx) (cwV 2 hts gX4_weighTie_X5_setTie rfl rfl rfl (by decide +kernel) ⟨by decide, by decide⟩) (CR.n8 hCt_1 (by decide) (show b < M 31 5 by omega)) rfl rfl rfl rfl (Nat.le_of_ble_eq_true rfl) dX4_weighTie_83 ⟨by decide, by decide⟩) (fun ut_2 hp => ?_)
  obtain ⟨hCt_2, hTt_2, hst_2⟩ := hp
  exact j_vret C hr hlk (⟨hCt_2, hTt_2, (Same.tr hst_1 hst_2)⟩) dX4_weighTie_86

set_option maxHeartbeats 4000000 in
set_option maxRecDepth 100000 in
theorem c_X4_weighTies (l : Launch) (D : va_G) (cy : Nat → ClassId) (base : Nat) (Λ : LY) (σ : HS) (M : MM) (hC : CR exT Λ σ M) (hB : MBd M) (T : Nat → Nat → Nat) (hT : TT σ (M 31 5) T) (hW : WT M) : Met l yX4_weighTies wsX4_weighTies ({ frames := 12, cells := 0, slots := 0, locals := 180 }) (va_Pc [.ref (gA Λ 3 0)] (Wd D cy base Λ σ)) (va_Qv (fun u => CR exT Λ u M ∧ TT u (M 31 5) (TD M T (M 31 5) 0) ∧ Same nTi σ u) (Wd D cy base Λ) (Ab base)) 0 0 (Ab base) := by
  refine j_start (cc := cX4_weighTies) (nL := 3) (ret := none) (lv := [(0, .ref (gA Λ 3 0))]) (by decide) rfl (Nat.le_of_ble_eq_true rfl) rfl ?_
  intro p e s m below meth c C hr hlk hnm
  have C : Cx p s m ([.ref (gA Λ 3 0)] : List Value).toArray c cX4_weighTies 3 RX4 wsX4_weighTies D cy base := C
  have hts := C.2.2.2.2.1
  have hwX4 : ∀ w ∈ u_ws RX4 TX4 6, w ∈ wsX4_weighTies := by decide +kernel
  have hM11 : (Cond.fieldLink RX4 11 (TX4 0).1 (TX4 0).2.1 (TX4 0).2.2.1).before ([.ref (gA Λ 3 0)] : List Value).toArray s = true := hts (.fieldLink RX4 11 "CodeRooms$Plan" "routines" "[LCodeRooms$Routine;") (by decide +kernel)
  have hL11 : FL RX4 11 (TX4 0).1 (TX4 0).2.1 (TX4 0).2.2.1 ([.ref (gA Λ 3 0)] : List Value).toArray s := Or.inl hM11
  have hM28 : (Cond.fieldLink RX4 28 (TX4 4).1 (TX4 4).2.1 (TX4 4).2.2.1).before ([.ref (gA Λ 3 0)] : List Value).toArray s = true := hts (.fieldLink RX4 28 "CodeRooms$Plan" "size" "I") (by decide +kernel)
  have hL28 : FL RX4 28 (TX4 4).1 (TX4 4).2.1 (TX4 4).2.2.1 ([.ref (gA Λ 3 0)] : List Value).toArray s := Or.inl hM28
  have hn : M 31 5 ≤ 40 := hB 31 5 rfl
  refine j_iconst C (nI 0) dX4_weighTies_0 (by decide) ?_
  refine j_istore_n C [(1, .int (nI 0)), (0, .ref (gA Λ 3 0))] dX4_weighTies_1 rfl (by decide) rfl ?_
  have lb2 : ∀ (fu : Nat) (σ1 : HS) (i : Nat), (M 31 5 - i) < fu → (i ≤ M 31 5) → (CR exT Λ σ1 M) → (TT σ1 (M 31 5) (TD M T i 0)) → (Same nTi σ σ1) → J p l e ({ frames := 12, cells := 0, slots := 0, locals := 180 }) s m ([.ref (gA Λ 3 0)] : List Value).toArray below meth c 3 D cy base (MQ below (va_Qv (fun u => CR exT Λ u M ∧ TT u (M 31 5) (TD M T (M 31 5) 0) ∧ Same nTi σ u) (Wd D cy base Λ) (Ab base)) ([.ref (gA Λ 3 0)] : List Value).toArray s 0 0 (Ab base)) 0 0 Λ 2 [(0, .ref (gA Λ 3 0)), (1, .int (nI i))] [] σ1 := by
    intro fu
    induction fu with
    | zero => intro σ1 i hfu; exact absurd hfu (Nat.not_lt_zero _)
    | succ fu ih =>
      intro σ1 i hfu hi hC1 hT1 hs1
      have ih2 := ih
      refine j_iload_n C dX4_weighTies_2 rfl 1 rfl ?_
      refine j_aload_n C dX4_weighTies_3 rfl 0 rfl ?_
      refine j_getI C hwX4 3 0 4 (CR.n1 hC1 (by decide)) rfl rfl (by decide) rfl (nI (M 31 5)) (CR.i hC1 3 0 4 ⟨rfl, Or.inl rfl⟩ (exT_no (by decide) (fun z => absurd z.1 (by decide)))) hL28 dX4_weighTies_4 ?_
      refine j_icmp_ge (tgt := 50) C dX4_weighTies_7 (by decide) (nI_leI (by omega) (by omega)) (fun h7 => ?_) (fun h7 => ?_)
      · exact j_vret C hr hlk (⟨hC1, by have q := hT1; rw [show i = M 31 5 by omega] at q; exact q, hs1⟩) dX4_weighTies_50
      · refine j_iload_n C dX4_weighTies_10 rfl 1 rfl ?_
        refine j_iconst C (nI 1) dX4_weighTies_11 (by decide) ?_
        refine j_iadd C (nI (i + 1)) dX4_weighTies_12 (nI_add _ _) ?_
        refine j_istore_n C [(2, .int (nI (i + 1))), (0, .ref (gA Λ 3 0)), (1, .int (nI i))] dX4_weighTies_13 rfl (by decide) rfl ?_
        have lb14 : ∀ (fu : Nat) (σ2 : HS) (j : Nat), (M 31 5 - j) < fu → (j ≤ M 31 5) → (i < j) → (CR exT Λ σ2 M) → (TT σ2 (M 31 5) (TD M T i j)) → (Same nTi σ σ2) → J p l e ({ frames := 12, cells := 0, slots := 0, locals := 180 }) s m ([.ref (gA Λ 3 0)] : List Value).toArray below meth c 3 D cy base (MQ below (va_Qv (fun u => CR exT Λ u M ∧ TT u (M 31 5) (TD M T (M 31 5) 0) ∧ Same nTi σ u) (Wd D cy base Λ) (Ab base)) ([.ref (gA Λ 3 0)] : List Value).toArray s 0 0 (Ab base)) 0 0 Λ 14 [(0, .ref (gA Λ 3 0)), (1, .int (nI i)), (2, .int (nI j))] [] σ2 := by
          intro fu
          induction fu with
          | zero => intro σ2 j hfu; exact absurd hfu (Nat.not_lt_zero _)
          | succ fu ih =>
            intro σ2 j hfu hj hij hC2 hT2 hs2
            have ih14 := ih
            refine j_iload_n C dX4_weighTies_14 rfl 2 rfl ?_
            refine j_aload_n C dX4_weighTies_15 rfl 0 rfl ?_
            refine j_getI C hwX4 3 0 4 (CR.n1 hC2 (by decide)) rfl rfl (by decide) rfl (nI (M 31 5)) (CR.i hC2 3 0 4 ⟨rfl, Or.inl rfl⟩ (exT_no (by decide) (fun z => absurd z.1 (by decide)))) hL28 dX4_weighTies_16 ?_
            refine j_icmp_ge (tgt := 44) C dX4_weighTies_19 (by decide) (nI_leI (by omega) (by omega)) (fun h19 => ?_) (fun h19 => ?_)
            · refine j_iinc C [(1, .int (nI (i + 1))), (0, .ref (gA Λ 3 0)), (2, .int (nI j))] (nI (i + 1)) dX4_weighTies_44 1 rfl (nI_add _ 1) (by decide) rfl ?_
              refine j_goto (tgt := 2) C dX4_weighTies_47 (by decide) ?_
              refine j_lv [1, 0] rfl ?_
              exact ih2 σ2 (i + 1) (by omega) (by omega) hC2 (TT.cong hn hT2 (TD_r (by omega))) hs2
            · refine j_aload_n C dX4_weighTies_22 rfl 0 rfl ?_
              refine j_aload_n C dX4_weighTies_23 rfl 0 rfl ?_
              refine j_getV C hwX4 3 0 0 (CR.n1 hC2 (by decide)) rfl rfl (by decide) rfl 0 (CR.v hC2 3 0 0 ⟨rfl, by decide⟩ (exT_no (by decide) (fun z => absurd z.1 (by decide)))) hL11 dX4_weighTies_24 ?_
              refine j_iload_n C dX4_weighTies_27 rfl 1 rfl ?_
              refine j_aald C 4 0 i (CR.n1 hC2 (by decide)) rfl (by decide) (by decide) 40 (CR.l1 hC2 (by decide)) (by omega) (by omega) i (CR.v hC2 4 0 i ⟨rfl, show i < M 31 5 by omega⟩ (exT_no (by decide) (fun z => absurd z.1 (by decide)))) dX4_weighTies_28 ?_
              refine j_aload_n C dX4_weighTies_29 rfl 0 rfl ?_
              refine j_getV C hwX4 3 0 0 (CR.n1 hC2 (by decide)) rfl rfl (by decide) rfl 0 (CR.v hC2 3 0 0 ⟨rfl, by decide⟩ (exT_no (by decide) (fun z => absurd z.1 (by decide)))) hL11 dX4_weighTies_30 ?_
              refine j_iload_n C dX4_weighTies_33 rfl 2 rfl ?_
              refine j_aald C 4 0 j (CR.n1 hC2 (by decide)) rfl (by decide) (by decide) 40 (CR.l1 hC2 (by decide)) (by omega) (by omega) j (CR.v hC2 4 0 j ⟨rfl, show j < M 31 5 by omega⟩ (exT_no (by decide) (fun z => absurd z.1 (by decide)))) dX4_weighTies_34 ?_
              refine c_v0 C (r_V C 3 0 [.ref (gA Λ 8 i), .ref (gA Λ 8 j)] (c_X4_weighTie l D cy base Λ σ2 M hC2 hB _ hT2 i j (by omega) (by omega) (by omega)) (cwV 2 hts gX4_weighTies_X4_weighTie rfl rfl rfl (by decide +kernel) ⟨by decide, by decide⟩) (CR.n1 hC2 (by decide)) rfl rfl rfl rfl (Nat.le_of_ble_eq_true rfl) dX4_weighTies_35 ⟨by decide, by decide⟩) (fun u3 hp => ?_)
              obtain ⟨hC3, hT3, hs3⟩ := hp
              refine j_iinc C [(2, .int (nI (j + 1))), (0, .ref (gA Λ 3 0)), (1, .int (nI i))] (nI (j + 1)) dX4_weighTies_38 2 rfl (nI_add _ 1) (by decide) rfl ?_
              refine j_goto (tgt := 14) C dX4_weighTies_41 (by decide) ?_
              refine j_lv [1, 2, 0] rfl ?_
              exact ih14 u3 (j + 1) (by omega) (by omega) (by omega) hC3 (TT.cong hn hT3 (TD_s hW hn (by omega) (by omega) (by omega))) (Same.tr hs2 hs3)
        refine j_lv [1, 2, 0] rfl ?_
        exact lb14 _ σ1 (i + 1) (Nat.lt_succ_self _) (by omega) (by omega) hC1 (TT.cong hn hT1 (fun a b _ _ => TD_b a b)) hs1
  refine j_lv [1, 0] rfl ?_
  exact lb2 _ σ 0 (Nat.lt_succ_self _) (by omega) hC (TT.cong hn hT (fun a b _ _ => TD_0 a b)) Same.rf
