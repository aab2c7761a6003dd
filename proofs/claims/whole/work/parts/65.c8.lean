theorem sh_i {a b : Nat} (ha : a ≤ 40) (hb : b ≤ 40) : (nI 2 * (nI b - nI a + nI 1)).toInt64 = zL (2 * ((b : Int) - a + 1)) := by
  rw [zI_nI, zI_nI, zI_nI, zI_nI, zI_sub, zI_add]
  have e : ∀ x y : Int, zI x * zI y = zI (x * y) := fun x y => (Int32.ofInt_mul x y).symm
  rw [e]
  exact zI_zL (by omega) (by omega)
set_option maxHeartbeats 4000000 in
set_option maxRecDepth 100000 in
theorem c_X2_shiftOf (l : Launch) (D : va_G) (cy : Nat → ClassId) (base : Nat) (Λ : LY) (σ : HS) (M : MM) (hC : CR noEx Λ σ M) (hB : MBd M) (r to : Nat) (hr0 : r < M 31 5) (ht : to < 6) (hS : PS σ M) (hP : PP σ M r) : Met l yX2_shiftOf wsX2_shiftOf ({ frames := 8, cells := 0, slots := 0, locals := 120 }) (va_Pc [.ref (gA Λ 18 0), .ref (gA Λ 8 r), .int (nI to)] (Wd D cy base Λ σ)) (va_Ql (fun v u => v = zL (movZ M r to) ∧ u = σ) (Wd D cy base Λ) (Ab base)) 0 0 (Ab base) := by
  refine j_start (cc := cX2_shiftOf) (nL := 4) (ret := (some .long)) (lv := [(0, .ref (gA Λ 18 0)), (1, .ref (gA Λ 8 r)), (2, .int (nI to))]) (by decide) rfl (Nat.le_of_ble_eq_true rfl) rfl ?_
  intro p e s m below meth c C hr hlk hnm
  have C : Cx p s m ([.ref (gA Λ 18 0), .ref (gA Λ 8 r), .int (nI to)] : List Value).toArray c cX2_shiftOf 4 RX2 wsX2_shiftOf D cy base := C
  have hts := C.2.2.2.2.1
  have hwX2 : ∀ w ∈ u_ws RX2 TX2 6, w ∈ wsX2_shiftOf := by decide +kernel
  have hwX5 : ∀ w ∈ u_ws RX5 TX5 13, w ∈ wsX2_shiftOf := by decide +kernel
  have hM9 : (Cond.fieldLink RX2 9 (TX2 1).1 (TX2 1).2.1 (TX2 1).2.2.1).before ([.ref (gA Λ 18 0), .ref (gA Λ 8 r), .int (nI to)] : List Value).toArray s = true := hts (.fieldLink RX2 9 "CodeRooms$Mender" "sizes" "[I") (by decide +kernel)
  have hL9 : FL RX2 9 (TX2 1).1 (TX2 1).2.1 (TX2 1).2.2.1 ([.ref (gA Λ 18 0), .ref (gA Λ 8 r), .int (nI to)] : List Value).toArray s := Or.inl hM9
  have hM15 : (Cond.fieldLink RX2 15 (TX2 0).1 (TX2 0).2.1 (TX2 0).2.2.1).before ([.ref (gA Λ 18 0), .ref (gA Λ 8 r), .int (nI to)] : List Value).toArray s = true := hts (.fieldLink RX2 15 "CodeRooms$Mender" "plan" "LCodeRooms$Plan;") (by decide +kernel)
  have hL15 : FL RX2 15 (TX2 0).1 (TX2 0).2.1 (TX2 0).2.2.1 ([.ref (gA Λ 18 0), .ref (gA Λ 8 r), .int (nI to)] : List Value).toArray s := Or.inl hM15
  have hL49 : FL RX2 49 (TX5 11).1 (TX5 11).2.1 (TX5 11).2.2.1 ([.ref (gA Λ 18 0), .ref (gA Λ 8 r), .int (nI to)] : List Value).toArray s := Or.inr ⟨_, Ex.nestF C.2.2.2.2.2.2 nf_X2_49⟩
  have hL64 : FL RX2 64 (TX5 6).1 (TX5 6).2.1 (TX5 6).2.2.1 ([.ref (gA Λ 18 0), .ref (gA Λ 8 r), .int (nI to)] : List Value).toArray s := Or.inr ⟨_, Ex.nestF C.2.2.2.2.2.2 nf_X2_64⟩
  have hn : M 31 5 ≤ 40 := hB 31 5 rfl
  have hev : M 31 8 ≤ 100 := hB 31 8 rfl
  refine j_iconst C (nI 2) dX2_shiftOf_0 (by decide) ?_
  refine j_aload_n C dX2_shiftOf_1 rfl 0 rfl ?_
  refine j_getV C hwX2 18 0 1 (CR.n1 hC (by decide)) rfl rfl (by decide) rfl 0 (CR.v hC 18 0 1 ⟨rfl, by decide⟩ id) hL9 dX2_shiftOf_2 ?_
  refine j_iload_n C dX2_shiftOf_5 rfl 2 rfl ?_
  have hsz6 := szN_le M to
  refine j_iald C 19 0 to (CR.n1 hC (by decide)) rfl rfl 6 (CR.l1 hC (by decide)) (by omega) (by omega) (nI (szN M to)) (hS _ (by omega)) dX2_shiftOf_6 ?_
  refine j_aload_n C dX2_shiftOf_7 rfl 0 rfl ?_
  refine j_getV C hwX2 18 0 1 (CR.n1 hC (by decide)) rfl rfl (by decide) rfl 0 (CR.v hC 18 0 1 ⟨rfl, by decide⟩ id) hL9 dX2_shiftOf_8 ?_
  refine j_aload_n C dX2_shiftOf_11 rfl 1 rfl ?_
  have hb12 : M 38 r ≤ 5 := hB 38 r (decide_eq_true (show r < 40 by omega))
  refine j_getI C hwX5 8 r 11 (CR.n8 hC (by decide) (show r < M 31 5 by omega)) rfl rfl (by decide) rfl (nI (M 38 r)) (CR.i hC 8 r 11 ⟨show r < M 31 5 by omega, Or.inr (Or.inr (Or.inl rfl))⟩ id) hL49 dX2_shiftOf_12 ?_
  have hsz15 := szN_le M (M 38 r)
  refine j_iald C 19 0 (M 38 r) (CR.n1 hC (by decide)) rfl rfl 6 (CR.l1 hC (by decide)) (by omega) (by omega) (nI (szN M (M 38 r))) (hS _ (by omega)) dX2_shiftOf_15 ?_
  refine j_isub C (nI (szN M to) - nI (szN M (M 38 r))) dX2_shiftOf_16 rfl ?_
  refine j_iconst C (nI 1) dX2_shiftOf_17 (by decide) ?_
  refine j_iadd C (nI (szN M to) - nI (szN M (M 38 r)) + nI 1) dX2_shiftOf_18 rfl ?_
  refine j_imul C (nI 2 * (nI (szN M to) - nI (szN M (M 38 r)) + nI 1)) dX2_shiftOf_19 rfl ?_
  refine j_istore_n C [(3, .int (nI 2 * (nI (szN M to) - nI (szN M (M 38 r)) + nI 1))), (0, .ref (gA Λ 18 0)), (1, .ref (gA Λ 8 r)), (2, .int (nI to))] dX2_shiftOf_20 rfl (by decide) rfl ?_
  refine j_aload_n C dX2_shiftOf_21 rfl 2 rfl ?_
  refine j_getV C hwX5 8 r 6 (CR.n8 hC (by decide) (show r < M 31 5 by omega)) rfl rfl (by decide) rfl r (CR.v hC 8 r 6 ⟨show r < M 31 5 by omega, by decide, by decide⟩ id) hL64 dX2_shiftOf_22 ?_
  refine j_aload_n C dX2_shiftOf_25 rfl 2 rfl ?_
  have hb26 : M 38 r ≤ 5 := hB 38 r (decide_eq_true (show r < 40 by omega))
  refine j_getI C hwX5 8 r 11 (CR.n8 hC (by decide) (show r < M 31 5 by omega)) rfl rfl (by decide) rfl (nI (M 38 r)) (CR.i hC 8 r 11 ⟨show r < M 31 5 by omega, Or.inr (Or.inr (Or.inl rfl))⟩ id) hL49 dX2_shiftOf_26 ?_
  refine j_lald C 13 r (M 38 r) (CR.n8 hC (by decide) (show r < M 31 5 by omega)) rfl rfl 6 (CR.l8 hC (show r < M 31 5 by omega)).2.2.2 (by omega) (by omega) (zL (pulK M r (M 38 r))) (hP _ (by omega)) dX2_shiftOf_29 ?_
  refine j_aload_n C dX2_shiftOf_30 rfl 2 rfl ?_
  refine j_getV C hwX5 8 r 6 (CR.n8 hC (by decide) (show r < M 31 5 by omega)) rfl rfl (by decide) rfl r (CR.v hC 8 r 6 ⟨show r < M 31 5 by omega, by decide, by decide⟩ id) hL64 dX2_shiftOf_31 ?_
  refine j_iload_n C dX2_shiftOf_34 rfl 3 rfl ?_
  refine j_lald C 13 r to (CR.n8 hC (by decide) (show r < M 31 5 by omega)) rfl rfl 6 (CR.l8 hC (show r < M 31 5 by omega)).2.2.2 (by omega) (by omega) (zL (pulK M r to)) (hP _ (by omega)) dX2_shiftOf_35 ?_
  refine j_lsub C (zL ((pulK M r (M 38 r)) - (pulK M r to))) dX2_shiftOf_36 (zL_sub _ _) ?_
  refine j_aload_n C dX2_shiftOf_37 rfl 1 rfl ?_
  refine j_getV C hwX2 18 0 0 (CR.n1 hC (by decide)) rfl rfl (by decide) rfl 0 (CR.v hC 18 0 0 ⟨rfl, by decide⟩ id) hL15 dX2_shiftOf_38 ?_
  refine c_i0 C (r_V C 3 0 [] (c_X4_even l D cy base Λ σ M hC hB) (cwV 0 hts gX2_shiftOf_X4_even rfl rfl rfl (by decide +kernel) ⟨by decide, by decide⟩) (CR.n1 hC (by decide)) rfl rfl rfl rfl (Nat.le_of_ble_eq_true rfl) dX2_shiftOf_41 ⟨by decide, by decide⟩) (fun rv uu hp => ?_)
  rw [hp.1, hp.2]
  refine j_i2l C (zL (M 31 8 : Int)) dX2_shiftOf_44 (nI_zL (by omega)) ?_
  refine j_iload_n C dX2_shiftOf_45 rfl 0 rfl ?_
  refine j_i2l C (zL (2 * ((szN M to : Int) - szN M (M 38 r) + 1))) dX2_shiftOf_46 (sh_i (by omega) (by omega)) ?_
  refine j_lmul C (zL ((M 31 8 : Int) * (2 * ((szN M to : Int) - szN M (M 38 r) + 1)))) dX2_shiftOf_47 (zL_mul _ _) ?_
  refine j_ladd C (zL (((pulK M r (M 38 r)) - (pulK M r to)) + ((M 31 8 : Int) * (2 * ((szN M to : Int) - szN M (M 38 r) + 1))))) dX2_shiftOf_48 (zL_add _ _) ?_
  exact j_lret C hr hlk (⟨by rw [mov_eq hn], rfl⟩) dX2_shiftOf_49

set_option maxHeartbeats 4000000 in
set_option maxRecDepth 100000 in
theorem c_X2_tradeOf (l : Launch) (D : va_G) (cy : Nat → ClassId) (base : Nat) (Λ : LY) (σ : HS) (M : MM) (hC : CR noEx Λ σ M) (hB : MBd M) (a b : Nat) (ha : a < M 31 5) (hb : b < M 31 5) (hab : a ≠ b) (h37a : M 37 a = 0) (h37b : M 37 b = 0) (hrr : M 38 a ≠ M 38 b) (hY : ∀ a b, a < 40 → b < 40 → pulZ M a b = pulZ M b a) (hPa : PP σ M a) (hPb : PP σ M b) : Met l yX2_tradeOf wsX2_tradeOf ({ frames := 8, cells := 0, slots := 0, locals := 120 }) (va_Pc [.ref (gA Λ 18 0), .ref (gA Λ 8 a), .ref (gA Λ 8 b)] (Wd D cy base Λ σ)) (va_Ql (fun v u => v = zL (swpZ M a b) ∧ u = σ) (Wd D cy base Λ) (Ab base)) 0 0 (Ab base) := by
  refine j_start (cc := cX2_tradeOf) (nL := 3) (ret := (some .long)) (lv := [(0, .ref (gA Λ 18 0)), (1, .ref (gA Λ 8 a)), (2, .ref (gA Λ 8 b))]) (by decide) rfl (Nat.le_of_ble_eq_true rfl) rfl ?_
  intro p e s m below meth c C hr hlk hnm
  have C : Cx p s m ([.ref (gA Λ 18 0), .ref (gA Λ 8 a), .ref (gA Λ 8 b)] : List Value).toArray c cX2_tradeOf 3 RX2 wsX2_tradeOf D cy base := C
  have hts := C.2.2.2.2.1
  have hwX5 : ∀ w ∈ u_ws RX5 TX5 13, w ∈ wsX2_tradeOf := by decide +kernel
  have hL49 : FL RX2 49 (TX5 11).1 (TX5 11).2.1 (TX5 11).2.2.1 ([.ref (gA Λ 18 0), .ref (gA Λ 8 a), .ref (gA Λ 8 b)] : List Value).toArray s := Or.inr ⟨_, Ex.nestF C.2.2.2.2.2.2 nf_X2_49⟩
  have hL64 : FL RX2 64 (TX5 6).1 (TX5 6).2.1 (TX5 6).2.2.1 ([.ref (gA Λ 18 0), .ref (gA Λ 8 a), .ref (gA Λ 8 b)] : List Value).toArray s := Or.inr ⟨_, Ex.nestF C.2.2.2.2.2.2 nf_X2_64⟩
  have hC104 : (Jvm.Cond.constantLong RX2 104 2).before ([.ref (gA Λ 18 0), .ref (gA Λ 8 a), .ref (gA Λ 8 b)] : List Value).toArray s = true := hts _ (by decide +kernel)
  have hn : M 31 5 ≤ 40 := hB 31 5 rfl
  refine j_aload_n C dX2_tradeOf_0 rfl 1 rfl ?_
  refine j_getV C hwX5 8 a 6 (CR.n8 hC (by decide) (show a < M 31 5 by omega)) rfl rfl (by decide) rfl a (CR.v hC 8 a 6 ⟨show a < M 31 5 by omega, by decide, by decide⟩ id) hL64 dX2_tradeOf_1 ?_
  refine j_aload_n C dX2_tradeOf_4 rfl 1 rfl ?_
  have hb5 : M 38 a ≤ 5 := hB 38 a (decide_eq_true (show a < 40 by omega))
  refine j_getI C hwX5 8 a 11 (CR.n8 hC (by decide) (show a < M 31 5 by omega)) rfl rfl (by decide) rfl (nI (M 38 a)) (CR.i hC 8 a 11 ⟨show a < M 31 5 by omega, Or.inr (Or.inr (Or.inl rfl))⟩ id) hL49 dX2_tradeOf_5 ?_
  refine j_lald C 13 a (M 38 a) (CR.n8 hC (by decide) (show a < M 31 5 by omega)) rfl rfl 6 (CR.l8 hC (show a < M 31 5 by omega)).2.2.2 (by omega) (by omega) (zL (pulK M a (M 38 a))) (hPa _ (by omega)) dX2_tradeOf_8 ?_
  refine j_aload_n C dX2_tradeOf_9 rfl 1 rfl ?_
  refine j_getV C hwX5 8 a 6 (CR.n8 hC (by decide) (show a < M 31 5 by omega)) rfl rfl (by decide) rfl a (CR.v hC 8 a 6 ⟨show a < M 31 5 by omega, by decide, by decide⟩ id) hL64 dX2_tradeOf_10 ?_
  refine j_aload_n C dX2_tradeOf_13 rfl 2 rfl ?_
  have hb14 : M 38 b ≤ 5 := hB 38 b (decide_eq_true (show b < 40 by omega))
  refine j_getI C hwX5 8 b 11 (CR.n8 hC (by decide) (show b < M 31 5 by omega)) rfl rfl (by decide) rfl (nI (M 38 b)) (CR.i hC 8 b 11 ⟨show b < M 31 5 by omega, Or.inr (Or.inr (Or.inl rfl))⟩ id) hL49 dX2_tradeOf_14 ?_
  refine j_lald C 13 a (M 38 b) (CR.n8 hC (by decide) (show a < M 31 5 by omega)) rfl rfl 6 (CR.l8 hC (show a < M 31 5 by omega)).2.2.2 (by omega) (by omega) (zL (pulK M a (M 38 b))) (hPa _ (by omega)) dX2_tradeOf_17 ?_
  refine j_lsub C (zL ((pulK M a (M 38 a)) - (pulK M a (M 38 b)))) dX2_tradeOf_18 (zL_sub _ _) ?_
  refine j_aload_n C dX2_tradeOf_19 rfl 2 rfl ?_
  refine j_getV C hwX5 8 b 6 (CR.n8 hC (by decide) (show b < M 31 5 by omega)) rfl rfl (by decide) rfl b (CR.v hC 8 b 6 ⟨show b < M 31 5 by omega, by decide, by decide⟩ id) hL64 dX2_tradeOf_20 ?_
  refine j_aload_n C dX2_tradeOf_23 rfl 2 rfl ?_
  have hb24 : M 38 b ≤ 5 := hB 38 b (decide_eq_true (show b < 40 by omega))
  refine j_getI C hwX5 8 b 11 (CR.n8 hC (by decide) (show b < M 31 5 by omega)) rfl rfl (by decide) rfl (nI (M 38 b)) (CR.i hC 8 b 11 ⟨show b < M 31 5 by omega, Or.inr (Or.inr (Or.inl rfl))⟩ id) hL49 dX2_tradeOf_24 ?_
  refine j_lald C 13 b (M 38 b) (CR.n8 hC (by decide) (show b < M 31 5 by omega)) rfl rfl 6 (CR.l8 hC (show b < M 31 5 by omega)).2.2.2 (by omega) (by omega) (zL (pulK M b (M 38 b))) (hPb _ (by omega)) dX2_tradeOf_27 ?_
  refine j_ladd C (zL (((pulK M a (M 38 a)) - (pulK M a (M 38 b))) + (pulK M b (M 38 b)))) dX2_tradeOf_28 (zL_add _ _) ?_
  refine j_aload_n C dX2_tradeOf_29 rfl 2 rfl ?_
  refine j_getV C hwX5 8 b 6 (CR.n8 hC (by decide) (show b < M 31 5 by omega)) rfl rfl (by decide) rfl b (CR.v hC 8 b 6 ⟨show b < M 31 5 by omega, by decide, by decide⟩ id) hL64 dX2_tradeOf_30 ?_
  refine j_aload_n C dX2_tradeOf_33 rfl 1 rfl ?_
  have hb34 : M 38 a ≤ 5 := hB 38 a (decide_eq_true (show a < 40 by omega))
  refine j_getI C hwX5 8 a 11 (CR.n8 hC (by decide) (show a < M 31 5 by omega)) rfl rfl (by decide) rfl (nI (M 38 a)) (CR.i hC 8 a 11 ⟨show a < M 31 5 by omega, Or.inr (Or.inr (Or.inl rfl))⟩ id) hL49 dX2_tradeOf_34 ?_
  refine j_lald C 13 b (M 38 a) (CR.n8 hC (by decide) (show b < M 31 5 by omega)) rfl rfl 6 (CR.l8 hC (show b < M 31 5 by omega)).2.2.2 (by omega) (by omega) (zL (pulK M b (M 38 a))) (hPb _ (by omega)) dX2_tradeOf_37 ?_
  refine j_lsub C (zL ((((pulK M a (M 38 a)) - (pulK M a (M 38 b))) + (pulK M b (M 38 b))) - (pulK M b (M 38 a)))) dX2_tradeOf_38 (zL_sub _ _) ?_
  refine j_ldc2 C (zL 2) hC104 dX2_tradeOf_39 (by decide) ?_
  refine j_aload_n C dX2_tradeOf_42 rfl 1 rfl ?_
  refine j_aload_n C dX2_tradeOf_43 rfl 2 rfl ?_
  refine c_i0 C (r_V C 8 a [.ref (gA Λ 8 b)] (c_X5_pullOf l D cy base Λ σ M hC hB a b (by omega) (by omega)) (cwV 1 hts gX2_tradeOf_X5_pullOf rfl rfl rfl (by decide +kernel) ⟨by decide, by decide⟩) (CR.n8 hC (by decide) (show a < M 31 5 by omega)) rfl rfl rfl rfl (Nat.le_of_ble_eq_true rfl) dX2_tradeOf_44 ⟨by decide, by decide⟩) (fun rv uu hp => ?_)
  rw [hp.1, hp.2]
  refine j_i2l C (zL (pulZ M a b)) dX2_tradeOf_47 (zI_zL (by have := pulZ_bd hB (a := a) (b := b) (by omega) (by omega); omega) (by have := pulZ_bd hB (a := a) (b := b) (by omega) (by omega); omega)) ?_
  refine j_lmul C (zL (2 * (pulZ M a b))) dX2_tradeOf_48 (zL_mul _ _) ?_
  refine j_ladd C (zL (((((pulK M a (M 38 a)) - (pulK M a (M 38 b))) + (pulK M b (M 38 b))) - (pulK M b (M 38 a))) + (2 * (pulZ M a b)))) dX2_tradeOf_49 (zL_add _ _) ?_
  exact j_lret C hr hlk (⟨by rw [swp_eq hn ha hb hab h37a h37b hrr (hY b a (by omega) (by omega))], rfl⟩) dX2_tradeOf_50

theorem mvStep_yes {M : MM} {r room : Nat} {z : BS} (h : room ≠ M 38 r) (h2 : movZ M r room < z.1) : mvStep M r z room = (movZ M r room, r + 1, z.2.2.1, room + 1) := if_pos ⟨h, h2⟩
theorem mvStep_no {M : MM} {r room : Nat} {z : BS} (h : ¬ (room ≠ M 38 r ∧ movZ M r room < z.1)) : mvStep M r z room = z := if_neg h
theorem swStep_yes {M : MM} {a b : Nat} {z : BS} (h1 : a < b) (h2 : M 37 b = 0) (h3 : M 38 a ≠ M 38 b) (h4 : swpZ M a b < z.1) : swStep M a z b = (swpZ M a b, a + 1, b + 1, z.2.2.2) := if_pos ⟨h1, h2, h3, h4⟩
/-- the mender's found step, with all else as it was -/
def GF (σ u : HS) : Prop := (∀ t, t ≠ 18 → gI u t = gI σ t) ∧ (∀ t, t ≠ 18 → gJ u t = gJ σ t) ∧ (∀ t, t ≠ 18 → gV u t = gV σ t) ∧ (∀ k, k < 2 → gV u 18 0 k = gV σ 18 0 k)
theorem GF.rf {σ : HS} : GF σ σ := ⟨fun _ _ => rfl, fun _ _ => rfl, fun _ _ => rfl, fun _ _ => rfl⟩
theorem GF.gm {σ u : HS} (h : GF σ u) : GM σ u := ⟨fun t a _ => h.1 t a, fun t _ a => h.2.1 t a, h.2.2⟩
theorem GF.tr {σ u v : HS} (h : GF σ u) (g : GF u v) : GF σ v := ⟨fun t a => (g.1 t a).trans (h.1 t a), fun t a => (g.2.1 t a).trans (h.2.1 t a), fun t a => (g.2.2.1 t a).trans (h.2.2.1 t a), fun k a => (g.2.2.2 k a).trans (h.2.2.2 k a)⟩
theorem GF.i {σ u : HS} {i k : Nat} {x : Int32} (h : GF σ u) : GF σ (sI u 18 i k x) := ⟨fun t a => by rw [gI_nk a]; exact h.1 t a, h.2.1, h.2.2⟩
theorem GF.j {σ u : HS} {i k : Nat} {x : Int64} (h : GF σ u) : GF σ (sJ u 18 i k x) := ⟨h.1, fun t a => by rw [gJ_nk a]; exact h.2.1 t a, h.2.2⟩
theorem GF.v {σ u : HS} {i k : Nat} {x : Option Nat} (h : GF σ u) (hk : 2 ≤ k) : GF σ (sV u 18 i k x) := ⟨h.1, h.2.1, fun t a => by rw [gV_nk a]; exact h.2.2.1 t a, fun k' a => by rw [gV_sV, if_neg (by omega)]; exact h.2.2.2 k' a⟩
theorem GF.ps {σ u : HS} {M : MM} (h : GF σ u) (g : PS σ M) : PS u M := fun k hk => by rw [h.1 19 (by decide)]; exact g k hk
theorem GF.pp {σ u : HS} {M : MM} {r : Nat} (h : GF σ u) (g : PP σ M r) : PP u M r := fun k hk => by rw [h.2.1 13 (by decide)]; exact g k hk
theorem BSR.mv {u : HS} {z : BS} {x : Int} {r to : Nat} (h : BSR u z) : BSR (sI (sV (sJ u 18 0 2 (zL x)) 18 0 3 (some r)) 18 0 5 (nI to)) (x, r + 1, z.2.2.1, to + 1) := by
  refine ⟨?_, ?_, ?_, fun _ => ?_⟩
  · rw [gJ_sI, gJ_sV]; exact gJ_same _ _ _ _ _
  · rw [gV_sI]; exact gV_same _ _ _ _ _
  · rw [gV_sI, gV_sV, if_neg (by decide)]; exact h.2.2.1
  · exact gI_same _ _ _ _ _
theorem BSR.sw {u : HS} {z : BS} {x : Int} {a b : Nat} (h : BSR u z) : BSR (sV (sV (sJ u 18 0 2 (zL x)) 18 0 3 (some a)) 18 0 4 (some b)) (x, a + 1, b + 1, z.2.2.2) := by
  refine ⟨?_, ?_, ?_, ?_⟩
  · rw [gJ_sV, gJ_sV]; exact gJ_same _ _ _ _ _
  · rw [gV_sV, if_neg (by decide)]; exact gV_same _ _ _ _ _
  · exact gV_same _ _ _ _ _
  · exact h.2.2.2
set_option maxHeartbeats 4000000 in
set_option maxRecDepth 100000 in
theorem c_X2_findMove (l : Launch) (D : va_G) (cy : Nat → ClassId) (base : Nat) (Λ : LY) (σ : HS) (M : MM) (hC : CR noEx Λ σ M) (hB : MBd M) (hR : M 31 10 ≤ 6) (hS : PS σ M) (hP : ∀ i, i < hcN M → PP σ M (hs M i)) (hz0 : BSR σ (0, 0, 0, 0)) : Met l yX2_findMove wsX2_findMove ({ frames := 12, cells := 0, slots := 0, locals := 180 }) (va_Pc [.ref (gA Λ 18 0)] (Wd D cy base Λ σ)) (va_Qv (fun u => GF σ u ∧ BSR u (mvH M (hcN M))) (Wd D cy base Λ) (Ab base)) 0 0 (Ab base) := by
  refine j_start (cc := cX2_findMove) (nL := 6) (ret := none) (lv := [(0, .ref (gA Λ 18 0))]) (by decide) rfl (Nat.le_of_ble_eq_true rfl) rfl ?_
  intro p e s m below meth c C hr hlk hnm
  have C : Cx p s m ([.ref (gA Λ 18 0)] : List Value).toArray c cX2_findMove 6 RX2 wsX2_findMove D cy base := C
  have hts := C.2.2.2.2.1
  have hwX2 : ∀ w ∈ u_ws RX2 TX2 6, w ∈ wsX2_findMove := by decide +kernel
  have hwX4 : ∀ w ∈ u_ws RX4 TX4 6, w ∈ wsX2_findMove := by decide +kernel
  have hwX5 : ∀ w ∈ u_ws RX5 TX5 13, w ∈ wsX2_findMove := by decide +kernel
  have hM15 : (Cond.fieldLink RX2 15 (TX2 0).1 (TX2 0).2.1 (TX2 0).2.2.1).before ([.ref (gA Λ 18 0)] : List Value).toArray s = true := hts (.fieldLink RX2 15 "CodeRooms$Mender" "plan" "LCodeRooms$Plan;") (by decide +kernel)
  have hL15 : FL RX2 15 (TX2 0).1 (TX2 0).2.1 (TX2 0).2.2.1 ([.ref (gA Λ 18 0)] : List Value).toArray s := Or.inl hM15
  have hL22 : FL RX2 22 (TX4 5).1 (TX4 5).2.1 (TX4 5).2.2.1 ([.ref (gA Λ 18 0)] : List Value).toArray s := Or.inr ⟨_, Ex.nestF C.2.2.2.2.2.2 nf_X2_22⟩
  have hL28 : FL RX2 28 (TX4 1).1 (TX4 1).2.1 (TX4 1).2.2.1 ([.ref (gA Λ 18 0)] : List Value).toArray s := Or.inr ⟨_, Ex.nestF C.2.2.2.2.2.2 nf_X2_28⟩
  have hL49 : FL RX2 49 (TX5 11).1 (TX5 11).2.1 (TX5 11).2.2.1 ([.ref (gA Λ 18 0)] : List Value).toArray s := Or.inr ⟨_, Ex.nestF C.2.2.2.2.2.2 nf_X2_49⟩
  have hM77 : (Cond.fieldLink RX2 77 (TX2 2).1 (TX2 2).2.1 (TX2 2).2.2.1).before ([.ref (gA Λ 18 0)] : List Value).toArray s = true := hts (.fieldLink RX2 77 "CodeRooms$Mender" "least" "J") (by decide +kernel)
  have hL77 : FL RX2 77 (TX2 2).1 (TX2 2).2.1 (TX2 2).2.2.1 ([.ref (gA Λ 18 0)] : List Value).toArray s := Or.inl hM77
  have hM81 : (Cond.fieldLink RX2 81 (TX2 3).1 (TX2 3).2.1 (TX2 3).2.2.1).before ([.ref (gA Λ 18 0)] : List Value).toArray s = true := hts (.fieldLink RX2 81 "CodeRooms$Mender" "mover" "LCodeRooms$Routine;") (by decide +kernel)
  have hL81 : FL RX2 81 (TX2 3).1 (TX2 3).2.1 (TX2 3).2.2.1 ([.ref (gA Λ 18 0)] : List Value).toArray s := Or.inl hM81
  have hM94 : (Cond.fieldLink RX2 94 (TX2 5).1 (TX2 5).2.1 (TX2 5).2.2.1).before ([.ref (gA Λ 18 0)] : List Value).toArray s = true := hts (.fieldLink RX2 94 "CodeRooms$Mender" "target" "I") (by decide +kernel)
  have hL94 : FL RX2 94 (TX2 5).1 (TX2 5).2.1 (TX2 5).2.2.1 ([.ref (gA Λ 18 0)] : List Value).toArray s := Or.inl hM94
  have hn : M 31 5 ≤ 40 := hB 31 5 rfl
  have hhc0 := hcN_le M
  refine j_iconst C (nI 0) dX2_findMove_0 (by decide) ?_
  refine j_istore_n C [(1, .int (nI 0)), (0, .ref (gA Λ 18 0))] dX2_findMove_1 rfl (by decide) rfl ?_
  have lb2 : ∀ (fu : Nat) (σ1 : HS) (i : Nat), (hcN M - i) < fu → (i ≤ hcN M) → (GF σ σ1) → (BSR σ1 (mvH M i)) → J p l e ({ frames := 12, cells := 0, slots := 0, locals := 180 }) s m ([.ref (gA Λ 18 0)] : List Value).toArray below meth c 6 D cy base (MQ below (va_Qv (fun u => GF σ u ∧ BSR u (mvH M (hcN M))) (Wd D cy base Λ) (Ab base)) ([.ref (gA Λ 18 0)] : List Value).toArray s 0 0 (Ab base)) 0 0 Λ 2 [(0, .ref (gA Λ 18 0)), (1, .int (nI i))] [] σ1 := by
    intro fu
    induction fu with
    | zero => intro σ1 i hfu; exact absurd hfu (Nat.not_lt_zero _)
    | succ fu ih =>
      intro σ1 i hfu hi hG hz
      have ih2 := ih
      refine j_iload_n C dX2_findMove_2 rfl 1 rfl ?_
      refine j_aload_n C dX2_findMove_3 rfl 0 rfl ?_
      refine j_getV C hwX2 18 0 0 (CR.n1 (hG.gm.cr hC) (by decide)) rfl rfl (by decide) rfl 0 (CR.v (hG.gm.cr hC) 18 0 0 ⟨rfl, by decide⟩ id) hL15 dX2_findMove_4 ?_
      have hhc7 := hcN_le M
      refine j_getI C hwX4 3 0 5 (CR.n1 (hG.gm.cr hC) (by decide)) rfl rfl (by decide) rfl (nI (hcN M)) (CR.i (hG.gm.cr hC) 3 0 5 ⟨rfl, Or.inr rfl⟩ id) hL22 dX2_findMove_7 ?_
      refine j_icmp_ge (tgt := 90) C dX2_findMove_10 (by decide) (nI_leI (by omega) (by omega)) (fun h10 => ?_) (fun h10 => ?_)
      · exact j_vret C hr hlk (⟨hG, by have q := hz; rw [show i = hcN M by omega] at q; exact q⟩) dX2_findMove_90
      · refine j_aload_n C dX2_findMove_13 rfl 0 rfl ?_
        refine j_getV C hwX2 18 0 0 (CR.n1 (hG.gm.cr hC) (by decide)) rfl rfl (by decide) rfl 0 (CR.v (hG.gm.cr hC) 18 0 0 ⟨rfl, by decide⟩ id) hL15 dX2_findMove_14 ?_
        refine j_getV C hwX4 3 0 1 (CR.n1 (hG.gm.cr hC) (by decide)) rfl rfl (by decide) rfl 0 (CR.v (hG.gm.cr hC) 3 0 1 ⟨rfl, by decide⟩ id) hL28 dX2_findMove_17 ?_
        refine j_iload_n C dX2_findMove_20 rfl 1 rfl ?_
        have hhs21 := hs_lt (M := M) (k := i) (by omega)
        have hhn21 := hs_nh (M := M) (k := i) (by omega)
        refine j_aald C 5 0 i (CR.n1 (hG.gm.cr hC) (by decide)) rfl (by decide) (by decide) 40 (CR.l1 (hG.gm.cr hC) (by decide)) (by omega) (by omega) (hs M i) (CR.v (hG.gm.cr hC) 5 0 i ⟨rfl, by omega⟩ id) dX2_findMove_21 ?_
        refine j_astore_n C [(2, .ref (gA Λ 8 (hs M i))), (0, .ref (gA Λ 18 0)), (1, .int (nI i))] dX2_findMove_22 rfl (by decide) rfl ?_
        refine j_iconst C (nI 0) dX2_findMove_23 (by decide) ?_
        refine j_istore_n C [(3, .int (nI 0)), (2, .ref (gA Λ 8 (hs M i))), (0, .ref (gA Λ 18 0)), (1, .int (nI i))] dX2_findMove_24 rfl (by decide) rfl ?_
        have lb25 : ∀ (fu : Nat) (σ2 : HS) (k : Nat), (M 31 10 - k) < fu → (k ≤ M 31 10) → (GF σ σ2) → (BSR σ2 (mvRow M (hs M i) (mvH M i) k)) → J p l e ({ frames := 12, cells := 0, slots := 0, locals := 180 }) s m ([.ref (gA Λ 18 0)] : List Value).toArray below meth c 6 D cy base (MQ below (va_Qv (fun u => GF σ u ∧ BSR u (mvH M (hcN M))) (Wd D cy base Λ) (Ab base)) ([.ref (gA Λ 18 0)] : List Value).toArray s 0 0 (Ab base)) 0 0 Λ 25 [(0, .ref (gA Λ 18 0)), (1, .int (nI i)), (2, .ref (gA Λ 8 (hs M i))), (3, .int (nI k))] [] σ2 := by
          intro fu
          induction fu with
          | zero => intro σ2 k hfu; exact absurd hfu (Nat.not_lt_zero _)
          | succ fu ih =>
            intro σ2 k hfu hk hG2 hz2
            have hok := mvRow_ok hB hn (hs_lt (show i < hcN M by omega)) (mvH_ok hB hn i (by omega)) k hk
            obtain ⟨hk1, hk2, -⟩ := hok
            have hhl := hs_lt (show i < hcN M by omega)
            have ih25 := ih
            refine j_iload_n C dX2_findMove_25 rfl 3 rfl ?_
            refine j_aload_n C dX2_findMove_26 rfl 0 rfl ?_
            refine j_getV C hwX2 18 0 0 (CR.n1 (hG2.gm.cr hC) (by decide)) rfl rfl (by decide) rfl 0 (CR.v (hG2.gm.cr hC) 18 0 0 ⟨rfl, by decide⟩ id) hL15 dX2_findMove_27 ?_
            refine c_i0 C (r_V C 3 0 [] (c_X4_roomCount l D cy base Λ σ2 M (hG2.gm.cr hC) hB) (cwV 0 hts gX2_findMove_X4_roomCount rfl rfl rfl (by decide +kernel) ⟨by decide, by decide⟩) (CR.n1 (hG2.gm.cr hC) (by decide)) rfl rfl rfl rfl (Nat.le_of_ble_eq_true rfl) dX2_findMove_30 ⟨by decide, by decide⟩) (fun rv uu hp => ?_)
            rw [hp.1, hp.2]
            refine j_icmp_ge (tgt := 84) C dX2_findMove_33 (by decide) (nI_leI (by omega) (by omega)) (fun h33 => ?_) (fun h33 => ?_)
            · refine j_iinc C [(1, .int (nI (i + 1))), (0, .ref (gA Λ 18 0)), (2, .ref (gA Λ 8 (hs M i))), (3, .int (nI k))] (nI (i + 1)) dX2_findMove_84 1 rfl (nI_add _ 1) (by decide) rfl ?_
              refine j_goto (tgt := 2) C dX2_findMove_87 (by decide) ?_
              refine j_lv [1, 0] rfl ?_
              exact ih2 σ2 (i + 1) (by omega) (by omega) hG2 (by have q := hz2; rw [show k = M 31 10 by omega] at q; exact q)
            · refine j_iload_n C dX2_findMove_36 rfl 3 rfl ?_
              refine j_aload_n C dX2_findMove_37 rfl 2 rfl ?_
              have hb38 : M 38 (hs M i) ≤ 5 := hB 38 (hs M i) (decide_eq_true (show hs M i < 40 by omega))
              refine j_getI C hwX5 8 (hs M i) 11 (CR.n8 (hG2.gm.cr hC) (by decide) (show hs M i < M 31 5 by omega)) rfl rfl (by decide) rfl (nI (M 38 (hs M i))) (CR.i (hG2.gm.cr hC) 8 (hs M i) 11 ⟨show hs M i < M 31 5 by omega, Or.inr (Or.inr (Or.inl rfl))⟩ id) hL49 dX2_findMove_38 ?_
              refine j_icmp_eq (tgt := 78) C dX2_findMove_41 (by decide) (nI_eq (by omega) (by omega)) (fun h41 => ?_) (fun h41 => ?_)
              · refine j_iinc C [(3, .int (nI (k + 1))), (0, .ref (gA Λ 18 0)), (1, .int (nI i)), (2, .ref (gA Λ 8 (hs M i)))] (nI (k + 1)) dX2_findMove_78 3 rfl (nI_add _ 1) (by decide) rfl ?_
                refine j_goto (tgt := 25) C dX2_findMove_81 (by decide) ?_
                refine j_lv [1, 2, 3, 0] rfl ?_
                exact ih25 σ2 (k + 1) (by omega) (by omega) hG2 (by show BSR _ (mvStep M _ _ _); rw [mvStep_no (by omega)]; exact hz2)
              · refine j_aload_n C dX2_findMove_44 rfl 0 rfl ?_
                refine j_aload_n C dX2_findMove_45 rfl 2 rfl ?_
                refine j_iload_n C dX2_findMove_46 rfl 3 rfl ?_
                refine c_l0 C (r_V C 18 0 [.ref (gA Λ 8 (hs M i)), .int (nI k)] (c_X2_shiftOf l D cy base Λ σ2 M (hG2.gm.cr hC) hB (hs M i) k (by omega) (by omega) (hG2.ps hS) (hG2.pp (hP _ (by omega)))) (cwV 2 hts gX2_findMove_X2_shiftOf rfl rfl rfl (by decide +kernel) ⟨by decide, by decide⟩) (CR.n1 (hG2.gm.cr hC) (by decide)) rfl rfl rfl rfl (Nat.le_of_ble_eq_true rfl) dX2_findMove_47 ⟨by decide, by decide⟩) (fun rv uu hp => ?_)
                rw [hp.1, hp.2]
                have hbd := movZ_bd hB hn (r := hs M i) (room := k) (by omega)
                refine j_lstore C [(4, .long (zL (movZ M (hs M i) k))), (0, .ref (gA Λ 18 0)), (1, .int (nI i)), (2, .ref (gA Λ 8 (hs M i))), (3, .int (nI k))] dX2_findMove_50 (by decide) rfl ?_
                refine j_lload C dX2_findMove_52 0 rfl ?_
                refine j_aload_n C dX2_findMove_54 rfl 1 rfl ?_
                refine j_getJ C hwX2 18 0 2 (CR.n1 (hG2.gm.cr hC) (by decide)) rfl rfl (by decide) rfl (zL (mvRow M (hs M i) (mvH M i) k).1) hz2.1 hL77 dX2_findMove_55 ?_
                refine j_lcmp_ge (tgt := 78) C dX2_findMove_58 dX2_findMove_59 (by decide) (zL_le (by omega) (by omega) (by omega) (by omega)) (fun h58 => ?_) (fun h58 => ?_)
                · refine j_iinc C [(3, .int (nI (k + 1))), (4, .long (zL (movZ M (hs M i) k))), (0, .ref (gA Λ 18 0)), (1, .int (nI i)), (2, .ref (gA Λ 8 (hs M i)))] (nI (k + 1)) dX2_findMove_78 4 rfl (nI_add _ 1) (by decide) rfl ?_
                  refine j_goto (tgt := 25) C dX2_findMove_81 (by decide) ?_
                  refine j_lv [2, 3, 4, 0] rfl ?_
                  exact ih25 σ2 (k + 1) (by omega) (by omega) hG2 (by show BSR _ (mvStep M _ _ _); rw [mvStep_no (by omega)]; exact hz2)
                · refine j_aload_n C dX2_findMove_62 rfl 1 rfl ?_
                  refine j_lload C dX2_findMove_63 0 rfl ?_
                  refine j_putJ C hwX2 18 0 2 (CR.n1 (hG2.gm.cr hC) (by decide)) rfl rfl (by decide) rfl tyX2 tyX2_ok nmX2 rfl rfl rfl hL77 dX2_findMove_65 ?_
                  refine j_aload_n C dX2_findMove_68 rfl 1 rfl ?_
                  refine j_aload_n C dX2_findMove_69 rfl 3 rfl ?_
                  refine j_putV C hwX2 18 0 3 (CR.n1 (hG2.gm.cr hC) (by decide)) rfl rfl (by decide) rfl (CR.n8 (hG2.gm.cr hC) (by decide) (show hs M i < M 31 5 by omega)) tyX2 tyX2_ok nmX2 rfl rfl rfl hL81 dX2_findMove_70 ?_
                  refine j_aload_n C dX2_findMove_73 rfl 1 rfl ?_
                  refine j_iload_n C dX2_findMove_74 rfl 4 rfl ?_
                  refine j_putI C hwX2 18 0 5 (CR.n1 (hG2.gm.cr hC) (by decide)) rfl rfl (by decide) rfl tyX2 tyX2_ok nmX2 rfl rfl rfl hL94 dX2_findMove_75 ?_
                  refine j_iinc C [(3, .int (nI (k + 1))), (4, .long (zL (movZ M (hs M i) k))), (0, .ref (gA Λ 18 0)), (1, .int (nI i)), (2, .ref (gA Λ 8 (hs M i)))] (nI (k + 1)) dX2_findMove_78 4 rfl (nI_add _ 1) (by decide) rfl ?_
                  refine j_goto (tgt := 25) C dX2_findMove_81 (by decide) ?_
                  refine j_lv [2, 3, 4, 0] rfl ?_
                  exact ih25 (sI (sV (sJ σ2 18 0 2 (zL (movZ M (hs M i) k))) 18 0 3 (some (hs M i))) 18 0 5 (nI k)) (k + 1) (by omega) (by omega) (GF.i (GF.v (GF.j hG2) (by decide))) (by show BSR _ (mvStep M _ _ _); rw [mvStep_yes h41 (by omega)]; exact BSR.mv hz2)
        refine j_lv [2, 3, 1, 0] rfl ?_
        exact lb25 _ σ1 0 (Nat.lt_succ_self _) (by omega) hG hz
  refine j_lv [1, 0] rfl ?_
  exact lb2 _ σ 0 (Nat.lt_succ_self _) (by omega) GF.rf hz0

set_option maxHeartbeats 4000000 in
set_option maxRecDepth 100000 in
theorem c_X2_findSwap (l : Launch) (D : va_G) (cy : Nat → ClassId) (base : Nat) (Λ : LY) (σ : HS) (M : MM) (hC : CR noEx Λ σ M) (hB : MBd M) (hY : ∀ a b, a < 40 → b < 40 → pulZ M a b = pulZ M b a) (hS : PS σ M) (hP : ∀ i, i < hcN M → PP σ M (hs M i)) (hz0 : BSR σ (mvH M (hcN M))) : Met l yX2_findSwap wsX2_findSwap ({ frames := 12, cells := 0, slots := 0, locals := 180 }) (va_Pc [.ref (gA Λ 18 0)] (Wd D cy base Λ σ)) (va_Qv (fun u => GF σ u ∧ BSR u (bstS M)) (Wd D cy base Λ) (Ab base)) 0 0 (Ab base) := by
  refine j_start (cc := cX2_findSwap) (nL := 7) (ret := none) (lv := [(0, .ref (gA Λ 18 0))]) (by decide) rfl (Nat.le_of_ble_eq_true rfl) rfl ?_
  intro p e s m below meth c C hr hlk hnm
  have C : Cx p s m ([.ref (gA Λ 18 0)] : List Value).toArray c cX2_findSwap 7 RX2 wsX2_findSwap D cy base := C
  have hts := C.2.2.2.2.1
  have hwX2 : ∀ w ∈ u_ws RX2 TX2 6, w ∈ wsX2_findSwap := by decide +kernel
  have hwX4 : ∀ w ∈ u_ws RX4 TX4 6, w ∈ wsX2_findSwap := by decide +kernel
  have hwX5 : ∀ w ∈ u_ws RX5 TX5 13, w ∈ wsX2_findSwap := by decide +kernel
  have hM15 : (Cond.fieldLink RX2 15 (TX2 0).1 (TX2 0).2.1 (TX2 0).2.2.1).before ([.ref (gA Λ 18 0)] : List Value).toArray s = true := hts (.fieldLink RX2 15 "CodeRooms$Mender" "plan" "LCodeRooms$Plan;") (by decide +kernel)
  have hL15 : FL RX2 15 (TX2 0).1 (TX2 0).2.1 (TX2 0).2.2.1 ([.ref (gA Λ 18 0)] : List Value).toArray s := Or.inl hM15
  have hL22 : FL RX2 22 (TX4 5).1 (TX4 5).2.1 (TX4 5).2.2.1 ([.ref (gA Λ 18 0)] : List Value).toArray s := Or.inr ⟨_, Ex.nestF C.2.2.2.2.2.2 nf_X2_22⟩
  have hL28 : FL RX2 28 (TX4 1).1 (TX4 1).2.1 (TX4 1).2.2.1 ([.ref (gA Λ 18 0)] : List Value).toArray s := Or.inr ⟨_, Ex.nestF C.2.2.2.2.2.2 nf_X2_28⟩
  have hL49 : FL RX2 49 (TX5 11).1 (TX5 11).2.1 (TX5 11).2.2.1 ([.ref (gA Λ 18 0)] : List Value).toArray s := Or.inr ⟨_, Ex.nestF C.2.2.2.2.2.2 nf_X2_49⟩
  have hM77 : (Cond.fieldLink RX2 77 (TX2 2).1 (TX2 2).2.1 (TX2 2).2.2.1).before ([.ref (gA Λ 18 0)] : List Value).toArray s = true := hts (.fieldLink RX2 77 "CodeRooms$Mender" "least" "J") (by decide +kernel)
  have hL77 : FL RX2 77 (TX2 2).1 (TX2 2).2.1 (TX2 2).2.2.1 ([.ref (gA Λ 18 0)] : List Value).toArray s := Or.inl hM77
  have hM81 : (Cond.fieldLink RX2 81 (TX2 3).1 (TX2 3).2.1 (TX2 3).2.2.1).before ([.ref (gA Λ 18 0)] : List Value).toArray s = true := hts (.fieldLink RX2 81 "CodeRooms$Mender" "mover" "LCodeRooms$Routine;") (by decide +kernel)
  have hL81 : FL RX2 81 (TX2 3).1 (TX2 3).2.1 (TX2 3).2.2.1 ([.ref (gA Λ 18 0)] : List Value).toArray s := Or.inl hM81
  have hM85 : (Cond.fieldLink RX2 85 (TX2 4).1 (TX2 4).2.1 (TX2 4).2.2.1).before ([.ref (gA Λ 18 0)] : List Value).toArray s = true := hts (.fieldLink RX2 85 "CodeRooms$Mender" "partner" "LCodeRooms$Routine;") (by decide +kernel)
  have hL85 : FL RX2 85 (TX2 4).1 (TX2 4).2.1 (TX2 4).2.2.1 ([.ref (gA Λ 18 0)] : List Value).toArray s := Or.inl hM85
  have hn : M 31 5 ≤ 40 := hB 31 5 rfl
  have hhc0 := hcN_le M
  refine j_iconst C (nI 0) dX2_findSwap_0 (by decide) ?_
  refine j_istore_n C [(1, .int (nI 0)), (0, .ref (gA Λ 18 0))] dX2_findSwap_1 rfl (by decide) rfl ?_
  have lb2 : ∀ (fu : Nat) (σ1 : HS) (i : Nat), (hcN M - i) < fu → (i ≤ hcN M) → (GF σ σ1) → (BSR σ1 (swH M i)) → J p l e ({ frames := 12, cells := 0, slots := 0, locals := 180 }) s m ([.ref (gA Λ 18 0)] : List Value).toArray below meth c 7 D cy base (MQ below (va_Qv (fun u => GF σ u ∧ BSR u (bstS M)) (Wd D cy base Λ) (Ab base)) ([.ref (gA Λ 18 0)] : List Value).toArray s 0 0 (Ab base)) 0 0 Λ 2 [(0, .ref (gA Λ 18 0)), (1, .int (nI i))] [] σ1 := by
    intro fu
    induction fu with
    | zero => intro σ1 i hfu; exact absurd hfu (Nat.not_lt_zero _)
    | succ fu ih =>
      intro σ1 i hfu hi hG hz
      have ih2 := ih
      refine j_iload_n C dX2_findSwap_2 rfl 1 rfl ?_
      refine j_aload_n C dX2_findSwap_3 rfl 0 rfl ?_
      refine j_getV C hwX2 18 0 0 (CR.n1 (hG.gm.cr hC) (by decide)) rfl rfl (by decide) rfl 0 (CR.v (hG.gm.cr hC) 18 0 0 ⟨rfl, by decide⟩ id) hL15 dX2_findSwap_4 ?_
      have hhc7 := hcN_le M
      refine j_getI C hwX4 3 0 5 (CR.n1 (hG.gm.cr hC) (by decide)) rfl rfl (by decide) rfl (nI (hcN M)) (CR.i (hG.gm.cr hC) 3 0 5 ⟨rfl, Or.inr rfl⟩ id) hL22 dX2_findSwap_7 ?_
      refine j_icmp_ge (tgt := 109) C dX2_findSwap_10 (by decide) (nI_leI (by omega) (by omega)) (fun h10 => ?_) (fun h10 => ?_)
      · exact j_vret C hr hlk (⟨hG, by have q := hz; rw [show i = hcN M by omega, ← bst_hs] at q; exact q⟩) dX2_findSwap_109
      · refine j_aload_n C dX2_findSwap_13 rfl 0 rfl ?_
        refine j_getV C hwX2 18 0 0 (CR.n1 (hG.gm.cr hC) (by decide)) rfl rfl (by decide) rfl 0 (CR.v (hG.gm.cr hC) 18 0 0 ⟨rfl, by decide⟩ id) hL15 dX2_findSwap_14 ?_
        refine j_getV C hwX4 3 0 1 (CR.n1 (hG.gm.cr hC) (by decide)) rfl rfl (by decide) rfl 0 (CR.v (hG.gm.cr hC) 3 0 1 ⟨rfl, by decide⟩ id) hL28 dX2_findSwap_17 ?_
        refine j_iload_n C dX2_findSwap_20 rfl 1 rfl ?_
        have hhs21 := hs_lt (M := M) (k := i) (by omega)
        have hhn21 := hs_nh (M := M) (k := i) (by omega)
        refine j_aald C 5 0 i (CR.n1 (hG.gm.cr hC) (by decide)) rfl (by decide) (by decide) 40 (CR.l1 (hG.gm.cr hC) (by decide)) (by omega) (by omega) (hs M i) (CR.v (hG.gm.cr hC) 5 0 i ⟨rfl, by omega⟩ id) dX2_findSwap_21 ?_
        refine j_astore_n C [(2, .ref (gA Λ 8 (hs M i))), (0, .ref (gA Λ 18 0)), (1, .int (nI i))] dX2_findSwap_22 rfl (by decide) rfl ?_
        refine j_iload_n C dX2_findSwap_23 rfl 2 rfl ?_
        refine j_iconst C (nI 1) dX2_findSwap_24 (by decide) ?_
        refine j_iadd C (nI (i + 1)) dX2_findSwap_25 (nI_add _ _) ?_
        refine j_istore_n C [(3, .int (nI (i + 1))), (2, .ref (gA Λ 8 (hs M i))), (0, .ref (gA Λ 18 0)), (1, .int (nI i))] dX2_findSwap_26 rfl (by decide) rfl ?_
        have lb27 : ∀ (fu : Nat) (σ2 : HS) (j : Nat), (hcN M - j) < fu → (j ≤ hcN M) → (i < j) → (GF σ σ2) → (BSR σ2 (swRH M i (swH M i) j)) → J p l e ({ frames := 12, cells := 0, slots := 0, locals := 180 }) s m ([.ref (gA Λ 18 0)] : List Value).toArray below meth c 7 D cy base (MQ below (va_Qv (fun u => GF σ u ∧ BSR u (bstS M)) (Wd D cy base Λ) (Ab base)) ([.ref (gA Λ 18 0)] : List Value).toArray s 0 0 (Ab base)) 0 0 Λ 27 [(0, .ref (gA Λ 18 0)), (1, .int (nI i)), (2, .ref (gA Λ 8 (hs M i))), (3, .int (nI j))] [] σ2 := by
          intro fu
          induction fu with
          | zero => intro σ2 j hfu; exact absurd hfu (Nat.not_lt_zero _)
          | succ fu ih =>
            intro σ2 j hfu hj hij hG2 hz2
            have hok := swRH_ok hB hn (show i < hcN M by omega) (swH_ok hB hn i (by omega)) j hj
            obtain ⟨hk1, hk2, -⟩ := hok
            have hhl := hs_lt (show i < hcN M by omega)
            have ih27 := ih
            refine j_iload_n C dX2_findSwap_27 rfl 3 rfl ?_
            refine j_aload_n C dX2_findSwap_28 rfl 0 rfl ?_
            refine j_getV C hwX2 18 0 0 (CR.n1 (hG2.gm.cr hC) (by decide)) rfl rfl (by decide) rfl 0 (CR.v (hG2.gm.cr hC) 18 0 0 ⟨rfl, by decide⟩ id) hL15 dX2_findSwap_29 ?_
            have hhc32 := hcN_le M
            refine j_getI C hwX4 3 0 5 (CR.n1 (hG2.gm.cr hC) (by decide)) rfl rfl (by decide) rfl (nI (hcN M)) (CR.i (hG2.gm.cr hC) 3 0 5 ⟨rfl, Or.inr rfl⟩ id) hL22 dX2_findSwap_32 ?_
            refine j_icmp_ge (tgt := 103) C dX2_findSwap_35 (by decide) (nI_leI (by omega) (by omega)) (fun h35 => ?_) (fun h35 => ?_)
            · refine j_iinc C [(1, .int (nI (i + 1))), (0, .ref (gA Λ 18 0)), (2, .ref (gA Λ 8 (hs M i))), (3, .int (nI j))] (nI (i + 1)) dX2_findSwap_103 1 rfl (nI_add _ 1) (by decide) rfl ?_
              refine j_goto (tgt := 2) C dX2_findSwap_106 (by decide) ?_
              refine j_lv [1, 0] rfl ?_
              exact ih2 σ2 (i + 1) (by omega) (by omega) hG2 (by have q := hz2; rw [show j = hcN M by omega] at q; exact q)
            · refine j_aload_n C dX2_findSwap_38 rfl 0 rfl ?_
              refine j_getV C hwX2 18 0 0 (CR.n1 (hG2.gm.cr hC) (by decide)) rfl rfl (by decide) rfl 0 (CR.v (hG2.gm.cr hC) 18 0 0 ⟨rfl, by decide⟩ id) hL15 dX2_findSwap_39 ?_
              refine j_getV C hwX4 3 0 1 (CR.n1 (hG2.gm.cr hC) (by decide)) rfl rfl (by decide) rfl 0 (CR.v (hG2.gm.cr hC) 3 0 1 ⟨rfl, by decide⟩ id) hL28 dX2_findSwap_42 ?_
              refine j_iload_n C dX2_findSwap_45 rfl 3 rfl ?_
              have hhs46 := hs_lt (M := M) (k := j) (by omega)
              have hhn46 := hs_nh (M := M) (k := j) (by omega)
              refine j_aald C 5 0 j (CR.n1 (hG2.gm.cr hC) (by decide)) rfl (by decide) (by decide) 40 (CR.l1 (hG2.gm.cr hC) (by decide)) (by omega) (by omega) (hs M j) (CR.v (hG2.gm.cr hC) 5 0 j ⟨rfl, by omega⟩ id) dX2_findSwap_46 ?_
              refine j_astore C [(4, .ref (gA Λ 8 (hs M j))), (0, .ref (gA Λ 18 0)), (1, .int (nI i)), (2, .ref (gA Λ 8 (hs M i))), (3, .int (nI j))] dX2_findSwap_47 (by decide) rfl ?_
              refine j_aload_n C dX2_findSwap_49 rfl 3 rfl ?_
              have hb50 : M 38 (hs M i) ≤ 5 := hB 38 (hs M i) (decide_eq_true (show hs M i < 40 by omega))
              refine j_getI C hwX5 8 (hs M i) 11 (CR.n8 (hG2.gm.cr hC) (by decide) (show hs M i < M 31 5 by omega)) rfl rfl (by decide) rfl (nI (M 38 (hs M i))) (CR.i (hG2.gm.cr hC) 8 (hs M i) 11 ⟨show hs M i < M 31 5 by omega, Or.inr (Or.inr (Or.inl rfl))⟩ id) hL49 dX2_findSwap_50 ?_
              refine j_aload C dX2_findSwap_53 0 rfl ?_
              have hb55 : M 38 (hs M j) ≤ 5 := hB 38 (hs M j) (decide_eq_true (show hs M j < 40 by omega))
              refine j_getI C hwX5 8 (hs M j) 11 (CR.n8 (hG2.gm.cr hC) (by decide) (show hs M j < M 31 5 by omega)) rfl rfl (by decide) rfl (nI (M 38 (hs M j))) (CR.i (hG2.gm.cr hC) 8 (hs M j) 11 ⟨show hs M j < M 31 5 by omega, Or.inr (Or.inr (Or.inl rfl))⟩ id) hL49 dX2_findSwap_55 ?_
              have hmn := hs_mono (M := M) (show j < hcN M by omega) hij
              refine j_icmp_eq (tgt := 97) C dX2_findSwap_58 (by decide) (nI_eq (by omega) (by omega)) (fun h58 => ?_) (fun h58 => ?_)
              · refine j_iinc C [(3, .int (nI (j + 1))), (4, .ref (gA Λ 8 (hs M j))), (0, .ref (gA Λ 18 0)), (1, .int (nI i)), (2, .ref (gA Λ 8 (hs M i)))] (nI (j + 1)) dX2_findSwap_97 4 rfl (nI_add _ 1) (by decide) rfl ?_
                refine j_goto (tgt := 27) C dX2_findSwap_100 (by decide) ?_
                refine j_lv [2, 3, 4, 0] rfl ?_
                exact ih27 σ2 (j + 1) (by omega) (by omega) (by omega) hG2 (by show BSR _ (swStep M _ _ _); unfold swStep; rw [if_neg (fun z => by have z1 := z.2.2.1; have z2 := z.2.2.2; omega)]; exact hz2)
              · refine j_aload_n C dX2_findSwap_61 rfl 1 rfl ?_
                refine j_aload_n C dX2_findSwap_62 rfl 3 rfl ?_
                refine j_aload C dX2_findSwap_63 0 rfl ?_
                refine c_l0 C (r_V C 18 0 [.ref (gA Λ 8 (hs M i)), .ref (gA Λ 8 (hs M j))] (c_X2_tradeOf l D cy base Λ σ2 M (hG2.gm.cr hC) hB (hs M i) (hs M j) (by omega) (by omega) (by omega) hhn21 hhn46 h58 hY (hG2.pp (hP _ (by omega))) (hG2.pp (hP _ (by omega)))) (cwV 2 hts gX2_findSwap_X2_tradeOf rfl rfl rfl (by decide +kernel) ⟨by decide, by decide⟩) (CR.n1 (hG2.gm.cr hC) (by decide)) rfl rfl rfl rfl (Nat.le_of_ble_eq_true rfl) dX2_findSwap_65 ⟨by decide, by decide⟩) (fun rv uu hp => ?_)
                rw [hp.1, hp.2]
                have hbd := swpZ_bd hB hn (a := hs M i) (b := hs M j) (by omega) (by omega)
                refine j_lstore C [(5, .long (zL (swpZ M (hs M i) (hs M j)))), (4, .ref (gA Λ 8 (hs M j))), (0, .ref (gA Λ 18 0)), (1, .int (nI i)), (2, .ref (gA Λ 8 (hs M i))), (3, .int (nI j))] dX2_findSwap_68 (by decide) rfl ?_
                refine j_lload C dX2_findSwap_70 0 rfl ?_
                refine j_aload_n C dX2_findSwap_72 rfl 2 rfl ?_
                refine j_getJ C hwX2 18 0 2 (CR.n1 (hG2.gm.cr hC) (by decide)) rfl rfl (by decide) rfl (zL (swRH M i (swH M i) j).1) hz2.1 hL77 dX2_findSwap_73 ?_
                refine j_lcmp_ge (tgt := 97) C dX2_findSwap_76 dX2_findSwap_77 (by decide) (zL_le (by omega) (by omega) (by omega) (by omega)) (fun h76 => ?_) (fun h76 => ?_)
                · refine j_iinc C [(3, .int (nI (j + 1))), (5, .long (zL (swpZ M (hs M i) (hs M j)))), (4, .ref (gA Λ 8 (hs M j))), (0, .ref (gA Λ 18 0)), (1, .int (nI i)), (2, .ref (gA Λ 8 (hs M i)))] (nI (j + 1)) dX2_findSwap_97 5 rfl (nI_add _ 1) (by decide) rfl ?_
                  refine j_goto (tgt := 27) C dX2_findSwap_100 (by decide) ?_
                  refine j_lv [3, 4, 5, 0] rfl ?_
                  exact ih27 σ2 (j + 1) (by omega) (by omega) (by omega) hG2 (by show BSR _ (swStep M _ _ _); unfold swStep; rw [if_neg (fun z => by have z1 := z.2.2.1; have z2 := z.2.2.2; omega)]; exact hz2)
                · refine j_aload_n C dX2_findSwap_80 rfl 2 rfl ?_
                  refine j_lload C dX2_findSwap_81 0 rfl ?_
                  refine j_putJ C hwX2 18 0 2 (CR.n1 (hG2.gm.cr hC) (by decide)) rfl rfl (by decide) rfl tyX2 tyX2_ok nmX2 rfl rfl rfl hL77 dX2_findSwap_83 ?_
                  refine j_aload_n C dX2_findSwap_86 rfl 2 rfl ?_
                  refine j_aload_n C dX2_findSwap_87 rfl 4 rfl ?_
                  refine j_putV C hwX2 18 0 3 (CR.n1 (hG2.gm.cr hC) (by decide)) rfl rfl (by decide) rfl (CR.n8 (hG2.gm.cr hC) (by decide) (show hs M i < M 31 5 by omega)) tyX2 tyX2_ok nmX2 rfl rfl rfl hL81 dX2_findSwap_88 ?_
                  refine j_aload_n C dX2_findSwap_91 rfl 2 rfl ?_
                  refine j_aload C dX2_findSwap_92 1 rfl ?_
                  refine j_putV C hwX2 18 0 4 (CR.n1 (hG2.gm.cr hC) (by decide)) rfl rfl (by decide) rfl (CR.n8 (hG2.gm.cr hC) (by decide) (show hs M j < M 31 5 by omega)) tyX2 tyX2_ok nmX2 rfl rfl rfl hL85 dX2_findSwap_94 ?_
                  refine j_iinc C [(3, .int (nI (j + 1))), (5, .long (zL (swpZ M (hs M i) (hs M j)))), (4, .ref (gA Λ 8 (hs M j))), (0, .ref (gA Λ 18 0)), (1, .int (nI i)), (2, .ref (gA Λ 8 (hs M i)))] (nI (j + 1)) dX2_findSwap_97 5 rfl (nI_add _ 1) (by decide) rfl ?_
                  refine j_goto (tgt := 27) C dX2_findSwap_100 (by decide) ?_
                  refine j_lv [3, 4, 5, 0] rfl ?_
                  exact ih27 (sV (sV (sJ σ2 18 0 2 (zL (swpZ M (hs M i) (hs M j)))) 18 0 3 (some (hs M i))) 18 0 4 (some (hs M j))) (j + 1) (by omega) (by omega) (by omega) (GF.v (GF.v (GF.j hG2) (by decide)) (by decide)) (by show BSR _ (swStep M _ _ _); rw [swStep_yes hmn hhn46 h58 (by omega)]; exact BSR.sw hz2)
        refine j_lv [2, 3, 1, 0] rfl ?_
        exact lb27 _ σ1 (i + 1) (Nat.lt_succ_self _) (by omega) (by omega) hG (by rw [swRH_skip (by omega) (by omega)]; exact hz)
  refine j_lv [1, 0] rfl ?_
  exact lb2 _ σ 0 (Nat.lt_succ_self _) (by omega) GF.rf hz0
