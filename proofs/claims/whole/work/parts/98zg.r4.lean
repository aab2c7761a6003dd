theorem Same.nS2 {P : Nat → Prop} {Λ : LY} {σ u : HS} {t tr N : Nat} (h : Same P σ u) (ht : ¬ P t) (htr : ¬ P tr) : Same P σ (nS2 Λ u t tr N) := fun t' hp => by
  have h1 : t' ≠ t := fun e => ht (by rw [← e]; exact hp)
  have h2 : t' ≠ tr := fun e => htr (by rw [← e]; exact hp)
  refine ⟨?_, ?_, ?_⟩
  · rw [← (h t' hp).1]; funext i k; rw [gI_2, if_neg (fun z => h1 z.1), if_neg (fun z => h2 z.1)]
  · rw [← (h t' hp).2.1]; funext i k; rw [gJ_2, if_neg (fun z => h1 z.1), if_neg (fun z => h2 z.1)]
  · rw [← (h t' hp).2.2]; funext i k; rw [gV_2, if_neg (fun z => h1 z.1), if_neg (fun z => h2 z.1)]
theorem rt_same {Λ L1 La Lb Lc : LY} {σ : HS} {i n j : Nat} : Same (fun t => t < 3 ∨ 13 < t) σ (rtS Λ L1 La Lb Lc σ i n j) := by
  unfold rtS
  exact Same.sJ (Same.sV (Same.sI (Same.sI (Same.sV (Same.nS (Same.sV (Same.nS (Same.sV (Same.nS (Same.sV (Same.nS2 (Same.nS Same.rf (by omega)) (by omega) (by omega)) (by omega)) (by omega)) (by omega)) (by omega)) (by omega)) (by omega)) (by omega)) (by omega)) (by omega)) (by omega)) (by omega)
set_option maxHeartbeats 4000000 in
set_option maxRecDepth 100000 in
theorem c_X4_add (l : Launch) (D : va_G) (cy : Nat → ClassId) (base : Nat) (Λ : LY) (σ : HS) (M : MM) (hC : CR noEx Λ σ M) (hB : MBd M) (hW : WT M) (hZ9 : WZ M) (hn40 : M 31 5 < 40) (lb nl : Nat) (hlb : lb < gC Λ 1) (hBn : MBd (newM (mS M 60 (M 31 5) lb) nl)) : Met l yX4_add wsX4_add ({ frames := 16, cells := 8, slots := 222, locals := 240 }) (va_Pc [.ref (gA Λ 3 0), .ref (gA Λ 1 lb)] (Wd D cy base Λ σ)) (va_Qr (fun x => x.2.2 = M 31 5 ∧ CR noEx x.1 x.2.1 (settle (newM (mS M 60 (M 31 5) lb) nl)) ∧ Gw Λ x.1 ∧ (∀ t, t ≠ 8 → t ≠ 9 → t ≠ 10 → t ≠ 11 → t ≠ 12 → t ≠ 13 → gC x.1 t = gC Λ t) ∧ Same (fun t => t < 3 ∨ 13 < t) σ x.2.1) (Wy D cy base 8) (Ab base)) 8 222 (Ab base) := by
  refine j_start (cc := cX4_add) (nL := 3) (ret := (some (.object "CodeRooms$Routine"))) (lv := [(0, .ref (gA Λ 3 0)), (1, .ref (gA Λ 1 lb))]) (by decide) rfl (Nat.le_of_ble_eq_true rfl) rfl ?_
  intro p e s m below meth c C hr hlk hnm
  have C : Cx p s m ([.ref (gA Λ 3 0), .ref (gA Λ 1 lb)] : List Value).toArray c cX4_add 3 RX4 wsX4_add D cy base := C
  have hts := C.2.2.2.2.1
  have hwX4 : ∀ w ∈ u_ws RX4 TX4 6, w ∈ wsX4_add := by decide +kernel
  have hwX5 : ∀ w ∈ u_ws RX5 TX5 13, w ∈ wsX4_add := by decide +kernel
  have hM11 : (Cond.fieldLink RX4 11 (TX4 0).1 (TX4 0).2.1 (TX4 0).2.2.1).before ([.ref (gA Λ 3 0), .ref (gA Λ 1 lb)] : List Value).toArray s = true := hts (.fieldLink RX4 11 "CodeRooms$Plan" "routines" "[LCodeRooms$Routine;") (by decide +kernel)
  have hL11 : FL RX4 11 (TX4 0).1 (TX4 0).2.1 (TX4 0).2.2.1 ([.ref (gA Λ 3 0), .ref (gA Λ 1 lb)] : List Value).toArray s := Or.inl hM11
  have hM28 : (Cond.fieldLink RX4 28 (TX4 4).1 (TX4 4).2.1 (TX4 4).2.2.1).before ([.ref (gA Λ 3 0), .ref (gA Λ 1 lb)] : List Value).toArray s = true := hts (.fieldLink RX4 28 "CodeRooms$Plan" "size" "I") (by decide +kernel)
  have hL28 : FL RX4 28 (TX4 4).1 (TX4 4).2.1 (TX4 4).2.2.1 ([.ref (gA Λ 3 0), .ref (gA Λ 1 lb)] : List Value).toArray s := Or.inl hM28
  have hn : M 31 5 ≤ 40 := hB 31 5 rfl
  have h30 := CR.n1 hC (t := 3) (by decide)
  have h40 := CR.n1 hC (t := 4) (by decide)
  have c8 : gC Λ 8 = M 31 5 := hC.1.2.2.1 8 (by decide)
  have c9 : gC Λ 9 = M 31 5 := hC.1.2.2.1 9 (by decide)
  have c10 : gC Λ 10 = 3 * M 31 5 := hC.1.2.2.2.1
  have c11 : gC Λ 11 = M 31 5 := hC.1.2.2.1 11 (by decide)
  have c12 : gC Λ 12 = M 31 5 := hC.1.2.2.1 12 (by decide)
  have c13 : gC Λ 13 = M 31 5 := hC.1.2.2.1 13 (by decide)
  refine j_new C hwX5 8 (by decide) rfl rfl tyX5 tyX5_ok (hts (.classLink RX4 9 RX5) (by decide +kernel)) (hts (.instantiable RX5 13) (by decide +kernel)) (hts (.initialized RX5) (by decide +kernel)) (by decide +kernel) (by decide) (by decide) dX4_add_0 (fun Λ_1 qΛ_1 hyΛ_1 => ?_)
  have hq_2 : gC Λ 8 = M 31 5 := c8
  rw [hq_2]
  have hGΛ_1 : Gw Λ Λ_1 := by rw [hyΛ_1]; exact Gw.nY (by decide)
  have hb_3 : 0 < gC Λ_1 3 := Nat.lt_of_lt_of_le h30 (hGΛ_1.1 3)
  have hb_4 : lb < gC Λ_1 1 := Nat.lt_of_lt_of_le hlb (hGΛ_1.1 1)
  have hb_5 : 0 < gC Λ_1 4 := Nat.lt_of_lt_of_le h40 (hGΛ_1.1 4)
  have he_6 : gA Λ_1 3 0 = gA Λ 3 0 := (hGΛ_1.2.1 3 0 (by first | assumption | omega)).1
  have he_7 : gA Λ_1 1 lb = gA Λ 1 lb := (hGΛ_1.2.1 1 lb (by first | assumption | omega)).1
  refine j_eq (lv' := [(0, .ref (gA Λ_1 3 0)), (1, .ref (gA Λ_1 1 lb))]) (st' := [.ref (gA Λ_1 8 (M 31 5))]) (by simp only [he_6, he_7]) (by simp only [he_6, he_7]) ?_
  have hb_8 : M 31 5 < gC Λ_1 8 := by rw [hyΛ_1, gC_nL, if_pos rfl]; omega
  refine j_dup C dX4_add_3 rfl ?_
  refine j_aload_n C dX4_add_4 rfl 0 rfl ?_
  refine j_getI C hwX4 3 0 4 hb_3 rfl rfl (by decide) rfl (nI (M 31 5)) ((congrFun (Kp.nS 3 0 h30).1 4).trans (CR.i hC 3 0 4 ⟨rfl, Or.inl rfl⟩ id)) hL28 dX4_add_5 ?_
  refine j_aload_n C dX4_add_8 rfl 1 rfl ?_
  refine c_vx C (r_I C 8 (M 31 5) [.int (nI (M 31 5)), .ref (gA Λ_1 1 lb)] (c_X5_init l D cy base Λ_1 (nS Λ σ 8) (M 31 5) (M 31 5) lb hb_8 hb_4 (by omega)) (cwI 2 hts gX4_add_X5_init rfl rfl rfl (hts (.initialized RX5) (by decide +kernel)) (hts (.methodLink RX4 42 yX5_init) (by decide +kernel)) (hts (.instanceMethod yX5_init) (by decide +kernel)) rfl (by decide +kernel) ⟨by decide, by decide⟩) rfl rfl (Nat.le_of_ble_eq_true rfl) dX4_add_9 ⟨by decide, by decide⟩) (fun Λ_9 σ_10 hp => ?_)
  obtain ⟨qΛ_1v9, rΛ_1v9, qΛ_7v9, qΛ_15v9, qΛ_25v9, Λ_1v9, Λ_7v9, Λ_15v9, Λ_25v9, hyΛ_1v9, hyΛ_7v9, hyΛ_15v9, hyΛ_25v9, hu9⟩ := hp
  obtain ⟨hl9, hs9⟩ := Prod.mk.inj hu9
  have hGΛ_9 : Gw Λ_1 Λ_9 := by rw [hl9]; exact Gw.tr (Gw.tr (Gw.tr ((by rw [hyΛ_1v9]; exact Gw.nY2 (by decide) (by decide) : Gw _ Λ_1v9)) (by rw [hyΛ_7v9]; exact Gw.nY (by decide) : Gw _ Λ_7v9)) (by rw [hyΛ_15v9]; exact Gw.nY (by decide) : Gw _ Λ_15v9)) (by rw [hyΛ_25v9]; exact Gw.nY (by decide) : Gw _ Λ_25v9)
  have hb_11 : 0 < gC Λ_9 3 := Nat.lt_of_lt_of_le hb_3 (hGΛ_9.1 3)
  have hb_12 : lb < gC Λ_9 1 := Nat.lt_of_lt_of_le hb_4 (hGΛ_9.1 1)
  have hb_13 : 0 < gC Λ_9 4 := Nat.lt_of_lt_of_le hb_5 (hGΛ_9.1 4)
  have hb_14 : (M 31 5) < gC Λ_9 8 := Nat.lt_of_lt_of_le hb_8 (hGΛ_9.1 8)
  have he_15 : gA Λ_9 3 0 = gA Λ_1 3 0 := (hGΛ_9.2.1 3 0 (by first | assumption | omega)).1
  have he_16 : gA Λ_9 1 lb = gA Λ_1 1 lb := (hGΛ_9.2.1 1 lb (by first | assumption | omega)).1
  have he_17 : gA Λ_9 8 (M 31 5) = gA Λ_1 8 (M 31 5) := (hGΛ_9.2.1 8 (M 31 5) (by first | assumption | omega)).1
  refine j_eq (lv' := [(0, .ref (gA Λ_9 3 0)), (1, .ref (gA Λ_9 1 lb))]) (st' := [.ref (gA Λ_9 8 (M 31 5))]) (by simp only [he_15, he_16, he_17]) (by simp only [he_15, he_16, he_17]) ?_
  have hR : RT Λ Λ_9 σ σ_10 (M 31 5) lb := by rw [hl9, hs9]; exact RT.mk' c8 c9 c10 c11 c12 c13 hyΛ_1 hyΛ_1v9 hyΛ_7v9 hyΛ_15v9 hyΛ_25v9
  have hsR : Same (fun t => t < 3 ∨ 13 < t) σ σ_10 := by rw [hs9]; exact rt_same
  have hl4 : gN Λ_9 4 0 = 40 := (hR.gw.2.1 4 0 (CR.n1 hC (by decide))).2.trans (CR.l1 hC (by decide))
  refine j_astore_n C [(2, .ref (gA Λ_9 8 (M 31 5))), (0, .ref (gA Λ_9 3 0)), (1, .ref (gA Λ_9 1 lb))] dX4_add_12 rfl (by decide) rfl ?_
  refine j_aload_n C dX4_add_13 rfl 1 rfl ?_
  refine j_getI C hwX4 3 0 4 hb_11 rfl rfl (by decide) rfl (nI (M 31 5)) ((congrFun (hR.kp 3 0 h30).1 4).trans (CR.i hC 3 0 4 ⟨rfl, Or.inl rfl⟩ id)) hL28 dX4_add_14 ?_
  refine j_bipush C (nI 40) dX4_add_17 (by decide) ?_
  refine j_icmp_ge (tgt := 42) C dX4_add_19 (by decide) (nI_leI (by omega) (by omega)) (fun h19 => ?_) (fun h19 => ?_)
  · omega
  · refine j_aload_n C dX4_add_22 rfl 1 rfl ?_
    refine j_getV C hwX4 3 0 0 hb_11 rfl rfl (by decide) rfl 0 ((congrFun (hR.kp 3 0 h30).2.2 0).trans (CR.v hC 3 0 0 ⟨rfl, by decide⟩ id)) hL11 dX4_add_23 ?_
    refine j_aload_n C dX4_add_26 rfl 1 rfl ?_
    refine j_getI C hwX4 3 0 4 hb_11 rfl rfl (by decide) rfl (nI (M 31 5)) ((congrFun (hR.kp 3 0 h30).1 4).trans (CR.i hC 3 0 4 ⟨rfl, Or.inl rfl⟩ id)) hL28 dX4_add_27 ?_
    refine j_aload_n C dX4_add_30 rfl 0 rfl ?_
    refine j_aast C 4 0 (M 31 5) hb_13 rfl rfl 40 hl4 (by omega) (by omega) rfl hb_14 dX4_add_31 ?_
    refine j_aload_n C dX4_add_32 rfl 1 rfl ?_
    refine j_dup C dX4_add_33 rfl ?_
    refine j_getI C hwX4 3 0 4 hb_11 rfl rfl (by decide) rfl (nI (M 31 5)) ((congrFun (hR.kp 3 0 h30).1 4).trans (CR.i hC 3 0 4 ⟨rfl, Or.inl rfl⟩ id)) hL28 dX4_add_34 ?_
    refine j_iconst C (nI 1) dX4_add_37 (by decide) ?_
    refine j_iadd C (nI (M 31 5 + 1)) dX4_add_38 (nI_add _ _) ?_
    refine j_putI C hwX4 3 0 4 hb_11 rfl rfl (by decide) rfl tyX4 tyX4_ok nmX4 rfl rfl rfl hL28 dX4_add_39 ?_
    refine j_aload_n C dX4_add_42 rfl 1 rfl ?_
    have hCA := CR.add (nl := nl) hC hW hZ9 hn40 hR
    refine c_v0 C (r_V C 3 0 [] (c_X4_settle l D cy base Λ_9 (sI (sV σ_10 4 0 (M 31 5) (some (M 31 5))) 3 0 4 (nI (M 31 5 + 1))) (newM (mS M 60 (M 31 5) lb) nl) hCA hBn) (cwV 0 hts gX4_add_X4_settle rfl rfl rfl (by decide +kernel) ⟨by decide, by decide⟩) hb_11 rfl rfl rfl rfl (Nat.le_of_ble_eq_true rfl) dX4_add_43 ⟨by decide, by decide⟩) (fun u9 hq9 => ?_)
    refine j_aload_n C dX4_add_46 rfl 0 rfl ?_
    exact j_aretx C (Or.inl ⟨_, rfl⟩) hr hlk (⟨rfl, hq9.1, hR.gw, hR.co, (Same.tr (Same.sI (Same.sV hsR (by omega)) (by omega)) (Same.mono hq9.2.1 (fun t ht => by omega)))⟩) dX4_add_47
