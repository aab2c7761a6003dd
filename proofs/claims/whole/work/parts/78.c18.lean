set_option maxHeartbeats 4000000 in
set_option maxRecDepth 100000 in
theorem c_tryFrom_8 (l : Launch) (D : va_G) (cy : Nat → ClassId) (base : Nat) (Λ : LY) (σ : HS) (M : MM) (hC : CR noEx Λ σ M) (hB : MBd M) (hm9 : hcN M ≤ 9) (hR1 : 1 ≤ M 31 10) (hR3 : M 31 10 ≤ 3) (e9 : Nat) (hde : hcN M = 8 + e9) (A F : Nat → Nat) (b U : Nat) (hbb : b ≤ 1000000000000000) (hAv : vA (M 31 10) 8 A) (hTr : ∀ i, i < 8 → gI σ 21 0 i = nI (A i)) (hL : gJ σ 20 0 3 = zL (b : Int)) (hFo : 0 < nm (M 31 10) A 8 * M 31 10 ^ e9 → ∀ i, i < hcN M → gI σ 22 0 i = nI (F i)) (hFM : FM M (M 31 10) (hcN M) (nm (M 31 10) A 8 * M 31 10 ^ e9) b F) (hU : U < 64) (bU : ∀ t, U.testBit t = true ↔ fxP M (hcN M) t ∨ ∃ i, i < 8 ∧ A i = t) : Met l yX6_tryFrom wsX6_tryFrom ({ frames := 20, cells := 0, slots := 0, locals := 300 }) (va_Pc [.ref (gA Λ 20 0), .int (nI 8), .long (zL ((fb_sm (padd M A) 8 : Nat) : Int)), .int (nI U)] (Wd D cy base Λ σ)) (va_Qv (fun u => GS σ u ∧ (∀ i, i < 8 → gI u 21 0 i = nI (A i)) ∧ ∃ b2 F2, b2 ≤ 1000000000000000 ∧ gJ u 20 0 3 = zL ((b2 : Nat) : Int) ∧ (∀ i, i < hcN M → gI u 22 0 i = nI (F2 i)) ∧ FM M (M 31 10) (hcN M) ((nm (M 31 10) A 8 + 1) * M 31 10 ^ e9) b2 F2) (Wd D cy base Λ) (Ab base)) 0 0 (Ab base) := by
  refine j_start (cc := cX6_tryFrom) (nL := 5) (ret := none) (lv := [(0, .ref (gA Λ 20 0)), (1, .int (nI 8)), (2, .long (zL ((fb_sm (padd M A) 8 : Nat) : Int))), (4, .int (nI U))]) (by decide) rfl (Nat.le_of_ble_eq_true rfl) rfl ?_
  intro p e s m below meth c C hr hlk hnm
  have C : Cx p s m ([.ref (gA Λ 20 0), .int (nI 8), .long (zL ((fb_sm (padd M A) 8 : Nat) : Int)), .int (nI U)] : List Value).toArray c cX6_tryFrom 5 RX6 wsX6_tryFrom D cy base := C
  have hts := C.2.2.2.2.1
  have hwX4 : ∀ w ∈ u_ws RX4 TX4 6, w ∈ wsX6_tryFrom := by decide +kernel
  have hwX6 : ∀ w ∈ u_ws RX6 TX6 4, w ∈ wsX6_tryFrom := by decide +kernel
  have hM9 : (Cond.fieldLink RX6 9 (TX6 1).1 (TX6 1).2.1 (TX6 1).2.2.1).before ([.ref (gA Λ 20 0), .int (nI 8), .long (zL ((fb_sm (padd M A) 8 : Nat) : Int)), .int (nI U)] : List Value).toArray s = true := hts (.fieldLink RX6 9 "CodeRooms$Search" "trial" "[I") (by decide +kernel)
  have hL9 : FL RX6 9 (TX6 1).1 (TX6 1).2.1 (TX6 1).2.2.1 ([.ref (gA Λ 20 0), .int (nI 8), .long (zL ((fb_sm (padd M A) 8 : Nat) : Int)), .int (nI U)] : List Value).toArray s := Or.inl hM9
  have hM15 : (Cond.fieldLink RX6 15 (TX6 2).1 (TX6 2).2.1 (TX6 2).2.2.1).before ([.ref (gA Λ 20 0), .int (nI 8), .long (zL ((fb_sm (padd M A) 8 : Nat) : Int)), .int (nI U)] : List Value).toArray s = true := hts (.fieldLink RX6 15 "CodeRooms$Search" "found" "[I") (by decide +kernel)
  have hL15 : FL RX6 15 (TX6 2).1 (TX6 2).2.1 (TX6 2).2.2.1 ([.ref (gA Λ 20 0), .int (nI 8), .long (zL ((fb_sm (padd M A) 8 : Nat) : Int)), .int (nI U)] : List Value).toArray s := Or.inl hM15
  have hM18 : (Cond.fieldLink RX6 18 (TX6 0).1 (TX6 0).2.1 (TX6 0).2.2.1).before ([.ref (gA Λ 20 0), .int (nI 8), .long (zL ((fb_sm (padd M A) 8 : Nat) : Int)), .int (nI U)] : List Value).toArray s = true := hts (.fieldLink RX6 18 "CodeRooms$Search" "plan" "LCodeRooms$Plan;") (by decide +kernel)
  have hL18 : FL RX6 18 (TX6 0).1 (TX6 0).2.1 (TX6 0).2.2.1 ([.ref (gA Λ 20 0), .int (nI 8), .long (zL ((fb_sm (padd M A) 8 : Nat) : Int)), .int (nI U)] : List Value).toArray s := Or.inl hM18
  have hL22 : FL RX6 22 (TX4 5).1 (TX4 5).2.1 (TX4 5).2.2.1 ([.ref (gA Λ 20 0), .int (nI 8), .long (zL ((fb_sm (padd M A) 8 : Nat) : Int)), .int (nI U)] : List Value).toArray s := Or.inr ⟨_, Ex.nestF C.2.2.2.2.2.2 nf_X6_22⟩
  have hM36 : (Cond.fieldLink RX6 36 (TX6 3).1 (TX6 3).2.1 (TX6 3).2.2.1).before ([.ref (gA Λ 20 0), .int (nI 8), .long (zL ((fb_sm (padd M A) 8 : Nat) : Int)), .int (nI U)] : List Value).toArray s = true := hts (.fieldLink RX6 36 "CodeRooms$Search" "least" "J") (by decide +kernel)
  have hL36 : FL RX6 36 (TX6 3).1 (TX6 3).2.1 (TX6 3).2.2.1 ([.ref (gA Λ 20 0), .int (nI 8), .long (zL ((fb_sm (padd M A) 8 : Nat) : Int)), .int (nI U)] : List Value).toArray s := Or.inl hM36
  have hn : M 31 5 ≤ 40 := hB 31 5 rfl
  have hhc0 := hcN_le M
  have hS := sm_le hB (A := A) (d := 8) (by omega) (by decide)
  have hKp : b ≠ 1000000000000000 → 0 < nm (M 31 10) A 8 * M 31 10 ^ e9 := fun z => Nat.pos_of_ne_zero (fun q => z (hFM.2.2 q))
  refine j_lload_n C dX6_tryFrom_0 rfl 2 rfl ?_
  refine j_aload_n C dX6_tryFrom_1 rfl 0 rfl ?_
  refine j_getJ C hwX6 20 0 3 (CR.n1 hC (by decide)) rfl rfl (by decide) rfl (zL (b : Int)) hL hL36 dX6_tryFrom_2 ?_
  refine j_lcmp_lt (tgt := 10) C dX6_tryFrom_5 dX6_tryFrom_6 (by decide) ((zL_lt (by omega) (by omega) (by omega) (by omega)).trans Int.ofNat_lt) (fun h5 => ?_) (fun h5 => ?_)
  · refine j_iload_n C dX6_tryFrom_10 rfl 1 rfl ?_
    refine j_aload_n C dX6_tryFrom_11 rfl 0 rfl ?_
    refine j_getV C hwX6 20 0 0 (CR.n1 hC (by decide)) rfl rfl (by decide) rfl 0 (CR.v hC 20 0 0 ⟨rfl, by decide⟩ id) hL18 dX6_tryFrom_12 ?_
    have hhc15 := hcN_le M
    refine j_getI C hwX4 3 0 5 (CR.n1 hC (by decide)) rfl rfl (by decide) rfl (nI (hcN M)) (CR.i hC 3 0 5 ⟨rfl, Or.inr rfl⟩ id) hL22 dX6_tryFrom_15 ?_
    refine j_icmp_ge (tgt := 27) C dX6_tryFrom_18 (by decide) (nI_leI (by omega) (by omega)) (fun h18 => ?_) (fun h18 => ?_)
    · refine j_aload_n C dX6_tryFrom_27 rfl 0 rfl ?_
      refine j_lload_n C dX6_tryFrom_28 rfl 2 rfl ?_
      refine j_putJ C hwX6 20 0 3 (CR.n1 hC (by decide)) rfl rfl (by decide) rfl tyX6 tyX6_ok nmX6 rfl rfl rfl hL36 dX6_tryFrom_29 ?_
      refine j_aload_n C dX6_tryFrom_32 rfl 0 rfl ?_
      refine j_getV C hwX6 20 0 1 (CR.n1 hC (by decide)) rfl rfl (by decide) rfl 0 (CR.v hC 20 0 1 ⟨rfl, by decide⟩ id) hL9 dX6_tryFrom_33 ?_
      refine j_iconst C (nI 0) dX6_tryFrom_36 (by decide) ?_
      refine j_aload_n C dX6_tryFrom_37 rfl 0 rfl ?_
      refine j_getV C hwX6 20 0 2 (CR.n1 hC (by decide)) rfl rfl (by decide) rfl 0 (CR.v hC 20 0 2 ⟨rfl, by decide⟩ id) hL15 dX6_tryFrom_38 ?_
      refine j_iconst C (nI 0) dX6_tryFrom_41 (by decide) ?_
      refine j_bipush C (nI 9) dX6_tryFrom_42 (by decide) ?_
      refine j_cpi C 21 0 22 0 9 (CR.n1 hC (by decide)) (CR.n1 hC (by decide)) rfl rfl rfl rfl (CR.l1 hC (by decide)) (CR.l1 hC (by decide)) (by decide) (by decide +kernel) rfl rfl dX6_tryFrom_44 ?_
      exact j_vret C hr hlk (⟨GS.r (GS.j GS.rf), fun i hi => by rw [gI_sRn (Or.inl (by decide))]; exact hTr i hi, fb_sm (padd M A) 8, A, by omega, gJ_same _ _ _ _ _, fun i hi => by rw [gI_sR]; unfold va_cpy; rw [if_pos (by omega)]; exact (congrArg _ (by omega)).trans (hTr i (by omega)), by have e0 : e9 = 0 := (by omega); subst e0; rw [Nat.pow_zero, Nat.mul_one] at hFM ⊢; rw [show hcN M = 8 from hde] at hFM ⊢; exact FM.leaf hFM hAv h5⟩) dX6_tryFrom_47
    · refine j_iload_n C dX6_tryFrom_21 rfl 1 rfl ?_
      refine j_bipush C (nI 9) dX6_tryFrom_22 (by decide) ?_
      refine j_icmp_lt (tgt := 48) C (P := True) dX6_tryFrom_24 (by decide) (by decide) (fun z => ?_) (fun z => ?_)
      · refine j_aload_n C dX6_tryFrom_48 rfl 0 rfl ?_
        refine j_iload_n C dX6_tryFrom_49 rfl 1 rfl ?_
        refine j_lload_n C dX6_tryFrom_50 rfl 2 rfl ?_
        refine j_iload C dX6_tryFrom_51 3 rfl ?_
        refine c_v0 C (r_V C 20 0 [.int (nI 8), .long (zL ((fb_sm (padd M A) 8 : Nat) : Int)), .int (nI U)] (c_tryRooms_8 l D cy base Λ σ M hC hB hm9 hR1 hR3 e9 hde A F b U hbb hAv hTr hL hFo hFM hU bU (by omega)) (cwV 3 hts gX6_tryFrom_X6_tryRooms rfl rfl rfl (by decide +kernel) ⟨by decide, by decide⟩) (CR.n1 hC (by decide)) rfl rfl rfl rfl (Nat.le_of_ble_eq_true rfl) dX6_tryFrom_53 ⟨by decide, by decide⟩) (fun u3 hp => ?_)
        exact j_vret C hr hlk (hp) dX6_tryFrom_56
      · exact absurd trivial z
  · exact j_vret C hr hlk (⟨GS.rf, hTr, b, F, hbb, hL, hFo (hKp (by omega)), by rw [hde] at hFM ⊢; exact FM.prune hFM hAv rfl (by omega) (by omega) (by omega)⟩) dX6_tryFrom_9

set_option maxHeartbeats 8000000 in
set_option maxRecDepth 100000 in
theorem c_tryRooms_7 (l : Launch) (D : va_G) (cy : Nat → ClassId) (base : Nat) (Λ : LY) (σ : HS) (M : MM) (hC : CR noEx Λ σ M) (hB : MBd M) (hm9 : hcN M ≤ 9) (hR1 : 1 ≤ M 31 10) (hR3 : M 31 10 ≤ 3) (e9 : Nat) (hde : hcN M = 7 + e9) (A F : Nat → Nat) (b U : Nat) (hbb : b ≤ 1000000000000000) (hAv : vA (M 31 10) 7 A) (hTr : ∀ i, i < 7 → gI σ 21 0 i = nI (A i)) (hL : gJ σ 20 0 3 = zL (b : Int)) (hFo : 0 < nm (M 31 10) A 7 * M 31 10 ^ e9 → ∀ i, i < hcN M → gI σ 22 0 i = nI (F i)) (hFM : FM M (M 31 10) (hcN M) (nm (M 31 10) A 7 * M 31 10 ^ e9) b F) (hU : U < 64) (bU : ∀ t, U.testBit t = true ↔ fxP M (hcN M) t ∨ ∃ i, i < 7 ∧ A i = t) (hdd : 7 < hcN M) : Met l yX6_tryRooms wsX6_tryRooms ({ frames := 24, cells := 0, slots := 0, locals := 360 }) (va_Pc [.ref (gA Λ 20 0), .int (nI 7), .long (zL ((fb_sm (padd M A) 7 : Nat) : Int)), .int (nI U)] (Wd D cy base Λ σ)) (va_Qv (fun u => GS σ u ∧ (∀ i, i < 7 → gI u 21 0 i = nI (A i)) ∧ ∃ b2 F2, b2 ≤ 1000000000000000 ∧ gJ u 20 0 3 = zL ((b2 : Nat) : Int) ∧ (∀ i, i < hcN M → gI u 22 0 i = nI (F2 i)) ∧ FM M (M 31 10) (hcN M) ((nm (M 31 10) A 7 + 1) * M 31 10 ^ e9) b2 F2) (Wd D cy base Λ) (Ab base)) 0 0 (Ab base) := by
  refine j_start (cc := cX6_tryRooms) (nL := 8) (ret := none) (lv := [(0, .ref (gA Λ 20 0)), (1, .int (nI 7)), (2, .long (zL ((fb_sm (padd M A) 7 : Nat) : Int))), (4, .int (nI U))]) (by decide) rfl (Nat.le_of_ble_eq_true rfl) rfl ?_
  intro p e s m below meth c C hr hlk hnm
  have C : Cx p s m ([.ref (gA Λ 20 0), .int (nI 7), .long (zL ((fb_sm (padd M A) 7 : Nat) : Int)), .int (nI U)] : List Value).toArray c cX6_tryRooms 8 RX6 wsX6_tryRooms D cy base := C
  have hts := C.2.2.2.2.1
  have hwX6 : ∀ w ∈ u_ws RX6 TX6 4, w ∈ wsX6_tryRooms := by decide +kernel
  have hM9 : (Cond.fieldLink RX6 9 (TX6 1).1 (TX6 1).2.1 (TX6 1).2.2.1).before ([.ref (gA Λ 20 0), .int (nI 7), .long (zL ((fb_sm (padd M A) 7 : Nat) : Int)), .int (nI U)] : List Value).toArray s = true := hts (.fieldLink RX6 9 "CodeRooms$Search" "trial" "[I") (by decide +kernel)
  have hL9 : FL RX6 9 (TX6 1).1 (TX6 1).2.1 (TX6 1).2.2.1 ([.ref (gA Λ 20 0), .int (nI 7), .long (zL ((fb_sm (padd M A) 7 : Nat) : Int)), .int (nI U)] : List Value).toArray s := Or.inl hM9
  have hM18 : (Cond.fieldLink RX6 18 (TX6 0).1 (TX6 0).2.1 (TX6 0).2.2.1).before ([.ref (gA Λ 20 0), .int (nI 7), .long (zL ((fb_sm (padd M A) 7 : Nat) : Int)), .int (nI U)] : List Value).toArray s = true := hts (.fieldLink RX6 18 "CodeRooms$Search" "plan" "LCodeRooms$Plan;") (by decide +kernel)
  have hL18 : FL RX6 18 (TX6 0).1 (TX6 0).2.1 (TX6 0).2.2.1 ([.ref (gA Λ 20 0), .int (nI 7), .long (zL ((fb_sm (padd M A) 7 : Nat) : Int)), .int (nI U)] : List Value).toArray s := Or.inl hM18
  have hn : M 31 5 ≤ 40 := hB 31 5 rfl
  have hhc0 := hcN_le M
  obtain ⟨e1, he1⟩ : ∃ e1, e9 = e1 + 1 := ⟨e9 - 1, by omega⟩
  refine j_iconst C (nI 0) dX6_tryRooms_0 (by decide) ?_
  refine j_istore C [(5, .int (nI 0)), (0, .ref (gA Λ 20 0)), (1, .int (nI 7)), (2, .long (zL ((fb_sm (padd M A) 7 : Nat) : Int))), (4, .int (nI U))] dX6_tryRooms_1 (by decide) rfl ?_
  refine j_iconst C (nI 0) dX6_tryRooms_3 (by decide) ?_
  refine j_istore C [(6, .int (nI 0)), (5, .int (nI 0)), (0, .ref (gA Λ 20 0)), (1, .int (nI 7)), (2, .long (zL ((fb_sm (padd M A) 7 : Nat) : Int))), (4, .int (nI U))] dX6_tryRooms_4 (by decide) rfl ?_
  have lb6 : ∀ (fu : Nat) (σ1 : HS) (g to : Nat) (b1 : Nat) (F1 : Nat → Nat), (M 31 10 - to) < fu → (to ≤ M 31 10) → (GS σ σ1) → (∀ i, i < 7 → gI σ1 21 0 i = nI (A i)) → (b1 ≤ 1000000000000000) → (gJ σ1 20 0 3 = zL (b1 : Int)) → (0 < (nm (M 31 10) A 7 * M 31 10 + to) * M 31 10 ^ e1 → ∀ i, i < hcN M → gI σ1 22 0 i = nI (F1 i)) → (FM M (M 31 10) (hcN M) ((nm (M 31 10) A 7 * M 31 10 + to) * M 31 10 ^ e1) b1 F1) → ((g = 0 ∧ ∀ t, t < to → U.testBit t = true) ∨ (g = 1 ∧ ∃ t, t < to ∧ U.testBit t = false)) → J p l e ({ frames := 24, cells := 0, slots := 0, locals := 360 }) s m ([.ref (gA Λ 20 0), .int (nI 7), .long (zL ((fb_sm (padd M A) 7 : Nat) : Int)), .int (nI U)] : List Value).toArray below meth c 8 D cy base (MQ below (va_Qv (fun u => GS σ u ∧ (∀ i, i < 7 → gI u 21 0 i = nI (A i)) ∧ ∃ b2 F2, b2 ≤ 1000000000000000 ∧ gJ u 20 0 3 = zL ((b2 : Nat) : Int) ∧ (∀ i, i < hcN M → gI u 22 0 i = nI (F2 i)) ∧ FM M (M 31 10) (hcN M) ((nm (M 31 10) A 7 + 1) * M 31 10 ^ e9) b2 F2) (Wd D cy base Λ) (Ab base)) ([.ref (gA Λ 20 0), .int (nI 7), .long (zL ((fb_sm (padd M A) 7 : Nat) : Int)), .int (nI U)] : List Value).toArray s 0 0 (Ab base)) 0 0 Λ 6 [(0, .ref (gA Λ 20 0)), (1, .int (nI 7)), (2, .long (zL ((fb_sm (padd M A) 7 : Nat) : Int))), (4, .int (nI U)), (5, .int (nI g)), (6, .int (nI to))] [] σ1 := by
    intro fu
    induction fu with
    | zero => intro σ1 g to b1 F1 hfu; exact absurd hfu (Nat.not_lt_zero _)
    | succ fu ih =>
      intro σ1 g to b1 F1 hfu hto hG1 hT1 hb1 hL1 hF1 hM1 hg
      have ih6 := ih
      refine j_iload C dX6_tryRooms_6 5 rfl ?_
      refine j_aload_n C dX6_tryRooms_8 rfl 0 rfl ?_
      refine j_getV C hwX6 20 0 0 (CR.n1 (hG1.cr hC) (by decide)) rfl rfl (by decide) rfl 0 (CR.v (hG1.cr hC) 20 0 0 ⟨rfl, by decide⟩ id) hL18 dX6_tryRooms_9 ?_
      refine c_i0 C (r_V C 3 0 [] (c_X4_roomCount l D cy base Λ σ1 M (hG1.cr hC) hB) (cwV 0 hts gX6_tryRooms_X4_roomCount rfl rfl rfl (by decide +kernel) ⟨by decide, by decide⟩) (CR.n1 (hG1.cr hC) (by decide)) rfl rfl rfl rfl (Nat.le_of_ble_eq_true rfl) dX6_tryRooms_12 ⟨by decide, by decide⟩) (fun rv uu hp => ?_)
      rw [hp.1, hp.2]
      refine j_icmp_ge (tgt := 89) C dX6_tryRooms_15 (by decide) (nI_leI (by omega) (by omega)) (fun h15 => ?_) (fun h15 => ?_)
      · exact j_vret C hr hlk (⟨hG1, hT1, b1, F1, hb1, hL1, hF1 (Nat.mul_pos (by omega) (Nat.pow_pos (by omega))), by have q := hM1; rw [show to = M 31 10 by omega, node_end, ← he1] at q; exact q⟩) dX6_tryRooms_89
      · refine j_iload C dX6_tryRooms_18 3 rfl ?_
        refine j_iconst C (nI 1) dX6_tryRooms_20 (by decide) ?_
        refine j_iload C dX6_tryRooms_21 5 rfl ?_
        refine j_ishl C (nI (2 ^ to)) dX6_tryRooms_23 (shl1 (by omega)) ?_
        refine j_iand C (nI U &&& nI (2 ^ to)) dX6_tryRooms_24 rfl ?_
        refine j_if_ne (tgt := 32) C dX6_tryRooms_25 (by decide) (and_bit (by omega)) (fun h25 => ?_) (fun h25 => ?_)
        · refine j_iconst C (nI 0) dX6_tryRooms_32 (by decide) ?_
          refine j_istore C [(7, .int (nI 0)), (0, .ref (gA Λ 20 0)), (1, .int (nI 7)), (2, .long (zL ((fb_sm (padd M A) 7 : Nat) : Int))), (4, .int (nI U)), (5, .int (nI g)), (6, .int (nI to))] dX6_tryRooms_33 (by decide) rfl ?_
          refine j_iload C dX6_tryRooms_35 0 rfl ?_
          refine j_if_eq (tgt := 45) C (P := True) dX6_tryRooms_37 (by decide) (by decide) (fun z => ?_) (fun z => ?_)
          · refine j_aload_n C dX6_tryRooms_45 rfl 1 rfl ?_
            refine j_getV C hwX6 20 0 1 (CR.n1 (hG1.cr hC) (by decide)) rfl rfl (by decide) rfl 0 (CR.v (hG1.cr hC) 20 0 1 ⟨rfl, by decide⟩ id) hL9 dX6_tryRooms_46 ?_
            refine j_iload_n C dX6_tryRooms_49 rfl 2 rfl ?_
            refine j_iload C dX6_tryRooms_50 6 rfl ?_
            refine j_iast C 21 0 7 (CR.n1 (hG1.cr hC) (by decide)) rfl rfl 9 (CR.l1 (hG1.cr hC) (by decide)) (by omega) (by omega) (nI to) rfl dX6_tryRooms_52 ?_
            refine j_aload_n C dX6_tryRooms_53 rfl 1 rfl ?_
            refine j_iload_n C dX6_tryRooms_54 rfl 2 rfl ?_
            refine j_iconst C (nI 1) dX6_tryRooms_55 (by decide) ?_
            refine j_iadd C (nI 8) dX6_tryRooms_56 (by decide) ?_
            refine j_lload_n C dX6_tryRooms_57 rfl 3 rfl ?_
            refine j_aload_n C dX6_tryRooms_58 rfl 1 rfl ?_
            refine j_iload_n C dX6_tryRooms_59 rfl 2 rfl ?_
            refine j_iload C dX6_tryRooms_60 6 rfl ?_
            have hTu : ∀ i, i < 7 → gI (sI σ1 21 0 7 (nI to)) 21 0 i = nI (upA A 7 to i) := fun i hi => by rw [upA_lt hi, gI_sI, if_neg (by omega)]; exact hT1 i hi
            have hvu := vA_up hAv (show to < M 31 10 by omega)
            have hG5 := GS.i (k := 7) (x := nI to) hG1
            refine c_l0 C (r_V C 20 0 [.int (nI 7), .int (nI to)] (c_price l D cy base Λ (sI σ1 21 0 7 (nI to)) M (hG5.cr hC) hB (upA A 7 to) 7 (by omega) (by decide) (fun i hi => Nat.lt_of_lt_of_le (hvu i (by omega)) (by omega)) hTu to upA_d) (cwV 2 hts gX6_tryRooms_X6_priceOfAdding rfl rfl rfl (by decide +kernel) ⟨by decide, by decide⟩) (CR.n1 (hG1.cr hC) (by decide)) rfl rfl rfl rfl (Nat.le_of_ble_eq_true rfl) dX6_tryRooms_62 ⟨by decide, by decide⟩) (fun rv uu hp => ?_)
            rw [hp.1, hp.2]
            refine j_ladd C (zL ((fb_sm (padd M (upA A 7 to)) 8 : Nat) : Int)) dX6_tryRooms_65 ((zL_add _ _).trans (congrArg zL (by rw [sm_up]; omega))) ?_
            refine j_iload C dX6_tryRooms_66 4 rfl ?_
            refine j_iconst C (nI 1) dX6_tryRooms_68 (by decide) ?_
            refine j_iload C dX6_tryRooms_69 6 rfl ?_
            refine j_ishl C (nI (2 ^ to)) dX6_tryRooms_71 (shl1 (by omega)) ?_
            refine j_ior C (nI (U ||| 2 ^ to)) dX6_tryRooms_72 (fa_or _ _) ?_
            have hTv : ∀ i, i < 8 → gI (sI σ1 21 0 7 (nI to)) 21 0 i = nI (upA A 7 to i) := fun i hi => by by_cases e8 : i = 7; rw [e8, upA_d]; exact gI_same _ _ _ _ _; exact hTu i (by omega)
            refine c_v0 C (r_V C 20 0 [.int (nI 8), .long (zL ((fb_sm (padd M (upA A 7 to)) 8 : Nat) : Int)), .int (nI (U ||| 2 ^ to))] (c_tryFrom_8 l D cy base Λ (sI σ1 21 0 7 (nI to)) M (hG5.cr hC) hB hm9 hR1 hR3 e1 (by omega) (upA A 7 to) F1 b1 (U ||| 2 ^ to) hb1 hvu hTv hL1 (by rw [nm_up]; exact hF1) (by rw [nm_up]; exact hM1) (or_lt hU (pow6 (by omega))) (fun t => by rw [bit_or_pow, Bool.or_eq_true, decide_eq_true_eq, bU]; exact bitU_up)) (cwV 3 hts gX6_tryRooms_X6_tryFrom rfl rfl rfl (by decide +kernel) ⟨by decide, by decide⟩) (CR.n1 (hG1.cr hC) (by decide)) rfl rfl rfl rfl (Nat.le_of_ble_eq_true rfl) dX6_tryRooms_73 ⟨by decide, by decide⟩) (fun u3 hp => ?_)
            obtain ⟨hG3, hT3, b3, F3, hb3, hL3, hf3, hM3⟩ := hp
            rw [nm_up] at hM3
            skip
            refine j_iload C dX6_tryRooms_76 5 rfl ?_
            refine j_iload C dX6_tryRooms_78 0 rfl ?_
            refine j_ior C (nI g) dX6_tryRooms_80 (by rcases hg with z | z <;> rw [z.1] <;> decide) ?_
            refine j_istore C [(5, .int (nI g)), (7, .int (nI 0)), (0, .ref (gA Λ 20 0)), (1, .int (nI 7)), (2, .long (zL ((fb_sm (padd M A) 7 : Nat) : Int))), (4, .int (nI U)), (6, .int (nI to))] dX6_tryRooms_81 (by decide) rfl ?_
            refine j_iinc C [(6, .int (nI (to + 1))), (5, .int (nI g)), (7, .int (nI 0)), (0, .ref (gA Λ 20 0)), (1, .int (nI 7)), (2, .long (zL ((fb_sm (padd M A) 7 : Nat) : Int))), (4, .int (nI U))] (nI (to + 1)) dX6_tryRooms_83 6 rfl (nI_add _ 1) (by decide) rfl ?_
            refine j_goto (tgt := 6) C dX6_tryRooms_86 (by decide) ?_
            refine j_lv [3, 4, 5, 6, 1, 0] rfl ?_
            exact ih6 u3 g (to + 1) b3 F3 (by omega) (by omega) (GS.tr hG5 hG3) (fun i hi => by rw [hT3 i (by omega), upA_lt hi]) hb3 hL3 (fun _ => hf3) hM3 (by rcases hg with ⟨z1, z2⟩ | ⟨z1, z2, z3, z4⟩; exact Or.inl ⟨z1, fun t ht => by by_cases e8 : t = to; rw [e8]; simpa using h25; exact z2 t (by omega)⟩; exact Or.inr ⟨z1, z2, by omega, z4⟩)
          · exact absurd trivial z
        · refine j_iconst C (nI 1) dX6_tryRooms_28 (by decide) ?_
          refine j_goto (tgt := 33) C dX6_tryRooms_29 (by decide) ?_
          refine j_istore C [(7, .int (nI 1)), (0, .ref (gA Λ 20 0)), (1, .int (nI 7)), (2, .long (zL ((fb_sm (padd M A) 7 : Nat) : Int))), (4, .int (nI U)), (5, .int (nI g)), (6, .int (nI to))] dX6_tryRooms_33 (by decide) rfl ?_
          refine j_iload C dX6_tryRooms_35 0 rfl ?_
          refine j_if_eq (tgt := 45) C (P := False) dX6_tryRooms_37 (by decide) (by decide) (fun z => ?_) (fun z => ?_)
          · exact z.elim
          · refine j_iload C dX6_tryRooms_40 5 rfl ?_
            refine j_if_ne (tgt := 76) C dX6_tryRooms_42 (by decide) (nJ_ne0 (by rcases hg with z | z <;> omega)) (fun h42 => ?_) (fun h42 => ?_)
            · obtain ⟨xx, hxx, bxx⟩ : ∃ t, t < to ∧ U.testBit t = false := by
                rcases hg with z | z
                · exact absurd z.1 h42
                · exact z.2
              have hKt : 0 < (nm (M 31 10) A 7 * M 31 10 + to) * M 31 10 ^ e1 := Nat.mul_pos (by omega) (Nat.pow_pos (by omega))
              have hbs := FM.small hB hm9 hM1 hKt
              have nx : ∀ t, U.testBit t = false → (∀ k, k < hcN M → M 40 (hs M k) ≠ t + 1) ∧ ∀ i, i < 7 → A i ≠ t := fun t ht => by
                have q : ¬ (fxP M (hcN M) t ∨ ∃ i, i < 7 ∧ A i = t) := fun z => by rw [(bU t).mpr z] at ht; exact absurd ht (by decide)
                exact ⟨fun k hk z => q (Or.inl ⟨k, hk, z⟩), fun i hi z => q (Or.inr ⟨i, hi, z⟩)⟩
              have hsk : FM M (M 31 10) (hcN M) ((nm (M 31 10) A 7 * M 31 10 + (to + 1)) * M 31 10 ^ e1) b1 F1 := by
                have hm0 := hM1
                have hc0 : hcN M = 7 + 1 + e1 := by omega
                have n1 := nx xx bxx
                have n2 := nx to h25
                rw [hc0] at hm0 n1 n2 ⊢
                exact FM.skip hm0 hAv rfl hxx (by omega) n1.2 n2.2 n1.1 n2.1 (by omega)
              refine j_iload C dX6_tryRooms_76 5 rfl ?_
              refine j_iload C dX6_tryRooms_78 0 rfl ?_
              refine j_ior C (nI 1) dX6_tryRooms_80 (by rcases hg with z | z <;> rw [z.1] <;> decide) ?_
              refine j_istore C [(5, .int (nI 1)), (7, .int (nI 1)), (0, .ref (gA Λ 20 0)), (1, .int (nI 7)), (2, .long (zL ((fb_sm (padd M A) 7 : Nat) : Int))), (4, .int (nI U)), (6, .int (nI to))] dX6_tryRooms_81 (by decide) rfl ?_
              refine j_iinc C [(6, .int (nI (to + 1))), (5, .int (nI 1)), (7, .int (nI 1)), (0, .ref (gA Λ 20 0)), (1, .int (nI 7)), (2, .long (zL ((fb_sm (padd M A) 7 : Nat) : Int))), (4, .int (nI U))] (nI (to + 1)) dX6_tryRooms_83 6 rfl (nI_add _ 1) (by decide) rfl ?_
              refine j_goto (tgt := 6) C dX6_tryRooms_86 (by decide) ?_
              refine j_lv [3, 4, 5, 6, 1, 0] rfl ?_
              exact ih6 σ1 1 (to + 1) b1 F1 (by omega) (by omega) hG1 hT1 hb1 hL1 (fun _ => hF1 hKt) hsk (Or.inr ⟨rfl, to, by omega, h25⟩)
            · refine j_aload_n C dX6_tryRooms_45 rfl 1 rfl ?_
              refine j_getV C hwX6 20 0 1 (CR.n1 (hG1.cr hC) (by decide)) rfl rfl (by decide) rfl 0 (CR.v (hG1.cr hC) 20 0 1 ⟨rfl, by decide⟩ id) hL9 dX6_tryRooms_46 ?_
              refine j_iload_n C dX6_tryRooms_49 rfl 2 rfl ?_
              refine j_iload C dX6_tryRooms_50 6 rfl ?_
              refine j_iast C 21 0 7 (CR.n1 (hG1.cr hC) (by decide)) rfl rfl 9 (CR.l1 (hG1.cr hC) (by decide)) (by omega) (by omega) (nI to) rfl dX6_tryRooms_52 ?_
              refine j_aload_n C dX6_tryRooms_53 rfl 1 rfl ?_
              refine j_iload_n C dX6_tryRooms_54 rfl 2 rfl ?_
              refine j_iconst C (nI 1) dX6_tryRooms_55 (by decide) ?_
              refine j_iadd C (nI 8) dX6_tryRooms_56 (by decide) ?_
              refine j_lload_n C dX6_tryRooms_57 rfl 3 rfl ?_
              refine j_aload_n C dX6_tryRooms_58 rfl 1 rfl ?_
              refine j_iload_n C dX6_tryRooms_59 rfl 2 rfl ?_
              refine j_iload C dX6_tryRooms_60 6 rfl ?_
              have hTu : ∀ i, i < 7 → gI (sI σ1 21 0 7 (nI to)) 21 0 i = nI (upA A 7 to i) := fun i hi => by rw [upA_lt hi, gI_sI, if_neg (by omega)]; exact hT1 i hi
              have hvu := vA_up hAv (show to < M 31 10 by omega)
              have hG5 := GS.i (k := 7) (x := nI to) hG1
              refine c_l0 C (r_V C 20 0 [.int (nI 7), .int (nI to)] (c_price l D cy base Λ (sI σ1 21 0 7 (nI to)) M (hG5.cr hC) hB (upA A 7 to) 7 (by omega) (by decide) (fun i hi => Nat.lt_of_lt_of_le (hvu i (by omega)) (by omega)) hTu to upA_d) (cwV 2 hts gX6_tryRooms_X6_priceOfAdding rfl rfl rfl (by decide +kernel) ⟨by decide, by decide⟩) (CR.n1 (hG1.cr hC) (by decide)) rfl rfl rfl rfl (Nat.le_of_ble_eq_true rfl) dX6_tryRooms_62 ⟨by decide, by decide⟩) (fun rv uu hp => ?_)
              rw [hp.1, hp.2]
              refine j_ladd C (zL ((fb_sm (padd M (upA A 7 to)) 8 : Nat) : Int)) dX6_tryRooms_65 ((zL_add _ _).trans (congrArg zL (by rw [sm_up]; omega))) ?_
              refine j_iload C dX6_tryRooms_66 4 rfl ?_
              refine j_iconst C (nI 1) dX6_tryRooms_68 (by decide) ?_
              refine j_iload C dX6_tryRooms_69 6 rfl ?_
              refine j_ishl C (nI (2 ^ to)) dX6_tryRooms_71 (shl1 (by omega)) ?_
              refine j_ior C (nI (U ||| 2 ^ to)) dX6_tryRooms_72 (fa_or _ _) ?_
              have hTv : ∀ i, i < 8 → gI (sI σ1 21 0 7 (nI to)) 21 0 i = nI (upA A 7 to i) := fun i hi => by by_cases e8 : i = 7; rw [e8, upA_d]; exact gI_same _ _ _ _ _; exact hTu i (by omega)
              refine c_v0 C (r_V C 20 0 [.int (nI 8), .long (zL ((fb_sm (padd M (upA A 7 to)) 8 : Nat) : Int)), .int (nI (U ||| 2 ^ to))] (c_tryFrom_8 l D cy base Λ (sI σ1 21 0 7 (nI to)) M (hG5.cr hC) hB hm9 hR1 hR3 e1 (by omega) (upA A 7 to) F1 b1 (U ||| 2 ^ to) hb1 hvu hTv hL1 (by rw [nm_up]; exact hF1) (by rw [nm_up]; exact hM1) (or_lt hU (pow6 (by omega))) (fun t => by rw [bit_or_pow, Bool.or_eq_true, decide_eq_true_eq, bU]; exact bitU_up)) (cwV 3 hts gX6_tryRooms_X6_tryFrom rfl rfl rfl (by decide +kernel) ⟨by decide, by decide⟩) (CR.n1 (hG1.cr hC) (by decide)) rfl rfl rfl rfl (Nat.le_of_ble_eq_true rfl) dX6_tryRooms_73 ⟨by decide, by decide⟩) (fun u3 hp => ?_)
              obtain ⟨hG3, hT3, b3, F3, hb3, hL3, hf3, hM3⟩ := hp
              rw [nm_up] at hM3
              skip
              refine j_iload C dX6_tryRooms_76 5 rfl ?_
              refine j_iload C dX6_tryRooms_78 0 rfl ?_
              refine j_ior C (nI 1) dX6_tryRooms_80 (by rcases hg with z | z <;> rw [z.1] <;> decide) ?_
              refine j_istore C [(5, .int (nI 1)), (7, .int (nI 1)), (0, .ref (gA Λ 20 0)), (1, .int (nI 7)), (2, .long (zL ((fb_sm (padd M A) 7 : Nat) : Int))), (4, .int (nI U)), (6, .int (nI to))] dX6_tryRooms_81 (by decide) rfl ?_
              refine j_iinc C [(6, .int (nI (to + 1))), (5, .int (nI 1)), (7, .int (nI 1)), (0, .ref (gA Λ 20 0)), (1, .int (nI 7)), (2, .long (zL ((fb_sm (padd M A) 7 : Nat) : Int))), (4, .int (nI U))] (nI (to + 1)) dX6_tryRooms_83 6 rfl (nI_add _ 1) (by decide) rfl ?_
              refine j_goto (tgt := 6) C dX6_tryRooms_86 (by decide) ?_
              refine j_lv [3, 4, 5, 6, 1, 0] rfl ?_
              exact ih6 u3 1 (to + 1) b3 F3 (by omega) (by omega) (GS.tr hG5 hG3) (fun i hi => by rw [hT3 i (by omega), upA_lt hi]) hb3 hL3 (fun _ => hf3) hM3 (Or.inr ⟨rfl, to, by omega, h25⟩)
  refine j_lv [2, 3, 4, 5, 1, 0] rfl ?_
  exact lb6 _ σ 0 0 b F (Nat.lt_succ_self _) (by omega) GS.rf hTr hbb hL (by rw [he1, node_beg] at hFo; exact hFo) (by rw [he1, node_beg] at hFM; exact hFM) (Or.inl ⟨rfl, fun t ht => absurd ht (Nat.not_lt_zero _)⟩)

set_option maxHeartbeats 4000000 in
set_option maxRecDepth 100000 in
theorem c_tryFrom_7 (l : Launch) (D : va_G) (cy : Nat → ClassId) (base : Nat) (Λ : LY) (σ : HS) (M : MM) (hC : CR noEx Λ σ M) (hB : MBd M) (hm9 : hcN M ≤ 9) (hR1 : 1 ≤ M 31 10) (hR3 : M 31 10 ≤ 3) (e9 : Nat) (hde : hcN M = 7 + e9) (A F : Nat → Nat) (b U : Nat) (hbb : b ≤ 1000000000000000) (hAv : vA (M 31 10) 7 A) (hTr : ∀ i, i < 7 → gI σ 21 0 i = nI (A i)) (hL : gJ σ 20 0 3 = zL (b : Int)) (hFo : 0 < nm (M 31 10) A 7 * M 31 10 ^ e9 → ∀ i, i < hcN M → gI σ 22 0 i = nI (F i)) (hFM : FM M (M 31 10) (hcN M) (nm (M 31 10) A 7 * M 31 10 ^ e9) b F) (hU : U < 64) (bU : ∀ t, U.testBit t = true ↔ fxP M (hcN M) t ∨ ∃ i, i < 7 ∧ A i = t) : Met l yX6_tryFrom wsX6_tryFrom ({ frames := 28, cells := 0, slots := 0, locals := 420 }) (va_Pc [.ref (gA Λ 20 0), .int (nI 7), .long (zL ((fb_sm (padd M A) 7 : Nat) : Int)), .int (nI U)] (Wd D cy base Λ σ)) (va_Qv (fun u => GS σ u ∧ (∀ i, i < 7 → gI u 21 0 i = nI (A i)) ∧ ∃ b2 F2, b2 ≤ 1000000000000000 ∧ gJ u 20 0 3 = zL ((b2 : Nat) : Int) ∧ (∀ i, i < hcN M → gI u 22 0 i = nI (F2 i)) ∧ FM M (M 31 10) (hcN M) ((nm (M 31 10) A 7 + 1) * M 31 10 ^ e9) b2 F2) (Wd D cy base Λ) (Ab base)) 0 0 (Ab base) := by
  refine j_start (cc := cX6_tryFrom) (nL := 5) (ret := none) (lv := [(0, .ref (gA Λ 20 0)), (1, .int (nI 7)), (2, .long (zL ((fb_sm (padd M A) 7 : Nat) : Int))), (4, .int (nI U))]) (by decide) rfl (Nat.le_of_ble_eq_true rfl) rfl ?_
  intro p e s m below meth c C hr hlk hnm
  have C : Cx p s m ([.ref (gA Λ 20 0), .int (nI 7), .long (zL ((fb_sm (padd M A) 7 : Nat) : Int)), .int (nI U)] : List Value).toArray c cX6_tryFrom 5 RX6 wsX6_tryFrom D cy base := C
  have hts := C.2.2.2.2.1
  have hwX4 : ∀ w ∈ u_ws RX4 TX4 6, w ∈ wsX6_tryFrom := by decide +kernel
  have hwX6 : ∀ w ∈ u_ws RX6 TX6 4, w ∈ wsX6_tryFrom := by decide +kernel
  have hM9 : (Cond.fieldLink RX6 9 (TX6 1).1 (TX6 1).2.1 (TX6 1).2.2.1).before ([.ref (gA Λ 20 0), .int (nI 7), .long (zL ((fb_sm (padd M A) 7 : Nat) : Int)), .int (nI U)] : List Value).toArray s = true := hts (.fieldLink RX6 9 "CodeRooms$Search" "trial" "[I") (by decide +kernel)
  have hL9 : FL RX6 9 (TX6 1).1 (TX6 1).2.1 (TX6 1).2.2.1 ([.ref (gA Λ 20 0), .int (nI 7), .long (zL ((fb_sm (padd M A) 7 : Nat) : Int)), .int (nI U)] : List Value).toArray s := Or.inl hM9
  have hM15 : (Cond.fieldLink RX6 15 (TX6 2).1 (TX6 2).2.1 (TX6 2).2.2.1).before ([.ref (gA Λ 20 0), .int (nI 7), .long (zL ((fb_sm (padd M A) 7 : Nat) : Int)), .int (nI U)] : List Value).toArray s = true := hts (.fieldLink RX6 15 "CodeRooms$Search" "found" "[I") (by decide +kernel)
  have hL15 : FL RX6 15 (TX6 2).1 (TX6 2).2.1 (TX6 2).2.2.1 ([.ref (gA Λ 20 0), .int (nI 7), .long (zL ((fb_sm (padd M A) 7 : Nat) : Int)), .int (nI U)] : List Value).toArray s := Or.inl hM15
  have hM18 : (Cond.fieldLink RX6 18 (TX6 0).1 (TX6 0).2.1 (TX6 0).2.2.1).before ([.ref (gA Λ 20 0), .int (nI 7), .long (zL ((fb_sm (padd M A) 7 : Nat) : Int)), .int (nI U)] : List Value).toArray s = true := hts (.fieldLink RX6 18 "CodeRooms$Search" "plan" "LCodeRooms$Plan;") (by decide +kernel)
  have hL18 : FL RX6 18 (TX6 0).1 (TX6 0).2.1 (TX6 0).2.2.1 ([.ref (gA Λ 20 0), .int (nI 7), .long (zL ((fb_sm (padd M A) 7 : Nat) : Int)), .int (nI U)] : List Value).toArray s := Or.inl hM18
  have hL22 : FL RX6 22 (TX4 5).1 (TX4 5).2.1 (TX4 5).2.2.1 ([.ref (gA Λ 20 0), .int (nI 7), .long (zL ((fb_sm (padd M A) 7 : Nat) : Int)), .int (nI U)] : List Value).toArray s := Or.inr ⟨_, Ex.nestF C.2.2.2.2.2.2 nf_X6_22⟩
  have hM36 : (Cond.fieldLink RX6 36 (TX6 3).1 (TX6 3).2.1 (TX6 3).2.2.1).before ([.ref (gA Λ 20 0), .int (nI 7), .long (zL ((fb_sm (padd M A) 7 : Nat) : Int)), .int (nI U)] : List Value).toArray s = true := hts (.fieldLink RX6 36 "CodeRooms$Search" "least" "J") (by decide +kernel)
  have hL36 : FL RX6 36 (TX6 3).1 (TX6 3).2.1 (TX6 3).2.2.1 ([.ref (gA Λ 20 0), .int (nI 7), .long (zL ((fb_sm (padd M A) 7 : Nat) : Int)), .int (nI U)] : List Value).toArray s := Or.inl hM36
  have hn : M 31 5 ≤ 40 := hB 31 5 rfl
  have hhc0 := hcN_le M
  have hS := sm_le hB (A := A) (d := 7) (by omega) (by decide)
  have hKp : b ≠ 1000000000000000 → 0 < nm (M 31 10) A 7 * M 31 10 ^ e9 := fun z => Nat.pos_of_ne_zero (fun q => z (hFM.2.2 q))
  refine j_lload_n C dX6_tryFrom_0 rfl 2 rfl ?_
  refine j_aload_n C dX6_tryFrom_1 rfl 0 rfl ?_
  refine j_getJ C hwX6 20 0 3 (CR.n1 hC (by decide)) rfl rfl (by decide) rfl (zL (b : Int)) hL hL36 dX6_tryFrom_2 ?_
  refine j_lcmp_lt (tgt := 10) C dX6_tryFrom_5 dX6_tryFrom_6 (by decide) ((zL_lt (by omega) (by omega) (by omega) (by omega)).trans Int.ofNat_lt) (fun h5 => ?_) (fun h5 => ?_)
  · refine j_iload_n C dX6_tryFrom_10 rfl 1 rfl ?_
    refine j_aload_n C dX6_tryFrom_11 rfl 0 rfl ?_
    refine j_getV C hwX6 20 0 0 (CR.n1 hC (by decide)) rfl rfl (by decide) rfl 0 (CR.v hC 20 0 0 ⟨rfl, by decide⟩ id) hL18 dX6_tryFrom_12 ?_
    have hhc15 := hcN_le M
    refine j_getI C hwX4 3 0 5 (CR.n1 hC (by decide)) rfl rfl (by decide) rfl (nI (hcN M)) (CR.i hC 3 0 5 ⟨rfl, Or.inr rfl⟩ id) hL22 dX6_tryFrom_15 ?_
    refine j_icmp_ge (tgt := 27) C dX6_tryFrom_18 (by decide) (nI_leI (by omega) (by omega)) (fun h18 => ?_) (fun h18 => ?_)
    · refine j_aload_n C dX6_tryFrom_27 rfl 0 rfl ?_
      refine j_lload_n C dX6_tryFrom_28 rfl 2 rfl ?_
      refine j_putJ C hwX6 20 0 3 (CR.n1 hC (by decide)) rfl rfl (by decide) rfl tyX6 tyX6_ok nmX6 rfl rfl rfl hL36 dX6_tryFrom_29 ?_
      refine j_aload_n C dX6_tryFrom_32 rfl 0 rfl ?_
      refine j_getV C hwX6 20 0 1 (CR.n1 hC (by decide)) rfl rfl (by decide) rfl 0 (CR.v hC 20 0 1 ⟨rfl, by decide⟩ id) hL9 dX6_tryFrom_33 ?_
      refine j_iconst C (nI 0) dX6_tryFrom_36 (by decide) ?_
      refine j_aload_n C dX6_tryFrom_37 rfl 0 rfl ?_
      refine j_getV C hwX6 20 0 2 (CR.n1 hC (by decide)) rfl rfl (by decide) rfl 0 (CR.v hC 20 0 2 ⟨rfl, by decide⟩ id) hL15 dX6_tryFrom_38 ?_
      refine j_iconst C (nI 0) dX6_tryFrom_41 (by decide) ?_
      refine j_bipush C (nI 9) dX6_tryFrom_42 (by decide) ?_
      refine j_cpi C 21 0 22 0 9 (CR.n1 hC (by decide)) (CR.n1 hC (by decide)) rfl rfl rfl rfl (CR.l1 hC (by decide)) (CR.l1 hC (by decide)) (by decide) (by decide +kernel) rfl rfl dX6_tryFrom_44 ?_
      exact j_vret C hr hlk (⟨GS.r (GS.j GS.rf), fun i hi => by rw [gI_sRn (Or.inl (by decide))]; exact hTr i hi, fb_sm (padd M A) 7, A, by omega, gJ_same _ _ _ _ _, fun i hi => by rw [gI_sR]; unfold va_cpy; rw [if_pos (by omega)]; exact (congrArg _ (by omega)).trans (hTr i (by omega)), by have e0 : e9 = 0 := (by omega); subst e0; rw [Nat.pow_zero, Nat.mul_one] at hFM ⊢; rw [show hcN M = 7 from hde] at hFM ⊢; exact FM.leaf hFM hAv h5⟩) dX6_tryFrom_47
    · refine j_iload_n C dX6_tryFrom_21 rfl 1 rfl ?_
      refine j_bipush C (nI 9) dX6_tryFrom_22 (by decide) ?_
      refine j_icmp_lt (tgt := 48) C (P := True) dX6_tryFrom_24 (by decide) (by decide) (fun z => ?_) (fun z => ?_)
      · refine j_aload_n C dX6_tryFrom_48 rfl 0 rfl ?_
        refine j_iload_n C dX6_tryFrom_49 rfl 1 rfl ?_
        refine j_lload_n C dX6_tryFrom_50 rfl 2 rfl ?_
        refine j_iload C dX6_tryFrom_51 3 rfl ?_
        refine c_v0 C (r_V C 20 0 [.int (nI 7), .long (zL ((fb_sm (padd M A) 7 : Nat) : Int)), .int (nI U)] (c_tryRooms_7 l D cy base Λ σ M hC hB hm9 hR1 hR3 e9 hde A F b U hbb hAv hTr hL hFo hFM hU bU (by omega)) (cwV 3 hts gX6_tryFrom_X6_tryRooms rfl rfl rfl (by decide +kernel) ⟨by decide, by decide⟩) (CR.n1 hC (by decide)) rfl rfl rfl rfl (Nat.le_of_ble_eq_true rfl) dX6_tryFrom_53 ⟨by decide, by decide⟩) (fun u3 hp => ?_)
        exact j_vret C hr hlk (hp) dX6_tryFrom_56
      · exact absurd trivial z
  · exact j_vret C hr hlk (⟨GS.rf, hTr, b, F, hbb, hL, hFo (hKp (by omega)), by rw [hde] at hFM ⊢; exact FM.prune hFM hAv rfl (by omega) (by omega) (by omega)⟩) dX6_tryFrom_9

set_option maxHeartbeats 8000000 in
set_option maxRecDepth 100000 in
theorem c_tryRooms_6 (l : Launch) (D : va_G) (cy : Nat → ClassId) (base : Nat) (Λ : LY) (σ : HS) (M : MM) (hC : CR noEx Λ σ M) (hB : MBd M) (hm9 : hcN M ≤ 9) (hR1 : 1 ≤ M 31 10) (hR3 : M 31 10 ≤ 3) (e9 : Nat) (hde : hcN M = 6 + e9) (A F : Nat → Nat) (b U : Nat) (hbb : b ≤ 1000000000000000) (hAv : vA (M 31 10) 6 A) (hTr : ∀ i, i < 6 → gI σ 21 0 i = nI (A i)) (hL : gJ σ 20 0 3 = zL (b : Int)) (hFo : 0 < nm (M 31 10) A 6 * M 31 10 ^ e9 → ∀ i, i < hcN M → gI σ 22 0 i = nI (F i)) (hFM : FM M (M 31 10) (hcN M) (nm (M 31 10) A 6 * M 31 10 ^ e9) b F) (hU : U < 64) (bU : ∀ t, U.testBit t = true ↔ fxP M (hcN M) t ∨ ∃ i, i < 6 ∧ A i = t) (hdd : 6 < hcN M) : Met l yX6_tryRooms wsX6_tryRooms ({ frames := 32, cells := 0, slots := 0, locals := 480 }) (va_Pc [.ref (gA Λ 20 0), .int (nI 6), .long (zL ((fb_sm (padd M A) 6 : Nat) : Int)), .int (nI U)] (Wd D cy base Λ σ)) (va_Qv (fun u => GS σ u ∧ (∀ i, i < 6 → gI u 21 0 i = nI (A i)) ∧ ∃ b2 F2, b2 ≤ 1000000000000000 ∧ gJ u 20 0 3 = zL ((b2 : Nat) : Int) ∧ (∀ i, i < hcN M → gI u 22 0 i = nI (F2 i)) ∧ FM M (M 31 10) (hcN M) ((nm (M 31 10) A 6 + 1) * M 31 10 ^ e9) b2 F2) (Wd D cy base Λ) (Ab base)) 0 0 (Ab base) := by
  refine j_start (cc := cX6_tryRooms) (nL := 8) (ret := none) (lv := [(0, .ref (gA Λ 20 0)), (1, .int (nI 6)), (2, .long (zL ((fb_sm (padd M A) 6 : Nat) : Int))), (4, .int (nI U))]) (by decide) rfl (Nat.le_of_ble_eq_true rfl) rfl ?_
  intro p e s m below meth c C hr hlk hnm
  have C : Cx p s m ([.ref (gA Λ 20 0), .int (nI 6), .long (zL ((fb_sm (padd M A) 6 : Nat) : Int)), .int (nI U)] : List Value).toArray c cX6_tryRooms 8 RX6 wsX6_tryRooms D cy base := C
  have hts := C.2.2.2.2.1
  have hwX6 : ∀ w ∈ u_ws RX6 TX6 4, w ∈ wsX6_tryRooms := by decide +kernel
  have hM9 : (Cond.fieldLink RX6 9 (TX6 1).1 (TX6 1).2.1 (TX6 1).2.2.1).before ([.ref (gA Λ 20 0), .int (nI 6), .long (zL ((fb_sm (padd M A) 6 : Nat) : Int)), .int (nI U)] : List Value).toArray s = true := hts (.fieldLink RX6 9 "CodeRooms$Search" "trial" "[I") (by decide +kernel)
  have hL9 : FL RX6 9 (TX6 1).1 (TX6 1).2.1 (TX6 1).2.2.1 ([.ref (gA Λ 20 0), .int (nI 6), .long (zL ((fb_sm (padd M A) 6 : Nat) : Int)), .int (nI U)] : List Value).toArray s := Or.inl hM9
  have hM18 : (Cond.fieldLink RX6 18 (TX6 0).1 (TX6 0).2.1 (TX6 0).2.2.1).before ([.ref (gA Λ 20 0), .int (nI 6), .long (zL ((fb_sm (padd M A) 6 : Nat) : Int)), .int (nI U)] : List Value).toArray s = true := hts (.fieldLink RX6 18 "CodeRooms$Search" "plan" "LCodeRooms$Plan;") (by decide +kernel)
  have hL18 : FL RX6 18 (TX6 0).1 (TX6 0).2.1 (TX6 0).2.2.1 ([.ref (gA Λ 20 0), .int (nI 6), .long (zL ((fb_sm (padd M A) 6 : Nat) : Int)), .int (nI U)] : List Value).toArray s := Or.inl hM18
  have hn : M 31 5 ≤ 40 := hB 31 5 rfl
  have hhc0 := hcN_le M
  obtain ⟨e1, he1⟩ : ∃ e1, e9 = e1 + 1 := ⟨e9 - 1, by omega⟩
  refine j_iconst C (nI 0) dX6_tryRooms_0 (by decide) ?_
  refine j_istore C [(5, .int (nI 0)), (0, .ref (gA Λ 20 0)), (1, .int (nI 6)), (2, .long (zL ((fb_sm (padd M A) 6 : Nat) : Int))), (4, .int (nI U))] dX6_tryRooms_1 (by decide) rfl ?_
  refine j_iconst C (nI 0) dX6_tryRooms_3 (by decide) ?_
  refine j_istore C [(6, .int (nI 0)), (5, .int (nI 0)), (0, .ref (gA Λ 20 0)), (1, .int (nI 6)), (2, .long (zL ((fb_sm (padd M A) 6 : Nat) : Int))), (4, .int (nI U))] dX6_tryRooms_4 (by decide) rfl ?_
  have lb6 : ∀ (fu : Nat) (σ1 : HS) (g to : Nat) (b1 : Nat) (F1 : Nat → Nat), (M 31 10 - to) < fu → (to ≤ M 31 10) → (GS σ σ1) → (∀ i, i < 6 → gI σ1 21 0 i = nI (A i)) → (b1 ≤ 1000000000000000) → (gJ σ1 20 0 3 = zL (b1 : Int)) → (0 < (nm (M 31 10) A 6 * M 31 10 + to) * M 31 10 ^ e1 → ∀ i, i < hcN M → gI σ1 22 0 i = nI (F1 i)) → (FM M (M 31 10) (hcN M) ((nm (M 31 10) A 6 * M 31 10 + to) * M 31 10 ^ e1) b1 F1) → ((g = 0 ∧ ∀ t, t < to → U.testBit t = true) ∨ (g = 1 ∧ ∃ t, t < to ∧ U.testBit t = false)) → J p l e ({ frames := 32, cells := 0, slots := 0, locals := 480 }) s m ([.ref (gA Λ 20 0), .int (nI 6), .long (zL ((fb_sm (padd M A) 6 : Nat) : Int)), .int (nI U)] : List Value).toArray below meth c 8 D cy base (MQ below (va_Qv (fun u => GS σ u ∧ (∀ i, i < 6 → gI u 21 0 i = nI (A i)) ∧ ∃ b2 F2, b2 ≤ 1000000000000000 ∧ gJ u 20 0 3 = zL ((b2 : Nat) : Int) ∧ (∀ i, i < hcN M → gI u 22 0 i = nI (F2 i)) ∧ FM M (M 31 10) (hcN M) ((nm (M 31 10) A 6 + 1) * M 31 10 ^ e9) b2 F2) (Wd D cy base Λ) (Ab base)) ([.ref (gA Λ 20 0), .int (nI 6), .long (zL ((fb_sm (padd M A) 6 : Nat) : Int)), .int (nI U)] : List Value).toArray s 0 0 (Ab base)) 0 0 Λ 6 [(0, .ref (gA Λ 20 0)), (1, .int (nI 6)), (2, .long (zL ((fb_sm (padd M A) 6 : Nat) : Int))), (4, .int (nI U)), (5, .int (nI g)), (6, .int (nI to))] [] σ1 := by
    intro fu
    induction fu with
    | zero => intro σ1 g to b1 F1 hfu; exact absurd hfu (Nat.not_lt_zero _)
    | succ fu ih =>
      intro σ1 g to b1 F1 hfu hto hG1 hT1 hb1 hL1 hF1 hM1 hg
      have ih6 := ih
      refine j_iload C dX6_tryRooms_6 5 rfl ?_
      refine j_aload_n C dX6_tryRooms_8 rfl 0 rfl ?_
      refine j_getV C hwX6 20 0 0 (CR.n1 (hG1.cr hC) (by decide)) rfl rfl (by decide) rfl 0 (CR.v (hG1.cr hC) 20 0 0 ⟨rfl, by decide⟩ id) hL18 dX6_tryRooms_9 ?_
      refine c_i0 C (r_V C 3 0 [] (c_X4_roomCount l D cy base Λ σ1 M (hG1.cr hC) hB) (cwV 0 hts gX6_tryRooms_X4_roomCount rfl rfl rfl (by decide +kernel) ⟨by decide, by decide⟩) (CR.n1 (hG1.cr hC) (by decide)) rfl rfl rfl rfl (Nat.le_of_ble_eq_true rfl) dX6_tryRooms_12 ⟨by decide, by decide⟩) (fun rv uu hp => ?_)
      rw [hp.1, hp.2]
      refine j_icmp_ge (tgt := 89) C dX6_tryRooms_15 (by decide) (nI_leI (by omega) (by omega)) (fun h15 => ?_) (fun h15 => ?_)
      · exact j_vret C hr hlk (⟨hG1, hT1, b1, F1, hb1, hL1, hF1 (Nat.mul_pos (by omega) (Nat.pow_pos (by omega))), by have q := hM1; rw [show to = M 31 10 by omega, node_end, ← he1] at q; exact q⟩) dX6_tryRooms_89
      · refine j_iload C dX6_tryRooms_18 3 rfl ?_
        refine j_iconst C (nI 1) dX6_tryRooms_20 (by decide) ?_
        refine j_iload C dX6_tryRooms_21 5 rfl ?_
        refine j_ishl C (nI (2 ^ to)) dX6_tryRooms_23 (shl1 (by omega)) ?_
        refine j_iand C (nI U &&& nI (2 ^ to)) dX6_tryRooms_24 rfl ?_
        refine j_if_ne (tgt := 32) C dX6_tryRooms_25 (by decide) (and_bit (by omega)) (fun h25 => ?_) (fun h25 => ?_)
        · refine j_iconst C (nI 0) dX6_tryRooms_32 (by decide) ?_
          refine j_istore C [(7, .int (nI 0)), (0, .ref (gA Λ 20 0)), (1, .int (nI 6)), (2, .long (zL ((fb_sm (padd M A) 6 : Nat) : Int))), (4, .int (nI U)), (5, .int (nI g)), (6, .int (nI to))] dX6_tryRooms_33 (by decide) rfl ?_
          refine j_iload C dX6_tryRooms_35 0 rfl ?_
          refine j_if_eq (tgt := 45) C (P := True) dX6_tryRooms_37 (by decide) (by decide) (fun z => ?_) (fun z => ?_)
          · refine j_aload_n C dX6_tryRooms_45 rfl 1 rfl ?_
            refine j_getV C hwX6 20 0 1 (CR.n1 (hG1.cr hC) (by decide)) rfl rfl (by decide) rfl 0 (CR.v (hG1.cr hC) 20 0 1 ⟨rfl, by decide⟩ id) hL9 dX6_tryRooms_46 ?_
            refine j_iload_n C dX6_tryRooms_49 rfl 2 rfl ?_
            refine j_iload C dX6_tryRooms_50 6 rfl ?_
            refine j_iast C 21 0 6 (CR.n1 (hG1.cr hC) (by decide)) rfl rfl 9 (CR.l1 (hG1.cr hC) (by decide)) (by omega) (by omega) (nI to) rfl dX6_tryRooms_52 ?_
            refine j_aload_n C dX6_tryRooms_53 rfl 1 rfl ?_
            refine j_iload_n C dX6_tryRooms_54 rfl 2 rfl ?_
            refine j_iconst C (nI 1) dX6_tryRooms_55 (by decide) ?_
            refine j_iadd C (nI 7) dX6_tryRooms_56 (by decide) ?_
            refine j_lload_n C dX6_tryRooms_57 rfl 3 rfl ?_
            refine j_aload_n C dX6_tryRooms_58 rfl 1 rfl ?_
            refine j_iload_n C dX6_tryRooms_59 rfl 2 rfl ?_
            refine j_iload C dX6_tryRooms_60 6 rfl ?_
            have hTu : ∀ i, i < 6 → gI (sI σ1 21 0 6 (nI to)) 21 0 i = nI (upA A 6 to i) := fun i hi => by rw [upA_lt hi, gI_sI, if_neg (by omega)]; exact hT1 i hi
            have hvu := vA_up hAv (show to < M 31 10 by omega)
            have hG5 := GS.i (k := 6) (x := nI to) hG1
            refine c_l0 C (r_V C 20 0 [.int (nI 6), .int (nI to)] (c_price l D cy base Λ (sI σ1 21 0 6 (nI to)) M (hG5.cr hC) hB (upA A 6 to) 6 (by omega) (by decide) (fun i hi => Nat.lt_of_lt_of_le (hvu i (by omega)) (by omega)) hTu to upA_d) (cwV 2 hts gX6_tryRooms_X6_priceOfAdding rfl rfl rfl (by decide +kernel) ⟨by decide, by decide⟩) (CR.n1 (hG1.cr hC) (by decide)) rfl rfl rfl rfl (Nat.le_of_ble_eq_true rfl) dX6_tryRooms_62 ⟨by decide, by decide⟩) (fun rv uu hp => ?_)
            rw [hp.1, hp.2]
            refine j_ladd C (zL ((fb_sm (padd M (upA A 6 to)) 7 : Nat) : Int)) dX6_tryRooms_65 ((zL_add _ _).trans (congrArg zL (by rw [sm_up]; omega))) ?_
            refine j_iload C dX6_tryRooms_66 4 rfl ?_
            refine j_iconst C (nI 1) dX6_tryRooms_68 (by decide) ?_
            refine j_iload C dX6_tryRooms_69 6 rfl ?_
            refine j_ishl C (nI (2 ^ to)) dX6_tryRooms_71 (shl1 (by omega)) ?_
            refine j_ior C (nI (U ||| 2 ^ to)) dX6_tryRooms_72 (fa_or _ _) ?_
            have hTv : ∀ i, i < 7 → gI (sI σ1 21 0 6 (nI to)) 21 0 i = nI (upA A 6 to i) := fun i hi => by by_cases e8 : i = 6; rw [e8, upA_d]; exact gI_same _ _ _ _ _; exact hTu i (by omega)
            refine c_v0 C (r_V C 20 0 [.int (nI 7), .long (zL ((fb_sm (padd M (upA A 6 to)) 7 : Nat) : Int)), .int (nI (U ||| 2 ^ to))] (c_tryFrom_7 l D cy base Λ (sI σ1 21 0 6 (nI to)) M (hG5.cr hC) hB hm9 hR1 hR3 e1 (by omega) (upA A 6 to) F1 b1 (U ||| 2 ^ to) hb1 hvu hTv hL1 (by rw [nm_up]; exact hF1) (by rw [nm_up]; exact hM1) (or_lt hU (pow6 (by omega))) (fun t => by rw [bit_or_pow, Bool.or_eq_true, decide_eq_true_eq, bU]; exact bitU_up)) (cwV 3 hts gX6_tryRooms_X6_tryFrom rfl rfl rfl (by decide +kernel) ⟨by decide, by decide⟩) (CR.n1 (hG1.cr hC) (by decide)) rfl rfl rfl rfl (Nat.le_of_ble_eq_true rfl) dX6_tryRooms_73 ⟨by decide, by decide⟩) (fun u3 hp => ?_)
            obtain ⟨hG3, hT3, b3, F3, hb3, hL3, hf3, hM3⟩ := hp
            rw [nm_up] at hM3
            skip
            refine j_iload C dX6_tryRooms_76 5 rfl ?_
            refine j_iload C dX6_tryRooms_78 0 rfl ?_
            refine j_ior C (nI g) dX6_tryRooms_80 (by rcases hg with z | z <;> rw [z.1] <;> decide) ?_
            refine j_istore C [(5, .int (nI g)), (7, .int (nI 0)), (0, .ref (gA Λ 20 0)), (1, .int (nI 6)), (2, .long (zL ((fb_sm (padd M A) 6 : Nat) : Int))), (4, .int (nI U)), (6, .int (nI to))] dX6_tryRooms_81 (by decide) rfl ?_
            refine j_iinc C [(6, .int (nI (to + 1))), (5, .int (nI g)), (7, .int (nI 0)), (0, .ref (gA Λ 20 0)), (1, .int (nI 6)), (2, .long (zL ((fb_sm (padd M A) 6 : Nat) : Int))), (4, .int (nI U))] (nI (to + 1)) dX6_tryRooms_83 6 rfl (nI_add _ 1) (by decide) rfl ?_
            refine j_goto (tgt := 6) C dX6_tryRooms_86 (by decide) ?_
            refine j_lv [3, 4, 5, 6, 1, 0] rfl ?_
            exact ih6 u3 g (to + 1) b3 F3 (by omega) (by omega) (GS.tr hG5 hG3) (fun i hi => by rw [hT3 i (by omega), upA_lt hi]) hb3 hL3 (fun _ => hf3) hM3 (by rcases hg with ⟨z1, z2⟩ | ⟨z1, z2, z3, z4⟩; exact Or.inl ⟨z1, fun t ht => by by_cases e8 : t = to; rw [e8]; simpa using h25; exact z2 t (by omega)⟩; exact Or.inr ⟨z1, z2, by omega, z4⟩)
          · exact absurd trivial z
        · refine j_iconst C (nI 1) dX6_tryRooms_28 (by decide) ?_
          refine j_goto (tgt := 33) C dX6_tryRooms_29 (by decide) ?_
          refine j_istore C [(7, .int (nI 1)), (0, .ref (gA Λ 20 0)), (1, .int (nI 6)), (2, .long (zL ((fb_sm (padd M A) 6 : Nat) : Int))), (4, .int (nI U)), (5, .int (nI g)), (6, .int (nI to))] dX6_tryRooms_33 (by decide) rfl ?_
          refine j_iload C dX6_tryRooms_35 0 rfl ?_
          refine j_if_eq (tgt := 45) C (P := False) dX6_tryRooms_37 (by decide) (by decide) (fun z => ?_) (fun z => ?_)
          · exact z.elim
          · refine j_iload C dX6_tryRooms_40 5 rfl ?_
            refine j_if_ne (tgt := 76) C dX6_tryRooms_42 (by decide) (nJ_ne0 (by rcases hg with z | z <;> omega)) (fun h42 => ?_) (fun h42 => ?_)
            · obtain ⟨xx, hxx, bxx⟩ : ∃ t, t < to ∧ U.testBit t = false := by
                rcases hg with z | z
                · exact absurd z.1 h42
                · exact z.2
              have hKt : 0 < (nm (M 31 10) A 6 * M 31 10 + to) * M 31 10 ^ e1 := Nat.mul_pos (by omega) (Nat.pow_pos (by omega))
              have hbs := FM.small hB hm9 hM1 hKt
              have nx : ∀ t, U.testBit t = false → (∀ k, k < hcN M → M 40 (hs M k) ≠ t + 1) ∧ ∀ i, i < 6 → A i ≠ t := fun t ht => by
                have q : ¬ (fxP M (hcN M) t ∨ ∃ i, i < 6 ∧ A i = t) := fun z => by rw [(bU t).mpr z] at ht; exact absurd ht (by decide)
                exact ⟨fun k hk z => q (Or.inl ⟨k, hk, z⟩), fun i hi z => q (Or.inr ⟨i, hi, z⟩)⟩
              have hsk : FM M (M 31 10) (hcN M) ((nm (M 31 10) A 6 * M 31 10 + (to + 1)) * M 31 10 ^ e1) b1 F1 := by
                have hm0 := hM1
                have hc0 : hcN M = 6 + 1 + e1 := by omega
                have n1 := nx xx bxx
                have n2 := nx to h25
                rw [hc0] at hm0 n1 n2 ⊢
                exact FM.skip hm0 hAv rfl hxx (by omega) n1.2 n2.2 n1.1 n2.1 (by omega)
              refine j_iload C dX6_tryRooms_76 5 rfl ?_
              refine j_iload C dX6_tryRooms_78 0 rfl ?_
              refine j_ior C (nI 1) dX6_tryRooms_80 (by rcases hg with z | z <;> rw [z.1] <;> decide) ?_
              refine j_istore C [(5, .int (nI 1)), (7, .int (nI 1)), (0, .ref (gA Λ 20 0)), (1, .int (nI 6)), (2, .long (zL ((fb_sm (padd M A) 6 : Nat) : Int))), (4, .int (nI U)), (6, .int (nI to))] dX6_tryRooms_81 (by decide) rfl ?_
              refine j_iinc C [(6, .int (nI (to + 1))), (5, .int (nI 1)), (7, .int (nI 1)), (0, .ref (gA Λ 20 0)), (1, .int (nI 6)), (2, .long (zL ((fb_sm (padd M A) 6 : Nat) : Int))), (4, .int (nI U))] (nI (to + 1)) dX6_tryRooms_83 6 rfl (nI_add _ 1) (by decide) rfl ?_
              refine j_goto (tgt := 6) C dX6_tryRooms_86 (by decide) ?_
              refine j_lv [3, 4, 5, 6, 1, 0] rfl ?_
              exact ih6 σ1 1 (to + 1) b1 F1 (by omega) (by omega) hG1 hT1 hb1 hL1 (fun _ => hF1 hKt) hsk (Or.inr ⟨rfl, to, by omega, h25⟩)
            · refine j_aload_n C dX6_tryRooms_45 rfl 1 rfl ?_
              refine j_getV C hwX6 20 0 1 (CR.n1 (hG1.cr hC) (by decide)) rfl rfl (by decide) rfl 0 (CR.v (hG1.cr hC) 20 0 1 ⟨rfl, by decide⟩ id) hL9 dX6_tryRooms_46 ?_
              refine j_iload_n C dX6_tryRooms_49 rfl 2 rfl ?_
              refine j_iload C dX6_tryRooms_50 6 rfl ?_
              refine j_iast C 21 0 6 (CR.n1 (hG1.cr hC) (by decide)) rfl rfl 9 (CR.l1 (hG1.cr hC) (by decide)) (by omega) (by omega) (nI to) rfl dX6_tryRooms_52 ?_
              refine j_aload_n C dX6_tryRooms_53 rfl 1 rfl ?_
              refine j_iload_n C dX6_tryRooms_54 rfl 2 rfl ?_
              refine j_iconst C (nI 1) dX6_tryRooms_55 (by decide) ?_
              refine j_iadd C (nI 7) dX6_tryRooms_56 (by decide) ?_
              refine j_lload_n C dX6_tryRooms_57 rfl 3 rfl ?_
              refine j_aload_n C dX6_tryRooms_58 rfl 1 rfl ?_
              refine j_iload_n C dX6_tryRooms_59 rfl 2 rfl ?_
              refine j_iload C dX6_tryRooms_60 6 rfl ?_
              have hTu : ∀ i, i < 6 → gI (sI σ1 21 0 6 (nI to)) 21 0 i = nI (upA A 6 to i) := fun i hi => by rw [upA_lt hi, gI_sI, if_neg (by omega)]; exact hT1 i hi
              have hvu := vA_up hAv (show to < M 31 10 by omega)
              have hG5 := GS.i (k := 6) (x := nI to) hG1
              refine c_l0 C (r_V C 20 0 [.int (nI 6), .int (nI to)] (c_price l D cy base Λ (sI σ1 21 0 6 (nI to)) M (hG5.cr hC) hB (upA A 6 to) 6 (by omega) (by decide) (fun i hi => Nat.lt_of_lt_of_le (hvu i (by omega)) (by omega)) hTu to upA_d) (cwV 2 hts gX6_tryRooms_X6_priceOfAdding rfl rfl rfl (by decide +kernel) ⟨by decide, by decide⟩) (CR.n1 (hG1.cr hC) (by decide)) rfl rfl rfl rfl (Nat.le_of_ble_eq_true rfl) dX6_tryRooms_62 ⟨by decide, by decide⟩) (fun rv uu hp => ?_)
              rw [hp.1, hp.2]
              refine j_ladd C (zL ((fb_sm (padd M (upA A 6 to)) 7 : Nat) : Int)) dX6_tryRooms_65 ((zL_add _ _).trans (congrArg zL (by rw [sm_up]; omega))) ?_
              refine j_iload C dX6_tryRooms_66 4 rfl ?_
              refine j_iconst C (nI 1) dX6_tryRooms_68 (by decide) ?_
              refine j_iload C dX6_tryRooms_69 6 rfl ?_
              refine j_ishl C (nI (2 ^ to)) dX6_tryRooms_71 (shl1 (by omega)) ?_
              refine j_ior C (nI (U ||| 2 ^ to)) dX6_tryRooms_72 (fa_or _ _) ?_
              have hTv : ∀ i, i < 7 → gI (sI σ1 21 0 6 (nI to)) 21 0 i = nI (upA A 6 to i) := fun i hi => by by_cases e8 : i = 6; rw [e8, upA_d]; exact gI_same _ _ _ _ _; exact hTu i (by omega)
              refine c_v0 C (r_V C 20 0 [.int (nI 7), .long (zL ((fb_sm (padd M (upA A 6 to)) 7 : Nat) : Int)), .int (nI (U ||| 2 ^ to))] (c_tryFrom_7 l D cy base Λ (sI σ1 21 0 6 (nI to)) M (hG5.cr hC) hB hm9 hR1 hR3 e1 (by omega) (upA A 6 to) F1 b1 (U ||| 2 ^ to) hb1 hvu hTv hL1 (by rw [nm_up]; exact hF1) (by rw [nm_up]; exact hM1) (or_lt hU (pow6 (by omega))) (fun t => by rw [bit_or_pow, Bool.or_eq_true, decide_eq_true_eq, bU]; exact bitU_up)) (cwV 3 hts gX6_tryRooms_X6_tryFrom rfl rfl rfl (by decide +kernel) ⟨by decide, by decide⟩) (CR.n1 (hG1.cr hC) (by decide)) rfl rfl rfl rfl (Nat.le_of_ble_eq_true rfl) dX6_tryRooms_73 ⟨by decide, by decide⟩) (fun u3 hp => ?_)
              obtain ⟨hG3, hT3, b3, F3, hb3, hL3, hf3, hM3⟩ := hp
              rw [nm_up] at hM3
              skip
              refine j_iload C dX6_tryRooms_76 5 rfl ?_
              refine j_iload C dX6_tryRooms_78 0 rfl ?_
              refine j_ior C (nI 1) dX6_tryRooms_80 (by rcases hg with z | z <;> rw [z.1] <;> decide) ?_
              refine j_istore C [(5, .int (nI 1)), (7, .int (nI 1)), (0, .ref (gA Λ 20 0)), (1, .int (nI 6)), (2, .long (zL ((fb_sm (padd M A) 6 : Nat) : Int))), (4, .int (nI U)), (6, .int (nI to))] dX6_tryRooms_81 (by decide) rfl ?_
              refine j_iinc C [(6, .int (nI (to + 1))), (5, .int (nI 1)), (7, .int (nI 1)), (0, .ref (gA Λ 20 0)), (1, .int (nI 6)), (2, .long (zL ((fb_sm (padd M A) 6 : Nat) : Int))), (4, .int (nI U))] (nI (to + 1)) dX6_tryRooms_83 6 rfl (nI_add _ 1) (by decide) rfl ?_
              refine j_goto (tgt := 6) C dX6_tryRooms_86 (by decide) ?_
              refine j_lv [3, 4, 5, 6, 1, 0] rfl ?_
              exact ih6 u3 1 (to + 1) b3 F3 (by omega) (by omega) (GS.tr hG5 hG3) (fun i hi => by rw [hT3 i (by omega), upA_lt hi]) hb3 hL3 (fun _ => hf3) hM3 (Or.inr ⟨rfl, to, by omega, h25⟩)
  refine j_lv [2, 3, 4, 5, 1, 0] rfl ?_
  exact lb6 _ σ 0 0 b F (Nat.lt_succ_self _) (by omega) GS.rf hTr hbb hL (by rw [he1, node_beg] at hFo; exact hFo) (by rw [he1, node_beg] at hFM; exact hFM) (Or.inl ⟨rfl, fun t ht => absurd ht (Nat.not_lt_zero _)⟩)

set_option maxHeartbeats 4000000 in
set_option maxRecDepth 100000 in
theorem c_tryFrom_6 (l : Launch) (D : va_G) (cy : Nat → ClassId) (base : Nat) (Λ : LY) (σ : HS) (M : MM) (hC : CR noEx Λ σ M) (hB : MBd M) (hm9 : hcN M ≤ 9) (hR1 : 1 ≤ M 31 10) (hR3 : M 31 10 ≤ 3) (e9 : Nat) (hde : hcN M = 6 + e9) (A F : Nat → Nat) (b U : Nat) (hbb : b ≤ 1000000000000000) (hAv : vA (M 31 10) 6 A) (hTr : ∀ i, i < 6 → gI σ 21 0 i = nI (A i)) (hL : gJ σ 20 0 3 = zL (b : Int)) (hFo : 0 < nm (M 31 10) A 6 * M 31 10 ^ e9 → ∀ i, i < hcN M → gI σ 22 0 i = nI (F i)) (hFM : FM M (M 31 10) (hcN M) (nm (M 31 10) A 6 * M 31 10 ^ e9) b F) (hU : U < 64) (bU : ∀ t, U.testBit t = true ↔ fxP M (hcN M) t ∨ ∃ i, i < 6 ∧ A i = t) : Met l yX6_tryFrom wsX6_tryFrom ({ frames := 36, cells := 0, slots := 0, locals := 540 }) (va_Pc [.ref (gA Λ 20 0), .int (nI 6), .long (zL ((fb_sm (padd M A) 6 : Nat) : Int)), .int (nI U)] (Wd D cy base Λ σ)) (va_Qv (fun u => GS σ u ∧ (∀ i, i < 6 → gI u 21 0 i = nI (A i)) ∧ ∃ b2 F2, b2 ≤ 1000000000000000 ∧ gJ u 20 0 3 = zL ((b2 : Nat) : Int) ∧ (∀ i, i < hcN M → gI u 22 0 i = nI (F2 i)) ∧ FM M (M 31 10) (hcN M) ((nm (M 31 10) A 6 + 1) * M 31 10 ^ e9) b2 F2) (Wd D cy base Λ) (Ab base)) 0 0 (Ab base) := by
  refine j_start (cc := cX6_tryFrom) (nL := 5) (ret := none) (lv := [(0, .ref (gA Λ 20 0)), (1, .int (nI 6)), (2, .long (zL ((fb_sm (padd M A) 6 : Nat) : Int))), (4, .int (nI U))]) (by decide) rfl (Nat.le_of_ble_eq_true rfl) rfl ?_
  intro p e s m below meth c C hr hlk hnm
  have C : Cx p s m ([.ref (gA Λ 20 0), .int (nI 6), .long (zL ((fb_sm (padd M A) 6 : Nat) : Int)), .int (nI U)] : List Value).toArray c cX6_tryFrom 5 RX6 wsX6_tryFrom D cy base := C
  have hts := C.2.2.2.2.1
  have hwX4 : ∀ w ∈ u_ws RX4 TX4 6, w ∈ wsX6_tryFrom := by decide +kernel
  have hwX6 : ∀ w ∈ u_ws RX6 TX6 4, w ∈ wsX6_tryFrom := by decide +kernel
  have hM9 : (Cond.fieldLink RX6 9 (TX6 1).1 (TX6 1).2.1 (TX6 1).2.2.1).before ([.ref (gA Λ 20 0), .int (nI 6), .long (zL ((fb_sm (padd M A) 6 : Nat) : Int)), .int (nI U)] : List Value).toArray s = true := hts (.fieldLink RX6 9 "CodeRooms$Search" "trial" "[I") (by decide +kernel)
  have hL9 : FL RX6 9 (TX6 1).1 (TX6 1).2.1 (TX6 1).2.2.1 ([.ref (gA Λ 20 0), .int (nI 6), .long (zL ((fb_sm (padd M A) 6 : Nat) : Int)), .int (nI U)] : List Value).toArray s := Or.inl hM9
  have hM15 : (Cond.fieldLink RX6 15 (TX6 2).1 (TX6 2).2.1 (TX6 2).2.2.1).before ([.ref (gA Λ 20 0), .int (nI 6), .long (zL ((fb_sm (padd M A) 6 : Nat) : Int)), .int (nI U)] : List Value).toArray s = true := hts (.fieldLink RX6 15 "CodeRooms$Search" "found" "[I") (by decide +kernel)
  have hL15 : FL RX6 15 (TX6 2).1 (TX6 2).2.1 (TX6 2).2.2.1 ([.ref (gA Λ 20 0), .int (nI 6), .long (zL ((fb_sm (padd M A) 6 : Nat) : Int)), .int (nI U)] : List Value).toArray s := Or.inl hM15
  have hM18 : (Cond.fieldLink RX6 18 (TX6 0).1 (TX6 0).2.1 (TX6 0).2.2.1).before ([.ref (gA Λ 20 0), .int (nI 6), .long (zL ((fb_sm (padd M A) 6 : Nat) : Int)), .int (nI U)] : List Value).toArray s = true := hts (.fieldLink RX6 18 "CodeRooms$Search" "plan" "LCodeRooms$Plan;") (by decide +kernel)
  have hL18 : FL RX6 18 (TX6 0).1 (TX6 0).2.1 (TX6 0).2.2.1 ([.ref (gA Λ 20 0), .int (nI 6), .long (zL ((fb_sm (padd M A) 6 : Nat) : Int)), .int (nI U)] : List Value).toArray s := Or.inl hM18
  have hL22 : FL RX6 22 (TX4 5).1 (TX4 5).2.1 (TX4 5).2.2.1 ([.ref (gA Λ 20 0), .int (nI 6), .long (zL ((fb_sm (padd M A) 6 : Nat) : Int)), .int (nI U)] : List Value).toArray s := Or.inr ⟨_, Ex.nestF C.2.2.2.2.2.2 nf_X6_22⟩
  have hM36 : (Cond.fieldLink RX6 36 (TX6 3).1 (TX6 3).2.1 (TX6 3).2.2.1).before ([.ref (gA Λ 20 0), .int (nI 6), .long (zL ((fb_sm (padd M A) 6 : Nat) : Int)), .int (nI U)] : List Value).toArray s = true := hts (.fieldLink RX6 36 "CodeRooms$Search" "least" "J") (by decide +kernel)
  have hL36 : FL RX6 36 (TX6 3).1 (TX6 3).2.1 (TX6 3).2.2.1 ([.ref (gA Λ 20 0), .int (nI 6), .long (zL ((fb_sm (padd M A) 6 : Nat) : Int)), .int (nI U)] : List Value).toArray s := Or.inl hM36
  have hn : M 31 5 ≤ 40 := hB 31 5 rfl
  have hhc0 := hcN_le M
  have hS := sm_le hB (A := A) (d := 6) (by omega) (by decide)
  have hKp : b ≠ 1000000000000000 → 0 < nm (M 31 10) A 6 * M 31 10 ^ e9 := fun z => Nat.pos_of_ne_zero (fun q => z (hFM.2.2 q))
  refine j_lload_n C dX6_tryFrom_0 rfl 2 rfl ?_
  refine j_aload_n C dX6_tryFrom_1 rfl 0 rfl ?_
  refine j_getJ C hwX6 20 0 3 (CR.n1 hC (by decide)) rfl rfl (by decide) rfl (zL (b : Int)) hL hL36 dX6_tryFrom_2 ?_
  refine j_lcmp_lt (tgt := 10) C dX6_tryFrom_5 dX6_tryFrom_6 (by decide) ((zL_lt (by omega) (by omega) (by omega) (by omega)).trans Int.ofNat_lt) (fun h5 => ?_) (fun h5 => ?_)
  · refine j_iload_n C dX6_tryFrom_10 rfl 1 rfl ?_
    refine j_aload_n C dX6_tryFrom_11 rfl 0 rfl ?_
    refine j_getV C hwX6 20 0 0 (CR.n1 hC (by decide)) rfl rfl (by decide) rfl 0 (CR.v hC 20 0 0 ⟨rfl, by decide⟩ id) hL18 dX6_tryFrom_12 ?_
    have hhc15 := hcN_le M
    refine j_getI C hwX4 3 0 5 (CR.n1 hC (by decide)) rfl rfl (by decide) rfl (nI (hcN M)) (CR.i hC 3 0 5 ⟨rfl, Or.inr rfl⟩ id) hL22 dX6_tryFrom_15 ?_
    refine j_icmp_ge (tgt := 27) C dX6_tryFrom_18 (by decide) (nI_leI (by omega) (by omega)) (fun h18 => ?_) (fun h18 => ?_)
    · refine j_aload_n C dX6_tryFrom_27 rfl 0 rfl ?_
      refine j_lload_n C dX6_tryFrom_28 rfl 2 rfl ?_
      refine j_putJ C hwX6 20 0 3 (CR.n1 hC (by decide)) rfl rfl (by decide) rfl tyX6 tyX6_ok nmX6 rfl rfl rfl hL36 dX6_tryFrom_29 ?_
      refine j_aload_n C dX6_tryFrom_32 rfl 0 rfl ?_
      refine j_getV C hwX6 20 0 1 (CR.n1 hC (by decide)) rfl rfl (by decide) rfl 0 (CR.v hC 20 0 1 ⟨rfl, by decide⟩ id) hL9 dX6_tryFrom_33 ?_
      refine j_iconst C (nI 0) dX6_tryFrom_36 (by decide) ?_
      refine j_aload_n C dX6_tryFrom_37 rfl 0 rfl ?_
      refine j_getV C hwX6 20 0 2 (CR.n1 hC (by decide)) rfl rfl (by decide) rfl 0 (CR.v hC 20 0 2 ⟨rfl, by decide⟩ id) hL15 dX6_tryFrom_38 ?_
      refine j_iconst C (nI 0) dX6_tryFrom_41 (by decide) ?_
      refine j_bipush C (nI 9) dX6_tryFrom_42 (by decide) ?_
      refine j_cpi C 21 0 22 0 9 (CR.n1 hC (by decide)) (CR.n1 hC (by decide)) rfl rfl rfl rfl (CR.l1 hC (by decide)) (CR.l1 hC (by decide)) (by decide) (by decide +kernel) rfl rfl dX6_tryFrom_44 ?_
      exact j_vret C hr hlk (⟨GS.r (GS.j GS.rf), fun i hi => by rw [gI_sRn (Or.inl (by decide))]; exact hTr i hi, fb_sm (padd M A) 6, A, by omega, gJ_same _ _ _ _ _, fun i hi => by rw [gI_sR]; unfold va_cpy; rw [if_pos (by omega)]; exact (congrArg _ (by omega)).trans (hTr i (by omega)), by have e0 : e9 = 0 := (by omega); subst e0; rw [Nat.pow_zero, Nat.mul_one] at hFM ⊢; rw [show hcN M = 6 from hde] at hFM ⊢; exact FM.leaf hFM hAv h5⟩) dX6_tryFrom_47
    · refine j_iload_n C dX6_tryFrom_21 rfl 1 rfl ?_
      refine j_bipush C (nI 9) dX6_tryFrom_22 (by decide) ?_
      refine j_icmp_lt (tgt := 48) C (P := True) dX6_tryFrom_24 (by decide) (by decide) (fun z => ?_) (fun z => ?_)
      · refine j_aload_n C dX6_tryFrom_48 rfl 0 rfl ?_
        refine j_iload_n C dX6_tryFrom_49 rfl 1 rfl ?_
        refine j_lload_n C dX6_tryFrom_50 rfl 2 rfl ?_
        refine j_iload C dX6_tryFrom_51 3 rfl ?_
        refine c_v0 C (r_V C 20 0 [.int (nI 6), .long (zL ((fb_sm (padd M A) 6 : Nat) : Int)), .int (nI U)] (c_tryRooms_6 l D cy base Λ σ M hC hB hm9 hR1 hR3 e9 hde A F b U hbb hAv hTr hL hFo hFM hU bU (by omega)) (cwV 3 hts gX6_tryFrom_X6_tryRooms rfl rfl rfl (by decide +kernel) ⟨by decide, by decide⟩) (CR.n1 hC (by decide)) rfl rfl rfl rfl (Nat.le_of_ble_eq_true rfl) dX6_tryFrom_53 ⟨by decide, by decide⟩) (fun u3 hp => ?_)
        exact j_vret C hr hlk (hp) dX6_tryFrom_56
      · exact absurd trivial z
  · exact j_vret C hr hlk (⟨GS.rf, hTr, b, F, hbb, hL, hFo (hKp (by omega)), by rw [hde] at hFM ⊢; exact FM.prune hFM hAv rfl (by omega) (by omega) (by omega)⟩) dX6_tryFrom_9

set_option maxHeartbeats 8000000 in
set_option maxRecDepth 100000 in
theorem c_tryRooms_5 (l : Launch) (D : va_G) (cy : Nat → ClassId) (base : Nat) (Λ : LY) (σ : HS) (M : MM) (hC : CR noEx Λ σ M) (hB : MBd M) (hm9 : hcN M ≤ 9) (hR1 : 1 ≤ M 31 10) (hR3 : M 31 10 ≤ 3) (e9 : Nat) (hde : hcN M = 5 + e9) (A F : Nat → Nat) (b U : Nat) (hbb : b ≤ 1000000000000000) (hAv : vA (M 31 10) 5 A) (hTr : ∀ i, i < 5 → gI σ 21 0 i = nI (A i)) (hL : gJ σ 20 0 3 = zL (b : Int)) (hFo : 0 < nm (M 31 10) A 5 * M 31 10 ^ e9 → ∀ i, i < hcN M → gI σ 22 0 i = nI (F i)) (hFM : FM M (M 31 10) (hcN M) (nm (M 31 10) A 5 * M 31 10 ^ e9) b F) (hU : U < 64) (bU : ∀ t, U.testBit t = true ↔ fxP M (hcN M) t ∨ ∃ i, i < 5 ∧ A i = t) (hdd : 5 < hcN M) : Met l yX6_tryRooms wsX6_tryRooms ({ frames := 40, cells := 0, slots := 0, locals := 600 }) (va_Pc [.ref (gA Λ 20 0), .int (nI 5), .long (zL ((fb_sm (padd M A) 5 : Nat) : Int)), .int (nI U)] (Wd D cy base Λ σ)) (va_Qv (fun u => GS σ u ∧ (∀ i, i < 5 → gI u 21 0 i = nI (A i)) ∧ ∃ b2 F2, b2 ≤ 1000000000000000 ∧ gJ u 20 0 3 = zL ((b2 : Nat) : Int) ∧ (∀ i, i < hcN M → gI u 22 0 i = nI (F2 i)) ∧ FM M (M 31 10) (hcN M) ((nm (M 31 10) A 5 + 1) * M 31 10 ^ e9) b2 F2) (Wd D cy base Λ) (Ab base)) 0 0 (Ab base) := by
  refine j_start (cc := cX6_tryRooms) (nL := 8) (ret := none) (lv := [(0, .ref (gA Λ 20 0)), (1, .int (nI 5)), (2, .long (zL ((fb_sm (padd M A) 5 : Nat) : Int))), (4, .int (nI U))]) (by decide) rfl (Nat.le_of_ble_eq_true rfl) rfl ?_
  intro p e s m below meth c C hr hlk hnm
  have C : Cx p s m ([.ref (gA Λ 20 0), .int (nI 5), .long (zL ((fb_sm (padd M A) 5 : Nat) : Int)), .int (nI U)] : List Value).toArray c cX6_tryRooms 8 RX6 wsX6_tryRooms D cy base := C
  have hts := C.2.2.2.2.1
  have hwX6 : ∀ w ∈ u_ws RX6 TX6 4, w ∈ wsX6_tryRooms := by decide +kernel
  have hM9 : (Cond.fieldLink RX6 9 (TX6 1).1 (TX6 1).2.1 (TX6 1).2.2.1).before ([.ref (gA Λ 20 0), .int (nI 5), .long (zL ((fb_sm (padd M A) 5 : Nat) : Int)), .int (nI U)] : List Value).toArray s = true := hts (.fieldLink RX6 9 "CodeRooms$Search" "trial" "[I") (by decide +kernel)
  have hL9 : FL RX6 9 (TX6 1).1 (TX6 1).2.1 (TX6 1).2.2.1 ([.ref (gA Λ 20 0), .int (nI 5), .long (zL ((fb_sm (padd M A) 5 : Nat) : Int)), .int (nI U)] : List Value).toArray s := Or.inl hM9
  have hM18 : (Cond.fieldLink RX6 18 (TX6 0).1 (TX6 0).2.1 (TX6 0).2.2.1).before ([.ref (gA Λ 20 0), .int (nI 5), .long (zL ((fb_sm (padd M A) 5 : Nat) : Int)), .int (nI U)] : List Value).toArray s = true := hts (.fieldLink RX6 18 "CodeRooms$Search" "plan" "LCodeRooms$Plan;") (by decide +kernel)
  have hL18 : FL RX6 18 (TX6 0).1 (TX6 0).2.1 (TX6 0).2.2.1 ([.ref (gA Λ 20 0), .int (nI 5), .long (zL ((fb_sm (padd M A) 5 : Nat) : Int)), .int (nI U)] : List Value).toArray s := Or.inl hM18
  have hn : M 31 5 ≤ 40 := hB 31 5 rfl
  have hhc0 := hcN_le M
  obtain ⟨e1, he1⟩ : ∃ e1, e9 = e1 + 1 := ⟨e9 - 1, by omega⟩
  refine j_iconst C (nI 0) dX6_tryRooms_0 (by decide) ?_
  refine j_istore C [(5, .int (nI 0)), (0, .ref (gA Λ 20 0)), (1, .int (nI 5)), (2, .long (zL ((fb_sm (padd M A) 5 : Nat) : Int))), (4, .int (nI U))] dX6_tryRooms_1 (by decide) rfl ?_
  refine j_iconst C (nI 0) dX6_tryRooms_3 (by decide) ?_
  refine j_istore C [(6, .int (nI 0)), (5, .int (nI 0)), (0, .ref (gA Λ 20 0)), (1, .int (nI 5)), (2, .long (zL ((fb_sm (padd M A) 5 : Nat) : Int))), (4, .int (nI U))] dX6_tryRooms_4 (by decide) rfl ?_
  have lb6 : ∀ (fu : Nat) (σ1 : HS) (g to : Nat) (b1 : Nat) (F1 : Nat → Nat), (M 31 10 - to) < fu → (to ≤ M 31 10) → (GS σ σ1) → (∀ i, i < 5 → gI σ1 21 0 i = nI (A i)) → (b1 ≤ 1000000000000000) → (gJ σ1 20 0 3 = zL (b1 : Int)) → (0 < (nm (M 31 10) A 5 * M 31 10 + to) * M 31 10 ^ e1 → ∀ i, i < hcN M → gI σ1 22 0 i = nI (F1 i)) → (FM M (M 31 10) (hcN M) ((nm (M 31 10) A 5 * M 31 10 + to) * M 31 10 ^ e1) b1 F1) → ((g = 0 ∧ ∀ t, t < to → U.testBit t = true) ∨ (g = 1 ∧ ∃ t, t < to ∧ U.testBit t = false)) → J p l e ({ frames := 40, cells := 0, slots := 0, locals := 600 }) s m ([.ref (gA Λ 20 0), .int (nI 5), .long (zL ((fb_sm (padd M A) 5 : Nat) : Int)), .int (nI U)] : List Value).toArray below meth c 8 D cy base (MQ below (va_Qv (fun u => GS σ u ∧ (∀ i, i < 5 → gI u 21 0 i = nI (A i)) ∧ ∃ b2 F2, b2 ≤ 1000000000000000 ∧ gJ u 20 0 3 = zL ((b2 : Nat) : Int) ∧ (∀ i, i < hcN M → gI u 22 0 i = nI (F2 i)) ∧ FM M (M 31 10) (hcN M) ((nm (M 31 10) A 5 + 1) * M 31 10 ^ e9) b2 F2) (Wd D cy base Λ) (Ab base)) ([.ref (gA Λ 20 0), .int (nI 5), .long (zL ((fb_sm (padd M A) 5 : Nat) : Int)), .int (nI U)] : List Value).toArray s 0 0 (Ab base)) 0 0 Λ 6 [(0, .ref (gA Λ 20 0)), (1, .int (nI 5)), (2, .long (zL ((fb_sm (padd M A) 5 : Nat) : Int))), (4, .int (nI U)), (5, .int (nI g)), (6, .int (nI to))] [] σ1 := by
    intro fu
    induction fu with
    | zero => intro σ1 g to b1 F1 hfu; exact absurd hfu (Nat.not_lt_zero _)
    | succ fu ih =>
      intro σ1 g to b1 F1 hfu hto hG1 hT1 hb1 hL1 hF1 hM1 hg
      have ih6 := ih
      refine j_iload C dX6_tryRooms_6 5 rfl ?_
      refine j_aload_n C dX6_tryRooms_8 rfl 0 rfl ?_
      refine j_getV C hwX6 20 0 0 (CR.n1 (hG1.cr hC) (by decide)) rfl rfl (by decide) rfl 0 (CR.v (hG1.cr hC) 20 0 0 ⟨rfl, by decide⟩ id) hL18 dX6_tryRooms_9 ?_
      refine c_i0 C (r_V C 3 0 [] (c_X4_roomCount l D cy base Λ σ1 M (hG1.cr hC) hB) (cwV 0 hts gX6_tryRooms_X4_roomCount rfl rfl rfl (by decide +kernel) ⟨by decide, by decide⟩) (CR.n1 (hG1.cr hC) (by decide)) rfl rfl rfl rfl (Nat.le_of_ble_eq_true rfl) dX6_tryRooms_12 ⟨by decide, by decide⟩) (fun rv uu hp => ?_)
      rw [hp.1, hp.2]
      refine j_icmp_ge (tgt := 89) C dX6_tryRooms_15 (by decide) (nI_leI (by omega) (by omega)) (fun h15 => ?_) (fun h15 => ?_)
      · exact j_vret C hr hlk (⟨hG1, hT1, b1, F1, hb1, hL1, hF1 (Nat.mul_pos (by omega) (Nat.pow_pos (by omega))), by have q := hM1; rw [show to = M 31 10 by omega, node_end, ← he1] at q; exact q⟩) dX6_tryRooms_89
      · refine j_iload C dX6_tryRooms_18 3 rfl ?_
        refine j_iconst C (nI 1) dX6_tryRooms_20 (by decide) ?_
        refine j_iload C dX6_tryRooms_21 5 rfl ?_
        refine j_ishl C (nI (2 ^ to)) dX6_tryRooms_23 (shl1 (by omega)) ?_
        refine j_iand C (nI U &&& nI (2 ^ to)) dX6_tryRooms_24 rfl ?_
        refine j_if_ne (tgt := 32) C dX6_tryRooms_25 (by decide) (and_bit (by omega)) (fun h25 => ?_) (fun h25 => ?_)
        · refine j_iconst C (nI 0) dX6_tryRooms_32 (by decide) ?_
          refine j_istore C [(7, .int (nI 0)), (0, .ref (gA Λ 20 0)), (1, .int (nI 5)), (2, .long (zL ((fb_sm (padd M A) 5 : Nat) : Int))), (4, .int (nI U)), (5, .int (nI g)), (6, .int (nI to))] dX6_tryRooms_33 (by decide) rfl ?_
          refine j_iload C dX6_tryRooms_35 0 rfl ?_
          refine j_if_eq (tgt := 45) C (P := True) dX6_tryRooms_37 (by decide) (by decide) (fun z => ?_) (fun z => ?_)
          · refine j_aload_n C dX6_tryRooms_45 rfl 1 rfl ?_
            refine j_getV C hwX6 20 0 1 (CR.n1 (hG1.cr hC) (by decide)) rfl rfl (by decide) rfl 0 (CR.v (hG1.cr hC) 20 0 1 ⟨rfl, by decide⟩ id) hL9 dX6_tryRooms_46 ?_
            refine j_iload_n C dX6_tryRooms_49 rfl 2 rfl ?_
            refine j_iload C dX6_tryRooms_50 6 rfl ?_
            refine j_iast C 21 0 5 (CR.n1 (hG1.cr hC) (by decide)) rfl rfl 9 (CR.l1 (hG1.cr hC) (by decide)) (by omega) (by omega) (nI to) rfl dX6_tryRooms_52 ?_
            refine j_aload_n C dX6_tryRooms_53 rfl 1 rfl ?_
            refine j_iload_n C dX6_tryRooms_54 rfl 2 rfl ?_
            refine j_iconst C (nI 1) dX6_tryRooms_55 (by decide) ?_
            refine j_iadd C (nI 6) dX6_tryRooms_56 (by decide) ?_
            refine j_lload_n C dX6_tryRooms_57 rfl 3 rfl ?_
            refine j_aload_n C dX6_tryRooms_58 rfl 1 rfl ?_
            refine j_iload_n C dX6_tryRooms_59 rfl 2 rfl ?_
            refine j_iload C dX6_tryRooms_60 6 rfl ?_
            have hTu : ∀ i, i < 5 → gI (sI σ1 21 0 5 (nI to)) 21 0 i = nI (upA A 5 to i) := fun i hi => by rw [upA_lt hi, gI_sI, if_neg (by omega)]; exact hT1 i hi
            have hvu := vA_up hAv (show to < M 31 10 by omega)
            have hG5 := GS.i (k := 5) (x := nI to) hG1
            refine c_l0 C (r_V C 20 0 [.int (nI 5), .int (nI to)] (c_price l D cy base Λ (sI σ1 21 0 5 (nI to)) M (hG5.cr hC) hB (upA A 5 to) 5 (by omega) (by decide) (fun i hi => Nat.lt_of_lt_of_le (hvu i (by omega)) (by omega)) hTu to upA_d) (cwV 2 hts gX6_tryRooms_X6_priceOfAdding rfl rfl rfl (by decide +kernel) ⟨by decide, by decide⟩) (CR.n1 (hG1.cr hC) (by decide)) rfl rfl rfl rfl (Nat.le_of_ble_eq_true rfl) dX6_tryRooms_62 ⟨by decide, by decide⟩) (fun rv uu hp => ?_)
            rw [hp.1, hp.2]
            refine j_ladd C (zL ((fb_sm (padd M (upA A 5 to)) 6 : Nat) : Int)) dX6_tryRooms_65 ((zL_add _ _).trans (congrArg zL (by rw [sm_up]; omega))) ?_
            refine j_iload C dX6_tryRooms_66 4 rfl ?_
            refine j_iconst C (nI 1) dX6_tryRooms_68 (by decide) ?_
            refine j_iload C dX6_tryRooms_69 6 rfl ?_
            refine j_ishl C (nI (2 ^ to)) dX6_tryRooms_71 (shl1 (by omega)) ?_
            refine j_ior C (nI (U ||| 2 ^ to)) dX6_tryRooms_72 (fa_or _ _) ?_
            have hTv : ∀ i, i < 6 → gI (sI σ1 21 0 5 (nI to)) 21 0 i = nI (upA A 5 to i) := fun i hi => by by_cases e8 : i = 5; rw [e8, upA_d]; exact gI_same _ _ _ _ _; exact hTu i (by omega)
            refine c_v0 C (r_V C 20 0 [.int (nI 6), .long (zL ((fb_sm (padd M (upA A 5 to)) 6 : Nat) : Int)), .int (nI (U ||| 2 ^ to))] (c_tryFrom_6 l D cy base Λ (sI σ1 21 0 5 (nI to)) M (hG5.cr hC) hB hm9 hR1 hR3 e1 (by omega) (upA A 5 to) F1 b1 (U ||| 2 ^ to) hb1 hvu hTv hL1 (by rw [nm_up]; exact hF1) (by rw [nm_up]; exact hM1) (or_lt hU (pow6 (by omega))) (fun t => by rw [bit_or_pow, Bool.or_eq_true, decide_eq_true_eq, bU]; exact bitU_up)) (cwV 3 hts gX6_tryRooms_X6_tryFrom rfl rfl rfl (by decide +kernel) ⟨by decide, by decide⟩) (CR.n1 (hG1.cr hC) (by decide)) rfl rfl rfl rfl (Nat.le_of_ble_eq_true rfl) dX6_tryRooms_73 ⟨by decide, by decide⟩) (fun u3 hp => ?_)
            obtain ⟨hG3, hT3, b3, F3, hb3, hL3, hf3, hM3⟩ := hp
            rw [nm_up] at hM3
            skip
            refine j_iload C dX6_tryRooms_76 5 rfl ?_
            refine j_iload C dX6_tryRooms_78 0 rfl ?_
            refine j_ior C (nI g) dX6_tryRooms_80 (by rcases hg with z | z <;> rw [z.1] <;> decide) ?_
            refine j_istore C [(5, .int (nI g)), (7, .int (nI 0)), (0, .ref (gA Λ 20 0)), (1, .int (nI 5)), (2, .long (zL ((fb_sm (padd M A) 5 : Nat) : Int))), (4, .int (nI U)), (6, .int (nI to))] dX6_tryRooms_81 (by decide) rfl ?_
            refine j_iinc C [(6, .int (nI (to + 1))), (5, .int (nI g)), (7, .int (nI 0)), (0, .ref (gA Λ 20 0)), (1, .int (nI 5)), (2, .long (zL ((fb_sm (padd M A) 5 : Nat) : Int))), (4, .int (nI U))] (nI (to + 1)) dX6_tryRooms_83 6 rfl (nI_add _ 1) (by decide) rfl ?_
            refine j_goto (tgt := 6) C dX6_tryRooms_86 (by decide) ?_
            refine j_lv [3, 4, 5, 6, 1, 0] rfl ?_
            exact ih6 u3 g (to + 1) b3 F3 (by omega) (by omega) (GS.tr hG5 hG3) (fun i hi => by rw [hT3 i (by omega), upA_lt hi]) hb3 hL3 (fun _ => hf3) hM3 (by rcases hg with ⟨z1, z2⟩ | ⟨z1, z2, z3, z4⟩; exact Or.inl ⟨z1, fun t ht => by by_cases e8 : t = to; rw [e8]; simpa using h25; exact z2 t (by omega)⟩; exact Or.inr ⟨z1, z2, by omega, z4⟩)
          · exact absurd trivial z
        · refine j_iconst C (nI 1) dX6_tryRooms_28 (by decide) ?_
          refine j_goto (tgt := 33) C dX6_tryRooms_29 (by decide) ?_
          refine j_istore C [(7, .int (nI 1)), (0, .ref (gA Λ 20 0)), (1, .int (nI 5)), (2, .long (zL ((fb_sm (padd M A) 5 : Nat) : Int))), (4, .int (nI U)), (5, .int (nI g)), (6, .int (nI to))] dX6_tryRooms_33 (by decide) rfl ?_
          refine j_iload C dX6_tryRooms_35 0 rfl ?_
          refine j_if_eq (tgt := 45) C (P := False) dX6_tryRooms_37 (by decide) (by decide) (fun z => ?_) (fun z => ?_)
          · exact z.elim
          · refine j_iload C dX6_tryRooms_40 5 rfl ?_
            refine j_if_ne (tgt := 76) C dX6_tryRooms_42 (by decide) (nJ_ne0 (by rcases hg with z | z <;> omega)) (fun h42 => ?_) (fun h42 => ?_)
            · obtain ⟨xx, hxx, bxx⟩ : ∃ t, t < to ∧ U.testBit t = false := by
                rcases hg with z | z
                · exact absurd z.1 h42
                · exact z.2
              have hKt : 0 < (nm (M 31 10) A 5 * M 31 10 + to) * M 31 10 ^ e1 := Nat.mul_pos (by omega) (Nat.pow_pos (by omega))
              have hbs := FM.small hB hm9 hM1 hKt
              have nx : ∀ t, U.testBit t = false → (∀ k, k < hcN M → M 40 (hs M k) ≠ t + 1) ∧ ∀ i, i < 5 → A i ≠ t := fun t ht => by
                have q : ¬ (fxP M (hcN M) t ∨ ∃ i, i < 5 ∧ A i = t) := fun z => by rw [(bU t).mpr z] at ht; exact absurd ht (by decide)
                exact ⟨fun k hk z => q (Or.inl ⟨k, hk, z⟩), fun i hi z => q (Or.inr ⟨i, hi, z⟩)⟩
              have hsk : FM M (M 31 10) (hcN M) ((nm (M 31 10) A 5 * M 31 10 + (to + 1)) * M 31 10 ^ e1) b1 F1 := by
                have hm0 := hM1
                have hc0 : hcN M = 5 + 1 + e1 := by omega
                have n1 := nx xx bxx
                have n2 := nx to h25
                rw [hc0] at hm0 n1 n2 ⊢
                exact FM.skip hm0 hAv rfl hxx (by omega) n1.2 n2.2 n1.1 n2.1 (by omega)
              refine j_iload C dX6_tryRooms_76 5 rfl ?_
              refine j_iload C dX6_tryRooms_78 0 rfl ?_
              refine j_ior C (nI 1) dX6_tryRooms_80 (by rcases hg with z | z <;> rw [z.1] <;> decide) ?_
              refine j_istore C [(5, .int (nI 1)), (7, .int (nI 1)), (0, .ref (gA Λ 20 0)), (1, .int (nI 5)), (2, .long (zL ((fb_sm (padd M A) 5 : Nat) : Int))), (4, .int (nI U)), (6, .int (nI to))] dX6_tryRooms_81 (by decide) rfl ?_
              refine j_iinc C [(6, .int (nI (to + 1))), (5, .int (nI 1)), (7, .int (nI 1)), (0, .ref (gA Λ 20 0)), (1, .int (nI 5)), (2, .long (zL ((fb_sm (padd M A) 5 : Nat) : Int))), (4, .int (nI U))] (nI (to + 1)) dX6_tryRooms_83 6 rfl (nI_add _ 1) (by decide) rfl ?_
              refine j_goto (tgt := 6) C dX6_tryRooms_86 (by decide) ?_
              refine j_lv [3, 4, 5, 6, 1, 0] rfl ?_
              exact ih6 σ1 1 (to + 1) b1 F1 (by omega) (by omega) hG1 hT1 hb1 hL1 (fun _ => hF1 hKt) hsk (Or.inr ⟨rfl, to, by omega, h25⟩)
            · refine j_aload_n C dX6_tryRooms_45 rfl 1 rfl ?_
              refine j_getV C hwX6 20 0 1 (CR.n1 (hG1.cr hC) (by decide)) rfl rfl (by decide) rfl 0 (CR.v (hG1.cr hC) 20 0 1 ⟨rfl, by decide⟩ id) hL9 dX6_tryRooms_46 ?_
              refine j_iload_n C dX6_tryRooms_49 rfl 2 rfl ?_
              refine j_iload C dX6_tryRooms_50 6 rfl ?_
              refine j_iast C 21 0 5 (CR.n1 (hG1.cr hC) (by decide)) rfl rfl 9 (CR.l1 (hG1.cr hC) (by decide)) (by omega) (by omega) (nI to) rfl dX6_tryRooms_52 ?_
              refine j_aload_n C dX6_tryRooms_53 rfl 1 rfl ?_
              refine j_iload_n C dX6_tryRooms_54 rfl 2 rfl ?_
              refine j_iconst C (nI 1) dX6_tryRooms_55 (by decide) ?_
              refine j_iadd C (nI 6) dX6_tryRooms_56 (by decide) ?_
              refine j_lload_n C dX6_tryRooms_57 rfl 3 rfl ?_
              refine j_aload_n C dX6_tryRooms_58 rfl 1 rfl ?_
              refine j_iload_n C dX6_tryRooms_59 rfl 2 rfl ?_
              refine j_iload C dX6_tryRooms_60 6 rfl ?_
              have hTu : ∀ i, i < 5 → gI (sI σ1 21 0 5 (nI to)) 21 0 i = nI (upA A 5 to i) := fun i hi => by rw [upA_lt hi, gI_sI, if_neg (by omega)]; exact hT1 i hi
              have hvu := vA_up hAv (show to < M 31 10 by omega)
              have hG5 := GS.i (k := 5) (x := nI to) hG1
              refine c_l0 C (r_V C 20 0 [.int (nI 5), .int (nI to)] (c_price l D cy base Λ (sI σ1 21 0 5 (nI to)) M (hG5.cr hC) hB (upA A 5 to) 5 (by omega) (by decide) (fun i hi => Nat.lt_of_lt_of_le (hvu i (by omega)) (by omega)) hTu to upA_d) (cwV 2 hts gX6_tryRooms_X6_priceOfAdding rfl rfl rfl (by decide +kernel) ⟨by decide, by decide⟩) (CR.n1 (hG1.cr hC) (by decide)) rfl rfl rfl rfl (Nat.le_of_ble_eq_true rfl) dX6_tryRooms_62 ⟨by decide, by decide⟩) (fun rv uu hp => ?_)
              rw [hp.1, hp.2]
              refine j_ladd C (zL ((fb_sm (padd M (upA A 5 to)) 6 : Nat) : Int)) dX6_tryRooms_65 ((zL_add _ _).trans (congrArg zL (by rw [sm_up]; omega))) ?_
              refine j_iload C dX6_tryRooms_66 4 rfl ?_
              refine j_iconst C (nI 1) dX6_tryRooms_68 (by decide) ?_
              refine j_iload C dX6_tryRooms_69 6 rfl ?_
              refine j_ishl C (nI (2 ^ to)) dX6_tryRooms_71 (shl1 (by omega)) ?_
              refine j_ior C (nI (U ||| 2 ^ to)) dX6_tryRooms_72 (fa_or _ _) ?_
              have hTv : ∀ i, i < 6 → gI (sI σ1 21 0 5 (nI to)) 21 0 i = nI (upA A 5 to i) := fun i hi => by by_cases e8 : i = 5; rw [e8, upA_d]; exact gI_same _ _ _ _ _; exact hTu i (by omega)
              refine c_v0 C (r_V C 20 0 [.int (nI 6), .long (zL ((fb_sm (padd M (upA A 5 to)) 6 : Nat) : Int)), .int (nI (U ||| 2 ^ to))] (c_tryFrom_6 l D cy base Λ (sI σ1 21 0 5 (nI to)) M (hG5.cr hC) hB hm9 hR1 hR3 e1 (by omega) (upA A 5 to) F1 b1 (U ||| 2 ^ to) hb1 hvu hTv hL1 (by rw [nm_up]; exact hF1) (by rw [nm_up]; exact hM1) (or_lt hU (pow6 (by omega))) (fun t => by rw [bit_or_pow, Bool.or_eq_true, decide_eq_true_eq, bU]; exact bitU_up)) (cwV 3 hts gX6_tryRooms_X6_tryFrom rfl rfl rfl (by decide +kernel) ⟨by decide, by decide⟩) (CR.n1 (hG1.cr hC) (by decide)) rfl rfl rfl rfl (Nat.le_of_ble_eq_true rfl) dX6_tryRooms_73 ⟨by decide, by decide⟩) (fun u3 hp => ?_)
              obtain ⟨hG3, hT3, b3, F3, hb3, hL3, hf3, hM3⟩ := hp
              rw [nm_up] at hM3
              skip
              refine j_iload C dX6_tryRooms_76 5 rfl ?_
              refine j_iload C dX6_tryRooms_78 0 rfl ?_
              refine j_ior C (nI 1) dX6_tryRooms_80 (by rcases hg with z | z <;> rw [z.1] <;> decide) ?_
              refine j_istore C [(5, .int (nI 1)), (7, .int (nI 1)), (0, .ref (gA Λ 20 0)), (1, .int (nI 5)), (2, .long (zL ((fb_sm (padd M A) 5 : Nat) : Int))), (4, .int (nI U)), (6, .int (nI to))] dX6_tryRooms_81 (by decide) rfl ?_
              refine j_iinc C [(6, .int (nI (to + 1))), (5, .int (nI 1)), (7, .int (nI 1)), (0, .ref (gA Λ 20 0)), (1, .int (nI 5)), (2, .long (zL ((fb_sm (padd M A) 5 : Nat) : Int))), (4, .int (nI U))] (nI (to + 1)) dX6_tryRooms_83 6 rfl (nI_add _ 1) (by decide) rfl ?_
              refine j_goto (tgt := 6) C dX6_tryRooms_86 (by decide) ?_
              refine j_lv [3, 4, 5, 6, 1, 0] rfl ?_
              exact ih6 u3 1 (to + 1) b3 F3 (by omega) (by omega) (GS.tr hG5 hG3) (fun i hi => by rw [hT3 i (by omega), upA_lt hi]) hb3 hL3 (fun _ => hf3) hM3 (Or.inr ⟨rfl, to, by omega, h25⟩)
  refine j_lv [2, 3, 4, 5, 1, 0] rfl ?_
  exact lb6 _ σ 0 0 b F (Nat.lt_succ_self _) (by omega) GS.rf hTr hbb hL (by rw [he1, node_beg] at hFo; exact hFo) (by rw [he1, node_beg] at hFM; exact hFM) (Or.inl ⟨rfl, fun t ht => absurd ht (Nat.not_lt_zero _)⟩)

set_option maxHeartbeats 4000000 in
set_option maxRecDepth 100000 in
theorem c_tryFrom_5 (l : Launch) (D : va_G) (cy : Nat → ClassId) (base : Nat) (Λ : LY) (σ : HS) (M : MM) (hC : CR noEx Λ σ M) (hB : MBd M) (hm9 : hcN M ≤ 9) (hR1 : 1 ≤ M 31 10) (hR3 : M 31 10 ≤ 3) (e9 : Nat) (hde : hcN M = 5 + e9) (A F : Nat → Nat) (b U : Nat) (hbb : b ≤ 1000000000000000) (hAv : vA (M 31 10) 5 A) (hTr : ∀ i, i < 5 → gI σ 21 0 i = nI (A i)) (hL : gJ σ 20 0 3 = zL (b : Int)) (hFo : 0 < nm (M 31 10) A 5 * M 31 10 ^ e9 → ∀ i, i < hcN M → gI σ 22 0 i = nI (F i)) (hFM : FM M (M 31 10) (hcN M) (nm (M 31 10) A 5 * M 31 10 ^ e9) b F) (hU : U < 64) (bU : ∀ t, U.testBit t = true ↔ fxP M (hcN M) t ∨ ∃ i, i < 5 ∧ A i = t) : Met l yX6_tryFrom wsX6_tryFrom ({ frames := 44, cells := 0, slots := 0, locals := 660 }) (va_Pc [.ref (gA Λ 20 0), .int (nI 5), .long (zL ((fb_sm (padd M A) 5 : Nat) : Int)), .int (nI U)] (Wd D cy base Λ σ)) (va_Qv (fun u => GS σ u ∧ (∀ i, i < 5 → gI u 21 0 i = nI (A i)) ∧ ∃ b2 F2, b2 ≤ 1000000000000000 ∧ gJ u 20 0 3 = zL ((b2 : Nat) : Int) ∧ (∀ i, i < hcN M → gI u 22 0 i = nI (F2 i)) ∧ FM M (M 31 10) (hcN M) ((nm (M 31 10) A 5 + 1) * M 31 10 ^ e9) b2 F2) (Wd D cy base Λ) (Ab base)) 0 0 (Ab base) := by
  refine j_start (cc := cX6_tryFrom) (nL := 5) (ret := none) (lv := [(0, .ref (gA Λ 20 0)), (1, .int (nI 5)), (2, .long (zL ((fb_sm (padd M A) 5 : Nat) : Int))), (4, .int (nI U))]) (by decide) rfl (Nat.le_of_ble_eq_true rfl) rfl ?_
  intro p e s m below meth c C hr hlk hnm
  have C : Cx p s m ([.ref (gA Λ 20 0), .int (nI 5), .long (zL ((fb_sm (padd M A) 5 : Nat) : Int)), .int (nI U)] : List Value).toArray c cX6_tryFrom 5 RX6 wsX6_tryFrom D cy base := C
  have hts := C.2.2.2.2.1
  have hwX4 : ∀ w ∈ u_ws RX4 TX4 6, w ∈ wsX6_tryFrom := by decide +kernel
  have hwX6 : ∀ w ∈ u_ws RX6 TX6 4, w ∈ wsX6_tryFrom := by decide +kernel
  have hM9 : (Cond.fieldLink RX6 9 (TX6 1).1 (TX6 1).2.1 (TX6 1).2.2.1).before ([.ref (gA Λ 20 0), .int (nI 5), .long (zL ((fb_sm (padd M A) 5 : Nat) : Int)), .int (nI U)] : List Value).toArray s = true := hts (.fieldLink RX6 9 "CodeRooms$Search" "trial" "[I") (by decide +kernel)
  have hL9 : FL RX6 9 (TX6 1).1 (TX6 1).2.1 (TX6 1).2.2.1 ([.ref (gA Λ 20 0), .int (nI 5), .long (zL ((fb_sm (padd M A) 5 : Nat) : Int)), .int (nI U)] : List Value).toArray s := Or.inl hM9
  have hM15 : (Cond.fieldLink RX6 15 (TX6 2).1 (TX6 2).2.1 (TX6 2).2.2.1).before ([.ref (gA Λ 20 0), .int (nI 5), .long (zL ((fb_sm (padd M A) 5 : Nat) : Int)), .int (nI U)] : List Value).toArray s = true := hts (.fieldLink RX6 15 "CodeRooms$Search" "found" "[I") (by decide +kernel)
  have hL15 : FL RX6 15 (TX6 2).1 (TX6 2).2.1 (TX6 2).2.2.1 ([.ref (gA Λ 20 0), .int (nI 5), .long (zL ((fb_sm (padd M A) 5 : Nat) : Int)), .int (nI U)] : List Value).toArray s := Or.inl hM15
  have hM18 : (Cond.fieldLink RX6 18 (TX6 0).1 (TX6 0).2.1 (TX6 0).2.2.1).before ([.ref (gA Λ 20 0), .int (nI 5), .long (zL ((fb_sm (padd M A) 5 : Nat) : Int)), .int (nI U)] : List Value).toArray s = true := hts (.fieldLink RX6 18 "CodeRooms$Search" "plan" "LCodeRooms$Plan;") (by decide +kernel)
  have hL18 : FL RX6 18 (TX6 0).1 (TX6 0).2.1 (TX6 0).2.2.1 ([.ref (gA Λ 20 0), .int (nI 5), .long (zL ((fb_sm (padd M A) 5 : Nat) : Int)), .int (nI U)] : List Value).toArray s := Or.inl hM18
  have hL22 : FL RX6 22 (TX4 5).1 (TX4 5).2.1 (TX4 5).2.2.1 ([.ref (gA Λ 20 0), .int (nI 5), .long (zL ((fb_sm (padd M A) 5 : Nat) : Int)), .int (nI U)] : List Value).toArray s := Or.inr ⟨_, Ex.nestF C.2.2.2.2.2.2 nf_X6_22⟩
  have hM36 : (Cond.fieldLink RX6 36 (TX6 3).1 (TX6 3).2.1 (TX6 3).2.2.1).before ([.ref (gA Λ 20 0), .int (nI 5), .long (zL ((fb_sm (padd M A) 5 : Nat) : Int)), .int (nI U)] : List Value).toArray s = true := hts (.fieldLink RX6 36 "CodeRooms$Search" "least" "J") (by decide +kernel)
  have hL36 : FL RX6 36 (TX6 3).1 (TX6 3).2.1 (TX6 3).2.2.1 ([.ref (gA Λ 20 0), .int (nI 5), .long (zL ((fb_sm (padd M A) 5 : Nat) : Int)), .int (nI U)] : List Value).toArray s := Or.inl hM36
  have hn : M 31 5 ≤ 40 := hB 31 5 rfl
  have hhc0 := hcN_le M
  have hS := sm_le hB (A := A) (d := 5) (by omega) (by decide)
  have hKp : b ≠ 1000000000000000 → 0 < nm (M 31 10) A 5 * M 31 10 ^ e9 := fun z => Nat.pos_of_ne_zero (fun q => z (hFM.2.2 q))
  refine j_lload_n C dX6_tryFrom_0 rfl 2 rfl ?_
  refine j_aload_n C dX6_tryFrom_1 rfl 0 rfl ?_
  refine j_getJ C hwX6 20 0 3 (CR.n1 hC (by decide)) rfl rfl (by decide) rfl (zL (b : Int)) hL hL36 dX6_tryFrom_2 ?_
  refine j_lcmp_lt (tgt := 10) C dX6_tryFrom_5 dX6_tryFrom_6 (by decide) ((zL_lt (by omega) (by omega) (by omega) (by omega)).trans Int.ofNat_lt) (fun h5 => ?_) (fun h5 => ?_)
  · refine j_iload_n C dX6_tryFrom_10 rfl 1 rfl ?_
    refine j_aload_n C dX6_tryFrom_11 rfl 0 rfl ?_
    refine j_getV C hwX6 20 0 0 (CR.n1 hC (by decide)) rfl rfl (by decide) rfl 0 (CR.v hC 20 0 0 ⟨rfl, by decide⟩ id) hL18 dX6_tryFrom_12 ?_
    have hhc15 := hcN_le M
    refine j_getI C hwX4 3 0 5 (CR.n1 hC (by decide)) rfl rfl (by decide) rfl (nI (hcN M)) (CR.i hC 3 0 5 ⟨rfl, Or.inr rfl⟩ id) hL22 dX6_tryFrom_15 ?_
    refine j_icmp_ge (tgt := 27) C dX6_tryFrom_18 (by decide) (nI_leI (by omega) (by omega)) (fun h18 => ?_) (fun h18 => ?_)
    · refine j_aload_n C dX6_tryFrom_27 rfl 0 rfl ?_
      refine j_lload_n C dX6_tryFrom_28 rfl 2 rfl ?_
      refine j_putJ C hwX6 20 0 3 (CR.n1 hC (by decide)) rfl rfl (by decide) rfl tyX6 tyX6_ok nmX6 rfl rfl rfl hL36 dX6_tryFrom_29 ?_
      refine j_aload_n C dX6_tryFrom_32 rfl 0 rfl ?_
      refine j_getV C hwX6 20 0 1 (CR.n1 hC (by decide)) rfl rfl (by decide) rfl 0 (CR.v hC 20 0 1 ⟨rfl, by decide⟩ id) hL9 dX6_tryFrom_33 ?_
      refine j_iconst C (nI 0) dX6_tryFrom_36 (by decide) ?_
      refine j_aload_n C dX6_tryFrom_37 rfl 0 rfl ?_
      refine j_getV C hwX6 20 0 2 (CR.n1 hC (by decide)) rfl rfl (by decide) rfl 0 (CR.v hC 20 0 2 ⟨rfl, by decide⟩ id) hL15 dX6_tryFrom_38 ?_
      refine j_iconst C (nI 0) dX6_tryFrom_41 (by decide) ?_
      refine j_bipush C (nI 9) dX6_tryFrom_42 (by decide) ?_
      refine j_cpi C 21 0 22 0 9 (CR.n1 hC (by decide)) (CR.n1 hC (by decide)) rfl rfl rfl rfl (CR.l1 hC (by decide)) (CR.l1 hC (by decide)) (by decide) (by decide +kernel) rfl rfl dX6_tryFrom_44 ?_
      exact j_vret C hr hlk (⟨GS.r (GS.j GS.rf), fun i hi => by rw [gI_sRn (Or.inl (by decide))]; exact hTr i hi, fb_sm (padd M A) 5, A, by omega, gJ_same _ _ _ _ _, fun i hi => by rw [gI_sR]; unfold va_cpy; rw [if_pos (by omega)]; exact (congrArg _ (by omega)).trans (hTr i (by omega)), by have e0 : e9 = 0 := (by omega); subst e0; rw [Nat.pow_zero, Nat.mul_one] at hFM ⊢; rw [show hcN M = 5 from hde] at hFM ⊢; exact FM.leaf hFM hAv h5⟩) dX6_tryFrom_47
    · refine j_iload_n C dX6_tryFrom_21 rfl 1 rfl ?_
      refine j_bipush C (nI 9) dX6_tryFrom_22 (by decide) ?_
      refine j_icmp_lt (tgt := 48) C (P := True) dX6_tryFrom_24 (by decide) (by decide) (fun z => ?_) (fun z => ?_)
      · refine j_aload_n C dX6_tryFrom_48 rfl 0 rfl ?_
        refine j_iload_n C dX6_tryFrom_49 rfl 1 rfl ?_
        refine j_lload_n C dX6_tryFrom_50 rfl 2 rfl ?_
        refine j_iload C dX6_tryFrom_51 3 rfl ?_
        refine c_v0 C (r_V C 20 0 [.int (nI 5), .long (zL ((fb_sm (padd M A) 5 : Nat) : Int)), .int (nI U)] (c_tryRooms_5 l D cy base Λ σ M hC hB hm9 hR1 hR3 e9 hde A F b U hbb hAv hTr hL hFo hFM hU bU (by omega)) (cwV 3 hts gX6_tryFrom_X6_tryRooms rfl rfl rfl (by decide +kernel) ⟨by decide, by decide⟩) (CR.n1 hC (by decide)) rfl rfl rfl rfl (Nat.le_of_ble_eq_true rfl) dX6_tryFrom_53 ⟨by decide, by decide⟩) (fun u3 hp => ?_)
        exact j_vret C hr hlk (hp) dX6_tryFrom_56
      · exact absurd trivial z
  · exact j_vret C hr hlk (⟨GS.rf, hTr, b, F, hbb, hL, hFo (hKp (by omega)), by rw [hde] at hFM ⊢; exact FM.prune hFM hAv rfl (by omega) (by omega) (by omega)⟩) dX6_tryFrom_9

set_option maxHeartbeats 8000000 in
set_option maxRecDepth 100000 in
theorem c_tryRooms_4 (l : Launch) (D : va_G) (cy : Nat → ClassId) (base : Nat) (Λ : LY) (σ : HS) (M : MM) (hC : CR noEx Λ σ M) (hB : MBd M) (hm9 : hcN M ≤ 9) (hR1 : 1 ≤ M 31 10) (hR3 : M 31 10 ≤ 3) (e9 : Nat) (hde : hcN M = 4 + e9) (A F : Nat → Nat) (b U : Nat) (hbb : b ≤ 1000000000000000) (hAv : vA (M 31 10) 4 A) (hTr : ∀ i, i < 4 → gI σ 21 0 i = nI (A i)) (hL : gJ σ 20 0 3 = zL (b : Int)) (hFo : 0 < nm (M 31 10) A 4 * M 31 10 ^ e9 → ∀ i, i < hcN M → gI σ 22 0 i = nI (F i)) (hFM : FM M (M 31 10) (hcN M) (nm (M 31 10) A 4 * M 31 10 ^ e9) b F) (hU : U < 64) (bU : ∀ t, U.testBit t = true ↔ fxP M (hcN M) t ∨ ∃ i, i < 4 ∧ A i = t) (hdd : 4 < hcN M) : Met l yX6_tryRooms wsX6_tryRooms ({ frames := 48, cells := 0, slots := 0, locals := 720 }) (va_Pc [.ref (gA Λ 20 0), .int (nI 4), .long (zL ((fb_sm (padd M A) 4 : Nat) : Int)), .int (nI U)] (Wd D cy base Λ σ)) (va_Qv (fun u => GS σ u ∧ (∀ i, i < 4 → gI u 21 0 i = nI (A i)) ∧ ∃ b2 F2, b2 ≤ 1000000000000000 ∧ gJ u 20 0 3 = zL ((b2 : Nat) : Int) ∧ (∀ i, i < hcN M → gI u 22 0 i = nI (F2 i)) ∧ FM M (M 31 10) (hcN M) ((nm (M 31 10) A 4 + 1) * M 31 10 ^ e9) b2 F2) (Wd D cy base Λ) (Ab base)) 0 0 (Ab base) := by
  refine j_start (cc := cX6_tryRooms) (nL := 8) (ret := none) (lv := [(0, .ref (gA Λ 20 0)), (1, .int (nI 4)), (2, .long (zL ((fb_sm (padd M A) 4 : Nat) : Int))), (4, .int (nI U))]) (by decide) rfl (Nat.le_of_ble_eq_true rfl) rfl ?_
  intro p e s m below meth c C hr hlk hnm
  have C : Cx p s m ([.ref (gA Λ 20 0), .int (nI 4), .long (zL ((fb_sm (padd M A) 4 : Nat) : Int)), .int (nI U)] : List Value).toArray c cX6_tryRooms 8 RX6 wsX6_tryRooms D cy base := C
  have hts := C.2.2.2.2.1
  have hwX6 : ∀ w ∈ u_ws RX6 TX6 4, w ∈ wsX6_tryRooms := by decide +kernel
  have hM9 : (Cond.fieldLink RX6 9 (TX6 1).1 (TX6 1).2.1 (TX6 1).2.2.1).before ([.ref (gA Λ 20 0), .int (nI 4), .long (zL ((fb_sm (padd M A) 4 : Nat) : Int)), .int (nI U)] : List Value).toArray s = true := hts (.fieldLink RX6 9 "CodeRooms$Search" "trial" "[I") (by decide +kernel)
  have hL9 : FL RX6 9 (TX6 1).1 (TX6 1).2.1 (TX6 1).2.2.1 ([.ref (gA Λ 20 0), .int (nI 4), .long (zL ((fb_sm (padd M A) 4 : Nat) : Int)), .int (nI U)] : List Value).toArray s := Or.inl hM9
  have hM18 : (Cond.fieldLink RX6 18 (TX6 0).1 (TX6 0).2.1 (TX6 0).2.2.1).before ([.ref (gA Λ 20 0), .int (nI 4), .long (zL ((fb_sm (padd M A) 4 : Nat) : Int)), .int (nI U)] : List Value).toArray s = true := hts (.fieldLink RX6 18 "CodeRooms$Search" "plan" "LCodeRooms$Plan;") (by decide +kernel)
  have hL18 : FL RX6 18 (TX6 0).1 (TX6 0).2.1 (TX6 0).2.2.1 ([.ref (gA Λ 20 0), .int (nI 4), .long (zL ((fb_sm (padd M A) 4 : Nat) : Int)), .int (nI U)] : List Value).toArray s := Or.inl hM18
  have hn : M 31 5 ≤ 40 := hB 31 5 rfl
  have hhc0 := hcN_le M
  obtain ⟨e1, he1⟩ : ∃ e1, e9 = e1 + 1 := ⟨e9 - 1, by omega⟩
  refine j_iconst C (nI 0) dX6_tryRooms_0 (by decide) ?_
  refine j_istore C [(5, .int (nI 0)), (0, .ref (gA Λ 20 0)), (1, .int (nI 4)), (2, .long (zL ((fb_sm (padd M A) 4 : Nat) : Int))), (4, .int (nI U))] dX6_tryRooms_1 (by decide) rfl ?_
  refine j_iconst C (nI 0) dX6_tryRooms_3 (by decide) ?_
  refine j_istore C [(6, .int (nI 0)), (5, .int (nI 0)), (0, .ref (gA Λ 20 0)), (1, .int (nI 4)), (2, .long (zL ((fb_sm (padd M A) 4 : Nat) : Int))), (4, .int (nI U))] dX6_tryRooms_4 (by decide) rfl ?_
  have lb6 : ∀ (fu : Nat) (σ1 : HS) (g to : Nat) (b1 : Nat) (F1 : Nat → Nat), (M 31 10 - to) < fu → (to ≤ M 31 10) → (GS σ σ1) → (∀ i, i < 4 → gI σ1 21 0 i = nI (A i)) → (b1 ≤ 1000000000000000) → (gJ σ1 20 0 3 = zL (b1 : Int)) → (0 < (nm (M 31 10) A 4 * M 31 10 + to) * M 31 10 ^ e1 → ∀ i, i < hcN M → gI σ1 22 0 i = nI (F1 i)) → (FM M (M 31 10) (hcN M) ((nm (M 31 10) A 4 * M 31 10 + to) * M 31 10 ^ e1) b1 F1) → ((g = 0 ∧ ∀ t, t < to → U.testBit t = true) ∨ (g = 1 ∧ ∃ t, t < to ∧ U.testBit t = false)) → J p l e ({ frames := 48, cells := 0, slots := 0, locals := 720 }) s m ([.ref (gA Λ 20 0), .int (nI 4), .long (zL ((fb_sm (padd M A) 4 : Nat) : Int)), .int (nI U)] : List Value).toArray below meth c 8 D cy base (MQ below (va_Qv (fun u => GS σ u ∧ (∀ i, i < 4 → gI u 21 0 i = nI (A i)) ∧ ∃ b2 F2, b2 ≤ 1000000000000000 ∧ gJ u 20 0 3 = zL ((b2 : Nat) : Int) ∧ (∀ i, i < hcN M → gI u 22 0 i = nI (F2 i)) ∧ FM M (M 31 10) (hcN M) ((nm (M 31 10) A 4 + 1) * M 31 10 ^ e9) b2 F2) (Wd D cy base Λ) (Ab base)) ([.ref (gA Λ 20 0), .int (nI 4), .long (zL ((fb_sm (padd M A) 4 : Nat) : Int)), .int (nI U)] : List Value).toArray s 0 0 (Ab base)) 0 0 Λ 6 [(0, .ref (gA Λ 20 0)), (1, .int (nI 4)), (2, .long (zL ((fb_sm (padd M A) 4 : Nat) : Int))), (4, .int (nI U)), (5, .int (nI g)), (6, .int (nI to))] [] σ1 := by
    intro fu
    induction fu with
    | zero => intro σ1 g to b1 F1 hfu; exact absurd hfu (Nat.not_lt_zero _)
    | succ fu ih =>
      intro σ1 g to b1 F1 hfu hto hG1 hT1 hb1 hL1 hF1 hM1 hg
      have ih6 := ih
      refine j_iload C dX6_tryRooms_6 5 rfl ?_
      refine j_aload_n C dX6_tryRooms_8 rfl 0 rfl ?_
      refine j_getV C hwX6 20 0 0 (CR.n1 (hG1.cr hC) (by decide)) rfl rfl (by decide) rfl 0 (CR.v (hG1.cr hC) 20 0 0 ⟨rfl, by decide⟩ id) hL18 dX6_tryRooms_9 ?_
      refine c_i0 C (r_V C 3 0 [] (c_X4_roomCount l D cy base Λ σ1 M (hG1.cr hC) hB) (cwV 0 hts gX6_tryRooms_X4_roomCount rfl rfl rfl (by decide +kernel) ⟨by decide, by decide⟩) (CR.n1 (hG1.cr hC) (by decide)) rfl rfl rfl rfl (Nat.le_of_ble_eq_true rfl) dX6_tryRooms_12 ⟨by decide, by decide⟩) (fun rv uu hp => ?_)
      rw [hp.1, hp.2]
      refine j_icmp_ge (tgt := 89) C dX6_tryRooms_15 (by decide) (nI_leI (by omega) (by omega)) (fun h15 => ?_) (fun h15 => ?_)
      · exact j_vret C hr hlk (⟨hG1, hT1, b1, F1, hb1, hL1, hF1 (Nat.mul_pos (by omega) (Nat.pow_pos (by omega))), by have q := hM1; rw [show to = M 31 10 by omega, node_end, ← he1] at q; exact q⟩) dX6_tryRooms_89
      · refine j_iload C dX6_tryRooms_18 3 rfl ?_
        refine j_iconst C (nI 1) dX6_tryRooms_20 (by decide) ?_
        refine j_iload C dX6_tryRooms_21 5 rfl ?_
        refine j_ishl C (nI (2 ^ to)) dX6_tryRooms_23 (shl1 (by omega)) ?_
        refine j_iand C (nI U &&& nI (2 ^ to)) dX6_tryRooms_24 rfl ?_
        refine j_if_ne (tgt := 32) C dX6_tryRooms_25 (by decide) (and_bit (by omega)) (fun h25 => ?_) (fun h25 => ?_)
        · refine j_iconst C (nI 0) dX6_tryRooms_32 (by decide) ?_
          refine j_istore C [(7, .int (nI 0)), (0, .ref (gA Λ 20 0)), (1, .int (nI 4)), (2, .long (zL ((fb_sm (padd M A) 4 : Nat) : Int))), (4, .int (nI U)), (5, .int (nI g)), (6, .int (nI to))] dX6_tryRooms_33 (by decide) rfl ?_
          refine j_iload C dX6_tryRooms_35 0 rfl ?_
          refine j_if_eq (tgt := 45) C (P := True) dX6_tryRooms_37 (by decide) (by decide) (fun z => ?_) (fun z => ?_)
          · refine j_aload_n C dX6_tryRooms_45 rfl 1 rfl ?_
            refine j_getV C hwX6 20 0 1 (CR.n1 (hG1.cr hC) (by decide)) rfl rfl (by decide) rfl 0 (CR.v (hG1.cr hC) 20 0 1 ⟨rfl, by decide⟩ id) hL9 dX6_tryRooms_46 ?_
            refine j_iload_n C dX6_tryRooms_49 rfl 2 rfl ?_
            refine j_iload C dX6_tryRooms_50 6 rfl ?_
            refine j_iast C 21 0 4 (CR.n1 (hG1.cr hC) (by decide)) rfl rfl 9 (CR.l1 (hG1.cr hC) (by decide)) (by omega) (by omega) (nI to) rfl dX6_tryRooms_52 ?_
            refine j_aload_n C dX6_tryRooms_53 rfl 1 rfl ?_
            refine j_iload_n C dX6_tryRooms_54 rfl 2 rfl ?_
            refine j_iconst C (nI 1) dX6_tryRooms_55 (by decide) ?_
            refine j_iadd C (nI 5) dX6_tryRooms_56 (by decide) ?_
            refine j_lload_n C dX6_tryRooms_57 rfl 3 rfl ?_
            refine j_aload_n C dX6_tryRooms_58 rfl 1 rfl ?_
            refine j_iload_n C dX6_tryRooms_59 rfl 2 rfl ?_
            refine j_iload C dX6_tryRooms_60 6 rfl ?_
            have hTu : ∀ i, i < 4 → gI (sI σ1 21 0 4 (nI to)) 21 0 i = nI (upA A 4 to i) := fun i hi => by rw [upA_lt hi, gI_sI, if_neg (by omega)]; exact hT1 i hi
            have hvu := vA_up hAv (show to < M 31 10 by omega)
            have hG5 := GS.i (k := 4) (x := nI to) hG1
            refine c_l0 C (r_V C 20 0 [.int (nI 4), .int (nI to)] (c_price l D cy base Λ (sI σ1 21 0 4 (nI to)) M (hG5.cr hC) hB (upA A 4 to) 4 (by omega) (by decide) (fun i hi => Nat.lt_of_lt_of_le (hvu i (by omega)) (by omega)) hTu to upA_d) (cwV 2 hts gX6_tryRooms_X6_priceOfAdding rfl rfl rfl (by decide +kernel) ⟨by decide, by decide⟩) (CR.n1 (hG1.cr hC) (by decide)) rfl rfl rfl rfl (Nat.le_of_ble_eq_true rfl) dX6_tryRooms_62 ⟨by decide, by decide⟩) (fun rv uu hp => ?_)
            rw [hp.1, hp.2]
            refine j_ladd C (zL ((fb_sm (padd M (upA A 4 to)) 5 : Nat) : Int)) dX6_tryRooms_65 ((zL_add _ _).trans (congrArg zL (by rw [sm_up]; omega))) ?_
            refine j_iload C dX6_tryRooms_66 4 rfl ?_
            refine j_iconst C (nI 1) dX6_tryRooms_68 (by decide) ?_
            refine j_iload C dX6_tryRooms_69 6 rfl ?_
            refine j_ishl C (nI (2 ^ to)) dX6_tryRooms_71 (shl1 (by omega)) ?_
            refine j_ior C (nI (U ||| 2 ^ to)) dX6_tryRooms_72 (fa_or _ _) ?_
            have hTv : ∀ i, i < 5 → gI (sI σ1 21 0 4 (nI to)) 21 0 i = nI (upA A 4 to i) := fun i hi => by by_cases e8 : i = 4; rw [e8, upA_d]; exact gI_same _ _ _ _ _; exact hTu i (by omega)
            refine c_v0 C (r_V C 20 0 [.int (nI 5), .long (zL ((fb_sm (padd M (upA A 4 to)) 5 : Nat) : Int)), .int (nI (U ||| 2 ^ to))] (c_tryFrom_5 l D cy base Λ (sI σ1 21 0 4 (nI to)) M (hG5.cr hC) hB hm9 hR1 hR3 e1 (by omega) (upA A 4 to) F1 b1 (U ||| 2 ^ to) hb1 hvu hTv hL1 (by rw [nm_up]; exact hF1) (by rw [nm_up]; exact hM1) (or_lt hU (pow6 (by omega))) (fun t => by rw [bit_or_pow, Bool.or_eq_true, decide_eq_true_eq, bU]; exact bitU_up)) (cwV 3 hts gX6_tryRooms_X6_tryFrom rfl rfl rfl (by decide +kernel) ⟨by decide, by decide⟩) (CR.n1 (hG1.cr hC) (by decide)) rfl rfl rfl rfl (Nat.le_of_ble_eq_true rfl) dX6_tryRooms_73 ⟨by decide, by decide⟩) (fun u3 hp => ?_)
            obtain ⟨hG3, hT3, b3, F3, hb3, hL3, hf3, hM3⟩ := hp
            rw [nm_up] at hM3
            skip
            refine j_iload C dX6_tryRooms_76 5 rfl ?_
            refine j_iload C dX6_tryRooms_78 0 rfl ?_
            refine j_ior C (nI g) dX6_tryRooms_80 (by rcases hg with z | z <;> rw [z.1] <;> decide) ?_
            refine j_istore C [(5, .int (nI g)), (7, .int (nI 0)), (0, .ref (gA Λ 20 0)), (1, .int (nI 4)), (2, .long (zL ((fb_sm (padd M A) 4 : Nat) : Int))), (4, .int (nI U)), (6, .int (nI to))] dX6_tryRooms_81 (by decide) rfl ?_
            refine j_iinc C [(6, .int (nI (to + 1))), (5, .int (nI g)), (7, .int (nI 0)), (0, .ref (gA Λ 20 0)), (1, .int (nI 4)), (2, .long (zL ((fb_sm (padd M A) 4 : Nat) : Int))), (4, .int (nI U))] (nI (to + 1)) dX6_tryRooms_83 6 rfl (nI_add _ 1) (by decide) rfl ?_
            refine j_goto (tgt := 6) C dX6_tryRooms_86 (by decide) ?_
            refine j_lv [3, 4, 5, 6, 1, 0] rfl ?_
            exact ih6 u3 g (to + 1) b3 F3 (by omega) (by omega) (GS.tr hG5 hG3) (fun i hi => by rw [hT3 i (by omega), upA_lt hi]) hb3 hL3 (fun _ => hf3) hM3 (by rcases hg with ⟨z1, z2⟩ | ⟨z1, z2, z3, z4⟩; exact Or.inl ⟨z1, fun t ht => by by_cases e8 : t = to; rw [e8]; simpa using h25; exact z2 t (by omega)⟩; exact Or.inr ⟨z1, z2, by omega, z4⟩)
          · exact absurd trivial z
        · refine j_iconst C (nI 1) dX6_tryRooms_28 (by decide) ?_
          refine j_goto (tgt := 33) C dX6_tryRooms_29 (by decide) ?_
          refine j_istore C [(7, .int (nI 1)), (0, .ref (gA Λ 20 0)), (1, .int (nI 4)), (2, .long (zL ((fb_sm (padd M A) 4 : Nat) : Int))), (4, .int (nI U)), (5, .int (nI g)), (6, .int (nI to))] dX6_tryRooms_33 (by decide) rfl ?_
          refine j_iload C dX6_tryRooms_35 0 rfl ?_
          refine j_if_eq (tgt := 45) C (P := False) dX6_tryRooms_37 (by decide) (by decide) (fun z => ?_) (fun z => ?_)
          · exact z.elim
          · refine j_iload C dX6_tryRooms_40 5 rfl ?_
            refine j_if_ne (tgt := 76) C dX6_tryRooms_42 (by decide) (nJ_ne0 (by rcases hg with z | z <;> omega)) (fun h42 => ?_) (fun h42 => ?_)
            · obtain ⟨xx, hxx, bxx⟩ : ∃ t, t < to ∧ U.testBit t = false := by
                rcases hg with z | z
                · exact absurd z.1 h42
                · exact z.2
              have hKt : 0 < (nm (M 31 10) A 4 * M 31 10 + to) * M 31 10 ^ e1 := Nat.mul_pos (by omega) (Nat.pow_pos (by omega))
              have hbs := FM.small hB hm9 hM1 hKt
              have nx : ∀ t, U.testBit t = false → (∀ k, k < hcN M → M 40 (hs M k) ≠ t + 1) ∧ ∀ i, i < 4 → A i ≠ t := fun t ht => by
                have q : ¬ (fxP M (hcN M) t ∨ ∃ i, i < 4 ∧ A i = t) := fun z => by rw [(bU t).mpr z] at ht; exact absurd ht (by decide)
                exact ⟨fun k hk z => q (Or.inl ⟨k, hk, z⟩), fun i hi z => q (Or.inr ⟨i, hi, z⟩)⟩
              have hsk : FM M (M 31 10) (hcN M) ((nm (M 31 10) A 4 * M 31 10 + (to + 1)) * M 31 10 ^ e1) b1 F1 := by
                have hm0 := hM1
                have hc0 : hcN M = 4 + 1 + e1 := by omega
                have n1 := nx xx bxx
                have n2 := nx to h25
                rw [hc0] at hm0 n1 n2 ⊢
                exact FM.skip hm0 hAv rfl hxx (by omega) n1.2 n2.2 n1.1 n2.1 (by omega)
              refine j_iload C dX6_tryRooms_76 5 rfl ?_
              refine j_iload C dX6_tryRooms_78 0 rfl ?_
              refine j_ior C (nI 1) dX6_tryRooms_80 (by rcases hg with z | z <;> rw [z.1] <;> decide) ?_
              refine j_istore C [(5, .int (nI 1)), (7, .int (nI 1)), (0, .ref (gA Λ 20 0)), (1, .int (nI 4)), (2, .long (zL ((fb_sm (padd M A) 4 : Nat) : Int))), (4, .int (nI U)), (6, .int (nI to))] dX6_tryRooms_81 (by decide) rfl ?_
              refine j_iinc C [(6, .int (nI (to + 1))), (5, .int (nI 1)), (7, .int (nI 1)), (0, .ref (gA Λ 20 0)), (1, .int (nI 4)), (2, .long (zL ((fb_sm (padd M A) 4 : Nat) : Int))), (4, .int (nI U))] (nI (to + 1)) dX6_tryRooms_83 6 rfl (nI_add _ 1) (by decide) rfl ?_
              refine j_goto (tgt := 6) C dX6_tryRooms_86 (by decide) ?_
              refine j_lv [3, 4, 5, 6, 1, 0] rfl ?_
              exact ih6 σ1 1 (to + 1) b1 F1 (by omega) (by omega) hG1 hT1 hb1 hL1 (fun _ => hF1 hKt) hsk (Or.inr ⟨rfl, to, by omega, h25⟩)
            · refine j_aload_n C dX6_tryRooms_45 rfl 1 rfl ?_
              refine j_getV C hwX6 20 0 1 (CR.n1 (hG1.cr hC) (by decide)) rfl rfl (by decide) rfl 0 (CR.v (hG1.cr hC) 20 0 1 ⟨rfl, by decide⟩ id) hL9 dX6_tryRooms_46 ?_
              refine j_iload_n C dX6_tryRooms_49 rfl 2 rfl ?_
              refine j_iload C dX6_tryRooms_50 6 rfl ?_
              refine j_iast C 21 0 4 (CR.n1 (hG1.cr hC) (by decide)) rfl rfl 9 (CR.l1 (hG1.cr hC) (by decide)) (by omega) (by omega) (nI to) rfl dX6_tryRooms_52 ?_
              refine j_aload_n C dX6_tryRooms_53 rfl 1 rfl ?_
              refine j_iload_n C dX6_tryRooms_54 rfl 2 rfl ?_
              refine j_iconst C (nI 1) dX6_tryRooms_55 (by decide) ?_
              refine j_iadd C (nI 5) dX6_tryRooms_56 (by decide) ?_
              refine j_lload_n C dX6_tryRooms_57 rfl 3 rfl ?_
              refine j_aload_n C dX6_tryRooms_58 rfl 1 rfl ?_
              refine j_iload_n C dX6_tryRooms_59 rfl 2 rfl ?_
              refine j_iload C dX6_tryRooms_60 6 rfl ?_
              have hTu : ∀ i, i < 4 → gI (sI σ1 21 0 4 (nI to)) 21 0 i = nI (upA A 4 to i) := fun i hi => by rw [upA_lt hi, gI_sI, if_neg (by omega)]; exact hT1 i hi
              have hvu := vA_up hAv (show to < M 31 10 by omega)
              have hG5 := GS.i (k := 4) (x := nI to) hG1
              refine c_l0 C (r_V C 20 0 [.int (nI 4), .int (nI to)] (c_price l D cy base Λ (sI σ1 21 0 4 (nI to)) M (hG5.cr hC) hB (upA A 4 to) 4 (by omega) (by decide) (fun i hi => Nat.lt_of_lt_of_le (hvu i (by omega)) (by omega)) hTu to upA_d) (cwV 2 hts gX6_tryRooms_X6_priceOfAdding rfl rfl rfl (by decide +kernel) ⟨by decide, by decide⟩) (CR.n1 (hG1.cr hC) (by decide)) rfl rfl rfl rfl (Nat.le_of_ble_eq_true rfl) dX6_tryRooms_62 ⟨by decide, by decide⟩) (fun rv uu hp => ?_)
              rw [hp.1, hp.2]
              refine j_ladd C (zL ((fb_sm (padd M (upA A 4 to)) 5 : Nat) : Int)) dX6_tryRooms_65 ((zL_add _ _).trans (congrArg zL (by rw [sm_up]; omega))) ?_
              refine j_iload C dX6_tryRooms_66 4 rfl ?_
              refine j_iconst C (nI 1) dX6_tryRooms_68 (by decide) ?_
              refine j_iload C dX6_tryRooms_69 6 rfl ?_
              refine j_ishl C (nI (2 ^ to)) dX6_tryRooms_71 (shl1 (by omega)) ?_
              refine j_ior C (nI (U ||| 2 ^ to)) dX6_tryRooms_72 (fa_or _ _) ?_
              have hTv : ∀ i, i < 5 → gI (sI σ1 21 0 4 (nI to)) 21 0 i = nI (upA A 4 to i) := fun i hi => by by_cases e8 : i = 4; rw [e8, upA_d]; exact gI_same _ _ _ _ _; exact hTu i (by omega)
              refine c_v0 C (r_V C 20 0 [.int (nI 5), .long (zL ((fb_sm (padd M (upA A 4 to)) 5 : Nat) : Int)), .int (nI (U ||| 2 ^ to))] (c_tryFrom_5 l D cy base Λ (sI σ1 21 0 4 (nI to)) M (hG5.cr hC) hB hm9 hR1 hR3 e1 (by omega) (upA A 4 to) F1 b1 (U ||| 2 ^ to) hb1 hvu hTv hL1 (by rw [nm_up]; exact hF1) (by rw [nm_up]; exact hM1) (or_lt hU (pow6 (by omega))) (fun t => by rw [bit_or_pow, Bool.or_eq_true, decide_eq_true_eq, bU]; exact bitU_up)) (cwV 3 hts gX6_tryRooms_X6_tryFrom rfl rfl rfl (by decide +kernel) ⟨by decide, by decide⟩) (CR.n1 (hG1.cr hC) (by decide)) rfl rfl rfl rfl (Nat.le_of_ble_eq_true rfl) dX6_tryRooms_73 ⟨by decide, by decide⟩) (fun u3 hp => ?_)
              obtain ⟨hG3, hT3, b3, F3, hb3, hL3, hf3, hM3⟩ := hp
              rw [nm_up] at hM3
              skip
              refine j_iload C dX6_tryRooms_76 5 rfl ?_
              refine j_iload C dX6_tryRooms_78 0 rfl ?_
              refine j_ior C (nI 1) dX6_tryRooms_80 (by rcases hg with z | z <;> rw [z.1] <;> decide) ?_
              refine j_istore C [(5, .int (nI 1)), (7, .int (nI 1)), (0, .ref (gA Λ 20 0)), (1, .int (nI 4)), (2, .long (zL ((fb_sm (padd M A) 4 : Nat) : Int))), (4, .int (nI U)), (6, .int (nI to))] dX6_tryRooms_81 (by decide) rfl ?_
              refine j_iinc C [(6, .int (nI (to + 1))), (5, .int (nI 1)), (7, .int (nI 1)), (0, .ref (gA Λ 20 0)), (1, .int (nI 4)), (2, .long (zL ((fb_sm (padd M A) 4 : Nat) : Int))), (4, .int (nI U))] (nI (to + 1)) dX6_tryRooms_83 6 rfl (nI_add _ 1) (by decide) rfl ?_
              refine j_goto (tgt := 6) C dX6_tryRooms_86 (by decide) ?_
              refine j_lv [3, 4, 5, 6, 1, 0] rfl ?_
              exact ih6 u3 1 (to + 1) b3 F3 (by omega) (by omega) (GS.tr hG5 hG3) (fun i hi => by rw [hT3 i (by omega), upA_lt hi]) hb3 hL3 (fun _ => hf3) hM3 (Or.inr ⟨rfl, to, by omega, h25⟩)
  refine j_lv [2, 3, 4, 5, 1, 0] rfl ?_
  exact lb6 _ σ 0 0 b F (Nat.lt_succ_self _) (by omega) GS.rf hTr hbb hL (by rw [he1, node_beg] at hFo; exact hFo) (by rw [he1, node_beg] at hFM; exact hFM) (Or.inl ⟨rfl, fun t ht => absurd ht (Nat.not_lt_zero _)⟩)

set_option maxHeartbeats 4000000 in
set_option maxRecDepth 100000 in
theorem c_tryFrom_4 (l : Launch) (D : va_G) (cy : Nat → ClassId) (base : Nat) (Λ : LY) (σ : HS) (M : MM) (hC : CR noEx Λ σ M) (hB : MBd M) (hm9 : hcN M ≤ 9) (hR1 : 1 ≤ M 31 10) (hR3 : M 31 10 ≤ 3) (e9 : Nat) (hde : hcN M = 4 + e9) (A F : Nat → Nat) (b U : Nat) (hbb : b ≤ 1000000000000000) (hAv : vA (M 31 10) 4 A) (hTr : ∀ i, i < 4 → gI σ 21 0 i = nI (A i)) (hL : gJ σ 20 0 3 = zL (b : Int)) (hFo : 0 < nm (M 31 10) A 4 * M 31 10 ^ e9 → ∀ i, i < hcN M → gI σ 22 0 i = nI (F i)) (hFM : FM M (M 31 10) (hcN M) (nm (M 31 10) A 4 * M 31 10 ^ e9) b F) (hU : U < 64) (bU : ∀ t, U.testBit t = true ↔ fxP M (hcN M) t ∨ ∃ i, i < 4 ∧ A i = t) : Met l yX6_tryFrom wsX6_tryFrom ({ frames := 52, cells := 0, slots := 0, locals := 780 }) (va_Pc [.ref (gA Λ 20 0), .int (nI 4), .long (zL ((fb_sm (padd M A) 4 : Nat) : Int)), .int (nI U)] (Wd D cy base Λ σ)) (va_Qv (fun u => GS σ u ∧ (∀ i, i < 4 → gI u 21 0 i = nI (A i)) ∧ ∃ b2 F2, b2 ≤ 1000000000000000 ∧ gJ u 20 0 3 = zL ((b2 : Nat) : Int) ∧ (∀ i, i < hcN M → gI u 22 0 i = nI (F2 i)) ∧ FM M (M 31 10) (hcN M) ((nm (M 31 10) A 4 + 1) * M 31 10 ^ e9) b2 F2) (Wd D cy base Λ) (Ab base)) 0 0 (Ab base) := by
  refine j_start (cc := cX6_tryFrom) (nL := 5) (ret := none) (lv := [(0, .ref (gA Λ 20 0)), (1, .int (nI 4)), (2, .long (zL ((fb_sm (padd M A) 4 : Nat) : Int))), (4, .int (nI U))]) (by decide) rfl (Nat.le_of_ble_eq_true rfl) rfl ?_
  intro p e s m below meth c C hr hlk hnm
  have C : Cx p s m ([.ref (gA Λ 20 0), .int (nI 4), .long (zL ((fb_sm (padd M A) 4 : Nat) : Int)), .int (nI U)] : List Value).toArray c cX6_tryFrom 5 RX6 wsX6_tryFrom D cy base := C
  have hts := C.2.2.2.2.1
  have hwX4 : ∀ w ∈ u_ws RX4 TX4 6, w ∈ wsX6_tryFrom := by decide +kernel
  have hwX6 : ∀ w ∈ u_ws RX6 TX6 4, w ∈ wsX6_tryFrom := by decide +kernel
  have hM9 : (Cond.fieldLink RX6 9 (TX6 1).1 (TX6 1).2.1 (TX6 1).2.2.1).before ([.ref (gA Λ 20 0), .int (nI 4), .long (zL ((fb_sm (padd M A) 4 : Nat) : Int)), .int (nI U)] : List Value).toArray s = true := hts (.fieldLink RX6 9 "CodeRooms$Search" "trial" "[I") (by decide +kernel)
  have hL9 : FL RX6 9 (TX6 1).1 (TX6 1).2.1 (TX6 1).2.2.1 ([.ref (gA Λ 20 0), .int (nI 4), .long (zL ((fb_sm (padd M A) 4 : Nat) : Int)), .int (nI U)] : List Value).toArray s := Or.inl hM9
  have hM15 : (Cond.fieldLink RX6 15 (TX6 2).1 (TX6 2).2.1 (TX6 2).2.2.1).before ([.ref (gA Λ 20 0), .int (nI 4), .long (zL ((fb_sm (padd M A) 4 : Nat) : Int)), .int (nI U)] : List Value).toArray s = true := hts (.fieldLink RX6 15 "CodeRooms$Search" "found" "[I") (by decide +kernel)
  have hL15 : FL RX6 15 (TX6 2).1 (TX6 2).2.1 (TX6 2).2.2.1 ([.ref (gA Λ 20 0), .int (nI 4), .long (zL ((fb_sm (padd M A) 4 : Nat) : Int)), .int (nI U)] : List Value).toArray s := Or.inl hM15
  have hM18 : (Cond.fieldLink RX6 18 (TX6 0).1 (TX6 0).2.1 (TX6 0).2.2.1).before ([.ref (gA Λ 20 0), .int (nI 4), .long (zL ((fb_sm (padd M A) 4 : Nat) : Int)), .int (nI U)] : List Value).toArray s = true := hts (.fieldLink RX6 18 "CodeRooms$Search" "plan" "LCodeRooms$Plan;") (by decide +kernel)
  have hL18 : FL RX6 18 (TX6 0).1 (TX6 0).2.1 (TX6 0).2.2.1 ([.ref (gA Λ 20 0), .int (nI 4), .long (zL ((fb_sm (padd M A) 4 : Nat) : Int)), .int (nI U)] : List Value).toArray s := Or.inl hM18
  have hL22 : FL RX6 22 (TX4 5).1 (TX4 5).2.1 (TX4 5).2.2.1 ([.ref (gA Λ 20 0), .int (nI 4), .long (zL ((fb_sm (padd M A) 4 : Nat) : Int)), .int (nI U)] : List Value).toArray s := Or.inr ⟨_, Ex.nestF C.2.2.2.2.2.2 nf_X6_22⟩
  have hM36 : (Cond.fieldLink RX6 36 (TX6 3).1 (TX6 3).2.1 (TX6 3).2.2.1).before ([.ref (gA Λ 20 0), .int (nI 4), .long (zL ((fb_sm (padd M A) 4 : Nat) : Int)), .int (nI U)] : List Value).toArray s = true := hts (.fieldLink RX6 36 "CodeRooms$Search" "least" "J") (by decide +kernel)
  have hL36 : FL RX6 36 (TX6 3).1 (TX6 3).2.1 (TX6 3).2.2.1 ([.ref (gA Λ 20 0), .int (nI 4), .long (zL ((fb_sm (padd M A) 4 : Nat) : Int)), .int (nI U)] : List Value).toArray s := Or.inl hM36
  have hn : M 31 5 ≤ 40 := hB 31 5 rfl
  have hhc0 := hcN_le M
  have hS := sm_le hB (A := A) (d := 4) (by omega) (by decide)
  have hKp : b ≠ 1000000000000000 → 0 < nm (M 31 10) A 4 * M 31 10 ^ e9 := fun z => Nat.pos_of_ne_zero (fun q => z (hFM.2.2 q))
  refine j_lload_n C dX6_tryFrom_0 rfl 2 rfl ?_
  refine j_aload_n C dX6_tryFrom_1 rfl 0 rfl ?_
  refine j_getJ C hwX6 20 0 3 (CR.n1 hC (by decide)) rfl rfl (by decide) rfl (zL (b : Int)) hL hL36 dX6_tryFrom_2 ?_
  refine j_lcmp_lt (tgt := 10) C dX6_tryFrom_5 dX6_tryFrom_6 (by decide) ((zL_lt (by omega) (by omega) (by omega) (by omega)).trans Int.ofNat_lt) (fun h5 => ?_) (fun h5 => ?_)
  · refine j_iload_n C dX6_tryFrom_10 rfl 1 rfl ?_
    refine j_aload_n C dX6_tryFrom_11 rfl 0 rfl ?_
    refine j_getV C hwX6 20 0 0 (CR.n1 hC (by decide)) rfl rfl (by decide) rfl 0 (CR.v hC 20 0 0 ⟨rfl, by decide⟩ id) hL18 dX6_tryFrom_12 ?_
    have hhc15 := hcN_le M
    refine j_getI C hwX4 3 0 5 (CR.n1 hC (by decide)) rfl rfl (by decide) rfl (nI (hcN M)) (CR.i hC 3 0 5 ⟨rfl, Or.inr rfl⟩ id) hL22 dX6_tryFrom_15 ?_
    refine j_icmp_ge (tgt := 27) C dX6_tryFrom_18 (by decide) (nI_leI (by omega) (by omega)) (fun h18 => ?_) (fun h18 => ?_)
    · refine j_aload_n C dX6_tryFrom_27 rfl 0 rfl ?_
      refine j_lload_n C dX6_tryFrom_28 rfl 2 rfl ?_
      refine j_putJ C hwX6 20 0 3 (CR.n1 hC (by decide)) rfl rfl (by decide) rfl tyX6 tyX6_ok nmX6 rfl rfl rfl hL36 dX6_tryFrom_29 ?_
      refine j_aload_n C dX6_tryFrom_32 rfl 0 rfl ?_
      refine j_getV C hwX6 20 0 1 (CR.n1 hC (by decide)) rfl rfl (by decide) rfl 0 (CR.v hC 20 0 1 ⟨rfl, by decide⟩ id) hL9 dX6_tryFrom_33 ?_
      refine j_iconst C (nI 0) dX6_tryFrom_36 (by decide) ?_
      refine j_aload_n C dX6_tryFrom_37 rfl 0 rfl ?_
      refine j_getV C hwX6 20 0 2 (CR.n1 hC (by decide)) rfl rfl (by decide) rfl 0 (CR.v hC 20 0 2 ⟨rfl, by decide⟩ id) hL15 dX6_tryFrom_38 ?_
      refine j_iconst C (nI 0) dX6_tryFrom_41 (by decide) ?_
      refine j_bipush C (nI 9) dX6_tryFrom_42 (by decide) ?_
      refine j_cpi C 21 0 22 0 9 (CR.n1 hC (by decide)) (CR.n1 hC (by decide)) rfl rfl rfl rfl (CR.l1 hC (by decide)) (CR.l1 hC (by decide)) (by decide) (by decide +kernel) rfl rfl dX6_tryFrom_44 ?_
      exact j_vret C hr hlk (⟨GS.r (GS.j GS.rf), fun i hi => by rw [gI_sRn (Or.inl (by decide))]; exact hTr i hi, fb_sm (padd M A) 4, A, by omega, gJ_same _ _ _ _ _, fun i hi => by rw [gI_sR]; unfold va_cpy; rw [if_pos (by omega)]; exact (congrArg _ (by omega)).trans (hTr i (by omega)), by have e0 : e9 = 0 := (by omega); subst e0; rw [Nat.pow_zero, Nat.mul_one] at hFM ⊢; rw [show hcN M = 4 from hde] at hFM ⊢; exact FM.leaf hFM hAv h5⟩) dX6_tryFrom_47
    · refine j_iload_n C dX6_tryFrom_21 rfl 1 rfl ?_
      refine j_bipush C (nI 9) dX6_tryFrom_22 (by decide) ?_
      refine j_icmp_lt (tgt := 48) C (P := True) dX6_tryFrom_24 (by decide) (by decide) (fun z => ?_) (fun z => ?_)
      · refine j_aload_n C dX6_tryFrom_48 rfl 0 rfl ?_
        refine j_iload_n C dX6_tryFrom_49 rfl 1 rfl ?_
        refine j_lload_n C dX6_tryFrom_50 rfl 2 rfl ?_
        refine j_iload C dX6_tryFrom_51 3 rfl ?_
        refine c_v0 C (r_V C 20 0 [.int (nI 4), .long (zL ((fb_sm (padd M A) 4 : Nat) : Int)), .int (nI U)] (c_tryRooms_4 l D cy base Λ σ M hC hB hm9 hR1 hR3 e9 hde A F b U hbb hAv hTr hL hFo hFM hU bU (by omega)) (cwV 3 hts gX6_tryFrom_X6_tryRooms rfl rfl rfl (by decide +kernel) ⟨by decide, by decide⟩) (CR.n1 hC (by decide)) rfl rfl rfl rfl (Nat.le_of_ble_eq_true rfl) dX6_tryFrom_53 ⟨by decide, by decide⟩) (fun u3 hp => ?_)
        exact j_vret C hr hlk (hp) dX6_tryFrom_56
      · exact absurd trivial z
  · exact j_vret C hr hlk (⟨GS.rf, hTr, b, F, hbb, hL, hFo (hKp (by omega)), by rw [hde] at hFM ⊢; exact FM.prune hFM hAv rfl (by omega) (by omega) (by omega)⟩) dX6_tryFrom_9

set_option maxHeartbeats 8000000 in
set_option maxRecDepth 100000 in
theorem c_tryRooms_3 (l : Launch) (D : va_G) (cy : Nat → ClassId) (base : Nat) (Λ : LY) (σ : HS) (M : MM) (hC : CR noEx Λ σ M) (hB : MBd M) (hm9 : hcN M ≤ 9) (hR1 : 1 ≤ M 31 10) (hR3 : M 31 10 ≤ 3) (e9 : Nat) (hde : hcN M = 3 + e9) (A F : Nat → Nat) (b U : Nat) (hbb : b ≤ 1000000000000000) (hAv : vA (M 31 10) 3 A) (hTr : ∀ i, i < 3 → gI σ 21 0 i = nI (A i)) (hL : gJ σ 20 0 3 = zL (b : Int)) (hFo : 0 < nm (M 31 10) A 3 * M 31 10 ^ e9 → ∀ i, i < hcN M → gI σ 22 0 i = nI (F i)) (hFM : FM M (M 31 10) (hcN M) (nm (M 31 10) A 3 * M 31 10 ^ e9) b F) (hU : U < 64) (bU : ∀ t, U.testBit t = true ↔ fxP M (hcN M) t ∨ ∃ i, i < 3 ∧ A i = t) (hdd : 3 < hcN M) : Met l yX6_tryRooms wsX6_tryRooms ({ frames := 56, cells := 0, slots := 0, locals := 840 }) (va_Pc [.ref (gA Λ 20 0), .int (nI 3), .long (zL ((fb_sm (padd M A) 3 : Nat) : Int)), .int (nI U)] (Wd D cy base Λ σ)) (va_Qv (fun u => GS σ u ∧ (∀ i, i < 3 → gI u 21 0 i = nI (A i)) ∧ ∃ b2 F2, b2 ≤ 1000000000000000 ∧ gJ u 20 0 3 = zL ((b2 : Nat) : Int) ∧ (∀ i, i < hcN M → gI u 22 0 i = nI (F2 i)) ∧ FM M (M 31 10) (hcN M) ((nm (M 31 10) A 3 + 1) * M 31 10 ^ e9) b2 F2) (Wd D cy base Λ) (Ab base)) 0 0 (Ab base) := by
  refine j_start (cc := cX6_tryRooms) (nL := 8) (ret := none) (lv := [(0, .ref (gA Λ 20 0)), (1, .int (nI 3)), (2, .long (zL ((fb_sm (padd M A) 3 : Nat) : Int))), (4, .int (nI U))]) (by decide) rfl (Nat.le_of_ble_eq_true rfl) rfl ?_
  intro p e s m below meth c C hr hlk hnm
  have C : Cx p s m ([.ref (gA Λ 20 0), .int (nI 3), .long (zL ((fb_sm (padd M A) 3 : Nat) : Int)), .int (nI U)] : List Value).toArray c cX6_tryRooms 8 RX6 wsX6_tryRooms D cy base := C
  have hts := C.2.2.2.2.1
  have hwX6 : ∀ w ∈ u_ws RX6 TX6 4, w ∈ wsX6_tryRooms := by decide +kernel
  have hM9 : (Cond.fieldLink RX6 9 (TX6 1).1 (TX6 1).2.1 (TX6 1).2.2.1).before ([.ref (gA Λ 20 0), .int (nI 3), .long (zL ((fb_sm (padd M A) 3 : Nat) : Int)), .int (nI U)] : List Value).toArray s = true := hts (.fieldLink RX6 9 "CodeRooms$Search" "trial" "[I") (by decide +kernel)
  have hL9 : FL RX6 9 (TX6 1).1 (TX6 1).2.1 (TX6 1).2.2.1 ([.ref (gA Λ 20 0), .int (nI 3), .long (zL ((fb_sm (padd M A) 3 : Nat) : Int)), .int (nI U)] : List Value).toArray s := Or.inl hM9
  have hM18 : (Cond.fieldLink RX6 18 (TX6 0).1 (TX6 0).2.1 (TX6 0).2.2.1).before ([.ref (gA Λ 20 0), .int (nI 3), .long (zL ((fb_sm (padd M A) 3 : Nat) : Int)), .int (nI U)] : List Value).toArray s = true := hts (.fieldLink RX6 18 "CodeRooms$Search" "plan" "LCodeRooms$Plan;") (by decide +kernel)
  have hL18 : FL RX6 18 (TX6 0).1 (TX6 0).2.1 (TX6 0).2.2.1 ([.ref (gA Λ 20 0), .int (nI 3), .long (zL ((fb_sm (padd M A) 3 : Nat) : Int)), .int (nI U)] : List Value).toArray s := Or.inl hM18
  have hn : M 31 5 ≤ 40 := hB 31 5 rfl
  have hhc0 := hcN_le M
  obtain ⟨e1, he1⟩ : ∃ e1, e9 = e1 + 1 := ⟨e9 - 1, by omega⟩
  refine j_iconst C (nI 0) dX6_tryRooms_0 (by decide) ?_
  refine j_istore C [(5, .int (nI 0)), (0, .ref (gA Λ 20 0)), (1, .int (nI 3)), (2, .long (zL ((fb_sm (padd M A) 3 : Nat) : Int))), (4, .int (nI U))] dX6_tryRooms_1 (by decide) rfl ?_
  refine j_iconst C (nI 0) dX6_tryRooms_3 (by decide) ?_
  refine j_istore C [(6, .int (nI 0)), (5, .int (nI 0)), (0, .ref (gA Λ 20 0)), (1, .int (nI 3)), (2, .long (zL ((fb_sm (padd M A) 3 : Nat) : Int))), (4, .int (nI U))] dX6_tryRooms_4 (by decide) rfl ?_
  have lb6 : ∀ (fu : Nat) (σ1 : HS) (g to : Nat) (b1 : Nat) (F1 : Nat → Nat), (M 31 10 - to) < fu → (to ≤ M 31 10) → (GS σ σ1) → (∀ i, i < 3 → gI σ1 21 0 i = nI (A i)) → (b1 ≤ 1000000000000000) → (gJ σ1 20 0 3 = zL (b1 : Int)) → (0 < (nm (M 31 10) A 3 * M 31 10 + to) * M 31 10 ^ e1 → ∀ i, i < hcN M → gI σ1 22 0 i = nI (F1 i)) → (FM M (M 31 10) (hcN M) ((nm (M 31 10) A 3 * M 31 10 + to) * M 31 10 ^ e1) b1 F1) → ((g = 0 ∧ ∀ t, t < to → U.testBit t = true) ∨ (g = 1 ∧ ∃ t, t < to ∧ U.testBit t = false)) → J p l e ({ frames := 56, cells := 0, slots := 0, locals := 840 }) s m ([.ref (gA Λ 20 0), .int (nI 3), .long (zL ((fb_sm (padd M A) 3 : Nat) : Int)), .int (nI U)] : List Value).toArray below meth c 8 D cy base (MQ below (va_Qv (fun u => GS σ u ∧ (∀ i, i < 3 → gI u 21 0 i = nI (A i)) ∧ ∃ b2 F2, b2 ≤ 1000000000000000 ∧ gJ u 20 0 3 = zL ((b2 : Nat) : Int) ∧ (∀ i, i < hcN M → gI u 22 0 i = nI (F2 i)) ∧ FM M (M 31 10) (hcN M) ((nm (M 31 10) A 3 + 1) * M 31 10 ^ e9) b2 F2) (Wd D cy base Λ) (Ab base)) ([.ref (gA Λ 20 0), .int (nI 3), .long (zL ((fb_sm (padd M A) 3 : Nat) : Int)), .int (nI U)] : List Value).toArray s 0 0 (Ab base)) 0 0 Λ 6 [(0, .ref (gA Λ 20 0)), (1, .int (nI 3)), (2, .long (zL ((fb_sm (padd M A) 3 : Nat) : Int))), (4, .int (nI U)), (5, .int (nI g)), (6, .int (nI to))] [] σ1 := by
    intro fu
    induction fu with
    | zero => intro σ1 g to b1 F1 hfu; exact absurd hfu (Nat.not_lt_zero _)
    | succ fu ih =>
      intro σ1 g to b1 F1 hfu hto hG1 hT1 hb1 hL1 hF1 hM1 hg
      have ih6 := ih
      refine j_iload C dX6_tryRooms_6 5 rfl ?_
      refine j_aload_n C dX6_tryRooms_8 rfl 0 rfl ?_
      refine j_getV C hwX6 20 0 0 (CR.n1 (hG1.cr hC) (by decide)) rfl rfl (by decide) rfl 0 (CR.v (hG1.cr hC) 20 0 0 ⟨rfl, by decide⟩ id) hL18 dX6_tryRooms_9 ?_
      refine c_i0 C (r_V C 3 0 [] (c_X4_roomCount l D cy base Λ σ1 M (hG1.cr hC) hB) (cwV 0 hts gX6_tryRooms_X4_roomCount rfl rfl rfl (by decide +kernel) ⟨by decide, by decide⟩) (CR.n1 (hG1.cr hC) (by decide)) rfl rfl rfl rfl (Nat.le_of_ble_eq_true rfl) dX6_tryRooms_12 ⟨by decide, by decide⟩) (fun rv uu hp => ?_)
      rw [hp.1, hp.2]
      refine j_icmp_ge (tgt := 89) C dX6_tryRooms_15 (by decide) (nI_leI (by omega) (by omega)) (fun h15 => ?_) (fun h15 => ?_)
      · exact j_vret C hr hlk (⟨hG1, hT1, b1, F1, hb1, hL1, hF1 (Nat.mul_pos (by omega) (Nat.pow_pos (by omega))), by have q := hM1; rw [show to = M 31 10 by omega, node_end, ← he1] at q; exact q⟩) dX6_tryRooms_89
      · refine j_iload C dX6_tryRooms_18 3 rfl ?_
        refine j_iconst C (nI 1) dX6_tryRooms_20 (by decide) ?_
        refine j_iload C dX6_tryRooms_21 5 rfl ?_
        refine j_ishl C (nI (2 ^ to)) dX6_tryRooms_23 (shl1 (by omega)) ?_
        refine j_iand C (nI U &&& nI (2 ^ to)) dX6_tryRooms_24 rfl ?_
        refine j_if_ne (tgt := 32) C dX6_tryRooms_25 (by decide) (and_bit (by omega)) (fun h25 => ?_) (fun h25 => ?_)
        · refine j_iconst C (nI 0) dX6_tryRooms_32 (by decide) ?_
          refine j_istore C [(7, .int (nI 0)), (0, .ref (gA Λ 20 0)), (1, .int (nI 3)), (2, .long (zL ((fb_sm (padd M A) 3 : Nat) : Int))), (4, .int (nI U)), (5, .int (nI g)), (6, .int (nI to))] dX6_tryRooms_33 (by decide) rfl ?_
          refine j_iload C dX6_tryRooms_35 0 rfl ?_
          refine j_if_eq (tgt := 45) C (P := True) dX6_tryRooms_37 (by decide) (by decide) (fun z => ?_) (fun z => ?_)
          · refine j_aload_n C dX6_tryRooms_45 rfl 1 rfl ?_
            refine j_getV C hwX6 20 0 1 (CR.n1 (hG1.cr hC) (by decide)) rfl rfl (by decide) rfl 0 (CR.v (hG1.cr hC) 20 0 1 ⟨rfl, by decide⟩ id) hL9 dX6_tryRooms_46 ?_
            refine j_iload_n C dX6_tryRooms_49 rfl 2 rfl ?_
            refine j_iload C dX6_tryRooms_50 6 rfl ?_
            refine j_iast C 21 0 3 (CR.n1 (hG1.cr hC) (by decide)) rfl rfl 9 (CR.l1 (hG1.cr hC) (by decide)) (by omega) (by omega) (nI to) rfl dX6_tryRooms_52 ?_
            refine j_aload_n C dX6_tryRooms_53 rfl 1 rfl ?_
            refine j_iload_n C dX6_tryRooms_54 rfl 2 rfl ?_
            refine j_iconst C (nI 1) dX6_tryRooms_55 (by decide) ?_
            refine j_iadd C (nI 4) dX6_tryRooms_56 (by decide) ?_
            refine j_lload_n C dX6_tryRooms_57 rfl 3 rfl ?_
            refine j_aload_n C dX6_tryRooms_58 rfl 1 rfl ?_
            refine j_iload_n C dX6_tryRooms_59 rfl 2 rfl ?_
            refine j_iload C dX6_tryRooms_60 6 rfl ?_
            have hTu : ∀ i, i < 3 → gI (sI σ1 21 0 3 (nI to)) 21 0 i = nI (upA A 3 to i) := fun i hi => by rw [upA_lt hi, gI_sI, if_neg (by omega)]; exact hT1 i hi
            have hvu := vA_up hAv (show to < M 31 10 by omega)
            have hG5 := GS.i (k := 3) (x := nI to) hG1
            refine c_l0 C (r_V C 20 0 [.int (nI 3), .int (nI to)] (c_price l D cy base Λ (sI σ1 21 0 3 (nI to)) M (hG5.cr hC) hB (upA A 3 to) 3 (by omega) (by decide) (fun i hi => Nat.lt_of_lt_of_le (hvu i (by omega)) (by omega)) hTu to upA_d) (cwV 2 hts gX6_tryRooms_X6_priceOfAdding rfl rfl rfl (by decide +kernel) ⟨by decide, by decide⟩) (CR.n1 (hG1.cr hC) (by decide)) rfl rfl rfl rfl (Nat.le_of_ble_eq_true rfl) dX6_tryRooms_62 ⟨by decide, by decide⟩) (fun rv uu hp => ?_)
            rw [hp.1, hp.2]
            refine j_ladd C (zL ((fb_sm (padd M (upA A 3 to)) 4 : Nat) : Int)) dX6_tryRooms_65 ((zL_add _ _).trans (congrArg zL (by rw [sm_up]; omega))) ?_
            refine j_iload C dX6_tryRooms_66 4 rfl ?_
            refine j_iconst C (nI 1) dX6_tryRooms_68 (by decide) ?_
            refine j_iload C dX6_tryRooms_69 6 rfl ?_
            refine j_ishl C (nI (2 ^ to)) dX6_tryRooms_71 (shl1 (by omega)) ?_
            refine j_ior C (nI (U ||| 2 ^ to)) dX6_tryRooms_72 (fa_or _ _) ?_
            have hTv : ∀ i, i < 4 → gI (sI σ1 21 0 3 (nI to)) 21 0 i = nI (upA A 3 to i) := fun i hi => by by_cases e8 : i = 3; rw [e8, upA_d]; exact gI_same _ _ _ _ _; exact hTu i (by omega)
            refine c_v0 C (r_V C 20 0 [.int (nI 4), .long (zL ((fb_sm (padd M (upA A 3 to)) 4 : Nat) : Int)), .int (nI (U ||| 2 ^ to))] (c_tryFrom_4 l D cy base Λ (sI σ1 21 0 3 (nI to)) M (hG5.cr hC) hB hm9 hR1 hR3 e1 (by omega) (upA A 3 to) F1 b1 (U ||| 2 ^ to) hb1 hvu hTv hL1 (by rw [nm_up]; exact hF1) (by rw [nm_up]; exact hM1) (or_lt hU (pow6 (by omega))) (fun t => by rw [bit_or_pow, Bool.or_eq_true, decide_eq_true_eq, bU]; exact bitU_up)) (cwV 3 hts gX6_tryRooms_X6_tryFrom rfl rfl rfl (by decide +kernel) ⟨by decide, by decide⟩) (CR.n1 (hG1.cr hC) (by decide)) rfl rfl rfl rfl (Nat.le_of_ble_eq_true rfl) dX6_tryRooms_73 ⟨by decide, by decide⟩) (fun u3 hp => ?_)
            obtain ⟨hG3, hT3, b3, F3, hb3, hL3, hf3, hM3⟩ := hp
            rw [nm_up] at hM3
            skip
            refine j_iload C dX6_tryRooms_76 5 rfl ?_
            refine j_iload C dX6_tryRooms_78 0 rfl ?_
            refine j_ior C (nI g) dX6_tryRooms_80 (by rcases hg with z | z <;> rw [z.1] <;> decide) ?_
            refine j_istore C [(5, .int (nI g)), (7, .int (nI 0)), (0, .ref (gA Λ 20 0)), (1, .int (nI 3)), (2, .long (zL ((fb_sm (padd M A) 3 : Nat) : Int))), (4, .int (nI U)), (6, .int (nI to))] dX6_tryRooms_81 (by decide) rfl ?_
            refine j_iinc C [(6, .int (nI (to + 1))), (5, .int (nI g)), (7, .int (nI 0)), (0, .ref (gA Λ 20 0)), (1, .int (nI 3)), (2, .long (zL ((fb_sm (padd M A) 3 : Nat) : Int))), (4, .int (nI U))] (nI (to + 1)) dX6_tryRooms_83 6 rfl (nI_add _ 1) (by decide) rfl ?_
            refine j_goto (tgt := 6) C dX6_tryRooms_86 (by decide) ?_
            refine j_lv [3, 4, 5, 6, 1, 0] rfl ?_
            exact ih6 u3 g (to + 1) b3 F3 (by omega) (by omega) (GS.tr hG5 hG3) (fun i hi => by rw [hT3 i (by omega), upA_lt hi]) hb3 hL3 (fun _ => hf3) hM3 (by rcases hg with ⟨z1, z2⟩ | ⟨z1, z2, z3, z4⟩; exact Or.inl ⟨z1, fun t ht => by by_cases e8 : t = to; rw [e8]; simpa using h25; exact z2 t (by omega)⟩; exact Or.inr ⟨z1, z2, by omega, z4⟩)
          · exact absurd trivial z
        · refine j_iconst C (nI 1) dX6_tryRooms_28 (by decide) ?_
          refine j_goto (tgt := 33) C dX6_tryRooms_29 (by decide) ?_
          refine j_istore C [(7, .int (nI 1)), (0, .ref (gA Λ 20 0)), (1, .int (nI 3)), (2, .long (zL ((fb_sm (padd M A) 3 : Nat) : Int))), (4, .int (nI U)), (5, .int (nI g)), (6, .int (nI to))] dX6_tryRooms_33 (by decide) rfl ?_
          refine j_iload C dX6_tryRooms_35 0 rfl ?_
          refine j_if_eq (tgt := 45) C (P := False) dX6_tryRooms_37 (by decide) (by decide) (fun z => ?_) (fun z => ?_)
          · exact z.elim
          · refine j_iload C dX6_tryRooms_40 5 rfl ?_
            refine j_if_ne (tgt := 76) C dX6_tryRooms_42 (by decide) (nJ_ne0 (by rcases hg with z | z <;> omega)) (fun h42 => ?_) (fun h42 => ?_)
            · obtain ⟨xx, hxx, bxx⟩ : ∃ t, t < to ∧ U.testBit t = false := by
                rcases hg with z | z
                · exact absurd z.1 h42
                · exact z.2
              have hKt : 0 < (nm (M 31 10) A 3 * M 31 10 + to) * M 31 10 ^ e1 := Nat.mul_pos (by omega) (Nat.pow_pos (by omega))
              have hbs := FM.small hB hm9 hM1 hKt
              have nx : ∀ t, U.testBit t = false → (∀ k, k < hcN M → M 40 (hs M k) ≠ t + 1) ∧ ∀ i, i < 3 → A i ≠ t := fun t ht => by
                have q : ¬ (fxP M (hcN M) t ∨ ∃ i, i < 3 ∧ A i = t) := fun z => by rw [(bU t).mpr z] at ht; exact absurd ht (by decide)
                exact ⟨fun k hk z => q (Or.inl ⟨k, hk, z⟩), fun i hi z => q (Or.inr ⟨i, hi, z⟩)⟩
              have hsk : FM M (M 31 10) (hcN M) ((nm (M 31 10) A 3 * M 31 10 + (to + 1)) * M 31 10 ^ e1) b1 F1 := by
                have hm0 := hM1
                have hc0 : hcN M = 3 + 1 + e1 := by omega
                have n1 := nx xx bxx
                have n2 := nx to h25
                rw [hc0] at hm0 n1 n2 ⊢
                exact FM.skip hm0 hAv rfl hxx (by omega) n1.2 n2.2 n1.1 n2.1 (by omega)
              refine j_iload C dX6_tryRooms_76 5 rfl ?_
              refine j_iload C dX6_tryRooms_78 0 rfl ?_
              refine j_ior C (nI 1) dX6_tryRooms_80 (by rcases hg with z | z <;> rw [z.1] <;> decide) ?_
              refine j_istore C [(5, .int (nI 1)), (7, .int (nI 1)), (0, .ref (gA Λ 20 0)), (1, .int (nI 3)), (2, .long (zL ((fb_sm (padd M A) 3 : Nat) : Int))), (4, .int (nI U)), (6, .int (nI to))] dX6_tryRooms_81 (by decide) rfl ?_
              refine j_iinc C [(6, .int (nI (to + 1))), (5, .int (nI 1)), (7, .int (nI 1)), (0, .ref (gA Λ 20 0)), (1, .int (nI 3)), (2, .long (zL ((fb_sm (padd M A) 3 : Nat) : Int))), (4, .int (nI U))] (nI (to + 1)) dX6_tryRooms_83 6 rfl (nI_add _ 1) (by decide) rfl ?_
              refine j_goto (tgt := 6) C dX6_tryRooms_86 (by decide) ?_
              refine j_lv [3, 4, 5, 6, 1, 0] rfl ?_
              exact ih6 σ1 1 (to + 1) b1 F1 (by omega) (by omega) hG1 hT1 hb1 hL1 (fun _ => hF1 hKt) hsk (Or.inr ⟨rfl, to, by omega, h25⟩)
            · refine j_aload_n C dX6_tryRooms_45 rfl 1 rfl ?_
              refine j_getV C hwX6 20 0 1 (CR.n1 (hG1.cr hC) (by decide)) rfl rfl (by decide) rfl 0 (CR.v (hG1.cr hC) 20 0 1 ⟨rfl, by decide⟩ id) hL9 dX6_tryRooms_46 ?_
              refine j_iload_n C dX6_tryRooms_49 rfl 2 rfl ?_
              refine j_iload C dX6_tryRooms_50 6 rfl ?_
              refine j_iast C 21 0 3 (CR.n1 (hG1.cr hC) (by decide)) rfl rfl 9 (CR.l1 (hG1.cr hC) (by decide)) (by omega) (by omega) (nI to) rfl dX6_tryRooms_52 ?_
              refine j_aload_n C dX6_tryRooms_53 rfl 1 rfl ?_
              refine j_iload_n C dX6_tryRooms_54 rfl 2 rfl ?_
              refine j_iconst C (nI 1) dX6_tryRooms_55 (by decide) ?_
              refine j_iadd C (nI 4) dX6_tryRooms_56 (by decide) ?_
              refine j_lload_n C dX6_tryRooms_57 rfl 3 rfl ?_
              refine j_aload_n C dX6_tryRooms_58 rfl 1 rfl ?_
              refine j_iload_n C dX6_tryRooms_59 rfl 2 rfl ?_
              refine j_iload C dX6_tryRooms_60 6 rfl ?_
              have hTu : ∀ i, i < 3 → gI (sI σ1 21 0 3 (nI to)) 21 0 i = nI (upA A 3 to i) := fun i hi => by rw [upA_lt hi, gI_sI, if_neg (by omega)]; exact hT1 i hi
              have hvu := vA_up hAv (show to < M 31 10 by omega)
              have hG5 := GS.i (k := 3) (x := nI to) hG1
              refine c_l0 C (r_V C 20 0 [.int (nI 3), .int (nI to)] (c_price l D cy base Λ (sI σ1 21 0 3 (nI to)) M (hG5.cr hC) hB (upA A 3 to) 3 (by omega) (by decide) (fun i hi => Nat.lt_of_lt_of_le (hvu i (by omega)) (by omega)) hTu to upA_d) (cwV 2 hts gX6_tryRooms_X6_priceOfAdding rfl rfl rfl (by decide +kernel) ⟨by decide, by decide⟩) (CR.n1 (hG1.cr hC) (by decide)) rfl rfl rfl rfl (Nat.le_of_ble_eq_true rfl) dX6_tryRooms_62 ⟨by decide, by decide⟩) (fun rv uu hp => ?_)
              rw [hp.1, hp.2]
              refine j_ladd C (zL ((fb_sm (padd M (upA A 3 to)) 4 : Nat) : Int)) dX6_tryRooms_65 ((zL_add _ _).trans (congrArg zL (by rw [sm_up]; omega))) ?_
              refine j_iload C dX6_tryRooms_66 4 rfl ?_
              refine j_iconst C (nI 1) dX6_tryRooms_68 (by decide) ?_
              refine j_iload C dX6_tryRooms_69 6 rfl ?_
              refine j_ishl C (nI (2 ^ to)) dX6_tryRooms_71 (shl1 (by omega)) ?_
              refine j_ior C (nI (U ||| 2 ^ to)) dX6_tryRooms_72 (fa_or _ _) ?_
              have hTv : ∀ i, i < 4 → gI (sI σ1 21 0 3 (nI to)) 21 0 i = nI (upA A 3 to i) := fun i hi => by by_cases e8 : i = 3; rw [e8, upA_d]; exact gI_same _ _ _ _ _; exact hTu i (by omega)
              refine c_v0 C (r_V C 20 0 [.int (nI 4), .long (zL ((fb_sm (padd M (upA A 3 to)) 4 : Nat) : Int)), .int (nI (U ||| 2 ^ to))] (c_tryFrom_4 l D cy base Λ (sI σ1 21 0 3 (nI to)) M (hG5.cr hC) hB hm9 hR1 hR3 e1 (by omega) (upA A 3 to) F1 b1 (U ||| 2 ^ to) hb1 hvu hTv hL1 (by rw [nm_up]; exact hF1) (by rw [nm_up]; exact hM1) (or_lt hU (pow6 (by omega))) (fun t => by rw [bit_or_pow, Bool.or_eq_true, decide_eq_true_eq, bU]; exact bitU_up)) (cwV 3 hts gX6_tryRooms_X6_tryFrom rfl rfl rfl (by decide +kernel) ⟨by decide, by decide⟩) (CR.n1 (hG1.cr hC) (by decide)) rfl rfl rfl rfl (Nat.le_of_ble_eq_true rfl) dX6_tryRooms_73 ⟨by decide, by decide⟩) (fun u3 hp => ?_)
              obtain ⟨hG3, hT3, b3, F3, hb3, hL3, hf3, hM3⟩ := hp
              rw [nm_up] at hM3
              skip
              refine j_iload C dX6_tryRooms_76 5 rfl ?_
              refine j_iload C dX6_tryRooms_78 0 rfl ?_
              refine j_ior C (nI 1) dX6_tryRooms_80 (by rcases hg with z | z <;> rw [z.1] <;> decide) ?_
              refine j_istore C [(5, .int (nI 1)), (7, .int (nI 1)), (0, .ref (gA Λ 20 0)), (1, .int (nI 3)), (2, .long (zL ((fb_sm (padd M A) 3 : Nat) : Int))), (4, .int (nI U)), (6, .int (nI to))] dX6_tryRooms_81 (by decide) rfl ?_
              refine j_iinc C [(6, .int (nI (to + 1))), (5, .int (nI 1)), (7, .int (nI 1)), (0, .ref (gA Λ 20 0)), (1, .int (nI 3)), (2, .long (zL ((fb_sm (padd M A) 3 : Nat) : Int))), (4, .int (nI U))] (nI (to + 1)) dX6_tryRooms_83 6 rfl (nI_add _ 1) (by decide) rfl ?_
              refine j_goto (tgt := 6) C dX6_tryRooms_86 (by decide) ?_
              refine j_lv [3, 4, 5, 6, 1, 0] rfl ?_
              exact ih6 u3 1 (to + 1) b3 F3 (by omega) (by omega) (GS.tr hG5 hG3) (fun i hi => by rw [hT3 i (by omega), upA_lt hi]) hb3 hL3 (fun _ => hf3) hM3 (Or.inr ⟨rfl, to, by omega, h25⟩)
  refine j_lv [2, 3, 4, 5, 1, 0] rfl ?_
  exact lb6 _ σ 0 0 b F (Nat.lt_succ_self _) (by omega) GS.rf hTr hbb hL (by rw [he1, node_beg] at hFo; exact hFo) (by rw [he1, node_beg] at hFM; exact hFM) (Or.inl ⟨rfl, fun t ht => absurd ht (Nat.not_lt_zero _)⟩)

set_option maxHeartbeats 4000000 in
set_option maxRecDepth 100000 in
theorem c_tryFrom_3 (l : Launch) (D : va_G) (cy : Nat → ClassId) (base : Nat) (Λ : LY) (σ : HS) (M : MM) (hC : CR noEx Λ σ M) (hB : MBd M) (hm9 : hcN M ≤ 9) (hR1 : 1 ≤ M 31 10) (hR3 : M 31 10 ≤ 3) (e9 : Nat) (hde : hcN M = 3 + e9) (A F : Nat → Nat) (b U : Nat) (hbb : b ≤ 1000000000000000) (hAv : vA (M 31 10) 3 A) (hTr : ∀ i, i < 3 → gI σ 21 0 i = nI (A i)) (hL : gJ σ 20 0 3 = zL (b : Int)) (hFo : 0 < nm (M 31 10) A 3 * M 31 10 ^ e9 → ∀ i, i < hcN M → gI σ 22 0 i = nI (F i)) (hFM : FM M (M 31 10) (hcN M) (nm (M 31 10) A 3 * M 31 10 ^ e9) b F) (hU : U < 64) (bU : ∀ t, U.testBit t = true ↔ fxP M (hcN M) t ∨ ∃ i, i < 3 ∧ A i = t) : Met l yX6_tryFrom wsX6_tryFrom ({ frames := 60, cells := 0, slots := 0, locals := 900 }) (va_Pc [.ref (gA Λ 20 0), .int (nI 3), .long (zL ((fb_sm (padd M A) 3 : Nat) : Int)), .int (nI U)] (Wd D cy base Λ σ)) (va_Qv (fun u => GS σ u ∧ (∀ i, i < 3 → gI u 21 0 i = nI (A i)) ∧ ∃ b2 F2, b2 ≤ 1000000000000000 ∧ gJ u 20 0 3 = zL ((b2 : Nat) : Int) ∧ (∀ i, i < hcN M → gI u 22 0 i = nI (F2 i)) ∧ FM M (M 31 10) (hcN M) ((nm (M 31 10) A 3 + 1) * M 31 10 ^ e9) b2 F2) (Wd D cy base Λ) (Ab base)) 0 0 (Ab base) := by
  refine j_start (cc := cX6_tryFrom) (nL := 5) (ret := none) (lv := [(0, .ref (gA Λ 20 0)), (1, .int (nI 3)), (2, .long (zL ((fb_sm (padd M A) 3 : Nat) : Int))), (4, .int (nI U))]) (by decide) rfl (Nat.le_of_ble_eq_true rfl) rfl ?_
  intro p e s m below meth c C hr hlk hnm
  have C : Cx p s m ([.ref (gA Λ 20 0), .int (nI 3), .long (zL ((fb_sm (padd M A) 3 : Nat) : Int)), .int (nI U)] : List Value).toArray c cX6_tryFrom 5 RX6 wsX6_tryFrom D cy base := C
  have hts := C.2.2.2.2.1
  have hwX4 : ∀ w ∈ u_ws RX4 TX4 6, w ∈ wsX6_tryFrom := by decide +kernel
  have hwX6 : ∀ w ∈ u_ws RX6 TX6 4, w ∈ wsX6_tryFrom := by decide +kernel
  have hM9 : (Cond.fieldLink RX6 9 (TX6 1).1 (TX6 1).2.1 (TX6 1).2.2.1).before ([.ref (gA Λ 20 0), .int (nI 3), .long (zL ((fb_sm (padd M A) 3 : Nat) : Int)), .int (nI U)] : List Value).toArray s = true := hts (.fieldLink RX6 9 "CodeRooms$Search" "trial" "[I") (by decide +kernel)
  have hL9 : FL RX6 9 (TX6 1).1 (TX6 1).2.1 (TX6 1).2.2.1 ([.ref (gA Λ 20 0), .int (nI 3), .long (zL ((fb_sm (padd M A) 3 : Nat) : Int)), .int (nI U)] : List Value).toArray s := Or.inl hM9
  have hM15 : (Cond.fieldLink RX6 15 (TX6 2).1 (TX6 2).2.1 (TX6 2).2.2.1).before ([.ref (gA Λ 20 0), .int (nI 3), .long (zL ((fb_sm (padd M A) 3 : Nat) : Int)), .int (nI U)] : List Value).toArray s = true := hts (.fieldLink RX6 15 "CodeRooms$Search" "found" "[I") (by decide +kernel)
  have hL15 : FL RX6 15 (TX6 2).1 (TX6 2).2.1 (TX6 2).2.2.1 ([.ref (gA Λ 20 0), .int (nI 3), .long (zL ((fb_sm (padd M A) 3 : Nat) : Int)), .int (nI U)] : List Value).toArray s := Or.inl hM15
  have hM18 : (Cond.fieldLink RX6 18 (TX6 0).1 (TX6 0).2.1 (TX6 0).2.2.1).before ([.ref (gA Λ 20 0), .int (nI 3), .long (zL ((fb_sm (padd M A) 3 : Nat) : Int)), .int (nI U)] : List Value).toArray s = true := hts (.fieldLink RX6 18 "CodeRooms$Search" "plan" "LCodeRooms$Plan;") (by decide +kernel)
  have hL18 : FL RX6 18 (TX6 0).1 (TX6 0).2.1 (TX6 0).2.2.1 ([.ref (gA Λ 20 0), .int (nI 3), .long (zL ((fb_sm (padd M A) 3 : Nat) : Int)), .int (nI U)] : List Value).toArray s := Or.inl hM18
  have hL22 : FL RX6 22 (TX4 5).1 (TX4 5).2.1 (TX4 5).2.2.1 ([.ref (gA Λ 20 0), .int (nI 3), .long (zL ((fb_sm (padd M A) 3 : Nat) : Int)), .int (nI U)] : List Value).toArray s := Or.inr ⟨_, Ex.nestF C.2.2.2.2.2.2 nf_X6_22⟩
  have hM36 : (Cond.fieldLink RX6 36 (TX6 3).1 (TX6 3).2.1 (TX6 3).2.2.1).before ([.ref (gA Λ 20 0), .int (nI 3), .long (zL ((fb_sm (padd M A) 3 : Nat) : Int)), .int (nI U)] : List Value).toArray s = true := hts (.fieldLink RX6 36 "CodeRooms$Search" "least" "J") (by decide +kernel)
  have hL36 : FL RX6 36 (TX6 3).1 (TX6 3).2.1 (TX6 3).2.2.1 ([.ref (gA Λ 20 0), .int (nI 3), .long (zL ((fb_sm (padd M A) 3 : Nat) : Int)), .int (nI U)] : List Value).toArray s := Or.inl hM36
  have hn : M 31 5 ≤ 40 := hB 31 5 rfl
  have hhc0 := hcN_le M
  have hS := sm_le hB (A := A) (d := 3) (by omega) (by decide)
  have hKp : b ≠ 1000000000000000 → 0 < nm (M 31 10) A 3 * M 31 10 ^ e9 := fun z => Nat.pos_of_ne_zero (fun q => z (hFM.2.2 q))
  refine j_lload_n C dX6_tryFrom_0 rfl 2 rfl ?_
  refine j_aload_n C dX6_tryFrom_1 rfl 0 rfl ?_
  refine j_getJ C hwX6 20 0 3 (CR.n1 hC (by decide)) rfl rfl (by decide) rfl (zL (b : Int)) hL hL36 dX6_tryFrom_2 ?_
  refine j_lcmp_lt (tgt := 10) C dX6_tryFrom_5 dX6_tryFrom_6 (by decide) ((zL_lt (by omega) (by omega) (by omega) (by omega)).trans Int.ofNat_lt) (fun h5 => ?_) (fun h5 => ?_)
  · refine j_iload_n C dX6_tryFrom_10 rfl 1 rfl ?_
    refine j_aload_n C dX6_tryFrom_11 rfl 0 rfl ?_
    refine j_getV C hwX6 20 0 0 (CR.n1 hC (by decide)) rfl rfl (by decide) rfl 0 (CR.v hC 20 0 0 ⟨rfl, by decide⟩ id) hL18 dX6_tryFrom_12 ?_
    have hhc15 := hcN_le M
    refine j_getI C hwX4 3 0 5 (CR.n1 hC (by decide)) rfl rfl (by decide) rfl (nI (hcN M)) (CR.i hC 3 0 5 ⟨rfl, Or.inr rfl⟩ id) hL22 dX6_tryFrom_15 ?_
    refine j_icmp_ge (tgt := 27) C dX6_tryFrom_18 (by decide) (nI_leI (by omega) (by omega)) (fun h18 => ?_) (fun h18 => ?_)
    · refine j_aload_n C dX6_tryFrom_27 rfl 0 rfl ?_
      refine j_lload_n C dX6_tryFrom_28 rfl 2 rfl ?_
      refine j_putJ C hwX6 20 0 3 (CR.n1 hC (by decide)) rfl rfl (by decide) rfl tyX6 tyX6_ok nmX6 rfl rfl rfl hL36 dX6_tryFrom_29 ?_
      refine j_aload_n C dX6_tryFrom_32 rfl 0 rfl ?_
      refine j_getV C hwX6 20 0 1 (CR.n1 hC (by decide)) rfl rfl (by decide) rfl 0 (CR.v hC 20 0 1 ⟨rfl, by decide⟩ id) hL9 dX6_tryFrom_33 ?_
      refine j_iconst C (nI 0) dX6_tryFrom_36 (by decide) ?_
      refine j_aload_n C dX6_tryFrom_37 rfl 0 rfl ?_
      refine j_getV C hwX6 20 0 2 (CR.n1 hC (by decide)) rfl rfl (by decide) rfl 0 (CR.v hC 20 0 2 ⟨rfl, by decide⟩ id) hL15 dX6_tryFrom_38 ?_
      refine j_iconst C (nI 0) dX6_tryFrom_41 (by decide) ?_
      refine j_bipush C (nI 9) dX6_tryFrom_42 (by decide) ?_
      refine j_cpi C 21 0 22 0 9 (CR.n1 hC (by decide)) (CR.n1 hC (by decide)) rfl rfl rfl rfl (CR.l1 hC (by decide)) (CR.l1 hC (by decide)) (by decide) (by decide +kernel) rfl rfl dX6_tryFrom_44 ?_
      exact j_vret C hr hlk (⟨GS.r (GS.j GS.rf), fun i hi => by rw [gI_sRn (Or.inl (by decide))]; exact hTr i hi, fb_sm (padd M A) 3, A, by omega, gJ_same _ _ _ _ _, fun i hi => by rw [gI_sR]; unfold va_cpy; rw [if_pos (by omega)]; exact (congrArg _ (by omega)).trans (hTr i (by omega)), by have e0 : e9 = 0 := (by omega); subst e0; rw [Nat.pow_zero, Nat.mul_one] at hFM ⊢; rw [show hcN M = 3 from hde] at hFM ⊢; exact FM.leaf hFM hAv h5⟩) dX6_tryFrom_47
    · refine j_iload_n C dX6_tryFrom_21 rfl 1 rfl ?_
      refine j_bipush C (nI 9) dX6_tryFrom_22 (by decide) ?_
      refine j_icmp_lt (tgt := 48) C (P := True) dX6_tryFrom_24 (by decide) (by decide) (fun z => ?_) (fun z => ?_)
      · refine j_aload_n C dX6_tryFrom_48 rfl 0 rfl ?_
        refine j_iload_n C dX6_tryFrom_49 rfl 1 rfl ?_
        refine j_lload_n C dX6_tryFrom_50 rfl 2 rfl ?_
        refine j_iload C dX6_tryFrom_51 3 rfl ?_
        refine c_v0 C (r_V C 20 0 [.int (nI 3), .long (zL ((fb_sm (padd M A) 3 : Nat) : Int)), .int (nI U)] (c_tryRooms_3 l D cy base Λ σ M hC hB hm9 hR1 hR3 e9 hde A F b U hbb hAv hTr hL hFo hFM hU bU (by omega)) (cwV 3 hts gX6_tryFrom_X6_tryRooms rfl rfl rfl (by decide +kernel) ⟨by decide, by decide⟩) (CR.n1 hC (by decide)) rfl rfl rfl rfl (Nat.le_of_ble_eq_true rfl) dX6_tryFrom_53 ⟨by decide, by decide⟩) (fun u3 hp => ?_)
        exact j_vret C hr hlk (hp) dX6_tryFrom_56
      · exact absurd trivial z
  · exact j_vret C hr hlk (⟨GS.rf, hTr, b, F, hbb, hL, hFo (hKp (by omega)), by rw [hde] at hFM ⊢; exact FM.prune hFM hAv rfl (by omega) (by omega) (by omega)⟩) dX6_tryFrom_9

set_option maxHeartbeats 8000000 in
set_option maxRecDepth 100000 in
theorem c_tryRooms_2 (l : Launch) (D : va_G) (cy : Nat → ClassId) (base : Nat) (Λ : LY) (σ : HS) (M : MM) (hC : CR noEx Λ σ M) (hB : MBd M) (hm9 : hcN M ≤ 9) (hR1 : 1 ≤ M 31 10) (hR3 : M 31 10 ≤ 3) (e9 : Nat) (hde : hcN M = 2 + e9) (A F : Nat → Nat) (b U : Nat) (hbb : b ≤ 1000000000000000) (hAv : vA (M 31 10) 2 A) (hTr : ∀ i, i < 2 → gI σ 21 0 i = nI (A i)) (hL : gJ σ 20 0 3 = zL (b : Int)) (hFo : 0 < nm (M 31 10) A 2 * M 31 10 ^ e9 → ∀ i, i < hcN M → gI σ 22 0 i = nI (F i)) (hFM : FM M (M 31 10) (hcN M) (nm (M 31 10) A 2 * M 31 10 ^ e9) b F) (hU : U < 64) (bU : ∀ t, U.testBit t = true ↔ fxP M (hcN M) t ∨ ∃ i, i < 2 ∧ A i = t) (hdd : 2 < hcN M) : Met l yX6_tryRooms wsX6_tryRooms ({ frames := 64, cells := 0, slots := 0, locals := 960 }) (va_Pc [.ref (gA Λ 20 0), .int (nI 2), .long (zL ((fb_sm (padd M A) 2 : Nat) : Int)), .int (nI U)] (Wd D cy base Λ σ)) (va_Qv (fun u => GS σ u ∧ (∀ i, i < 2 → gI u 21 0 i = nI (A i)) ∧ ∃ b2 F2, b2 ≤ 1000000000000000 ∧ gJ u 20 0 3 = zL ((b2 : Nat) : Int) ∧ (∀ i, i < hcN M → gI u 22 0 i = nI (F2 i)) ∧ FM M (M 31 10) (hcN M) ((nm (M 31 10) A 2 + 1) * M 31 10 ^ e9) b2 F2) (Wd D cy base Λ) (Ab base)) 0 0 (Ab base) := by
  refine j_start (cc := cX6_tryRooms) (nL := 8) (ret := none) (lv := [(0, .ref (gA Λ 20 0)), (1, .int (nI 2)), (2, .long (zL ((fb_sm (padd M A) 2 : Nat) : Int))), (4, .int (nI U))]) (by decide) rfl (Nat.le_of_ble_eq_true rfl) rfl ?_
  intro p e s m below meth c C hr hlk hnm
  have C : Cx p s m ([.ref (gA Λ 20 0), .int (nI 2), .long (zL ((fb_sm (padd M A) 2 : Nat) : Int)), .int (nI U)] : List Value).toArray c cX6_tryRooms 8 RX6 wsX6_tryRooms D cy base := C
  have hts := C.2.2.2.2.1
  have hwX6 : ∀ w ∈ u_ws RX6 TX6 4, w ∈ wsX6_tryRooms := by decide +kernel
  have hM9 : (Cond.fieldLink RX6 9 (TX6 1).1 (TX6 1).2.1 (TX6 1).2.2.1).before ([.ref (gA Λ 20 0), .int (nI 2), .long (zL ((fb_sm (padd M A) 2 : Nat) : Int)), .int (nI U)] : List Value).toArray s = true := hts (.fieldLink RX6 9 "CodeRooms$Search" "trial" "[I") (by decide +kernel)
  have hL9 : FL RX6 9 (TX6 1).1 (TX6 1).2.1 (TX6 1).2.2.1 ([.ref (gA Λ 20 0), .int (nI 2), .long (zL ((fb_sm (padd M A) 2 : Nat) : Int)), .int (nI U)] : List Value).toArray s := Or.inl hM9
  have hM18 : (Cond.fieldLink RX6 18 (TX6 0).1 (TX6 0).2.1 (TX6 0).2.2.1).before ([.ref (gA Λ 20 0), .int (nI 2), .long (zL ((fb_sm (padd M A) 2 : Nat) : Int)), .int (nI U)] : List Value).toArray s = true := hts (.fieldLink RX6 18 "CodeRooms$Search" "plan" "LCodeRooms$Plan;") (by decide +kernel)
  have hL18 : FL RX6 18 (TX6 0).1 (TX6 0).2.1 (TX6 0).2.2.1 ([.ref (gA Λ 20 0), .int (nI 2), .long (zL ((fb_sm (padd M A) 2 : Nat) : Int)), .int (nI U)] : List Value).toArray s := Or.inl hM18
  have hn : M 31 5 ≤ 40 := hB 31 5 rfl
  have hhc0 := hcN_le M
  obtain ⟨e1, he1⟩ : ∃ e1, e9 = e1 + 1 := ⟨e9 - 1, by omega⟩
  refine j_iconst C (nI 0) dX6_tryRooms_0 (by decide) ?_
  refine j_istore C [(5, .int (nI 0)), (0, .ref (gA Λ 20 0)), (1, .int (nI 2)), (2, .long (zL ((fb_sm (padd M A) 2 : Nat) : Int))), (4, .int (nI U))] dX6_tryRooms_1 (by decide) rfl ?_
  refine j_iconst C (nI 0) dX6_tryRooms_3 (by decide) ?_
  refine j_istore C [(6, .int (nI 0)), (5, .int (nI 0)), (0, .ref (gA Λ 20 0)), (1, .int (nI 2)), (2, .long (zL ((fb_sm (padd M A) 2 : Nat) : Int))), (4, .int (nI U))] dX6_tryRooms_4 (by decide) rfl ?_
  have lb6 : ∀ (fu : Nat) (σ1 : HS) (g to : Nat) (b1 : Nat) (F1 : Nat → Nat), (M 31 10 - to) < fu → (to ≤ M 31 10) → (GS σ σ1) → (∀ i, i < 2 → gI σ1 21 0 i = nI (A i)) → (b1 ≤ 1000000000000000) → (gJ σ1 20 0 3 = zL (b1 : Int)) → (0 < (nm (M 31 10) A 2 * M 31 10 + to) * M 31 10 ^ e1 → ∀ i, i < hcN M → gI σ1 22 0 i = nI (F1 i)) → (FM M (M 31 10) (hcN M) ((nm (M 31 10) A 2 * M 31 10 + to) * M 31 10 ^ e1) b1 F1) → ((g = 0 ∧ ∀ t, t < to → U.testBit t = true) ∨ (g = 1 ∧ ∃ t, t < to ∧ U.testBit t = false)) → J p l e ({ frames := 64, cells := 0, slots := 0, locals := 960 }) s m ([.ref (gA Λ 20 0), .int (nI 2), .long (zL ((fb_sm (padd M A) 2 : Nat) : Int)), .int (nI U)] : List Value).toArray below meth c 8 D cy base (MQ below (va_Qv (fun u => GS σ u ∧ (∀ i, i < 2 → gI u 21 0 i = nI (A i)) ∧ ∃ b2 F2, b2 ≤ 1000000000000000 ∧ gJ u 20 0 3 = zL ((b2 : Nat) : Int) ∧ (∀ i, i < hcN M → gI u 22 0 i = nI (F2 i)) ∧ FM M (M 31 10) (hcN M) ((nm (M 31 10) A 2 + 1) * M 31 10 ^ e9) b2 F2) (Wd D cy base Λ) (Ab base)) ([.ref (gA Λ 20 0), .int (nI 2), .long (zL ((fb_sm (padd M A) 2 : Nat) : Int)), .int (nI U)] : List Value).toArray s 0 0 (Ab base)) 0 0 Λ 6 [(0, .ref (gA Λ 20 0)), (1, .int (nI 2)), (2, .long (zL ((fb_sm (padd M A) 2 : Nat) : Int))), (4, .int (nI U)), (5, .int (nI g)), (6, .int (nI to))] [] σ1 := by
    intro fu
    induction fu with
    | zero => intro σ1 g to b1 F1 hfu; exact absurd hfu (Nat.not_lt_zero _)
    | succ fu ih =>
      intro σ1 g to b1 F1 hfu hto hG1 hT1 hb1 hL1 hF1 hM1 hg
      have ih6 := ih
      refine j_iload C dX6_tryRooms_6 5 rfl ?_
      refine j_aload_n C dX6_tryRooms_8 rfl 0 rfl ?_
      refine j_getV C hwX6 20 0 0 (CR.n1 (hG1.cr hC) (by decide)) rfl rfl (by decide) rfl 0 (CR.v (hG1.cr hC) 20 0 0 ⟨rfl, by decide⟩ id) hL18 dX6_tryRooms_9 ?_
      refine c_i0 C (r_V C 3 0 [] (c_X4_roomCount l D cy base Λ σ1 M (hG1.cr hC) hB) (cwV 0 hts gX6_tryRooms_X4_roomCount rfl rfl rfl (by decide +kernel) ⟨by decide, by decide⟩) (CR.n1 (hG1.cr hC) (by decide)) rfl rfl rfl rfl (Nat.le_of_ble_eq_true rfl) dX6_tryRooms_12 ⟨by decide, by decide⟩) (fun rv uu hp => ?_)
      rw [hp.1, hp.2]
      refine j_icmp_ge (tgt := 89) C dX6_tryRooms_15 (by decide) (nI_leI (by omega) (by omega)) (fun h15 => ?_) (fun h15 => ?_)
      · exact j_vret C hr hlk (⟨hG1, hT1, b1, F1, hb1, hL1, hF1 (Nat.mul_pos (by omega) (Nat.pow_pos (by omega))), by have q := hM1; rw [show to = M 31 10 by omega, node_end, ← he1] at q; exact q⟩) dX6_tryRooms_89
      · refine j_iload C dX6_tryRooms_18 3 rfl ?_
        refine j_iconst C (nI 1) dX6_tryRooms_20 (by decide) ?_
        refine j_iload C dX6_tryRooms_21 5 rfl ?_
        refine j_ishl C (nI (2 ^ to)) dX6_tryRooms_23 (shl1 (by omega)) ?_
        refine j_iand C (nI U &&& nI (2 ^ to)) dX6_tryRooms_24 rfl ?_
        refine j_if_ne (tgt := 32) C dX6_tryRooms_25 (by decide) (and_bit (by omega)) (fun h25 => ?_) (fun h25 => ?_)
        · refine j_iconst C (nI 0) dX6_tryRooms_32 (by decide) ?_
          refine j_istore C [(7, .int (nI 0)), (0, .ref (gA Λ 20 0)), (1, .int (nI 2)), (2, .long (zL ((fb_sm (padd M A) 2 : Nat) : Int))), (4, .int (nI U)), (5, .int (nI g)), (6, .int (nI to))] dX6_tryRooms_33 (by decide) rfl ?_
          refine j_iload C dX6_tryRooms_35 0 rfl ?_
          refine j_if_eq (tgt := 45) C (P := True) dX6_tryRooms_37 (by decide) (by decide) (fun z => ?_) (fun z => ?_)
          · refine j_aload_n C dX6_tryRooms_45 rfl 1 rfl ?_
            refine j_getV C hwX6 20 0 1 (CR.n1 (hG1.cr hC) (by decide)) rfl rfl (by decide) rfl 0 (CR.v (hG1.cr hC) 20 0 1 ⟨rfl, by decide⟩ id) hL9 dX6_tryRooms_46 ?_
            refine j_iload_n C dX6_tryRooms_49 rfl 2 rfl ?_
            refine j_iload C dX6_tryRooms_50 6 rfl ?_
            refine j_iast C 21 0 2 (CR.n1 (hG1.cr hC) (by decide)) rfl rfl 9 (CR.l1 (hG1.cr hC) (by decide)) (by omega) (by omega) (nI to) rfl dX6_tryRooms_52 ?_
            refine j_aload_n C dX6_tryRooms_53 rfl 1 rfl ?_
            refine j_iload_n C dX6_tryRooms_54 rfl 2 rfl ?_
            refine j_iconst C (nI 1) dX6_tryRooms_55 (by decide) ?_
            refine j_iadd C (nI 3) dX6_tryRooms_56 (by decide) ?_
            refine j_lload_n C dX6_tryRooms_57 rfl 3 rfl ?_
            refine j_aload_n C dX6_tryRooms_58 rfl 1 rfl ?_
            refine j_iload_n C dX6_tryRooms_59 rfl 2 rfl ?_
            refine j_iload C dX6_tryRooms_60 6 rfl ?_
            have hTu : ∀ i, i < 2 → gI (sI σ1 21 0 2 (nI to)) 21 0 i = nI (upA A 2 to i) := fun i hi => by rw [upA_lt hi, gI_sI, if_neg (by omega)]; exact hT1 i hi
            have hvu := vA_up hAv (show to < M 31 10 by omega)
            have hG5 := GS.i (k := 2) (x := nI to) hG1
            refine c_l0 C (r_V C 20 0 [.int (nI 2), .int (nI to)] (c_price l D cy base Λ (sI σ1 21 0 2 (nI to)) M (hG5.cr hC) hB (upA A 2 to) 2 (by omega) (by decide) (fun i hi => Nat.lt_of_lt_of_le (hvu i (by omega)) (by omega)) hTu to upA_d) (cwV 2 hts gX6_tryRooms_X6_priceOfAdding rfl rfl rfl (by decide +kernel) ⟨by decide, by decide⟩) (CR.n1 (hG1.cr hC) (by decide)) rfl rfl rfl rfl (Nat.le_of_ble_eq_true rfl) dX6_tryRooms_62 ⟨by decide, by decide⟩) (fun rv uu hp => ?_)
            rw [hp.1, hp.2]
            refine j_ladd C (zL ((fb_sm (padd M (upA A 2 to)) 3 : Nat) : Int)) dX6_tryRooms_65 ((zL_add _ _).trans (congrArg zL (by rw [sm_up]; omega))) ?_
            refine j_iload C dX6_tryRooms_66 4 rfl ?_
            refine j_iconst C (nI 1) dX6_tryRooms_68 (by decide) ?_
            refine j_iload C dX6_tryRooms_69 6 rfl ?_
            refine j_ishl C (nI (2 ^ to)) dX6_tryRooms_71 (shl1 (by omega)) ?_
            refine j_ior C (nI (U ||| 2 ^ to)) dX6_tryRooms_72 (fa_or _ _) ?_
            have hTv : ∀ i, i < 3 → gI (sI σ1 21 0 2 (nI to)) 21 0 i = nI (upA A 2 to i) := fun i hi => by by_cases e8 : i = 2; rw [e8, upA_d]; exact gI_same _ _ _ _ _; exact hTu i (by omega)
            refine c_v0 C (r_V C 20 0 [.int (nI 3), .long (zL ((fb_sm (padd M (upA A 2 to)) 3 : Nat) : Int)), .int (nI (U ||| 2 ^ to))] (c_tryFrom_3 l D cy base Λ (sI σ1 21 0 2 (nI to)) M (hG5.cr hC) hB hm9 hR1 hR3 e1 (by omega) (upA A 2 to) F1 b1 (U ||| 2 ^ to) hb1 hvu hTv hL1 (by rw [nm_up]; exact hF1) (by rw [nm_up]; exact hM1) (or_lt hU (pow6 (by omega))) (fun t => by rw [bit_or_pow, Bool.or_eq_true, decide_eq_true_eq, bU]; exact bitU_up)) (cwV 3 hts gX6_tryRooms_X6_tryFrom rfl rfl rfl (by decide +kernel) ⟨by decide, by decide⟩) (CR.n1 (hG1.cr hC) (by decide)) rfl rfl rfl rfl (Nat.le_of_ble_eq_true rfl) dX6_tryRooms_73 ⟨by decide, by decide⟩) (fun u3 hp => ?_)
            obtain ⟨hG3, hT3, b3, F3, hb3, hL3, hf3, hM3⟩ := hp
            rw [nm_up] at hM3
            skip
            refine j_iload C dX6_tryRooms_76 5 rfl ?_
            refine j_iload C dX6_tryRooms_78 0 rfl ?_
            refine j_ior C (nI g) dX6_tryRooms_80 (by rcases hg with z | z <;> rw [z.1] <;> decide) ?_
            refine j_istore C [(5, .int (nI g)), (7, .int (nI 0)), (0, .ref (gA Λ 20 0)), (1, .int (nI 2)), (2, .long (zL ((fb_sm (padd M A) 2 : Nat) : Int))), (4, .int (nI U)), (6, .int (nI to))] dX6_tryRooms_81 (by decide) rfl ?_
            refine j_iinc C [(6, .int (nI (to + 1))), (5, .int (nI g)), (7, .int (nI 0)), (0, .ref (gA Λ 20 0)), (1, .int (nI 2)), (2, .long (zL ((fb_sm (padd M A) 2 : Nat) : Int))), (4, .int (nI U))] (nI (to + 1)) dX6_tryRooms_83 6 rfl (nI_add _ 1) (by decide) rfl ?_
            refine j_goto (tgt := 6) C dX6_tryRooms_86 (by decide) ?_
            refine j_lv [3, 4, 5, 6, 1, 0] rfl ?_
            exact ih6 u3 g (to + 1) b3 F3 (by omega) (by omega) (GS.tr hG5 hG3) (fun i hi => by rw [hT3 i (by omega), upA_lt hi]) hb3 hL3 (fun _ => hf3) hM3 (by rcases hg with ⟨z1, z2⟩ | ⟨z1, z2, z3, z4⟩; exact Or.inl ⟨z1, fun t ht => by by_cases e8 : t = to; rw [e8]; simpa using h25; exact z2 t (by omega)⟩; exact Or.inr ⟨z1, z2, by omega, z4⟩)
          · exact absurd trivial z
        · refine j_iconst C (nI 1) dX6_tryRooms_28 (by decide) ?_
          refine j_goto (tgt := 33) C dX6_tryRooms_29 (by decide) ?_
          refine j_istore C [(7, .int (nI 1)), (0, .ref (gA Λ 20 0)), (1, .int (nI 2)), (2, .long (zL ((fb_sm (padd M A) 2 : Nat) : Int))), (4, .int (nI U)), (5, .int (nI g)), (6, .int (nI to))] dX6_tryRooms_33 (by decide) rfl ?_
          refine j_iload C dX6_tryRooms_35 0 rfl ?_
          refine j_if_eq (tgt := 45) C (P := False) dX6_tryRooms_37 (by decide) (by decide) (fun z => ?_) (fun z => ?_)
          · exact z.elim
          · refine j_iload C dX6_tryRooms_40 5 rfl ?_
            refine j_if_ne (tgt := 76) C dX6_tryRooms_42 (by decide) (nJ_ne0 (by rcases hg with z | z <;> omega)) (fun h42 => ?_) (fun h42 => ?_)
            · obtain ⟨xx, hxx, bxx⟩ : ∃ t, t < to ∧ U.testBit t = false := by
                rcases hg with z | z
                · exact absurd z.1 h42
                · exact z.2
              have hKt : 0 < (nm (M 31 10) A 2 * M 31 10 + to) * M 31 10 ^ e1 := Nat.mul_pos (by omega) (Nat.pow_pos (by omega))
              have hbs := FM.small hB hm9 hM1 hKt
              have nx : ∀ t, U.testBit t = false → (∀ k, k < hcN M → M 40 (hs M k) ≠ t + 1) ∧ ∀ i, i < 2 → A i ≠ t := fun t ht => by
                have q : ¬ (fxP M (hcN M) t ∨ ∃ i, i < 2 ∧ A i = t) := fun z => by rw [(bU t).mpr z] at ht; exact absurd ht (by decide)
                exact ⟨fun k hk z => q (Or.inl ⟨k, hk, z⟩), fun i hi z => q (Or.inr ⟨i, hi, z⟩)⟩
              have hsk : FM M (M 31 10) (hcN M) ((nm (M 31 10) A 2 * M 31 10 + (to + 1)) * M 31 10 ^ e1) b1 F1 := by
                have hm0 := hM1
                have hc0 : hcN M = 2 + 1 + e1 := by omega
                have n1 := nx xx bxx
                have n2 := nx to h25
                rw [hc0] at hm0 n1 n2 ⊢
                exact FM.skip hm0 hAv rfl hxx (by omega) n1.2 n2.2 n1.1 n2.1 (by omega)
              refine j_iload C dX6_tryRooms_76 5 rfl ?_
              refine j_iload C dX6_tryRooms_78 0 rfl ?_
              refine j_ior C (nI 1) dX6_tryRooms_80 (by rcases hg with z | z <;> rw [z.1] <;> decide) ?_
              refine j_istore C [(5, .int (nI 1)), (7, .int (nI 1)), (0, .ref (gA Λ 20 0)), (1, .int (nI 2)), (2, .long (zL ((fb_sm (padd M A) 2 : Nat) : Int))), (4, .int (nI U)), (6, .int (nI to))] dX6_tryRooms_81 (by decide) rfl ?_
              refine j_iinc C [(6, .int (nI (to + 1))), (5, .int (nI 1)), (7, .int (nI 1)), (0, .ref (gA Λ 20 0)), (1, .int (nI 2)), (2, .long (zL ((fb_sm (padd M A) 2 : Nat) : Int))), (4, .int (nI U))] (nI (to + 1)) dX6_tryRooms_83 6 rfl (nI_add _ 1) (by decide) rfl ?_
              refine j_goto (tgt := 6) C dX6_tryRooms_86 (by decide) ?_
              refine j_lv [3, 4, 5, 6, 1, 0] rfl ?_
              exact ih6 σ1 1 (to + 1) b1 F1 (by omega) (by omega) hG1 hT1 hb1 hL1 (fun _ => hF1 hKt) hsk (Or.inr ⟨rfl, to, by omega, h25⟩)
            · refine j_aload_n C dX6_tryRooms_45 rfl 1 rfl ?_
              refine j_getV C hwX6 20 0 1 (CR.n1 (hG1.cr hC) (by decide)) rfl rfl (by decide) rfl 0 (CR.v (hG1.cr hC) 20 0 1 ⟨rfl, by decide⟩ id) hL9 dX6_tryRooms_46 ?_
              refine j_iload_n C dX6_tryRooms_49 rfl 2 rfl ?_
              refine j_iload C dX6_tryRooms_50 6 rfl ?_
              refine j_iast C 21 0 2 (CR.n1 (hG1.cr hC) (by decide)) rfl rfl 9 (CR.l1 (hG1.cr hC) (by decide)) (by omega) (by omega) (nI to) rfl dX6_tryRooms_52 ?_
              refine j_aload_n C dX6_tryRooms_53 rfl 1 rfl ?_
              refine j_iload_n C dX6_tryRooms_54 rfl 2 rfl ?_
              refine j_iconst C (nI 1) dX6_tryRooms_55 (by decide) ?_
              refine j_iadd C (nI 3) dX6_tryRooms_56 (by decide) ?_
              refine j_lload_n C dX6_tryRooms_57 rfl 3 rfl ?_
              refine j_aload_n C dX6_tryRooms_58 rfl 1 rfl ?_
              refine j_iload_n C dX6_tryRooms_59 rfl 2 rfl ?_
              refine j_iload C dX6_tryRooms_60 6 rfl ?_
              have hTu : ∀ i, i < 2 → gI (sI σ1 21 0 2 (nI to)) 21 0 i = nI (upA A 2 to i) := fun i hi => by rw [upA_lt hi, gI_sI, if_neg (by omega)]; exact hT1 i hi
              have hvu := vA_up hAv (show to < M 31 10 by omega)
              have hG5 := GS.i (k := 2) (x := nI to) hG1
              refine c_l0 C (r_V C 20 0 [.int (nI 2), .int (nI to)] (c_price l D cy base Λ (sI σ1 21 0 2 (nI to)) M (hG5.cr hC) hB (upA A 2 to) 2 (by omega) (by decide) (fun i hi => Nat.lt_of_lt_of_le (hvu i (by omega)) (by omega)) hTu to upA_d) (cwV 2 hts gX6_tryRooms_X6_priceOfAdding rfl rfl rfl (by decide +kernel) ⟨by decide, by decide⟩) (CR.n1 (hG1.cr hC) (by decide)) rfl rfl rfl rfl (Nat.le_of_ble_eq_true rfl) dX6_tryRooms_62 ⟨by decide, by decide⟩) (fun rv uu hp => ?_)
              rw [hp.1, hp.2]
              refine j_ladd C (zL ((fb_sm (padd M (upA A 2 to)) 3 : Nat) : Int)) dX6_tryRooms_65 ((zL_add _ _).trans (congrArg zL (by rw [sm_up]; omega))) ?_
              refine j_iload C dX6_tryRooms_66 4 rfl ?_
              refine j_iconst C (nI 1) dX6_tryRooms_68 (by decide) ?_
              refine j_iload C dX6_tryRooms_69 6 rfl ?_
              refine j_ishl C (nI (2 ^ to)) dX6_tryRooms_71 (shl1 (by omega)) ?_
              refine j_ior C (nI (U ||| 2 ^ to)) dX6_tryRooms_72 (fa_or _ _) ?_
              have hTv : ∀ i, i < 3 → gI (sI σ1 21 0 2 (nI to)) 21 0 i = nI (upA A 2 to i) := fun i hi => by by_cases e8 : i = 2; rw [e8, upA_d]; exact gI_same _ _ _ _ _; exact hTu i (by omega)
              refine c_v0 C (r_V C 20 0 [.int (nI 3), .long (zL ((fb_sm (padd M (upA A 2 to)) 3 : Nat) : Int)), .int (nI (U ||| 2 ^ to))] (c_tryFrom_3 l D cy base Λ (sI σ1 21 0 2 (nI to)) M (hG5.cr hC) hB hm9 hR1 hR3 e1 (by omega) (upA A 2 to) F1 b1 (U ||| 2 ^ to) hb1 hvu hTv hL1 (by rw [nm_up]; exact hF1) (by rw [nm_up]; exact hM1) (or_lt hU (pow6 (by omega))) (fun t => by rw [bit_or_pow, Bool.or_eq_true, decide_eq_true_eq, bU]; exact bitU_up)) (cwV 3 hts gX6_tryRooms_X6_tryFrom rfl rfl rfl (by decide +kernel) ⟨by decide, by decide⟩) (CR.n1 (hG1.cr hC) (by decide)) rfl rfl rfl rfl (Nat.le_of_ble_eq_true rfl) dX6_tryRooms_73 ⟨by decide, by decide⟩) (fun u3 hp => ?_)
              obtain ⟨hG3, hT3, b3, F3, hb3, hL3, hf3, hM3⟩ := hp
              rw [nm_up] at hM3
              skip
              refine j_iload C dX6_tryRooms_76 5 rfl ?_
              refine j_iload C dX6_tryRooms_78 0 rfl ?_
              refine j_ior C (nI 1) dX6_tryRooms_80 (by rcases hg with z | z <;> rw [z.1] <;> decide) ?_
              refine j_istore C [(5, .int (nI 1)), (7, .int (nI 1)), (0, .ref (gA Λ 20 0)), (1, .int (nI 2)), (2, .long (zL ((fb_sm (padd M A) 2 : Nat) : Int))), (4, .int (nI U)), (6, .int (nI to))] dX6_tryRooms_81 (by decide) rfl ?_
              refine j_iinc C [(6, .int (nI (to + 1))), (5, .int (nI 1)), (7, .int (nI 1)), (0, .ref (gA Λ 20 0)), (1, .int (nI 2)), (2, .long (zL ((fb_sm (padd M A) 2 : Nat) : Int))), (4, .int (nI U))] (nI (to + 1)) dX6_tryRooms_83 6 rfl (nI_add _ 1) (by decide) rfl ?_
              refine j_goto (tgt := 6) C dX6_tryRooms_86 (by decide) ?_
              refine j_lv [3, 4, 5, 6, 1, 0] rfl ?_
              exact ih6 u3 1 (to + 1) b3 F3 (by omega) (by omega) (GS.tr hG5 hG3) (fun i hi => by rw [hT3 i (by omega), upA_lt hi]) hb3 hL3 (fun _ => hf3) hM3 (Or.inr ⟨rfl, to, by omega, h25⟩)
  refine j_lv [2, 3, 4, 5, 1, 0] rfl ?_
  exact lb6 _ σ 0 0 b F (Nat.lt_succ_self _) (by omega) GS.rf hTr hbb hL (by rw [he1, node_beg] at hFo; exact hFo) (by rw [he1, node_beg] at hFM; exact hFM) (Or.inl ⟨rfl, fun t ht => absurd ht (Nat.not_lt_zero _)⟩)

set_option maxHeartbeats 4000000 in
set_option maxRecDepth 100000 in
theorem c_tryFrom_2 (l : Launch) (D : va_G) (cy : Nat → ClassId) (base : Nat) (Λ : LY) (σ : HS) (M : MM) (hC : CR noEx Λ σ M) (hB : MBd M) (hm9 : hcN M ≤ 9) (hR1 : 1 ≤ M 31 10) (hR3 : M 31 10 ≤ 3) (e9 : Nat) (hde : hcN M = 2 + e9) (A F : Nat → Nat) (b U : Nat) (hbb : b ≤ 1000000000000000) (hAv : vA (M 31 10) 2 A) (hTr : ∀ i, i < 2 → gI σ 21 0 i = nI (A i)) (hL : gJ σ 20 0 3 = zL (b : Int)) (hFo : 0 < nm (M 31 10) A 2 * M 31 10 ^ e9 → ∀ i, i < hcN M → gI σ 22 0 i = nI (F i)) (hFM : FM M (M 31 10) (hcN M) (nm (M 31 10) A 2 * M 31 10 ^ e9) b F) (hU : U < 64) (bU : ∀ t, U.testBit t = true ↔ fxP M (hcN M) t ∨ ∃ i, i < 2 ∧ A i = t) : Met l yX6_tryFrom wsX6_tryFrom ({ frames := 68, cells := 0, slots := 0, locals := 1020 }) (va_Pc [.ref (gA Λ 20 0), .int (nI 2), .long (zL ((fb_sm (padd M A) 2 : Nat) : Int)), .int (nI U)] (Wd D cy base Λ σ)) (va_Qv (fun u => GS σ u ∧ (∀ i, i < 2 → gI u 21 0 i = nI (A i)) ∧ ∃ b2 F2, b2 ≤ 1000000000000000 ∧ gJ u 20 0 3 = zL ((b2 : Nat) : Int) ∧ (∀ i, i < hcN M → gI u 22 0 i = nI (F2 i)) ∧ FM M (M 31 10) (hcN M) ((nm (M 31 10) A 2 + 1) * M 31 10 ^ e9) b2 F2) (Wd D cy base Λ) (Ab base)) 0 0 (Ab base) := by
  refine j_start (cc := cX6_tryFrom) (nL := 5) (ret := none) (lv := [(0, .ref (gA Λ 20 0)), (1, .int (nI 2)), (2, .long (zL ((fb_sm (padd M A) 2 : Nat) : Int))), (4, .int (nI U))]) (by decide) rfl (Nat.le_of_ble_eq_true rfl) rfl ?_
  intro p e s m below meth c C hr hlk hnm
  have C : Cx p s m ([.ref (gA Λ 20 0), .int (nI 2), .long (zL ((fb_sm (padd M A) 2 : Nat) : Int)), .int (nI U)] : List Value).toArray c cX6_tryFrom 5 RX6 wsX6_tryFrom D cy base := C
  have hts := C.2.2.2.2.1
  have hwX4 : ∀ w ∈ u_ws RX4 TX4 6, w ∈ wsX6_tryFrom := by decide +kernel
  have hwX6 : ∀ w ∈ u_ws RX6 TX6 4, w ∈ wsX6_tryFrom := by decide +kernel
  have hM9 : (Cond.fieldLink RX6 9 (TX6 1).1 (TX6 1).2.1 (TX6 1).2.2.1).before ([.ref (gA Λ 20 0), .int (nI 2), .long (zL ((fb_sm (padd M A) 2 : Nat) : Int)), .int (nI U)] : List Value).toArray s = true := hts (.fieldLink RX6 9 "CodeRooms$Search" "trial" "[I") (by decide +kernel)
  have hL9 : FL RX6 9 (TX6 1).1 (TX6 1).2.1 (TX6 1).2.2.1 ([.ref (gA Λ 20 0), .int (nI 2), .long (zL ((fb_sm (padd M A) 2 : Nat) : Int)), .int (nI U)] : List Value).toArray s := Or.inl hM9
  have hM15 : (Cond.fieldLink RX6 15 (TX6 2).1 (TX6 2).2.1 (TX6 2).2.2.1).before ([.ref (gA Λ 20 0), .int (nI 2), .long (zL ((fb_sm (padd M A) 2 : Nat) : Int)), .int (nI U)] : List Value).toArray s = true := hts (.fieldLink RX6 15 "CodeRooms$Search" "found" "[I") (by decide +kernel)
  have hL15 : FL RX6 15 (TX6 2).1 (TX6 2).2.1 (TX6 2).2.2.1 ([.ref (gA Λ 20 0), .int (nI 2), .long (zL ((fb_sm (padd M A) 2 : Nat) : Int)), .int (nI U)] : List Value).toArray s := Or.inl hM15
  have hM18 : (Cond.fieldLink RX6 18 (TX6 0).1 (TX6 0).2.1 (TX6 0).2.2.1).before ([.ref (gA Λ 20 0), .int (nI 2), .long (zL ((fb_sm (padd M A) 2 : Nat) : Int)), .int (nI U)] : List Value).toArray s = true := hts (.fieldLink RX6 18 "CodeRooms$Search" "plan" "LCodeRooms$Plan;") (by decide +kernel)
  have hL18 : FL RX6 18 (TX6 0).1 (TX6 0).2.1 (TX6 0).2.2.1 ([.ref (gA Λ 20 0), .int (nI 2), .long (zL ((fb_sm (padd M A) 2 : Nat) : Int)), .int (nI U)] : List Value).toArray s := Or.inl hM18
  have hL22 : FL RX6 22 (TX4 5).1 (TX4 5).2.1 (TX4 5).2.2.1 ([.ref (gA Λ 20 0), .int (nI 2), .long (zL ((fb_sm (padd M A) 2 : Nat) : Int)), .int (nI U)] : List Value).toArray s := Or.inr ⟨_, Ex.nestF C.2.2.2.2.2.2 nf_X6_22⟩
  have hM36 : (Cond.fieldLink RX6 36 (TX6 3).1 (TX6 3).2.1 (TX6 3).2.2.1).before ([.ref (gA Λ 20 0), .int (nI 2), .long (zL ((fb_sm (padd M A) 2 : Nat) : Int)), .int (nI U)] : List Value).toArray s = true := hts (.fieldLink RX6 36 "CodeRooms$Search" "least" "J") (by decide +kernel)
  have hL36 : FL RX6 36 (TX6 3).1 (TX6 3).2.1 (TX6 3).2.2.1 ([.ref (gA Λ 20 0), .int (nI 2), .long (zL ((fb_sm (padd M A) 2 : Nat) : Int)), .int (nI U)] : List Value).toArray s := Or.inl hM36
  have hn : M 31 5 ≤ 40 := hB 31 5 rfl
  have hhc0 := hcN_le M
  have hS := sm_le hB (A := A) (d := 2) (by omega) (by decide)
  have hKp : b ≠ 1000000000000000 → 0 < nm (M 31 10) A 2 * M 31 10 ^ e9 := fun z => Nat.pos_of_ne_zero (fun q => z (hFM.2.2 q))
  refine j_lload_n C dX6_tryFrom_0 rfl 2 rfl ?_
  refine j_aload_n C dX6_tryFrom_1 rfl 0 rfl ?_
  refine j_getJ C hwX6 20 0 3 (CR.n1 hC (by decide)) rfl rfl (by decide) rfl (zL (b : Int)) hL hL36 dX6_tryFrom_2 ?_
  refine j_lcmp_lt (tgt := 10) C dX6_tryFrom_5 dX6_tryFrom_6 (by decide) ((zL_lt (by omega) (by omega) (by omega) (by omega)).trans Int.ofNat_lt) (fun h5 => ?_) (fun h5 => ?_)
  · refine j_iload_n C dX6_tryFrom_10 rfl 1 rfl ?_
    refine j_aload_n C dX6_tryFrom_11 rfl 0 rfl ?_
    refine j_getV C hwX6 20 0 0 (CR.n1 hC (by decide)) rfl rfl (by decide) rfl 0 (CR.v hC 20 0 0 ⟨rfl, by decide⟩ id) hL18 dX6_tryFrom_12 ?_
    have hhc15 := hcN_le M
    refine j_getI C hwX4 3 0 5 (CR.n1 hC (by decide)) rfl rfl (by decide) rfl (nI (hcN M)) (CR.i hC 3 0 5 ⟨rfl, Or.inr rfl⟩ id) hL22 dX6_tryFrom_15 ?_
    refine j_icmp_ge (tgt := 27) C dX6_tryFrom_18 (by decide) (nI_leI (by omega) (by omega)) (fun h18 => ?_) (fun h18 => ?_)
    · refine j_aload_n C dX6_tryFrom_27 rfl 0 rfl ?_
      refine j_lload_n C dX6_tryFrom_28 rfl 2 rfl ?_
      refine j_putJ C hwX6 20 0 3 (CR.n1 hC (by decide)) rfl rfl (by decide) rfl tyX6 tyX6_ok nmX6 rfl rfl rfl hL36 dX6_tryFrom_29 ?_
      refine j_aload_n C dX6_tryFrom_32 rfl 0 rfl ?_
      refine j_getV C hwX6 20 0 1 (CR.n1 hC (by decide)) rfl rfl (by decide) rfl 0 (CR.v hC 20 0 1 ⟨rfl, by decide⟩ id) hL9 dX6_tryFrom_33 ?_
      refine j_iconst C (nI 0) dX6_tryFrom_36 (by decide) ?_
      refine j_aload_n C dX6_tryFrom_37 rfl 0 rfl ?_
      refine j_getV C hwX6 20 0 2 (CR.n1 hC (by decide)) rfl rfl (by decide) rfl 0 (CR.v hC 20 0 2 ⟨rfl, by decide⟩ id) hL15 dX6_tryFrom_38 ?_
      refine j_iconst C (nI 0) dX6_tryFrom_41 (by decide) ?_
      refine j_bipush C (nI 9) dX6_tryFrom_42 (by decide) ?_
      refine j_cpi C 21 0 22 0 9 (CR.n1 hC (by decide)) (CR.n1 hC (by decide)) rfl rfl rfl rfl (CR.l1 hC (by decide)) (CR.l1 hC (by decide)) (by decide) (by decide +kernel) rfl rfl dX6_tryFrom_44 ?_
      exact j_vret C hr hlk (⟨GS.r (GS.j GS.rf), fun i hi => by rw [gI_sRn (Or.inl (by decide))]; exact hTr i hi, fb_sm (padd M A) 2, A, by omega, gJ_same _ _ _ _ _, fun i hi => by rw [gI_sR]; unfold va_cpy; rw [if_pos (by omega)]; exact (congrArg _ (by omega)).trans (hTr i (by omega)), by have e0 : e9 = 0 := (by omega); subst e0; rw [Nat.pow_zero, Nat.mul_one] at hFM ⊢; rw [show hcN M = 2 from hde] at hFM ⊢; exact FM.leaf hFM hAv h5⟩) dX6_tryFrom_47
    · refine j_iload_n C dX6_tryFrom_21 rfl 1 rfl ?_
      refine j_bipush C (nI 9) dX6_tryFrom_22 (by decide) ?_
      refine j_icmp_lt (tgt := 48) C (P := True) dX6_tryFrom_24 (by decide) (by decide) (fun z => ?_) (fun z => ?_)
      · refine j_aload_n C dX6_tryFrom_48 rfl 0 rfl ?_
        refine j_iload_n C dX6_tryFrom_49 rfl 1 rfl ?_
        refine j_lload_n C dX6_tryFrom_50 rfl 2 rfl ?_
        refine j_iload C dX6_tryFrom_51 3 rfl ?_
        refine c_v0 C (r_V C 20 0 [.int (nI 2), .long (zL ((fb_sm (padd M A) 2 : Nat) : Int)), .int (nI U)] (c_tryRooms_2 l D cy base Λ σ M hC hB hm9 hR1 hR3 e9 hde A F b U hbb hAv hTr hL hFo hFM hU bU (by omega)) (cwV 3 hts gX6_tryFrom_X6_tryRooms rfl rfl rfl (by decide +kernel) ⟨by decide, by decide⟩) (CR.n1 hC (by decide)) rfl rfl rfl rfl (Nat.le_of_ble_eq_true rfl) dX6_tryFrom_53 ⟨by decide, by decide⟩) (fun u3 hp => ?_)
        exact j_vret C hr hlk (hp) dX6_tryFrom_56
      · exact absurd trivial z
  · exact j_vret C hr hlk (⟨GS.rf, hTr, b, F, hbb, hL, hFo (hKp (by omega)), by rw [hde] at hFM ⊢; exact FM.prune hFM hAv rfl (by omega) (by omega) (by omega)⟩) dX6_tryFrom_9

set_option maxHeartbeats 8000000 in
set_option maxRecDepth 100000 in
theorem c_tryRooms_1 (l : Launch) (D : va_G) (cy : Nat → ClassId) (base : Nat) (Λ : LY) (σ : HS) (M : MM) (hC : CR noEx Λ σ M) (hB : MBd M) (hm9 : hcN M ≤ 9) (hR1 : 1 ≤ M 31 10) (hR3 : M 31 10 ≤ 3) (e9 : Nat) (hde : hcN M = 1 + e9) (A F : Nat → Nat) (b U : Nat) (hbb : b ≤ 1000000000000000) (hAv : vA (M 31 10) 1 A) (hTr : ∀ i, i < 1 → gI σ 21 0 i = nI (A i)) (hL : gJ σ 20 0 3 = zL (b : Int)) (hFo : 0 < nm (M 31 10) A 1 * M 31 10 ^ e9 → ∀ i, i < hcN M → gI σ 22 0 i = nI (F i)) (hFM : FM M (M 31 10) (hcN M) (nm (M 31 10) A 1 * M 31 10 ^ e9) b F) (hU : U < 64) (bU : ∀ t, U.testBit t = true ↔ fxP M (hcN M) t ∨ ∃ i, i < 1 ∧ A i = t) (hdd : 1 < hcN M) : Met l yX6_tryRooms wsX6_tryRooms ({ frames := 72, cells := 0, slots := 0, locals := 1080 }) (va_Pc [.ref (gA Λ 20 0), .int (nI 1), .long (zL ((fb_sm (padd M A) 1 : Nat) : Int)), .int (nI U)] (Wd D cy base Λ σ)) (va_Qv (fun u => GS σ u ∧ (∀ i, i < 1 → gI u 21 0 i = nI (A i)) ∧ ∃ b2 F2, b2 ≤ 1000000000000000 ∧ gJ u 20 0 3 = zL ((b2 : Nat) : Int) ∧ (∀ i, i < hcN M → gI u 22 0 i = nI (F2 i)) ∧ FM M (M 31 10) (hcN M) ((nm (M 31 10) A 1 + 1) * M 31 10 ^ e9) b2 F2) (Wd D cy base Λ) (Ab base)) 0 0 (Ab base) := by
  refine j_start (cc := cX6_tryRooms) (nL := 8) (ret := none) (lv := [(0, .ref (gA Λ 20 0)), (1, .int (nI 1)), (2, .long (zL ((fb_sm (padd M A) 1 : Nat) : Int))), (4, .int (nI U))]) (by decide) rfl (Nat.le_of_ble_eq_true rfl) rfl ?_
  intro p e s m below meth c C hr hlk hnm
  have C : Cx p s m ([.ref (gA Λ 20 0), .int (nI 1), .long (zL ((fb_sm (padd M A) 1 : Nat) : Int)), .int (nI U)] : List Value).toArray c cX6_tryRooms 8 RX6 wsX6_tryRooms D cy base := C
  have hts := C.2.2.2.2.1
  have hwX6 : ∀ w ∈ u_ws RX6 TX6 4, w ∈ wsX6_tryRooms := by decide +kernel
  have hM9 : (Cond.fieldLink RX6 9 (TX6 1).1 (TX6 1).2.1 (TX6 1).2.2.1).before ([.ref (gA Λ 20 0), .int (nI 1), .long (zL ((fb_sm (padd M A) 1 : Nat) : Int)), .int (nI U)] : List Value).toArray s = true := hts (.fieldLink RX6 9 "CodeRooms$Search" "trial" "[I") (by decide +kernel)
  have hL9 : FL RX6 9 (TX6 1).1 (TX6 1).2.1 (TX6 1).2.2.1 ([.ref (gA Λ 20 0), .int (nI 1), .long (zL ((fb_sm (padd M A) 1 : Nat) : Int)), .int (nI U)] : List Value).toArray s := Or.inl hM9
  have hM18 : (Cond.fieldLink RX6 18 (TX6 0).1 (TX6 0).2.1 (TX6 0).2.2.1).before ([.ref (gA Λ 20 0), .int (nI 1), .long (zL ((fb_sm (padd M A) 1 : Nat) : Int)), .int (nI U)] : List Value).toArray s = true := hts (.fieldLink RX6 18 "CodeRooms$Search" "plan" "LCodeRooms$Plan;") (by decide +kernel)
  have hL18 : FL RX6 18 (TX6 0).1 (TX6 0).2.1 (TX6 0).2.2.1 ([.ref (gA Λ 20 0), .int (nI 1), .long (zL ((fb_sm (padd M A) 1 : Nat) : Int)), .int (nI U)] : List Value).toArray s := Or.inl hM18
  have hn : M 31 5 ≤ 40 := hB 31 5 rfl
  have hhc0 := hcN_le M
  obtain ⟨e1, he1⟩ : ∃ e1, e9 = e1 + 1 := ⟨e9 - 1, by omega⟩
  refine j_iconst C (nI 0) dX6_tryRooms_0 (by decide) ?_
  refine j_istore C [(5, .int (nI 0)), (0, .ref (gA Λ 20 0)), (1, .int (nI 1)), (2, .long (zL ((fb_sm (padd M A) 1 : Nat) : Int))), (4, .int (nI U))] dX6_tryRooms_1 (by decide) rfl ?_
  refine j_iconst C (nI 0) dX6_tryRooms_3 (by decide) ?_
  refine j_istore C [(6, .int (nI 0)), (5, .int (nI 0)), (0, .ref (gA Λ 20 0)), (1, .int (nI 1)), (2, .long (zL ((fb_sm (padd M A) 1 : Nat) : Int))), (4, .int (nI U))] dX6_tryRooms_4 (by decide) rfl ?_
  have lb6 : ∀ (fu : Nat) (σ1 : HS) (g to : Nat) (b1 : Nat) (F1 : Nat → Nat), (M 31 10 - to) < fu → (to ≤ M 31 10) → (GS σ σ1) → (∀ i, i < 1 → gI σ1 21 0 i = nI (A i)) → (b1 ≤ 1000000000000000) → (gJ σ1 20 0 3 = zL (b1 : Int)) → (0 < (nm (M 31 10) A 1 * M 31 10 + to) * M 31 10 ^ e1 → ∀ i, i < hcN M → gI σ1 22 0 i = nI (F1 i)) → (FM M (M 31 10) (hcN M) ((nm (M 31 10) A 1 * M 31 10 + to) * M 31 10 ^ e1) b1 F1) → ((g = 0 ∧ ∀ t, t < to → U.testBit t = true) ∨ (g = 1 ∧ ∃ t, t < to ∧ U.testBit t = false)) → J p l e ({ frames := 72, cells := 0, slots := 0, locals := 1080 }) s m ([.ref (gA Λ 20 0), .int (nI 1), .long (zL ((fb_sm (padd M A) 1 : Nat) : Int)), .int (nI U)] : List Value).toArray below meth c 8 D cy base (MQ below (va_Qv (fun u => GS σ u ∧ (∀ i, i < 1 → gI u 21 0 i = nI (A i)) ∧ ∃ b2 F2, b2 ≤ 1000000000000000 ∧ gJ u 20 0 3 = zL ((b2 : Nat) : Int) ∧ (∀ i, i < hcN M → gI u 22 0 i = nI (F2 i)) ∧ FM M (M 31 10) (hcN M) ((nm (M 31 10) A 1 + 1) * M 31 10 ^ e9) b2 F2) (Wd D cy base Λ) (Ab base)) ([.ref (gA Λ 20 0), .int (nI 1), .long (zL ((fb_sm (padd M A) 1 : Nat) : Int)), .int (nI U)] : List Value).toArray s 0 0 (Ab base)) 0 0 Λ 6 [(0, .ref (gA Λ 20 0)), (1, .int (nI 1)), (2, .long (zL ((fb_sm (padd M A) 1 : Nat) : Int))), (4, .int (nI U)), (5, .int (nI g)), (6, .int (nI to))] [] σ1 := by
    intro fu
    induction fu with
    | zero => intro σ1 g to b1 F1 hfu; exact absurd hfu (Nat.not_lt_zero _)
    | succ fu ih =>
      intro σ1 g to b1 F1 hfu hto hG1 hT1 hb1 hL1 hF1 hM1 hg
      have ih6 := ih
      refine j_iload C dX6_tryRooms_6 5 rfl ?_
      refine j_aload_n C dX6_tryRooms_8 rfl 0 rfl ?_
      refine j_getV C hwX6 20 0 0 (CR.n1 (hG1.cr hC) (by decide)) rfl rfl (by decide) rfl 0 (CR.v (hG1.cr hC) 20 0 0 ⟨rfl, by decide⟩ id) hL18 dX6_tryRooms_9 ?_
      refine c_i0 C (r_V C 3 0 [] (c_X4_roomCount l D cy base Λ σ1 M (hG1.cr hC) hB) (cwV 0 hts gX6_tryRooms_X4_roomCount rfl rfl rfl (by decide +kernel) ⟨by decide, by decide⟩) (CR.n1 (hG1.cr hC) (by decide)) rfl rfl rfl rfl (Nat.le_of_ble_eq_true rfl) dX6_tryRooms_12 ⟨by decide, by decide⟩) (fun rv uu hp => ?_)
      rw [hp.1, hp.2]
      refine j_icmp_ge (tgt := 89) C dX6_tryRooms_15 (by decide) (nI_leI (by omega) (by omega)) (fun h15 => ?_) (fun h15 => ?_)
      · exact j_vret C hr hlk (⟨hG1, hT1, b1, F1, hb1, hL1, hF1 (Nat.mul_pos (by omega) (Nat.pow_pos (by omega))), by have q := hM1; rw [show to = M 31 10 by omega, node_end, ← he1] at q; exact q⟩) dX6_tryRooms_89
      · refine j_iload C dX6_tryRooms_18 3 rfl ?_
        refine j_iconst C (nI 1) dX6_tryRooms_20 (by decide) ?_
        refine j_iload C dX6_tryRooms_21 5 rfl ?_
        refine j_ishl C (nI (2 ^ to)) dX6_tryRooms_23 (shl1 (by omega)) ?_
        refine j_iand C (nI U &&& nI (2 ^ to)) dX6_tryRooms_24 rfl ?_
        refine j_if_ne (tgt := 32) C dX6_tryRooms_25 (by decide) (and_bit (by omega)) (fun h25 => ?_) (fun h25 => ?_)
        · refine j_iconst C (nI 0) dX6_tryRooms_32 (by decide) ?_
          refine j_istore C [(7, .int (nI 0)), (0, .ref (gA Λ 20 0)), (1, .int (nI 1)), (2, .long (zL ((fb_sm (padd M A) 1 : Nat) : Int))), (4, .int (nI U)), (5, .int (nI g)), (6, .int (nI to))] dX6_tryRooms_33 (by decide) rfl ?_
          refine j_iload C dX6_tryRooms_35 0 rfl ?_
          refine j_if_eq (tgt := 45) C (P := True) dX6_tryRooms_37 (by decide) (by decide) (fun z => ?_) (fun z => ?_)
          · refine j_aload_n C dX6_tryRooms_45 rfl 1 rfl ?_
            refine j_getV C hwX6 20 0 1 (CR.n1 (hG1.cr hC) (by decide)) rfl rfl (by decide) rfl 0 (CR.v (hG1.cr hC) 20 0 1 ⟨rfl, by decide⟩ id) hL9 dX6_tryRooms_46 ?_
            refine j_iload_n C dX6_tryRooms_49 rfl 2 rfl ?_
            refine j_iload C dX6_tryRooms_50 6 rfl ?_
            refine j_iast C 21 0 1 (CR.n1 (hG1.cr hC) (by decide)) rfl rfl 9 (CR.l1 (hG1.cr hC) (by decide)) (by omega) (by omega) (nI to) rfl dX6_tryRooms_52 ?_
            refine j_aload_n C dX6_tryRooms_53 rfl 1 rfl ?_
            refine j_iload_n C dX6_tryRooms_54 rfl 2 rfl ?_
            refine j_iconst C (nI 1) dX6_tryRooms_55 (by decide) ?_
            refine j_iadd C (nI 2) dX6_tryRooms_56 (by decide) ?_
            refine j_lload_n C dX6_tryRooms_57 rfl 3 rfl ?_
            refine j_aload_n C dX6_tryRooms_58 rfl 1 rfl ?_
            refine j_iload_n C dX6_tryRooms_59 rfl 2 rfl ?_
            refine j_iload C dX6_tryRooms_60 6 rfl ?_
            have hTu : ∀ i, i < 1 → gI (sI σ1 21 0 1 (nI to)) 21 0 i = nI (upA A 1 to i) := fun i hi => by rw [upA_lt hi, gI_sI, if_neg (by omega)]; exact hT1 i hi
            have hvu := vA_up hAv (show to < M 31 10 by omega)
            have hG5 := GS.i (k := 1) (x := nI to) hG1
            refine c_l0 C (r_V C 20 0 [.int (nI 1), .int (nI to)] (c_price l D cy base Λ (sI σ1 21 0 1 (nI to)) M (hG5.cr hC) hB (upA A 1 to) 1 (by omega) (by decide) (fun i hi => Nat.lt_of_lt_of_le (hvu i (by omega)) (by omega)) hTu to upA_d) (cwV 2 hts gX6_tryRooms_X6_priceOfAdding rfl rfl rfl (by decide +kernel) ⟨by decide, by decide⟩) (CR.n1 (hG1.cr hC) (by decide)) rfl rfl rfl rfl (Nat.le_of_ble_eq_true rfl) dX6_tryRooms_62 ⟨by decide, by decide⟩) (fun rv uu hp => ?_)
            rw [hp.1, hp.2]
            refine j_ladd C (zL ((fb_sm (padd M (upA A 1 to)) 2 : Nat) : Int)) dX6_tryRooms_65 ((zL_add _ _).trans (congrArg zL (by rw [sm_up]; omega))) ?_
            refine j_iload C dX6_tryRooms_66 4 rfl ?_
            refine j_iconst C (nI 1) dX6_tryRooms_68 (by decide) ?_
            refine j_iload C dX6_tryRooms_69 6 rfl ?_
            refine j_ishl C (nI (2 ^ to)) dX6_tryRooms_71 (shl1 (by omega)) ?_
            refine j_ior C (nI (U ||| 2 ^ to)) dX6_tryRooms_72 (fa_or _ _) ?_
            have hTv : ∀ i, i < 2 → gI (sI σ1 21 0 1 (nI to)) 21 0 i = nI (upA A 1 to i) := fun i hi => by by_cases e8 : i = 1; rw [e8, upA_d]; exact gI_same _ _ _ _ _; exact hTu i (by omega)
            refine c_v0 C (r_V C 20 0 [.int (nI 2), .long (zL ((fb_sm (padd M (upA A 1 to)) 2 : Nat) : Int)), .int (nI (U ||| 2 ^ to))] (c_tryFrom_2 l D cy base Λ (sI σ1 21 0 1 (nI to)) M (hG5.cr hC) hB hm9 hR1 hR3 e1 (by omega) (upA A 1 to) F1 b1 (U ||| 2 ^ to) hb1 hvu hTv hL1 (by rw [nm_up]; exact hF1) (by rw [nm_up]; exact hM1) (or_lt hU (pow6 (by omega))) (fun t => by rw [bit_or_pow, Bool.or_eq_true, decide_eq_true_eq, bU]; exact bitU_up)) (cwV 3 hts gX6_tryRooms_X6_tryFrom rfl rfl rfl (by decide +kernel) ⟨by decide, by decide⟩) (CR.n1 (hG1.cr hC) (by decide)) rfl rfl rfl rfl (Nat.le_of_ble_eq_true rfl) dX6_tryRooms_73 ⟨by decide, by decide⟩) (fun u3 hp => ?_)
            obtain ⟨hG3, hT3, b3, F3, hb3, hL3, hf3, hM3⟩ := hp
            rw [nm_up] at hM3
            skip
            refine j_iload C dX6_tryRooms_76 5 rfl ?_
            refine j_iload C dX6_tryRooms_78 0 rfl ?_
            refine j_ior C (nI g) dX6_tryRooms_80 (by rcases hg with z | z <;> rw [z.1] <;> decide) ?_
            refine j_istore C [(5, .int (nI g)), (7, .int (nI 0)), (0, .ref (gA Λ 20 0)), (1, .int (nI 1)), (2, .long (zL ((fb_sm (padd M A) 1 : Nat) : Int))), (4, .int (nI U)), (6, .int (nI to))] dX6_tryRooms_81 (by decide) rfl ?_
            refine j_iinc C [(6, .int (nI (to + 1))), (5, .int (nI g)), (7, .int (nI 0)), (0, .ref (gA Λ 20 0)), (1, .int (nI 1)), (2, .long (zL ((fb_sm (padd M A) 1 : Nat) : Int))), (4, .int (nI U))] (nI (to + 1)) dX6_tryRooms_83 6 rfl (nI_add _ 1) (by decide) rfl ?_
            refine j_goto (tgt := 6) C dX6_tryRooms_86 (by decide) ?_
            refine j_lv [3, 4, 5, 6, 1, 0] rfl ?_
            exact ih6 u3 g (to + 1) b3 F3 (by omega) (by omega) (GS.tr hG5 hG3) (fun i hi => by rw [hT3 i (by omega), upA_lt hi]) hb3 hL3 (fun _ => hf3) hM3 (by rcases hg with ⟨z1, z2⟩ | ⟨z1, z2, z3, z4⟩; exact Or.inl ⟨z1, fun t ht => by by_cases e8 : t = to; rw [e8]; simpa using h25; exact z2 t (by omega)⟩; exact Or.inr ⟨z1, z2, by omega, z4⟩)
          · exact absurd trivial z
        · refine j_iconst C (nI 1) dX6_tryRooms_28 (by decide) ?_
          refine j_goto (tgt := 33) C dX6_tryRooms_29 (by decide) ?_
          refine j_istore C [(7, .int (nI 1)), (0, .ref (gA Λ 20 0)), (1, .int (nI 1)), (2, .long (zL ((fb_sm (padd M A) 1 : Nat) : Int))), (4, .int (nI U)), (5, .int (nI g)), (6, .int (nI to))] dX6_tryRooms_33 (by decide) rfl ?_
          refine j_iload C dX6_tryRooms_35 0 rfl ?_
          refine j_if_eq (tgt := 45) C (P := False) dX6_tryRooms_37 (by decide) (by decide) (fun z => ?_) (fun z => ?_)
          · exact z.elim
          · refine j_iload C dX6_tryRooms_40 5 rfl ?_
            refine j_if_ne (tgt := 76) C dX6_tryRooms_42 (by decide) (nJ_ne0 (by rcases hg with z | z <;> omega)) (fun h42 => ?_) (fun h42 => ?_)
            · obtain ⟨xx, hxx, bxx⟩ : ∃ t, t < to ∧ U.testBit t = false := by
                rcases hg with z | z
                · exact absurd z.1 h42
                · exact z.2
              have hKt : 0 < (nm (M 31 10) A 1 * M 31 10 + to) * M 31 10 ^ e1 := Nat.mul_pos (by omega) (Nat.pow_pos (by omega))
              have hbs := FM.small hB hm9 hM1 hKt
              have nx : ∀ t, U.testBit t = false → (∀ k, k < hcN M → M 40 (hs M k) ≠ t + 1) ∧ ∀ i, i < 1 → A i ≠ t := fun t ht => by
                have q : ¬ (fxP M (hcN M) t ∨ ∃ i, i < 1 ∧ A i = t) := fun z => by rw [(bU t).mpr z] at ht; exact absurd ht (by decide)
                exact ⟨fun k hk z => q (Or.inl ⟨k, hk, z⟩), fun i hi z => q (Or.inr ⟨i, hi, z⟩)⟩
              have hsk : FM M (M 31 10) (hcN M) ((nm (M 31 10) A 1 * M 31 10 + (to + 1)) * M 31 10 ^ e1) b1 F1 := by
                have hm0 := hM1
                have hc0 : hcN M = 1 + 1 + e1 := by omega
                have n1 := nx xx bxx
                have n2 := nx to h25
                rw [hc0] at hm0 n1 n2 ⊢
                exact FM.skip hm0 hAv rfl hxx (by omega) n1.2 n2.2 n1.1 n2.1 (by omega)
              refine j_iload C dX6_tryRooms_76 5 rfl ?_
              refine j_iload C dX6_tryRooms_78 0 rfl ?_
              refine j_ior C (nI 1) dX6_tryRooms_80 (by rcases hg with z | z <;> rw [z.1] <;> decide) ?_
              refine j_istore C [(5, .int (nI 1)), (7, .int (nI 1)), (0, .ref (gA Λ 20 0)), (1, .int (nI 1)), (2, .long (zL ((fb_sm (padd M A) 1 : Nat) : Int))), (4, .int (nI U)), (6, .int (nI to))] dX6_tryRooms_81 (by decide) rfl ?_
              refine j_iinc C [(6, .int (nI (to + 1))), (5, .int (nI 1)), (7, .int (nI 1)), (0, .ref (gA Λ 20 0)), (1, .int (nI 1)), (2, .long (zL ((fb_sm (padd M A) 1 : Nat) : Int))), (4, .int (nI U))] (nI (to + 1)) dX6_tryRooms_83 6 rfl (nI_add _ 1) (by decide) rfl ?_
              refine j_goto (tgt := 6) C dX6_tryRooms_86 (by decide) ?_
              refine j_lv [3, 4, 5, 6, 1, 0] rfl ?_
              exact ih6 σ1 1 (to + 1) b1 F1 (by omega) (by omega) hG1 hT1 hb1 hL1 (fun _ => hF1 hKt) hsk (Or.inr ⟨rfl, to, by omega, h25⟩)
            · refine j_aload_n C dX6_tryRooms_45 rfl 1 rfl ?_
              refine j_getV C hwX6 20 0 1 (CR.n1 (hG1.cr hC) (by decide)) rfl rfl (by decide) rfl 0 (CR.v (hG1.cr hC) 20 0 1 ⟨rfl, by decide⟩ id) hL9 dX6_tryRooms_46 ?_
              refine j_iload_n C dX6_tryRooms_49 rfl 2 rfl ?_
              refine j_iload C dX6_tryRooms_50 6 rfl ?_
              refine j_iast C 21 0 1 (CR.n1 (hG1.cr hC) (by decide)) rfl rfl 9 (CR.l1 (hG1.cr hC) (by decide)) (by omega) (by omega) (nI to) rfl dX6_tryRooms_52 ?_
              refine j_aload_n C dX6_tryRooms_53 rfl 1 rfl ?_
              refine j_iload_n C dX6_tryRooms_54 rfl 2 rfl ?_
              refine j_iconst C (nI 1) dX6_tryRooms_55 (by decide) ?_
              refine j_iadd C (nI 2) dX6_tryRooms_56 (by decide) ?_
              refine j_lload_n C dX6_tryRooms_57 rfl 3 rfl ?_
              refine j_aload_n C dX6_tryRooms_58 rfl 1 rfl ?_
              refine j_iload_n C dX6_tryRooms_59 rfl 2 rfl ?_
              refine j_iload C dX6_tryRooms_60 6 rfl ?_
              have hTu : ∀ i, i < 1 → gI (sI σ1 21 0 1 (nI to)) 21 0 i = nI (upA A 1 to i) := fun i hi => by rw [upA_lt hi, gI_sI, if_neg (by omega)]; exact hT1 i hi
              have hvu := vA_up hAv (show to < M 31 10 by omega)
              have hG5 := GS.i (k := 1) (x := nI to) hG1
              refine c_l0 C (r_V C 20 0 [.int (nI 1), .int (nI to)] (c_price l D cy base Λ (sI σ1 21 0 1 (nI to)) M (hG5.cr hC) hB (upA A 1 to) 1 (by omega) (by decide) (fun i hi => Nat.lt_of_lt_of_le (hvu i (by omega)) (by omega)) hTu to upA_d) (cwV 2 hts gX6_tryRooms_X6_priceOfAdding rfl rfl rfl (by decide +kernel) ⟨by decide, by decide⟩) (CR.n1 (hG1.cr hC) (by decide)) rfl rfl rfl rfl (Nat.le_of_ble_eq_true rfl) dX6_tryRooms_62 ⟨by decide, by decide⟩) (fun rv uu hp => ?_)
              rw [hp.1, hp.2]
              refine j_ladd C (zL ((fb_sm (padd M (upA A 1 to)) 2 : Nat) : Int)) dX6_tryRooms_65 ((zL_add _ _).trans (congrArg zL (by rw [sm_up]; omega))) ?_
              refine j_iload C dX6_tryRooms_66 4 rfl ?_
              refine j_iconst C (nI 1) dX6_tryRooms_68 (by decide) ?_
              refine j_iload C dX6_tryRooms_69 6 rfl ?_
              refine j_ishl C (nI (2 ^ to)) dX6_tryRooms_71 (shl1 (by omega)) ?_
              refine j_ior C (nI (U ||| 2 ^ to)) dX6_tryRooms_72 (fa_or _ _) ?_
              have hTv : ∀ i, i < 2 → gI (sI σ1 21 0 1 (nI to)) 21 0 i = nI (upA A 1 to i) := fun i hi => by by_cases e8 : i = 1; rw [e8, upA_d]; exact gI_same _ _ _ _ _; exact hTu i (by omega)
              refine c_v0 C (r_V C 20 0 [.int (nI 2), .long (zL ((fb_sm (padd M (upA A 1 to)) 2 : Nat) : Int)), .int (nI (U ||| 2 ^ to))] (c_tryFrom_2 l D cy base Λ (sI σ1 21 0 1 (nI to)) M (hG5.cr hC) hB hm9 hR1 hR3 e1 (by omega) (upA A 1 to) F1 b1 (U ||| 2 ^ to) hb1 hvu hTv hL1 (by rw [nm_up]; exact hF1) (by rw [nm_up]; exact hM1) (or_lt hU (pow6 (by omega))) (fun t => by rw [bit_or_pow, Bool.or_eq_true, decide_eq_true_eq, bU]; exact bitU_up)) (cwV 3 hts gX6_tryRooms_X6_tryFrom rfl rfl rfl (by decide +kernel) ⟨by decide, by decide⟩) (CR.n1 (hG1.cr hC) (by decide)) rfl rfl rfl rfl (Nat.le_of_ble_eq_true rfl) dX6_tryRooms_73 ⟨by decide, by decide⟩) (fun u3 hp => ?_)
              obtain ⟨hG3, hT3, b3, F3, hb3, hL3, hf3, hM3⟩ := hp
              rw [nm_up] at hM3
              skip
              refine j_iload C dX6_tryRooms_76 5 rfl ?_
              refine j_iload C dX6_tryRooms_78 0 rfl ?_
              refine j_ior C (nI 1) dX6_tryRooms_80 (by rcases hg with z | z <;> rw [z.1] <;> decide) ?_
              refine j_istore C [(5, .int (nI 1)), (7, .int (nI 1)), (0, .ref (gA Λ 20 0)), (1, .int (nI 1)), (2, .long (zL ((fb_sm (padd M A) 1 : Nat) : Int))), (4, .int (nI U)), (6, .int (nI to))] dX6_tryRooms_81 (by decide) rfl ?_
              refine j_iinc C [(6, .int (nI (to + 1))), (5, .int (nI 1)), (7, .int (nI 1)), (0, .ref (gA Λ 20 0)), (1, .int (nI 1)), (2, .long (zL ((fb_sm (padd M A) 1 : Nat) : Int))), (4, .int (nI U))] (nI (to + 1)) dX6_tryRooms_83 6 rfl (nI_add _ 1) (by decide) rfl ?_
              refine j_goto (tgt := 6) C dX6_tryRooms_86 (by decide) ?_
              refine j_lv [3, 4, 5, 6, 1, 0] rfl ?_
              exact ih6 u3 1 (to + 1) b3 F3 (by omega) (by omega) (GS.tr hG5 hG3) (fun i hi => by rw [hT3 i (by omega), upA_lt hi]) hb3 hL3 (fun _ => hf3) hM3 (Or.inr ⟨rfl, to, by omega, h25⟩)
  refine j_lv [2, 3, 4, 5, 1, 0] rfl ?_
  exact lb6 _ σ 0 0 b F (Nat.lt_succ_self _) (by omega) GS.rf hTr hbb hL (by rw [he1, node_beg] at hFo; exact hFo) (by rw [he1, node_beg] at hFM; exact hFM) (Or.inl ⟨rfl, fun t ht => absurd ht (Nat.not_lt_zero _)⟩)

set_option maxHeartbeats 4000000 in
set_option maxRecDepth 100000 in
theorem c_tryFrom_1 (l : Launch) (D : va_G) (cy : Nat → ClassId) (base : Nat) (Λ : LY) (σ : HS) (M : MM) (hC : CR noEx Λ σ M) (hB : MBd M) (hm9 : hcN M ≤ 9) (hR1 : 1 ≤ M 31 10) (hR3 : M 31 10 ≤ 3) (e9 : Nat) (hde : hcN M = 1 + e9) (A F : Nat → Nat) (b U : Nat) (hbb : b ≤ 1000000000000000) (hAv : vA (M 31 10) 1 A) (hTr : ∀ i, i < 1 → gI σ 21 0 i = nI (A i)) (hL : gJ σ 20 0 3 = zL (b : Int)) (hFo : 0 < nm (M 31 10) A 1 * M 31 10 ^ e9 → ∀ i, i < hcN M → gI σ 22 0 i = nI (F i)) (hFM : FM M (M 31 10) (hcN M) (nm (M 31 10) A 1 * M 31 10 ^ e9) b F) (hU : U < 64) (bU : ∀ t, U.testBit t = true ↔ fxP M (hcN M) t ∨ ∃ i, i < 1 ∧ A i = t) : Met l yX6_tryFrom wsX6_tryFrom ({ frames := 76, cells := 0, slots := 0, locals := 1140 }) (va_Pc [.ref (gA Λ 20 0), .int (nI 1), .long (zL ((fb_sm (padd M A) 1 : Nat) : Int)), .int (nI U)] (Wd D cy base Λ σ)) (va_Qv (fun u => GS σ u ∧ (∀ i, i < 1 → gI u 21 0 i = nI (A i)) ∧ ∃ b2 F2, b2 ≤ 1000000000000000 ∧ gJ u 20 0 3 = zL ((b2 : Nat) : Int) ∧ (∀ i, i < hcN M → gI u 22 0 i = nI (F2 i)) ∧ FM M (M 31 10) (hcN M) ((nm (M 31 10) A 1 + 1) * M 31 10 ^ e9) b2 F2) (Wd D cy base Λ) (Ab base)) 0 0 (Ab base) := by
  refine j_start (cc := cX6_tryFrom) (nL := 5) (ret := none) (lv := [(0, .ref (gA Λ 20 0)), (1, .int (nI 1)), (2, .long (zL ((fb_sm (padd M A) 1 : Nat) : Int))), (4, .int (nI U))]) (by decide) rfl (Nat.le_of_ble_eq_true rfl) rfl ?_
  intro p e s m below meth c C hr hlk hnm
  have C : Cx p s m ([.ref (gA Λ 20 0), .int (nI 1), .long (zL ((fb_sm (padd M A) 1 : Nat) : Int)), .int (nI U)] : List Value).toArray c cX6_tryFrom 5 RX6 wsX6_tryFrom D cy base := C
  have hts := C.2.2.2.2.1
  have hwX4 : ∀ w ∈ u_ws RX4 TX4 6, w ∈ wsX6_tryFrom := by decide +kernel
  have hwX6 : ∀ w ∈ u_ws RX6 TX6 4, w ∈ wsX6_tryFrom := by decide +kernel
  have hM9 : (Cond.fieldLink RX6 9 (TX6 1).1 (TX6 1).2.1 (TX6 1).2.2.1).before ([.ref (gA Λ 20 0), .int (nI 1), .long (zL ((fb_sm (padd M A) 1 : Nat) : Int)), .int (nI U)] : List Value).toArray s = true := hts (.fieldLink RX6 9 "CodeRooms$Search" "trial" "[I") (by decide +kernel)
  have hL9 : FL RX6 9 (TX6 1).1 (TX6 1).2.1 (TX6 1).2.2.1 ([.ref (gA Λ 20 0), .int (nI 1), .long (zL ((fb_sm (padd M A) 1 : Nat) : Int)), .int (nI U)] : List Value).toArray s := Or.inl hM9
  have hM15 : (Cond.fieldLink RX6 15 (TX6 2).1 (TX6 2).2.1 (TX6 2).2.2.1).before ([.ref (gA Λ 20 0), .int (nI 1), .long (zL ((fb_sm (padd M A) 1 : Nat) : Int)), .int (nI U)] : List Value).toArray s = true := hts (.fieldLink RX6 15 "CodeRooms$Search" "found" "[I") (by decide +kernel)
  have hL15 : FL RX6 15 (TX6 2).1 (TX6 2).2.1 (TX6 2).2.2.1 ([.ref (gA Λ 20 0), .int (nI 1), .long (zL ((fb_sm (padd M A) 1 : Nat) : Int)), .int (nI U)] : List Value).toArray s := Or.inl hM15
  have hM18 : (Cond.fieldLink RX6 18 (TX6 0).1 (TX6 0).2.1 (TX6 0).2.2.1).before ([.ref (gA Λ 20 0), .int (nI 1), .long (zL ((fb_sm (padd M A) 1 : Nat) : Int)), .int (nI U)] : List Value).toArray s = true := hts (.fieldLink RX6 18 "CodeRooms$Search" "plan" "LCodeRooms$Plan;") (by decide +kernel)
  have hL18 : FL RX6 18 (TX6 0).1 (TX6 0).2.1 (TX6 0).2.2.1 ([.ref (gA Λ 20 0), .int (nI 1), .long (zL ((fb_sm (padd M A) 1 : Nat) : Int)), .int (nI U)] : List Value).toArray s := Or.inl hM18
  have hL22 : FL RX6 22 (TX4 5).1 (TX4 5).2.1 (TX4 5).2.2.1 ([.ref (gA Λ 20 0), .int (nI 1), .long (zL ((fb_sm (padd M A) 1 : Nat) : Int)), .int (nI U)] : List Value).toArray s := Or.inr ⟨_, Ex.nestF C.2.2.2.2.2.2 nf_X6_22⟩
  have hM36 : (Cond.fieldLink RX6 36 (TX6 3).1 (TX6 3).2.1 (TX6 3).2.2.1).before ([.ref (gA Λ 20 0), .int (nI 1), .long (zL ((fb_sm (padd M A) 1 : Nat) : Int)), .int (nI U)] : List Value).toArray s = true := hts (.fieldLink RX6 36 "CodeRooms$Search" "least" "J") (by decide +kernel)
  have hL36 : FL RX6 36 (TX6 3).1 (TX6 3).2.1 (TX6 3).2.2.1 ([.ref (gA Λ 20 0), .int (nI 1), .long (zL ((fb_sm (padd M A) 1 : Nat) : Int)), .int (nI U)] : List Value).toArray s := Or.inl hM36
  have hn : M 31 5 ≤ 40 := hB 31 5 rfl
  have hhc0 := hcN_le M
  have hS := sm_le hB (A := A) (d := 1) (by omega) (by decide)
  have hKp : b ≠ 1000000000000000 → 0 < nm (M 31 10) A 1 * M 31 10 ^ e9 := fun z => Nat.pos_of_ne_zero (fun q => z (hFM.2.2 q))
  refine j_lload_n C dX6_tryFrom_0 rfl 2 rfl ?_
  refine j_aload_n C dX6_tryFrom_1 rfl 0 rfl ?_
  refine j_getJ C hwX6 20 0 3 (CR.n1 hC (by decide)) rfl rfl (by decide) rfl (zL (b : Int)) hL hL36 dX6_tryFrom_2 ?_
  refine j_lcmp_lt (tgt := 10) C dX6_tryFrom_5 dX6_tryFrom_6 (by decide) ((zL_lt (by omega) (by omega) (by omega) (by omega)).trans Int.ofNat_lt) (fun h5 => ?_) (fun h5 => ?_)
  · refine j_iload_n C dX6_tryFrom_10 rfl 1 rfl ?_
    refine j_aload_n C dX6_tryFrom_11 rfl 0 rfl ?_
    refine j_getV C hwX6 20 0 0 (CR.n1 hC (by decide)) rfl rfl (by decide) rfl 0 (CR.v hC 20 0 0 ⟨rfl, by decide⟩ id) hL18 dX6_tryFrom_12 ?_
    have hhc15 := hcN_le M
    refine j_getI C hwX4 3 0 5 (CR.n1 hC (by decide)) rfl rfl (by decide) rfl (nI (hcN M)) (CR.i hC 3 0 5 ⟨rfl, Or.inr rfl⟩ id) hL22 dX6_tryFrom_15 ?_
    refine j_icmp_ge (tgt := 27) C dX6_tryFrom_18 (by decide) (nI_leI (by omega) (by omega)) (fun h18 => ?_) (fun h18 => ?_)
    · refine j_aload_n C dX6_tryFrom_27 rfl 0 rfl ?_
      refine j_lload_n C dX6_tryFrom_28 rfl 2 rfl ?_
      refine j_putJ C hwX6 20 0 3 (CR.n1 hC (by decide)) rfl rfl (by decide) rfl tyX6 tyX6_ok nmX6 rfl rfl rfl hL36 dX6_tryFrom_29 ?_
      refine j_aload_n C dX6_tryFrom_32 rfl 0 rfl ?_
      refine j_getV C hwX6 20 0 1 (CR.n1 hC (by decide)) rfl rfl (by decide) rfl 0 (CR.v hC 20 0 1 ⟨rfl, by decide⟩ id) hL9 dX6_tryFrom_33 ?_
      refine j_iconst C (nI 0) dX6_tryFrom_36 (by decide) ?_
      refine j_aload_n C dX6_tryFrom_37 rfl 0 rfl ?_
      refine j_getV C hwX6 20 0 2 (CR.n1 hC (by decide)) rfl rfl (by decide) rfl 0 (CR.v hC 20 0 2 ⟨rfl, by decide⟩ id) hL15 dX6_tryFrom_38 ?_
      refine j_iconst C (nI 0) dX6_tryFrom_41 (by decide) ?_
      refine j_bipush C (nI 9) dX6_tryFrom_42 (by decide) ?_
      refine j_cpi C 21 0 22 0 9 (CR.n1 hC (by decide)) (CR.n1 hC (by decide)) rfl rfl rfl rfl (CR.l1 hC (by decide)) (CR.l1 hC (by decide)) (by decide) (by decide +kernel) rfl rfl dX6_tryFrom_44 ?_
      exact j_vret C hr hlk (⟨GS.r (GS.j GS.rf), fun i hi => by rw [gI_sRn (Or.inl (by decide))]; exact hTr i hi, fb_sm (padd M A) 1, A, by omega, gJ_same _ _ _ _ _, fun i hi => by rw [gI_sR]; unfold va_cpy; rw [if_pos (by omega)]; exact (congrArg _ (by omega)).trans (hTr i (by omega)), by have e0 : e9 = 0 := (by omega); subst e0; rw [Nat.pow_zero, Nat.mul_one] at hFM ⊢; rw [show hcN M = 1 from hde] at hFM ⊢; exact FM.leaf hFM hAv h5⟩) dX6_tryFrom_47
    · refine j_iload_n C dX6_tryFrom_21 rfl 1 rfl ?_
      refine j_bipush C (nI 9) dX6_tryFrom_22 (by decide) ?_
      refine j_icmp_lt (tgt := 48) C (P := True) dX6_tryFrom_24 (by decide) (by decide) (fun z => ?_) (fun z => ?_)
      · refine j_aload_n C dX6_tryFrom_48 rfl 0 rfl ?_
        refine j_iload_n C dX6_tryFrom_49 rfl 1 rfl ?_
        refine j_lload_n C dX6_tryFrom_50 rfl 2 rfl ?_
        refine j_iload C dX6_tryFrom_51 3 rfl ?_
        refine c_v0 C (r_V C 20 0 [.int (nI 1), .long (zL ((fb_sm (padd M A) 1 : Nat) : Int)), .int (nI U)] (c_tryRooms_1 l D cy base Λ σ M hC hB hm9 hR1 hR3 e9 hde A F b U hbb hAv hTr hL hFo hFM hU bU (by omega)) (cwV 3 hts gX6_tryFrom_X6_tryRooms rfl rfl rfl (by decide +kernel) ⟨by decide, by decide⟩) (CR.n1 hC (by decide)) rfl rfl rfl rfl (Nat.le_of_ble_eq_true rfl) dX6_tryFrom_53 ⟨by decide, by decide⟩) (fun u3 hp => ?_)
        exact j_vret C hr hlk (hp) dX6_tryFrom_56
      · exact absurd trivial z
  · exact j_vret C hr hlk (⟨GS.rf, hTr, b, F, hbb, hL, hFo (hKp (by omega)), by rw [hde] at hFM ⊢; exact FM.prune hFM hAv rfl (by omega) (by omega) (by omega)⟩) dX6_tryFrom_9

set_option maxHeartbeats 8000000 in
set_option maxRecDepth 100000 in
theorem c_tryRooms_0 (l : Launch) (D : va_G) (cy : Nat → ClassId) (base : Nat) (Λ : LY) (σ : HS) (M : MM) (hC : CR noEx Λ σ M) (hB : MBd M) (hm9 : hcN M ≤ 9) (hR1 : 1 ≤ M 31 10) (hR3 : M 31 10 ≤ 3) (e9 : Nat) (hde : hcN M = 0 + e9) (A F : Nat → Nat) (b U : Nat) (hbb : b ≤ 1000000000000000) (hAv : vA (M 31 10) 0 A) (hTr : ∀ i, i < 0 → gI σ 21 0 i = nI (A i)) (hL : gJ σ 20 0 3 = zL (b : Int)) (hFo : 0 < nm (M 31 10) A 0 * M 31 10 ^ e9 → ∀ i, i < hcN M → gI σ 22 0 i = nI (F i)) (hFM : FM M (M 31 10) (hcN M) (nm (M 31 10) A 0 * M 31 10 ^ e9) b F) (hU : U < 64) (bU : ∀ t, U.testBit t = true ↔ fxP M (hcN M) t ∨ ∃ i, i < 0 ∧ A i = t) (hdd : 0 < hcN M) : Met l yX6_tryRooms wsX6_tryRooms ({ frames := 80, cells := 0, slots := 0, locals := 1200 }) (va_Pc [.ref (gA Λ 20 0), .int (nI 0), .long (zL ((fb_sm (padd M A) 0 : Nat) : Int)), .int (nI U)] (Wd D cy base Λ σ)) (va_Qv (fun u => GS σ u ∧ (∀ i, i < 0 → gI u 21 0 i = nI (A i)) ∧ ∃ b2 F2, b2 ≤ 1000000000000000 ∧ gJ u 20 0 3 = zL ((b2 : Nat) : Int) ∧ (∀ i, i < hcN M → gI u 22 0 i = nI (F2 i)) ∧ FM M (M 31 10) (hcN M) ((nm (M 31 10) A 0 + 1) * M 31 10 ^ e9) b2 F2) (Wd D cy base Λ) (Ab base)) 0 0 (Ab base) := by
  refine j_start (cc := cX6_tryRooms) (nL := 8) (ret := none) (lv := [(0, .ref (gA Λ 20 0)), (1, .int (nI 0)), (2, .long (zL ((fb_sm (padd M A) 0 : Nat) : Int))), (4, .int (nI U))]) (by decide) rfl (Nat.le_of_ble_eq_true rfl) rfl ?_
  intro p e s m below meth c C hr hlk hnm
  have C : Cx p s m ([.ref (gA Λ 20 0), .int (nI 0), .long (zL ((fb_sm (padd M A) 0 : Nat) : Int)), .int (nI U)] : List Value).toArray c cX6_tryRooms 8 RX6 wsX6_tryRooms D cy base := C
  have hts := C.2.2.2.2.1
  have hwX6 : ∀ w ∈ u_ws RX6 TX6 4, w ∈ wsX6_tryRooms := by decide +kernel
  have hM9 : (Cond.fieldLink RX6 9 (TX6 1).1 (TX6 1).2.1 (TX6 1).2.2.1).before ([.ref (gA Λ 20 0), .int (nI 0), .long (zL ((fb_sm (padd M A) 0 : Nat) : Int)), .int (nI U)] : List Value).toArray s = true := hts (.fieldLink RX6 9 "CodeRooms$Search" "trial" "[I") (by decide +kernel)
  have hL9 : FL RX6 9 (TX6 1).1 (TX6 1).2.1 (TX6 1).2.2.1 ([.ref (gA Λ 20 0), .int (nI 0), .long (zL ((fb_sm (padd M A) 0 : Nat) : Int)), .int (nI U)] : List Value).toArray s := Or.inl hM9
  have hM18 : (Cond.fieldLink RX6 18 (TX6 0).1 (TX6 0).2.1 (TX6 0).2.2.1).before ([.ref (gA Λ 20 0), .int (nI 0), .long (zL ((fb_sm (padd M A) 0 : Nat) : Int)), .int (nI U)] : List Value).toArray s = true := hts (.fieldLink RX6 18 "CodeRooms$Search" "plan" "LCodeRooms$Plan;") (by decide +kernel)
  have hL18 : FL RX6 18 (TX6 0).1 (TX6 0).2.1 (TX6 0).2.2.1 ([.ref (gA Λ 20 0), .int (nI 0), .long (zL ((fb_sm (padd M A) 0 : Nat) : Int)), .int (nI U)] : List Value).toArray s := Or.inl hM18
  have hn : M 31 5 ≤ 40 := hB 31 5 rfl
  have hhc0 := hcN_le M
  obtain ⟨e1, he1⟩ : ∃ e1, e9 = e1 + 1 := ⟨e9 - 1, by omega⟩
  refine j_iconst C (nI 0) dX6_tryRooms_0 (by decide) ?_
  refine j_istore C [(5, .int (nI 0)), (0, .ref (gA Λ 20 0)), (1, .int (nI 0)), (2, .long (zL ((fb_sm (padd M A) 0 : Nat) : Int))), (4, .int (nI U))] dX6_tryRooms_1 (by decide) rfl ?_
  refine j_iconst C (nI 0) dX6_tryRooms_3 (by decide) ?_
  refine j_istore C [(6, .int (nI 0)), (5, .int (nI 0)), (0, .ref (gA Λ 20 0)), (1, .int (nI 0)), (2, .long (zL ((fb_sm (padd M A) 0 : Nat) : Int))), (4, .int (nI U))] dX6_tryRooms_4 (by decide) rfl ?_
  have lb6 : ∀ (fu : Nat) (σ1 : HS) (g to : Nat) (b1 : Nat) (F1 : Nat → Nat), (M 31 10 - to) < fu → (to ≤ M 31 10) → (GS σ σ1) → (∀ i, i < 0 → gI σ1 21 0 i = nI (A i)) → (b1 ≤ 1000000000000000) → (gJ σ1 20 0 3 = zL (b1 : Int)) → (0 < (nm (M 31 10) A 0 * M 31 10 + to) * M 31 10 ^ e1 → ∀ i, i < hcN M → gI σ1 22 0 i = nI (F1 i)) → (FM M (M 31 10) (hcN M) ((nm (M 31 10) A 0 * M 31 10 + to) * M 31 10 ^ e1) b1 F1) → ((g = 0 ∧ ∀ t, t < to → U.testBit t = true) ∨ (g = 1 ∧ ∃ t, t < to ∧ U.testBit t = false)) → J p l e ({ frames := 80, cells := 0, slots := 0, locals := 1200 }) s m ([.ref (gA Λ 20 0), .int (nI 0), .long (zL ((fb_sm (padd M A) 0 : Nat) : Int)), .int (nI U)] : List Value).toArray below meth c 8 D cy base (MQ below (va_Qv (fun u => GS σ u ∧ (∀ i, i < 0 → gI u 21 0 i = nI (A i)) ∧ ∃ b2 F2, b2 ≤ 1000000000000000 ∧ gJ u 20 0 3 = zL ((b2 : Nat) : Int) ∧ (∀ i, i < hcN M → gI u 22 0 i = nI (F2 i)) ∧ FM M (M 31 10) (hcN M) ((nm (M 31 10) A 0 + 1) * M 31 10 ^ e9) b2 F2) (Wd D cy base Λ) (Ab base)) ([.ref (gA Λ 20 0), .int (nI 0), .long (zL ((fb_sm (padd M A) 0 : Nat) : Int)), .int (nI U)] : List Value).toArray s 0 0 (Ab base)) 0 0 Λ 6 [(0, .ref (gA Λ 20 0)), (1, .int (nI 0)), (2, .long (zL ((fb_sm (padd M A) 0 : Nat) : Int))), (4, .int (nI U)), (5, .int (nI g)), (6, .int (nI to))] [] σ1 := by
    intro fu
    induction fu with
    | zero => intro σ1 g to b1 F1 hfu; exact absurd hfu (Nat.not_lt_zero _)
    | succ fu ih =>
      intro σ1 g to b1 F1 hfu hto hG1 hT1 hb1 hL1 hF1 hM1 hg
      have ih6 := ih
      refine j_iload C dX6_tryRooms_6 5 rfl ?_
      refine j_aload_n C dX6_tryRooms_8 rfl 0 rfl ?_
      refine j_getV C hwX6 20 0 0 (CR.n1 (hG1.cr hC) (by decide)) rfl rfl (by decide) rfl 0 (CR.v (hG1.cr hC) 20 0 0 ⟨rfl, by decide⟩ id) hL18 dX6_tryRooms_9 ?_
      refine c_i0 C (r_V C 3 0 [] (c_X4_roomCount l D cy base Λ σ1 M (hG1.cr hC) hB) (cwV 0 hts gX6_tryRooms_X4_roomCount rfl rfl rfl (by decide +kernel) ⟨by decide, by decide⟩) (CR.n1 (hG1.cr hC) (by decide)) rfl rfl rfl rfl (Nat.le_of_ble_eq_true rfl) dX6_tryRooms_12 ⟨by decide, by decide⟩) (fun rv uu hp => ?_)
      rw [hp.1, hp.2]
      refine j_icmp_ge (tgt := 89) C dX6_tryRooms_15 (by decide) (nI_leI (by omega) (by omega)) (fun h15 => ?_) (fun h15 => ?_)
      · exact j_vret C hr hlk (⟨hG1, hT1, b1, F1, hb1, hL1, hF1 (Nat.mul_pos (by omega) (Nat.pow_pos (by omega))), by have q := hM1; rw [show to = M 31 10 by omega, node_end, ← he1] at q; exact q⟩) dX6_tryRooms_89
      · refine j_iload C dX6_tryRooms_18 3 rfl ?_
        refine j_iconst C (nI 1) dX6_tryRooms_20 (by decide) ?_
        refine j_iload C dX6_tryRooms_21 5 rfl ?_
        refine j_ishl C (nI (2 ^ to)) dX6_tryRooms_23 (shl1 (by omega)) ?_
        refine j_iand C (nI U &&& nI (2 ^ to)) dX6_tryRooms_24 rfl ?_
        refine j_if_ne (tgt := 32) C dX6_tryRooms_25 (by decide) (and_bit (by omega)) (fun h25 => ?_) (fun h25 => ?_)
        · refine j_iconst C (nI 0) dX6_tryRooms_32 (by decide) ?_
          refine j_istore C [(7, .int (nI 0)), (0, .ref (gA Λ 20 0)), (1, .int (nI 0)), (2, .long (zL ((fb_sm (padd M A) 0 : Nat) : Int))), (4, .int (nI U)), (5, .int (nI g)), (6, .int (nI to))] dX6_tryRooms_33 (by decide) rfl ?_
          refine j_iload C dX6_tryRooms_35 0 rfl ?_
          refine j_if_eq (tgt := 45) C (P := True) dX6_tryRooms_37 (by decide) (by decide) (fun z => ?_) (fun z => ?_)
          · refine j_aload_n C dX6_tryRooms_45 rfl 1 rfl ?_
            refine j_getV C hwX6 20 0 1 (CR.n1 (hG1.cr hC) (by decide)) rfl rfl (by decide) rfl 0 (CR.v (hG1.cr hC) 20 0 1 ⟨rfl, by decide⟩ id) hL9 dX6_tryRooms_46 ?_
            refine j_iload_n C dX6_tryRooms_49 rfl 2 rfl ?_
            refine j_iload C dX6_tryRooms_50 6 rfl ?_
            refine j_iast C 21 0 0 (CR.n1 (hG1.cr hC) (by decide)) rfl rfl 9 (CR.l1 (hG1.cr hC) (by decide)) (by omega) (by omega) (nI to) rfl dX6_tryRooms_52 ?_
            refine j_aload_n C dX6_tryRooms_53 rfl 1 rfl ?_
            refine j_iload_n C dX6_tryRooms_54 rfl 2 rfl ?_
            refine j_iconst C (nI 1) dX6_tryRooms_55 (by decide) ?_
            refine j_iadd C (nI 1) dX6_tryRooms_56 (by decide) ?_
            refine j_lload_n C dX6_tryRooms_57 rfl 3 rfl ?_
            refine j_aload_n C dX6_tryRooms_58 rfl 1 rfl ?_
            refine j_iload_n C dX6_tryRooms_59 rfl 2 rfl ?_
            refine j_iload C dX6_tryRooms_60 6 rfl ?_
            have hTu : ∀ i, i < 0 → gI (sI σ1 21 0 0 (nI to)) 21 0 i = nI (upA A 0 to i) := fun i hi => by rw [upA_lt hi, gI_sI, if_neg (by omega)]; exact hT1 i hi
            have hvu := vA_up hAv (show to < M 31 10 by omega)
            have hG5 := GS.i (k := 0) (x := nI to) hG1
            refine c_l0 C (r_V C 20 0 [.int (nI 0), .int (nI to)] (c_price l D cy base Λ (sI σ1 21 0 0 (nI to)) M (hG5.cr hC) hB (upA A 0 to) 0 (by omega) (by decide) (fun i hi => Nat.lt_of_lt_of_le (hvu i (by omega)) (by omega)) hTu to upA_d) (cwV 2 hts gX6_tryRooms_X6_priceOfAdding rfl rfl rfl (by decide +kernel) ⟨by decide, by decide⟩) (CR.n1 (hG1.cr hC) (by decide)) rfl rfl rfl rfl (Nat.le_of_ble_eq_true rfl) dX6_tryRooms_62 ⟨by decide, by decide⟩) (fun rv uu hp => ?_)
            rw [hp.1, hp.2]
            refine j_ladd C (zL ((fb_sm (padd M (upA A 0 to)) 1 : Nat) : Int)) dX6_tryRooms_65 ((zL_add _ _).trans (congrArg zL (by rw [sm_up]; omega))) ?_
            refine j_iload C dX6_tryRooms_66 4 rfl ?_
            refine j_iconst C (nI 1) dX6_tryRooms_68 (by decide) ?_
            refine j_iload C dX6_tryRooms_69 6 rfl ?_
            refine j_ishl C (nI (2 ^ to)) dX6_tryRooms_71 (shl1 (by omega)) ?_
            refine j_ior C (nI (U ||| 2 ^ to)) dX6_tryRooms_72 (fa_or _ _) ?_
            have hTv : ∀ i, i < 1 → gI (sI σ1 21 0 0 (nI to)) 21 0 i = nI (upA A 0 to i) := fun i hi => by by_cases e8 : i = 0; rw [e8, upA_d]; exact gI_same _ _ _ _ _; exact hTu i (by omega)
            refine c_v0 C (r_V C 20 0 [.int (nI 1), .long (zL ((fb_sm (padd M (upA A 0 to)) 1 : Nat) : Int)), .int (nI (U ||| 2 ^ to))] (c_tryFrom_1 l D cy base Λ (sI σ1 21 0 0 (nI to)) M (hG5.cr hC) hB hm9 hR1 hR3 e1 (by omega) (upA A 0 to) F1 b1 (U ||| 2 ^ to) hb1 hvu hTv hL1 (by rw [nm_up]; exact hF1) (by rw [nm_up]; exact hM1) (or_lt hU (pow6 (by omega))) (fun t => by rw [bit_or_pow, Bool.or_eq_true, decide_eq_true_eq, bU]; exact bitU_up)) (cwV 3 hts gX6_tryRooms_X6_tryFrom rfl rfl rfl (by decide +kernel) ⟨by decide, by decide⟩) (CR.n1 (hG1.cr hC) (by decide)) rfl rfl rfl rfl (Nat.le_of_ble_eq_true rfl) dX6_tryRooms_73 ⟨by decide, by decide⟩) (fun u3 hp => ?_)
            obtain ⟨hG3, hT3, b3, F3, hb3, hL3, hf3, hM3⟩ := hp
            rw [nm_up] at hM3
            skip
            refine j_iload C dX6_tryRooms_76 5 rfl ?_
            refine j_iload C dX6_tryRooms_78 0 rfl ?_
            refine j_ior C (nI g) dX6_tryRooms_80 (by rcases hg with z | z <;> rw [z.1] <;> decide) ?_
            refine j_istore C [(5, .int (nI g)), (7, .int (nI 0)), (0, .ref (gA Λ 20 0)), (1, .int (nI 0)), (2, .long (zL ((fb_sm (padd M A) 0 : Nat) : Int))), (4, .int (nI U)), (6, .int (nI to))] dX6_tryRooms_81 (by decide) rfl ?_
            refine j_iinc C [(6, .int (nI (to + 1))), (5, .int (nI g)), (7, .int (nI 0)), (0, .ref (gA Λ 20 0)), (1, .int (nI 0)), (2, .long (zL ((fb_sm (padd M A) 0 : Nat) : Int))), (4, .int (nI U))] (nI (to + 1)) dX6_tryRooms_83 6 rfl (nI_add _ 1) (by decide) rfl ?_
            refine j_goto (tgt := 6) C dX6_tryRooms_86 (by decide) ?_
            refine j_lv [3, 4, 5, 6, 1, 0] rfl ?_
            exact ih6 u3 g (to + 1) b3 F3 (by omega) (by omega) (GS.tr hG5 hG3) (fun i hi => by rw [hT3 i (by omega), upA_lt hi]) hb3 hL3 (fun _ => hf3) hM3 (by rcases hg with ⟨z1, z2⟩ | ⟨z1, z2, z3, z4⟩; exact Or.inl ⟨z1, fun t ht => by by_cases e8 : t = to; rw [e8]; simpa using h25; exact z2 t (by omega)⟩; exact Or.inr ⟨z1, z2, by omega, z4⟩)
          · exact absurd trivial z
        · refine j_iconst C (nI 1) dX6_tryRooms_28 (by decide) ?_
          refine j_goto (tgt := 33) C dX6_tryRooms_29 (by decide) ?_
          refine j_istore C [(7, .int (nI 1)), (0, .ref (gA Λ 20 0)), (1, .int (nI 0)), (2, .long (zL ((fb_sm (padd M A) 0 : Nat) : Int))), (4, .int (nI U)), (5, .int (nI g)), (6, .int (nI to))] dX6_tryRooms_33 (by decide) rfl ?_
          refine j_iload C dX6_tryRooms_35 0 rfl ?_
          refine j_if_eq (tgt := 45) C (P := False) dX6_tryRooms_37 (by decide) (by decide) (fun z => ?_) (fun z => ?_)
          · exact z.elim
          · refine j_iload C dX6_tryRooms_40 5 rfl ?_
            refine j_if_ne (tgt := 76) C dX6_tryRooms_42 (by decide) (nJ_ne0 (by rcases hg with z | z <;> omega)) (fun h42 => ?_) (fun h42 => ?_)
            · obtain ⟨xx, hxx, bxx⟩ : ∃ t, t < to ∧ U.testBit t = false := by
                rcases hg with z | z
                · exact absurd z.1 h42
                · exact z.2
              have hKt : 0 < (nm (M 31 10) A 0 * M 31 10 + to) * M 31 10 ^ e1 := Nat.mul_pos (by omega) (Nat.pow_pos (by omega))
              have hbs := FM.small hB hm9 hM1 hKt
              have nx : ∀ t, U.testBit t = false → (∀ k, k < hcN M → M 40 (hs M k) ≠ t + 1) ∧ ∀ i, i < 0 → A i ≠ t := fun t ht => by
                have q : ¬ (fxP M (hcN M) t ∨ ∃ i, i < 0 ∧ A i = t) := fun z => by rw [(bU t).mpr z] at ht; exact absurd ht (by decide)
                exact ⟨fun k hk z => q (Or.inl ⟨k, hk, z⟩), fun i hi z => q (Or.inr ⟨i, hi, z⟩)⟩
              have hsk : FM M (M 31 10) (hcN M) ((nm (M 31 10) A 0 * M 31 10 + (to + 1)) * M 31 10 ^ e1) b1 F1 := by
                have hm0 := hM1
                have hc0 : hcN M = 0 + 1 + e1 := by omega
                have n1 := nx xx bxx
                have n2 := nx to h25
                rw [hc0] at hm0 n1 n2 ⊢
                exact FM.skip hm0 hAv rfl hxx (by omega) n1.2 n2.2 n1.1 n2.1 (by omega)
              refine j_iload C dX6_tryRooms_76 5 rfl ?_
              refine j_iload C dX6_tryRooms_78 0 rfl ?_
              refine j_ior C (nI 1) dX6_tryRooms_80 (by rcases hg with z | z <;> rw [z.1] <;> decide) ?_
              refine j_istore C [(5, .int (nI 1)), (7, .int (nI 1)), (0, .ref (gA Λ 20 0)), (1, .int (nI 0)), (2, .long (zL ((fb_sm (padd M A) 0 : Nat) : Int))), (4, .int (nI U)), (6, .int (nI to))] dX6_tryRooms_81 (by decide) rfl ?_
              refine j_iinc C [(6, .int (nI (to + 1))), (5, .int (nI 1)), (7, .int (nI 1)), (0, .ref (gA Λ 20 0)), (1, .int (nI 0)), (2, .long (zL ((fb_sm (padd M A) 0 : Nat) : Int))), (4, .int (nI U))] (nI (to + 1)) dX6_tryRooms_83 6 rfl (nI_add _ 1) (by decide) rfl ?_
              refine j_goto (tgt := 6) C dX6_tryRooms_86 (by decide) ?_
              refine j_lv [3, 4, 5, 6, 1, 0] rfl ?_
              exact ih6 σ1 1 (to + 1) b1 F1 (by omega) (by omega) hG1 hT1 hb1 hL1 (fun _ => hF1 hKt) hsk (Or.inr ⟨rfl, to, by omega, h25⟩)
            · refine j_aload_n C dX6_tryRooms_45 rfl 1 rfl ?_
              refine j_getV C hwX6 20 0 1 (CR.n1 (hG1.cr hC) (by decide)) rfl rfl (by decide) rfl 0 (CR.v (hG1.cr hC) 20 0 1 ⟨rfl, by decide⟩ id) hL9 dX6_tryRooms_46 ?_
              refine j_iload_n C dX6_tryRooms_49 rfl 2 rfl ?_
              refine j_iload C dX6_tryRooms_50 6 rfl ?_
              refine j_iast C 21 0 0 (CR.n1 (hG1.cr hC) (by decide)) rfl rfl 9 (CR.l1 (hG1.cr hC) (by decide)) (by omega) (by omega) (nI to) rfl dX6_tryRooms_52 ?_
              refine j_aload_n C dX6_tryRooms_53 rfl 1 rfl ?_
              refine j_iload_n C dX6_tryRooms_54 rfl 2 rfl ?_
              refine j_iconst C (nI 1) dX6_tryRooms_55 (by decide) ?_
              refine j_iadd C (nI 1) dX6_tryRooms_56 (by decide) ?_
              refine j_lload_n C dX6_tryRooms_57 rfl 3 rfl ?_
              refine j_aload_n C dX6_tryRooms_58 rfl 1 rfl ?_
              refine j_iload_n C dX6_tryRooms_59 rfl 2 rfl ?_
              refine j_iload C dX6_tryRooms_60 6 rfl ?_
              have hTu : ∀ i, i < 0 → gI (sI σ1 21 0 0 (nI to)) 21 0 i = nI (upA A 0 to i) := fun i hi => by rw [upA_lt hi, gI_sI, if_neg (by omega)]; exact hT1 i hi
              have hvu := vA_up hAv (show to < M 31 10 by omega)
              have hG5 := GS.i (k := 0) (x := nI to) hG1
              refine c_l0 C (r_V C 20 0 [.int (nI 0), .int (nI to)] (c_price l D cy base Λ (sI σ1 21 0 0 (nI to)) M (hG5.cr hC) hB (upA A 0 to) 0 (by omega) (by decide) (fun i hi => Nat.lt_of_lt_of_le (hvu i (by omega)) (by omega)) hTu to upA_d) (cwV 2 hts gX6_tryRooms_X6_priceOfAdding rfl rfl rfl (by decide +kernel) ⟨by decide, by decide⟩) (CR.n1 (hG1.cr hC) (by decide)) rfl rfl rfl rfl (Nat.le_of_ble_eq_true rfl) dX6_tryRooms_62 ⟨by decide, by decide⟩) (fun rv uu hp => ?_)
              rw [hp.1, hp.2]
              refine j_ladd C (zL ((fb_sm (padd M (upA A 0 to)) 1 : Nat) : Int)) dX6_tryRooms_65 ((zL_add _ _).trans (congrArg zL (by rw [sm_up]; omega))) ?_
              refine j_iload C dX6_tryRooms_66 4 rfl ?_
              refine j_iconst C (nI 1) dX6_tryRooms_68 (by decide) ?_
              refine j_iload C dX6_tryRooms_69 6 rfl ?_
              refine j_ishl C (nI (2 ^ to)) dX6_tryRooms_71 (shl1 (by omega)) ?_
              refine j_ior C (nI (U ||| 2 ^ to)) dX6_tryRooms_72 (fa_or _ _) ?_
              have hTv : ∀ i, i < 1 → gI (sI σ1 21 0 0 (nI to)) 21 0 i = nI (upA A 0 to i) := fun i hi => by by_cases e8 : i = 0; rw [e8, upA_d]; exact gI_same _ _ _ _ _; exact hTu i (by omega)
              refine c_v0 C (r_V C 20 0 [.int (nI 1), .long (zL ((fb_sm (padd M (upA A 0 to)) 1 : Nat) : Int)), .int (nI (U ||| 2 ^ to))] (c_tryFrom_1 l D cy base Λ (sI σ1 21 0 0 (nI to)) M (hG5.cr hC) hB hm9 hR1 hR3 e1 (by omega) (upA A 0 to) F1 b1 (U ||| 2 ^ to) hb1 hvu hTv hL1 (by rw [nm_up]; exact hF1) (by rw [nm_up]; exact hM1) (or_lt hU (pow6 (by omega))) (fun t => by rw [bit_or_pow, Bool.or_eq_true, decide_eq_true_eq, bU]; exact bitU_up)) (cwV 3 hts gX6_tryRooms_X6_tryFrom rfl rfl rfl (by decide +kernel) ⟨by decide, by decide⟩) (CR.n1 (hG1.cr hC) (by decide)) rfl rfl rfl rfl (Nat.le_of_ble_eq_true rfl) dX6_tryRooms_73 ⟨by decide, by decide⟩) (fun u3 hp => ?_)
              obtain ⟨hG3, hT3, b3, F3, hb3, hL3, hf3, hM3⟩ := hp
              rw [nm_up] at hM3
              skip
              refine j_iload C dX6_tryRooms_76 5 rfl ?_
              refine j_iload C dX6_tryRooms_78 0 rfl ?_
              refine j_ior C (nI 1) dX6_tryRooms_80 (by rcases hg with z | z <;> rw [z.1] <;> decide) ?_
              refine j_istore C [(5, .int (nI 1)), (7, .int (nI 1)), (0, .ref (gA Λ 20 0)), (1, .int (nI 0)), (2, .long (zL ((fb_sm (padd M A) 0 : Nat) : Int))), (4, .int (nI U)), (6, .int (nI to))] dX6_tryRooms_81 (by decide) rfl ?_
              refine j_iinc C [(6, .int (nI (to + 1))), (5, .int (nI 1)), (7, .int (nI 1)), (0, .ref (gA Λ 20 0)), (1, .int (nI 0)), (2, .long (zL ((fb_sm (padd M A) 0 : Nat) : Int))), (4, .int (nI U))] (nI (to + 1)) dX6_tryRooms_83 6 rfl (nI_add _ 1) (by decide) rfl ?_
              refine j_goto (tgt := 6) C dX6_tryRooms_86 (by decide) ?_
              refine j_lv [3, 4, 5, 6, 1, 0] rfl ?_
              exact ih6 u3 1 (to + 1) b3 F3 (by omega) (by omega) (GS.tr hG5 hG3) (fun i hi => by rw [hT3 i (by omega), upA_lt hi]) hb3 hL3 (fun _ => hf3) hM3 (Or.inr ⟨rfl, to, by omega, h25⟩)
  refine j_lv [2, 3, 4, 5, 1, 0] rfl ?_
  exact lb6 _ σ 0 0 b F (Nat.lt_succ_self _) (by omega) GS.rf hTr hbb hL (by rw [he1, node_beg] at hFo; exact hFo) (by rw [he1, node_beg] at hFM; exact hFM) (Or.inl ⟨rfl, fun t ht => absurd ht (Nat.not_lt_zero _)⟩)

set_option maxHeartbeats 4000000 in
set_option maxRecDepth 100000 in
theorem c_tryFrom_0 (l : Launch) (D : va_G) (cy : Nat → ClassId) (base : Nat) (Λ : LY) (σ : HS) (M : MM) (hC : CR noEx Λ σ M) (hB : MBd M) (hm9 : hcN M ≤ 9) (hR1 : 1 ≤ M 31 10) (hR3 : M 31 10 ≤ 3) (e9 : Nat) (hde : hcN M = 0 + e9) (A F : Nat → Nat) (b U : Nat) (hbb : b ≤ 1000000000000000) (hAv : vA (M 31 10) 0 A) (hTr : ∀ i, i < 0 → gI σ 21 0 i = nI (A i)) (hL : gJ σ 20 0 3 = zL (b : Int)) (hFo : 0 < nm (M 31 10) A 0 * M 31 10 ^ e9 → ∀ i, i < hcN M → gI σ 22 0 i = nI (F i)) (hFM : FM M (M 31 10) (hcN M) (nm (M 31 10) A 0 * M 31 10 ^ e9) b F) (hU : U < 64) (bU : ∀ t, U.testBit t = true ↔ fxP M (hcN M) t ∨ ∃ i, i < 0 ∧ A i = t) : Met l yX6_tryFrom wsX6_tryFrom ({ frames := 84, cells := 0, slots := 0, locals := 1260 }) (va_Pc [.ref (gA Λ 20 0), .int (nI 0), .long (zL ((fb_sm (padd M A) 0 : Nat) : Int)), .int (nI U)] (Wd D cy base Λ σ)) (va_Qv (fun u => GS σ u ∧ (∀ i, i < 0 → gI u 21 0 i = nI (A i)) ∧ ∃ b2 F2, b2 ≤ 1000000000000000 ∧ gJ u 20 0 3 = zL ((b2 : Nat) : Int) ∧ (∀ i, i < hcN M → gI u 22 0 i = nI (F2 i)) ∧ FM M (M 31 10) (hcN M) ((nm (M 31 10) A 0 + 1) * M 31 10 ^ e9) b2 F2) (Wd D cy base Λ) (Ab base)) 0 0 (Ab base) := by
  refine j_start (cc := cX6_tryFrom) (nL := 5) (ret := none) (lv := [(0, .ref (gA Λ 20 0)), (1, .int (nI 0)), (2, .long (zL ((fb_sm (padd M A) 0 : Nat) : Int))), (4, .int (nI U))]) (by decide) rfl (Nat.le_of_ble_eq_true rfl) rfl ?_
  intro p e s m below meth c C hr hlk hnm
  have C : Cx p s m ([.ref (gA Λ 20 0), .int (nI 0), .long (zL ((fb_sm (padd M A) 0 : Nat) : Int)), .int (nI U)] : List Value).toArray c cX6_tryFrom 5 RX6 wsX6_tryFrom D cy base := C
  have hts := C.2.2.2.2.1
  have hwX4 : ∀ w ∈ u_ws RX4 TX4 6, w ∈ wsX6_tryFrom := by decide +kernel
  have hwX6 : ∀ w ∈ u_ws RX6 TX6 4, w ∈ wsX6_tryFrom := by decide +kernel
  have hM9 : (Cond.fieldLink RX6 9 (TX6 1).1 (TX6 1).2.1 (TX6 1).2.2.1).before ([.ref (gA Λ 20 0), .int (nI 0), .long (zL ((fb_sm (padd M A) 0 : Nat) : Int)), .int (nI U)] : List Value).toArray s = true := hts (.fieldLink RX6 9 "CodeRooms$Search" "trial" "[I") (by decide +kernel)
  have hL9 : FL RX6 9 (TX6 1).1 (TX6 1).2.1 (TX6 1).2.2.1 ([.ref (gA Λ 20 0), .int (nI 0), .long (zL ((fb_sm (padd M A) 0 : Nat) : Int)), .int (nI U)] : List Value).toArray s := Or.inl hM9
  have hM15 : (Cond.fieldLink RX6 15 (TX6 2).1 (TX6 2).2.1 (TX6 2).2.2.1).before ([.ref (gA Λ 20 0), .int (nI 0), .long (zL ((fb_sm (padd M A) 0 : Nat) : Int)), .int (nI U)] : List Value).toArray s = true := hts (.fieldLink RX6 15 "CodeRooms$Search" "found" "[I") (by decide +kernel)
  have hL15 : FL RX6 15 (TX6 2).1 (TX6 2).2.1 (TX6 2).2.2.1 ([.ref (gA Λ 20 0), .int (nI 0), .long (zL ((fb_sm (padd M A) 0 : Nat) : Int)), .int (nI U)] : List Value).toArray s := Or.inl hM15
  have hM18 : (Cond.fieldLink RX6 18 (TX6 0).1 (TX6 0).2.1 (TX6 0).2.2.1).before ([.ref (gA Λ 20 0), .int (nI 0), .long (zL ((fb_sm (padd M A) 0 : Nat) : Int)), .int (nI U)] : List Value).toArray s = true := hts (.fieldLink RX6 18 "CodeRooms$Search" "plan" "LCodeRooms$Plan;") (by decide +kernel)
  have hL18 : FL RX6 18 (TX6 0).1 (TX6 0).2.1 (TX6 0).2.2.1 ([.ref (gA Λ 20 0), .int (nI 0), .long (zL ((fb_sm (padd M A) 0 : Nat) : Int)), .int (nI U)] : List Value).toArray s := Or.inl hM18
  have hL22 : FL RX6 22 (TX4 5).1 (TX4 5).2.1 (TX4 5).2.2.1 ([.ref (gA Λ 20 0), .int (nI 0), .long (zL ((fb_sm (padd M A) 0 : Nat) : Int)), .int (nI U)] : List Value).toArray s := Or.inr ⟨_, Ex.nestF C.2.2.2.2.2.2 nf_X6_22⟩
  have hM36 : (Cond.fieldLink RX6 36 (TX6 3).1 (TX6 3).2.1 (TX6 3).2.2.1).before ([.ref (gA Λ 20 0), .int (nI 0), .long (zL ((fb_sm (padd M A) 0 : Nat) : Int)), .int (nI U)] : List Value).toArray s = true := hts (.fieldLink RX6 36 "CodeRooms$Search" "least" "J") (by decide +kernel)
  have hL36 : FL RX6 36 (TX6 3).1 (TX6 3).2.1 (TX6 3).2.2.1 ([.ref (gA Λ 20 0), .int (nI 0), .long (zL ((fb_sm (padd M A) 0 : Nat) : Int)), .int (nI U)] : List Value).toArray s := Or.inl hM36
  have hn : M 31 5 ≤ 40 := hB 31 5 rfl
  have hhc0 := hcN_le M
  have hS := sm_le hB (A := A) (d := 0) (by omega) (by decide)
  have hKp : b ≠ 1000000000000000 → 0 < nm (M 31 10) A 0 * M 31 10 ^ e9 := fun z => Nat.pos_of_ne_zero (fun q => z (hFM.2.2 q))
  refine j_lload_n C dX6_tryFrom_0 rfl 2 rfl ?_
  refine j_aload_n C dX6_tryFrom_1 rfl 0 rfl ?_
  refine j_getJ C hwX6 20 0 3 (CR.n1 hC (by decide)) rfl rfl (by decide) rfl (zL (b : Int)) hL hL36 dX6_tryFrom_2 ?_
  refine j_lcmp_lt (tgt := 10) C dX6_tryFrom_5 dX6_tryFrom_6 (by decide) ((zL_lt (by omega) (by omega) (by omega) (by omega)).trans Int.ofNat_lt) (fun h5 => ?_) (fun h5 => ?_)
  · refine j_iload_n C dX6_tryFrom_10 rfl 1 rfl ?_
    refine j_aload_n C dX6_tryFrom_11 rfl 0 rfl ?_
    refine j_getV C hwX6 20 0 0 (CR.n1 hC (by decide)) rfl rfl (by decide) rfl 0 (CR.v hC 20 0 0 ⟨rfl, by decide⟩ id) hL18 dX6_tryFrom_12 ?_
    have hhc15 := hcN_le M
    refine j_getI C hwX4 3 0 5 (CR.n1 hC (by decide)) rfl rfl (by decide) rfl (nI (hcN M)) (CR.i hC 3 0 5 ⟨rfl, Or.inr rfl⟩ id) hL22 dX6_tryFrom_15 ?_
    refine j_icmp_ge (tgt := 27) C dX6_tryFrom_18 (by decide) (nI_leI (by omega) (by omega)) (fun h18 => ?_) (fun h18 => ?_)
    · refine j_aload_n C dX6_tryFrom_27 rfl 0 rfl ?_
      refine j_lload_n C dX6_tryFrom_28 rfl 2 rfl ?_
      refine j_putJ C hwX6 20 0 3 (CR.n1 hC (by decide)) rfl rfl (by decide) rfl tyX6 tyX6_ok nmX6 rfl rfl rfl hL36 dX6_tryFrom_29 ?_
      refine j_aload_n C dX6_tryFrom_32 rfl 0 rfl ?_
      refine j_getV C hwX6 20 0 1 (CR.n1 hC (by decide)) rfl rfl (by decide) rfl 0 (CR.v hC 20 0 1 ⟨rfl, by decide⟩ id) hL9 dX6_tryFrom_33 ?_
      refine j_iconst C (nI 0) dX6_tryFrom_36 (by decide) ?_
      refine j_aload_n C dX6_tryFrom_37 rfl 0 rfl ?_
      refine j_getV C hwX6 20 0 2 (CR.n1 hC (by decide)) rfl rfl (by decide) rfl 0 (CR.v hC 20 0 2 ⟨rfl, by decide⟩ id) hL15 dX6_tryFrom_38 ?_
      refine j_iconst C (nI 0) dX6_tryFrom_41 (by decide) ?_
      refine j_bipush C (nI 9) dX6_tryFrom_42 (by decide) ?_
      refine j_cpi C 21 0 22 0 9 (CR.n1 hC (by decide)) (CR.n1 hC (by decide)) rfl rfl rfl rfl (CR.l1 hC (by decide)) (CR.l1 hC (by decide)) (by decide) (by decide +kernel) rfl rfl dX6_tryFrom_44 ?_
      exact j_vret C hr hlk (⟨GS.r (GS.j GS.rf), fun i hi => by rw [gI_sRn (Or.inl (by decide))]; exact hTr i hi, fb_sm (padd M A) 0, A, by omega, gJ_same _ _ _ _ _, fun i hi => by rw [gI_sR]; unfold va_cpy; rw [if_pos (by omega)]; exact (congrArg _ (by omega)).trans (hTr i (by omega)), by have e0 : e9 = 0 := (by omega); subst e0; rw [Nat.pow_zero, Nat.mul_one] at hFM ⊢; rw [show hcN M = 0 from hde] at hFM ⊢; exact FM.leaf hFM hAv h5⟩) dX6_tryFrom_47
    · refine j_iload_n C dX6_tryFrom_21 rfl 1 rfl ?_
      refine j_bipush C (nI 9) dX6_tryFrom_22 (by decide) ?_
      refine j_icmp_lt (tgt := 48) C (P := True) dX6_tryFrom_24 (by decide) (by decide) (fun z => ?_) (fun z => ?_)
      · refine j_aload_n C dX6_tryFrom_48 rfl 0 rfl ?_
        refine j_iload_n C dX6_tryFrom_49 rfl 1 rfl ?_
        refine j_lload_n C dX6_tryFrom_50 rfl 2 rfl ?_
        refine j_iload C dX6_tryFrom_51 3 rfl ?_
        refine c_v0 C (r_V C 20 0 [.int (nI 0), .long (zL ((fb_sm (padd M A) 0 : Nat) : Int)), .int (nI U)] (c_tryRooms_0 l D cy base Λ σ M hC hB hm9 hR1 hR3 e9 hde A F b U hbb hAv hTr hL hFo hFM hU bU (by omega)) (cwV 3 hts gX6_tryFrom_X6_tryRooms rfl rfl rfl (by decide +kernel) ⟨by decide, by decide⟩) (CR.n1 hC (by decide)) rfl rfl rfl rfl (Nat.le_of_ble_eq_true rfl) dX6_tryFrom_53 ⟨by decide, by decide⟩) (fun u3 hp => ?_)
        exact j_vret C hr hlk (hp) dX6_tryFrom_56
      · exact absurd trivial z
  · exact j_vret C hr hlk (⟨GS.rf, hTr, b, F, hbb, hL, hFo (hKp (by omega)), by rw [hde] at hFM ⊢; exact FM.prune hFM hAv rfl (by omega) (by omega) (by omega)⟩) dX6_tryFrom_9
