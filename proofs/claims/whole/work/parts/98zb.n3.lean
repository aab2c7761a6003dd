set_option maxHeartbeats 4000000 in
set_option maxRecDepth 100000 in
theorem c_name_ok (l : Launch) (D : va_G) (cy : Nat → ClassId) (base : Nat) (Λ : LY) (σ : HS) (M : MM) (hC : CR noEx Λ σ M) (hB : MBd M) (n ar cp : Nat) (wf tx ln hd : Nat → Nat) (lt : Nat → Nat → Nat) (hL : GL Λ σ n ar cp wf tx ln hd lt) (hW : GW (PW M) n ln hd lt) (hn400 : n ≤ 400) (hp1 : M 31 18 ≤ 20) (hp2 : ∀ k, k < M 31 18 → M 43 k < 128) (hNm : ∀ x, x < 40 → M 34 x ≤ 20) (hB3 : ∀ x, x < 800 → M 33 x < 128) (room : Nat) (hrm : room < M 31 10) (hR : M 31 10 ≤ 6) : Met l yX10_name wsX10_name ({ frames := 24, cells := 0, slots := 0, locals := 360 }) (va_Pc [.ref (gA Λ 0 0), .int (nI room)] (Wd D cy base Λ σ)) (va_Qi (fun v u => ∃ M2, v = nI (M2 31 18) ∧ NmR M room M2 ∧ CR noEx Λ u M2 ∧ ∃ u1, G7 σ u1 ∧ GX u1 u 1) (Wd D cy base Λ) (Ab base)) 0 0 (Ab base) := by
  refine j_start (cc := cX10_name) (nL := 3) (ret := (some .int)) (lv := [(0, .ref (gA Λ 0 0)), (1, .int (nI room))]) (by decide) rfl (Nat.le_of_ble_eq_true rfl) rfl ?_
  intro p e s m below meth c C hr hlk hnm
  have C : Cx p s m ([.ref (gA Λ 0 0), .int (nI room)] : List Value).toArray c cX10_name 3 RX10 wsX10_name D cy base := C
  have hts := C.2.2.2.2.1
  have hwX10 : ∀ w ∈ u_ws RX10 TX10 9, w ∈ wsX10_name := by decide +kernel
  have hwX4 : ∀ w ∈ u_ws RX4 TX4 6, w ∈ wsX10_name := by decide +kernel
  have hwX7 : ∀ w ∈ u_ws RX7 TX7 2, w ∈ wsX10_name := by decide +kernel
  have hwX9 : ∀ w ∈ u_ws RX9 TX9 2, w ∈ wsX10_name := by decide +kernel
  have hM18 : (Cond.fieldLink RX10 18 (TX10 1).1 (TX10 1).2.1 (TX10 1).2.2.1).before ([.ref (gA Λ 0 0), .int (nI room)] : List Value).toArray s = true := hts (.fieldLink RX10 18 "CodeRooms" "page" "LCodeRooms$Text;") (by decide +kernel)
  have hL18 : FL RX10 18 (TX10 1).1 (TX10 1).2.1 (TX10 1).2.2.1 ([.ref (gA Λ 0 0), .int (nI room)] : List Value).toArray s := Or.inl hM18
  have hM24 : (Cond.fieldLink RX10 24 (TX10 2).1 (TX10 2).2.1 (TX10 2).2.2.1).before ([.ref (gA Λ 0 0), .int (nI room)] : List Value).toArray s = true := hts (.fieldLink RX10 24 "CodeRooms" "plan" "LCodeRooms$Plan;") (by decide +kernel)
  have hL24 : FL RX10 24 (TX10 2).1 (TX10 2).2.1 (TX10 2).2.2.1 ([.ref (gA Λ 0 0), .int (nI room)] : List Value).toArray s := Or.inl hM24
  have hM31 : (Cond.fieldLink RX10 31 (TX10 3).1 (TX10 3).2.1 (TX10 3).2.2.1).before ([.ref (gA Λ 0 0), .int (nI room)] : List Value).toArray s = true := hts (.fieldLink RX10 31 "CodeRooms" "glossary" "LCodeRooms$Glossary;") (by decide +kernel)
  have hL31 : FL RX10 31 (TX10 3).1 (TX10 3).2.1 (TX10 3).2.2.1 ([.ref (gA Λ 0 0), .int (nI room)] : List Value).toArray s := Or.inl hM31
  have hL72 : FL RX10 72 (TX7 1).1 (TX7 1).2.1 (TX7 1).2.2.1 ([.ref (gA Λ 0 0), .int (nI room)] : List Value).toArray s := Or.inr ⟨_, Ex.nestF C.2.2.2.2.2.2 nf_X10_72⟩
  have hL192 : FL RX10 192 (TX4 3).1 (TX4 3).2.1 (TX4 3).2.2.1 ([.ref (gA Λ 0 0), .int (nI room)] : List Value).toArray s := Or.inr ⟨_, Ex.nestF C.2.2.2.2.2.2 nf_X10_192⟩
  have hL205 : FL RX10 205 (TX9 0).1 (TX9 0).2.1 (TX9 0).2.2.1 ([.ref (gA Λ 0 0), .int (nI room)] : List Value).toArray s := Or.inr ⟨_, Ex.nestF C.2.2.2.2.2.2 nf_X10_205⟩
  have hC199 : (Jvm.Cond.constantLong RX10 199 (-1)).before ([.ref (gA Λ 0 0), .int (nI room)] : List Value).toArray s = true := hts _ (by decide +kernel)
  have hn : M 31 5 ≤ 40 := hB 31 5 rfl
  refine j_aload_n C dX10_name_0 rfl 0 rfl ?_
  refine j_iload_n C dX10_name_1 rfl 1 rfl ?_
  refine c_v0 C (r_V C 0 0 [.int (nI room)] (c_X10_needRoom l D cy base Λ σ M hC hB room (by omega)) (cwV 1 hts gX10_name_X10_needRoom rfl rfl rfl (by decide +kernel) ⟨by decide, by decide⟩) (CR.n1 hC (by decide)) rfl rfl rfl rfl (Nat.le_of_ble_eq_true rfl) dX10_name_2 ⟨by decide, by decide⟩) (fun uu hp => ?_)
  rw [hp]
  refine j_aload_n C dX10_name_5 rfl 0 rfl ?_
  refine j_getV C hwX10 0 0 2 (CR.n1 hC (by decide)) rfl rfl (by decide) rfl 0 (CR.v hC 0 0 2 ⟨rfl, by decide⟩ id) hL24 dX10_name_6 ?_
  refine c_v0 C (r_V C 3 0 [] (c_X4_gather l D cy base Λ σ M hC hB) (cwV 0 hts gX10_name_X4_gather rfl rfl rfl (by decide +kernel) ⟨by decide, by decide⟩) (CR.n1 hC (by decide)) rfl rfl rfl rfl (Nat.le_of_ble_eq_true rfl) dX10_name_9 ⟨by decide, by decide⟩) (fun u1 hq1 => ?_)
  obtain ⟨hG1, hm1⟩ := hq1
  have hC1 := hG1.cr hC
  refine j_aload_n C dX10_name_12 rfl 0 rfl ?_
  refine j_getV C hwX10 0 0 1 (CR.n1 hC1 (by decide)) rfl rfl (by decide) rfl 1 (CR.v hC1 0 0 1 ⟨rfl, by decide⟩ id) hL18 dX10_name_13 ?_
  have hT1 := CR.tx1 hC1 hp1 hp2
  have hcl := TX.clr hT1
  refine c_v0 C (r_V C 1 1 [] (c_clear l D cy base Λ u1 1 hT1.1) (cwV 0 hts gX10_name_X7_clear rfl rfl rfl (by decide +kernel) ⟨by decide, by decide⟩) hT1.1 rfl rfl rfl rfl (Nat.le_of_ble_eq_true rfl) dX10_name_16 ⟨by decide, by decide⟩) (fun u2 hq2 => ?_)
  rw [← hq2] at hcl
  have hC2 : CR noEx Λ u2 (pgM M 0 (M 43)) := CR.page hC1 hcl.2 hcl.1 (fun k hk => absurd hk (Nat.not_lt_zero k)) (fun k hk => absurd hk (Nat.not_lt_zero k))
  have hB2 : MBd (pgM M 0 (M 43)) := pgM_B hB (by decide) (fun k hk => hB 43 k (decide_eq_true hk))
  have hm2 : gJ u2 7 0 room = lN (memS M room) := by rw [hcl.2.1]; exact hm1 room (by omega)
  have hL2 := (G7.gl hL hG1).gx hcl.2 (by decide)
  refine j_aload_n C dX10_name_19 rfl 0 rfl ?_
  refine j_getV C hwX10 0 0 3 (CR.n1 hC2 (by decide)) rfl rfl (by decide) rfl 0 (CR.v hC2 0 0 3 ⟨rfl, by decide⟩ id) hL31 dX10_name_20 ?_
  refine j_aload_n C dX10_name_23 rfl 0 rfl ?_
  refine j_getV C hwX10 0 0 2 (CR.n1 hC2 (by decide)) rfl rfl (by decide) rfl 0 (CR.v hC2 0 0 2 ⟨rfl, by decide⟩ id) hL24 dX10_name_24 ?_
  refine j_getV C hwX4 3 0 3 (CR.n1 hC2 (by decide)) rfl rfl (by decide) rfl 0 (CR.v hC2 3 0 3 ⟨rfl, by decide⟩ id) hL192 dX10_name_27 ?_
  refine j_iload_n C dX10_name_30 rfl 1 rfl ?_
  refine j_lald C 7 0 room (CR.n1 hC2 (by decide)) rfl rfl 6 (CR.l1 hC2 (by decide)) (by omega) (by omega) (lN (memS M room)) hm2 dX10_name_31 ?_
  refine j_aload_n C dX10_name_32 rfl 0 rfl ?_
  refine j_getV C hwX10 0 0 2 (CR.n1 hC2 (by decide)) rfl rfl (by decide) rfl 0 (CR.v hC2 0 0 2 ⟨rfl, by decide⟩ id) hL24 dX10_name_33 ?_
  refine c_l0 C (r_V C 3 0 [] (c_X4_housedBits l D cy base Λ u2 (pgM M 0 (M 43)) hC2 hB2) (cwV 0 hts gX10_name_X4_housedBits rfl rfl rfl (by decide +kernel) ⟨by decide, by decide⟩) (CR.n1 hC2 (by decide)) rfl rfl rfl rfl (Nat.le_of_ble_eq_true rfl) dX10_name_36 ⟨by decide, by decide⟩) (fun rv uu hp => ?_)
  rw [hp.1, hp.2]
  refine j_aload_n C dX10_name_39 rfl 0 rfl ?_
  refine j_getV C hwX10 0 0 2 (CR.n1 hC2 (by decide)) rfl rfl (by decide) rfl 0 (CR.v hC2 0 0 2 ⟨rfl, by decide⟩ id) hL24 dX10_name_40 ?_
  refine j_getV C hwX4 3 0 3 (CR.n1 hC2 (by decide)) rfl rfl (by decide) rfl 0 (CR.v hC2 3 0 3 ⟨rfl, by decide⟩ id) hL192 dX10_name_43 ?_
  refine j_iload_n C dX10_name_46 rfl 1 rfl ?_
  refine j_lald C 7 0 room (CR.n1 hC2 (by decide)) rfl rfl 6 (CR.l1 hC2 (by decide)) (by omega) (by omega) (lN (memS M room)) hm2 dX10_name_47 ?_
  refine j_ldc2 C (zL (-1)) hC199 dX10_name_48 (by decide) ?_
  refine j_lxor C (lN (memS M room) ^^^ zL (-1)) dX10_name_51 rfl ?_
  refine j_land C (lN (outS M room)) dX10_name_52 (out_bits M room hn) ?_
  refine c_q0 C (r_V C 14 0 [.long (lN (memS M room)), .long (lN (outS M room))] (c_X0_wordFor l D cy base Λ u2 n ar cp wf tx ln hd lt hL2 (memS M room) (outS M room) (mem_lt hn) (out_lt hn) (by omega)) (cwV 2 hts gX10_name_X0_wordFor rfl rfl rfl (by decide +kernel) ⟨by decide, by decide⟩) (CR.n1 hC2 (by decide)) rfl rfl rfl rfl (Nat.le_of_ble_eq_true rfl) dX10_name_53 ⟨by decide, by decide⟩) (fun ra u3 hq3 => ?_)
  obtain ⟨co, e1, e2, hch⟩ := hq3
  rw [e1, e2]
  rcases co with _ | b9
  · refine j_astore_nN C [(2, .null), (0, .ref (gA Λ 0 0)), (1, .int (nI room))] dX10_name_56 rfl (by decide) rfl ?_
    refine j_aload_nN C dX10_name_57 rfl 0 rfl ?_
    refine j_ifnullN (tgt := 72) C dX10_name_58 (by decide) ?_
    refine j_aload_n C dX10_name_72 rfl 1 rfl ?_
    refine j_getV C hwX10 0 0 1 (CR.n1 hC2 (by decide)) rfl rfl (by decide) rfl 1 (CR.v hC2 0 0 1 ⟨rfl, by decide⟩ id) hL18 dX10_name_73 ?_
    refine j_getI C hwX7 1 1 1 hcl.1.1 rfl rfl (by decide) rfl (nI 0) hcl.1.2.2.2.1 hL72 dX10_name_76 ?_
    exact j_iret C hr hlk (⟨(pgM M 0 (M 43)), rfl, NmR.none (chw_none hW hn hW.2.2.2 hch), hC2, u1, hG1, hcl.2⟩) dX10_name_79
  · refine j_astore_n C [(2, .ref (gA Λ 17 (wf b9))), (0, .ref (gA Λ 0 0)), (1, .int (nI room))] dX10_name_56 rfl (by decide) rfl ?_
    refine j_aload_n C dX10_name_57 rfl 0 rfl ?_
    refine j_ifnull C dX10_name_58 ?_
    obtain ⟨r9, k9, hbest, hweq⟩ := chw_best hW hn hW.2.2.2 hch
    have hcl2 := cand_len hNm hn hbest.1
    have hln20 : ln b9 ≤ 20 := by rw [hweq.1]; omega
    have hlt128 : ∀ k, k < ln b9 → lt b9 k < 128 := fun k hk => by rw [hweq.2 k hk]; have h1 := hweq.1; exact hB3 _ (by omega)
    refine j_aload_n C dX10_name_61 rfl 1 rfl ?_
    refine j_getV C hwX10 0 0 1 (CR.n1 hC2 (by decide)) rfl rfl (by decide) rfl 1 (CR.v hC2 0 0 1 ⟨rfl, by decide⟩ id) hL18 dX10_name_62 ?_
    refine j_aload_n C dX10_name_65 rfl 0 rfl ?_
    refine j_getV C hwX9 17 (wf b9) 0 (hL2.2.2.2.1 b9 hch.1).1 rfl rfl (by decide) rfl (tx b9) (hL2.2.2.2.1 b9 hch.1).2.1 hL205 dX10_name_66 ?_
    refine c_v0 C (r_V C 1 1 [.ref (gA Λ 1 (tx b9))] (c_X7_addAll l D cy base Λ u2 1 0 20 (M 43) hcl.1 (tx b9) (ln b9) (ln b9) (lt b9) (hL2.2.2.2.1 b9 hch.1).2.2.2.2.2 (by have := (hL2.2.2.2.1 b9 hch.1).2.2.2.2.1; omega) (by omega)) (cwV 1 hts gX10_name_X7_addAll rfl rfl rfl (by decide +kernel) ⟨by decide, by decide⟩) hcl.1.1 rfl rfl rfl rfl (Nat.le_of_ble_eq_true rfl) dX10_name_69 ⟨by decide, by decide⟩) (fun u4 hq4 => ?_)
    obtain ⟨hT4, hG4⟩ := hq4
    rw [Nat.zero_add] at hT4
    have hC4 : CR noEx Λ u4 (pgM M (ln b9) (lt b9)) := CR.page hC1 (GX.tr hcl.2 hG4) hT4 (fun k hk => by unfold apT; rw [if_neg (Nat.not_lt_zero k), Nat.sub_zero]) (fun k hk => by unfold apT; rw [if_neg (Nat.not_lt_zero k), Nat.sub_zero]; exact hlt128 k hk)
    refine j_aload_n C dX10_name_72 rfl 1 rfl ?_
    refine j_getV C hwX10 0 0 1 (CR.n1 hC4 (by decide)) rfl rfl (by decide) rfl 1 (CR.v hC4 0 0 1 ⟨rfl, by decide⟩ id) hL18 dX10_name_73 ?_
    refine j_getI C hwX7 1 1 1 hT4.1 rfl rfl (by decide) rfl (nI (ln b9)) hT4.2.2.2.1 hL72 dX10_name_76 ?_
    exact j_iret C hr hlk (⟨pgM M (ln b9) (lt b9), rfl, NmR.some hbest hweq, hC4, u1, hG1, GX.tr hcl.2 hG4⟩) dX10_name_79
