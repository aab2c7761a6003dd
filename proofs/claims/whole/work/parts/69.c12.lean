theorem fc_out {M : MM} {room r : Nat} (hn : M 31 5 ≤ 40) (h1 : M 37 r = 0) (h2 : M 38 r = room) : lN (bitS (fun o => decide (0 < M 35 ((40 * 0 + o) * 40 + r))) (M 31 5)) &&& (lN (memS M room) ^^^ zL (-1)) = lN 0 ↔ fcB M room r = false := by
  rw [bs_andn (q := fun j => decide (M 37 j = 0) && decide (M 38 j = room)) (r := cldP M room r) hn (fun j hj => by unfold memS; rw [bitS_bit]; simp [hj]) (fun j hj => by
    unfold cldP
    by_cases e : j = r
    · subst e; simp [h1, h2]
    · by_cases e1 : M 37 j = 0 <;> by_cases e2 : M 38 j = room <;> simp [e, e1, e2]), bs_zero hn, ← anyB_f]
  unfold fcB
  simp [h1, h2]
theorem fc_ct {M : MM} {room i : Nat} (hi : i < hcN M) : fb_ct (fcB M room) (hs M i) = fb_ct (fun x => fcB M room (hs M x)) i := by
  have hl := hs_lt hi
  have h := ct_hs (M := M) (fcB M room) (n := hs M i) (by omega)
  rw [hs_rk hi] at h
  rw [← h]
  refine fb_ct_cong (fun r _ => ?_)
  unfold fcB
  by_cases e : M 37 r = 0 <;> simp [e]
theorem fc_all {M : MM} {room : Nat} : fb_ct (fcB M room) (M 31 5) = fb_ct (fun x => fcB M room (hs M x)) (hcN M) := by
  have h := ct_hs (M := M) (fcB M room) (n := M 31 5) (Nat.le_refl _)
  refine Eq.trans ?_ h
  refine fb_ct_cong (fun r _ => ?_)
  unfold fcB
  by_cases e : M 37 r = 0 <;> simp [e]
theorem nI_eqk {a : Nat} {k : Int32} (ha : a ≤ 100) : nI a = k ↔ k.toInt = a := by
  rw [← Int32.toInt_inj, nI_toInt (by omega)]
  exact eq_comm
set_option maxHeartbeats 4000000 in
set_option maxRecDepth 100000 in
theorem c_X8_calledFromOutside (l : Launch) (D : va_G) (cy : Nat → ClassId) (base : Nat) (Λ : LY) (σ : HS) (M : MM) (hC : CR noEx Λ σ M) (hB : MBd M) (room : Nat) (hrm : room < 6) (k : Int32) : Met l yX8_calledFromOutside wsX8_calledFromOutside ({ frames := 8, cells := 0, slots := 0, locals := 120 }) (va_Pc [.ref (gA Λ 23 0), .int (nI room), .int (k)] (Wd D cy base Λ σ)) (va_Qi (fun v u => fcV M room k.toInt v ∧ G7 σ u) (Wd D cy base Λ) (Ab base)) 0 0 (Ab base) := by
  refine j_start (cc := cX8_calledFromOutside) (nL := 6) (ret := (some .int)) (lv := [(0, .ref (gA Λ 23 0)), (1, .int (nI room)), (2, .int (k))]) (by decide) rfl (Nat.le_of_ble_eq_true rfl) rfl ?_
  intro p e s m below meth c C hr hlk hnm
  have C : Cx p s m ([.ref (gA Λ 23 0), .int (nI room), .int (k)] : List Value).toArray c cX8_calledFromOutside 6 RX8 wsX8_calledFromOutside D cy base := C
  have hts := C.2.2.2.2.1
  have hwX4 : ∀ w ∈ u_ws RX4 TX4 6, w ∈ wsX8_calledFromOutside := by decide +kernel
  have hwX5 : ∀ w ∈ u_ws RX5 TX5 13, w ∈ wsX8_calledFromOutside := by decide +kernel
  have hwX8 : ∀ w ∈ u_ws RX8 TX8 2, w ∈ wsX8_calledFromOutside := by decide +kernel
  have hM15 : (Cond.fieldLink RX8 15 (TX8 0).1 (TX8 0).2.1 (TX8 0).2.2.1).before ([.ref (gA Λ 23 0), .int (nI room), .int (k)] : List Value).toArray s = true := hts (.fieldLink RX8 15 "CodeRooms$Traffic" "plan" "LCodeRooms$Plan;") (by decide +kernel)
  have hL15 : FL RX8 15 (TX8 0).1 (TX8 0).2.1 (TX8 0).2.2.1 ([.ref (gA Λ 23 0), .int (nI room), .int (k)] : List Value).toArray s := Or.inl hM15
  have hL24 : FL RX8 24 (TX4 5).1 (TX4 5).2.1 (TX4 5).2.2.1 ([.ref (gA Λ 23 0), .int (nI room), .int (k)] : List Value).toArray s := Or.inr ⟨_, Ex.nestF C.2.2.2.2.2.2 nf_X8_24⟩
  have hL28 : FL RX8 28 (TX4 1).1 (TX4 1).2.1 (TX4 1).2.2.1 ([.ref (gA Λ 23 0), .int (nI room), .int (k)] : List Value).toArray s := Or.inr ⟨_, Ex.nestF C.2.2.2.2.2.2 nf_X8_28⟩
  have hL32 : FL RX8 32 (TX5 11).1 (TX5 11).2.1 (TX5 11).2.2.1 ([.ref (gA Λ 23 0), .int (nI room), .int (k)] : List Value).toArray s := Or.inr ⟨_, Ex.nestF C.2.2.2.2.2.2 nf_X8_32⟩
  have hL37 : FL RX8 37 (TX5 8).1 (TX5 8).2.1 (TX5 8).2.2.1 ([.ref (gA Λ 23 0), .int (nI room), .int (k)] : List Value).toArray s := Or.inr ⟨_, Ex.nestF C.2.2.2.2.2.2 nf_X8_37⟩
  have hL41 : FL RX8 41 (TX4 3).1 (TX4 3).2.1 (TX4 3).2.2.1 ([.ref (gA Λ 23 0), .int (nI room), .int (k)] : List Value).toArray s := Or.inr ⟨_, Ex.nestF C.2.2.2.2.2.2 nf_X8_41⟩
  have hL47 : FL RX8 47 (TX5 0).1 (TX5 0).2.1 (TX5 0).2.2.1 ([.ref (gA Λ 23 0), .int (nI room), .int (k)] : List Value).toArray s := Or.inr ⟨_, Ex.nestF C.2.2.2.2.2.2 nf_X8_47⟩
  have hC45 : (Jvm.Cond.constantLong RX8 45 (-1)).before ([.ref (gA Λ 23 0), .int (nI room), .int (k)] : List Value).toArray s = true := hts _ (by decide +kernel)
  have hn : M 31 5 ≤ 40 := hB 31 5 rfl
  have hhc0 := hcN_le M
  refine j_aload_n C dX8_calledFromOutside_0 rfl 0 rfl ?_
  refine j_getV C hwX8 23 0 0 (CR.n1 hC (by decide)) rfl rfl (by decide) rfl 0 (CR.v hC 23 0 0 ⟨rfl, by decide⟩ id) hL15 dX8_calledFromOutside_1 ?_
  refine c_v0 C (r_V C 3 0 [] (c_X4_gather l D cy base Λ σ M hC hB) (cwV 0 hts gX8_calledFromOutside_X4_gather rfl rfl rfl (by decide +kernel) ⟨by decide, by decide⟩) (CR.n1 hC (by decide)) rfl rfl rfl rfl (Nat.le_of_ble_eq_true rfl) dX8_calledFromOutside_4 ⟨by decide, by decide⟩) (fun ug_1 hp => ?_)
  obtain ⟨hGg_1, hmg_1⟩ := hp
  have hCg_1 := hGg_1.cr hC
  refine j_iconst C (nI 0) dX8_calledFromOutside_7 (by decide) ?_
  refine j_istore_n C [(3, .int (nI 0)), (0, .ref (gA Λ 23 0)), (1, .int (nI room)), (2, .int (k))] dX8_calledFromOutside_8 rfl (by decide) rfl ?_
  refine j_iconst C (nI 0) dX8_calledFromOutside_9 (by decide) ?_
  refine j_istore C [(4, .int (nI 0)), (3, .int (nI 0)), (0, .ref (gA Λ 23 0)), (1, .int (nI room)), (2, .int (k))] dX8_calledFromOutside_10 (by decide) rfl ?_
  have lb12 : ∀ (fu : Nat) (a i : Nat), (hcN M - i) < fu → (i ≤ hcN M) → (a = fb_ct (fun x => fcB M room (hs M x)) i) → (¬ (0 ≤ k.toInt ∧ k.toInt < a)) → J p l e ({ frames := 8, cells := 0, slots := 0, locals := 120 }) s m ([.ref (gA Λ 23 0), .int (nI room), .int (k)] : List Value).toArray below meth c 6 D cy base (MQ below (va_Qi (fun v u => fcV M room k.toInt v ∧ G7 σ u) (Wd D cy base Λ) (Ab base)) ([.ref (gA Λ 23 0), .int (nI room), .int (k)] : List Value).toArray s 0 0 (Ab base)) 0 0 Λ 12 [(0, .ref (gA Λ 23 0)), (1, .int (nI room)), (2, .int (k)), (3, .int (nI a)), (4, .int (nI i))] [] ug_1 := by
    intro fu
    induction fu with
    | zero => intro a i hfu; exact absurd hfu (Nat.not_lt_zero _)
    | succ fu ih =>
      intro a i hfu hi ha hno
      have hal := fb_ct_le (fun x => fcB M room (hs M x)) i
      have ih12 := ih
      refine j_iload C dX8_calledFromOutside_12 4 rfl ?_
      refine j_aload_n C dX8_calledFromOutside_14 rfl 0 rfl ?_
      refine j_getV C hwX8 23 0 0 (CR.n1 hCg_1 (by decide)) rfl rfl (by decide) rfl 0 (CR.v hCg_1 23 0 0 ⟨rfl, by decide⟩ id) hL15 dX8_calledFromOutside_15 ?_
      have hhc18 := hcN_le M
      refine j_getI C hwX4 3 0 5 (CR.n1 hCg_1 (by decide)) rfl rfl (by decide) rfl (nI (hcN M)) (CR.i hCg_1 3 0 5 ⟨rfl, Or.inr rfl⟩ id) hL24 dX8_calledFromOutside_18 ?_
      refine j_icmp_ge (tgt := 89) C dX8_calledFromOutside_21 (by decide) (nI_leI (by omega) (by omega)) (fun h21 => ?_) (fun h21 => ?_)
      · refine j_iconst C ((-1)) dX8_calledFromOutside_89 (by decide) ?_
        exact j_iret C hr hlk (⟨Or.inr ⟨rfl, by rw [fc_all, show hcN M = i by omega, ← ha]; omega⟩, hGg_1⟩) dX8_calledFromOutside_90
      · refine j_aload_n C dX8_calledFromOutside_24 rfl 0 rfl ?_
        refine j_getV C hwX8 23 0 0 (CR.n1 hCg_1 (by decide)) rfl rfl (by decide) rfl 0 (CR.v hCg_1 23 0 0 ⟨rfl, by decide⟩ id) hL15 dX8_calledFromOutside_25 ?_
        refine j_getV C hwX4 3 0 1 (CR.n1 hCg_1 (by decide)) rfl rfl (by decide) rfl 0 (CR.v hCg_1 3 0 1 ⟨rfl, by decide⟩ id) hL28 dX8_calledFromOutside_28 ?_
        refine j_iload C dX8_calledFromOutside_31 4 rfl ?_
        have hhs33 := hs_lt (M := M) (k := i) (by omega)
        have hhn33 := hs_nh (M := M) (k := i) (by omega)
        refine j_aald C 5 0 i (CR.n1 hCg_1 (by decide)) rfl (by decide) (by decide) 40 (CR.l1 hCg_1 (by decide)) (by omega) (by omega) (hs M i) (CR.v hCg_1 5 0 i ⟨rfl, by omega⟩ id) dX8_calledFromOutside_33 ?_
        refine j_astore C [(5, .ref (gA Λ 8 (hs M i))), (0, .ref (gA Λ 23 0)), (1, .int (nI room)), (2, .int (k)), (3, .int (nI a)), (4, .int (nI i))] dX8_calledFromOutside_34 (by decide) rfl ?_
        refine j_aload C dX8_calledFromOutside_36 0 rfl ?_
        have hb38 : M 38 (hs M i) ≤ 5 := hB 38 (hs M i) (decide_eq_true (show hs M i < 40 by omega))
        refine j_getI C hwX5 8 (hs M i) 11 (CR.n8 hCg_1 (by decide) (show hs M i < M 31 5 by omega)) rfl rfl (by decide) rfl (nI (M 38 (hs M i))) (CR.i hCg_1 8 (hs M i) 11 ⟨show hs M i < M 31 5 by omega, Or.inr (Or.inr (Or.inl rfl))⟩ id) hL32 dX8_calledFromOutside_38 ?_
        refine j_iload_n C dX8_calledFromOutside_41 rfl 2 rfl ?_
        refine j_icmp_ne (tgt := 83) C dX8_calledFromOutside_42 (by decide) (nI_eq (by omega) (by omega)) (fun h42 => ?_) (fun h42 => ?_)
        · refine j_iinc C [(4, .int (nI (i + 1))), (5, .ref (gA Λ 8 (hs M i))), (0, .ref (gA Λ 23 0)), (1, .int (nI room)), (2, .int (k)), (3, .int (nI a))] (nI (i + 1)) dX8_calledFromOutside_83 5 rfl (nI_add _ 1) (by decide) rfl ?_
          refine j_goto (tgt := 12) C dX8_calledFromOutside_86 (by decide) ?_
          refine j_lv [2, 3, 4, 5, 0] rfl ?_
          exact ih12 a (i + 1) (by omega) (by omega) (by rw [fb_ct_succ, ha, if_neg (by unfold fcB; simp [h42])]; rfl) hno
        · refine j_aload C dX8_calledFromOutside_45 0 rfl ?_
          refine j_getJ C hwX5 8 (hs M i) 8 (CR.n8 hCg_1 (by decide) (show hs M i < M 31 5 by omega)) rfl rfl (by decide) rfl (lN (bitS (fun o => decide (0 < M 35 ((40 * 0 + o) * 40 + (hs M i)))) (M 31 5))) (CR.j hCg_1 8 (hs M i) 8 ⟨show hs M i < M 31 5 by omega, Or.inr (Or.inr (Or.inl rfl))⟩ id) hL37 dX8_calledFromOutside_47 ?_
          refine j_aload_n C dX8_calledFromOutside_50 rfl 1 rfl ?_
          refine j_getV C hwX8 23 0 0 (CR.n1 hCg_1 (by decide)) rfl rfl (by decide) rfl 0 (CR.v hCg_1 23 0 0 ⟨rfl, by decide⟩ id) hL15 dX8_calledFromOutside_51 ?_
          refine j_getV C hwX4 3 0 3 (CR.n1 hCg_1 (by decide)) rfl rfl (by decide) rfl 0 (CR.v hCg_1 3 0 3 ⟨rfl, by decide⟩ id) hL41 dX8_calledFromOutside_54 ?_
          refine j_iload_n C dX8_calledFromOutside_57 rfl 2 rfl ?_
          refine j_lald C 7 0 room (CR.n1 hCg_1 (by decide)) rfl rfl 6 (CR.l1 hCg_1 (by decide)) (by omega) (by omega) (lN (memS M room)) (hmg_1 _ (by omega)) dX8_calledFromOutside_58 ?_
          refine j_ldc2 C (zL (-1)) hC45 dX8_calledFromOutside_59 (by decide) ?_
          refine j_lxor C ((lN (memS M room)) ^^^ (zL (-1))) dX8_calledFromOutside_62 rfl ?_
          refine j_land C ((lN (bitS (fun o => decide (0 < M 35 ((40 * 0 + o) * 40 + (hs M i)))) (M 31 5))) &&& ((lN (memS M room)) ^^^ (zL (-1)))) dX8_calledFromOutside_63 rfl ?_
          refine j_lconst C (lN 0) dX8_calledFromOutside_64 (by decide) ?_
          refine j_lcmp_eq (tgt := 83) C dX8_calledFromOutside_65 dX8_calledFromOutside_66 (by decide) (fc_out hn hhn33 h42) (fun h65 => ?_) (fun h65 => ?_)
          · refine j_iinc C [(4, .int (nI (i + 1))), (5, .ref (gA Λ 8 (hs M i))), (0, .ref (gA Λ 23 0)), (1, .int (nI room)), (2, .int (k)), (3, .int (nI a))] (nI (i + 1)) dX8_calledFromOutside_83 5 rfl (nI_add _ 1) (by decide) rfl ?_
            refine j_goto (tgt := 12) C dX8_calledFromOutside_86 (by decide) ?_
            refine j_lv [2, 3, 4, 5, 0] rfl ?_
            exact ih12 a (i + 1) (by omega) (by omega) (by rw [fb_ct_succ, ha, h65]; rfl) hno
          · have hfc : fcB M room (hs M i) = true := by simpa using h65
            refine j_iload_n C dX8_calledFromOutside_69 rfl 4 rfl ?_
            refine j_iload_n C dX8_calledFromOutside_70 rfl 3 rfl ?_
            refine j_icmp_ne (tgt := 80) C dX8_calledFromOutside_71 (by decide) (nI_eqk (by omega)) (fun h71 => ?_) (fun h71 => ?_)
            · refine j_iinc C [(3, .int (nI (a + 1))), (5, .ref (gA Λ 8 (hs M i))), (0, .ref (gA Λ 23 0)), (1, .int (nI room)), (2, .int (k)), (4, .int (nI i))] (nI (a + 1)) dX8_calledFromOutside_80 4 rfl (nI_add _ 1) (by decide) rfl ?_
              refine j_iinc C [(4, .int (nI (i + 1))), (3, .int (nI (a + 1))), (5, .ref (gA Λ 8 (hs M i))), (0, .ref (gA Λ 23 0)), (1, .int (nI room)), (2, .int (k))] (nI (i + 1)) dX8_calledFromOutside_83 5 rfl (nI_add _ 1) (by decide) rfl ?_
              refine j_goto (tgt := 12) C dX8_calledFromOutside_86 (by decide) ?_
              refine j_lv [3, 4, 5, 1, 0] rfl ?_
              exact ih12 (a + 1) (i + 1) (by omega) (by omega) (by rw [fb_ct_succ, ha, if_pos hfc]) (by omega)
            · refine j_aload C dX8_calledFromOutside_74 0 rfl ?_
              refine j_getI C hwX5 8 (hs M i) 0 (CR.n8 hCg_1 (by decide) (show hs M i < M 31 5 by omega)) rfl rfl (by decide) rfl (nI (hs M i)) (CR.i hCg_1 8 (hs M i) 0 ⟨show hs M i < M 31 5 by omega, Or.inl rfl⟩ id) hL47 dX8_calledFromOutside_76 ?_
              exact j_iret C hr hlk (⟨Or.inl ⟨hs M i, hhs33, hfc, by rw [fc_ct (by omega), ← ha]; omega, rfl⟩, hGg_1⟩) dX8_calledFromOutside_79
  refine j_lv [2, 3, 4, 1, 0] rfl ?_
  exact lb12 _ 0 0 (Nat.lt_succ_self _) (by omega) rfl (by omega)
