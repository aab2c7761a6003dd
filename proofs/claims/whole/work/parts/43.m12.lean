set_option maxHeartbeats 4000000 in
set_option maxRecDepth 100000 in
theorem c_X11_reached (l : Launch) (D : va_G) (cy : Nat → ClassId) (base : Nat) (Λ : LY) (σ : HS) (M : MM) (hM : MR Λ σ M) (hB : MBd M) (room : Nat) (hrm : room < 6) (hR : M 31 10 ≤ 6) (hx : ∀ a, a < 6 → M 44 a < 64) : Met l yX11_reached wsX11_reached ({ frames := 4, cells := 0, slots := 0, locals := 60 }) (va_Pc [.ref (gA Λ 31 0), .int (nI room)] (Wd D cy base Λ σ)) (va_Qi (fun v u => (∃ B, v = nI B ∧ rcOk (fun a => M 44 a) (M 31 10) room B) ∧ u = σ) (Wd D cy base Λ) (Ab base)) 0 0 (Ab base) := by
  refine j_start (cc := cX11_reached) (nL := 5) (ret := (some .int)) (lv := [(0, .ref (gA Λ 31 0)), (1, .int (nI room))]) (by decide) rfl (Nat.le_of_ble_eq_true rfl) rfl ?_
  intro p e s m below meth c C hr hlk hnm
  have C : Cx p s m ([.ref (gA Λ 31 0), .int (nI room)] : List Value).toArray c cX11_reached 5 RX11 wsX11_reached D cy base := C
  have hts := C.2.2.2.2.1
  have hwX11 : ∀ w ∈ u_ws RX11 TX11 26, w ∈ wsX11_reached := by decide +kernel
  have hM33 : (Cond.fieldLink RX11 33 (TX11 10).1 (TX11 10).2.1 (TX11 10).2.2.1).before ([.ref (gA Λ 31 0), .int (nI room)] : List Value).toArray s = true := hts (.fieldLink RX11 33 "CodeRoomsModel" "rooms" "I") (by decide +kernel)
  have hL33 : FL RX11 33 (TX11 10).1 (TX11 10).2.1 (TX11 10).2.2.1 ([.ref (gA Λ 31 0), .int (nI room)] : List Value).toArray s := Or.inl hM33
  have hM58 : (Cond.fieldLink RX11 58 (TX11 19).1 (TX11 19).2.1 (TX11 19).2.2.1).before ([.ref (gA Λ 31 0), .int (nI room)] : List Value).toArray s = true := hts (.fieldLink RX11 58 "CodeRoomsModel" "next" "[I") (by decide +kernel)
  have hL58 : FL RX11 58 (TX11 19).1 (TX11 19).2.1 (TX11 19).2.2.1 ([.ref (gA Λ 31 0), .int (nI room)] : List Value).toArray s := Or.inl hM58
  refine j_iconst C (nI 1) dX11_reached_0 (by decide) ?_
  refine j_iload_n C dX11_reached_1 rfl 1 rfl ?_
  refine j_ishl C (nI (2 ^ room)) dX11_reached_2 (shl1 (by omega)) ?_
  refine j_istore_n C [(2, .int (nI (2 ^ room))), (0, .ref (gA Λ 31 0)), (1, .int (nI room))] dX11_reached_3 rfl (by decide) rfl ?_
  refine j_iconst C (nI 0) dX11_reached_4 (by decide) ?_
  refine j_istore_n C [(3, .int (nI 0)), (2, .int (nI (2 ^ room))), (0, .ref (gA Λ 31 0)), (1, .int (nI room))] dX11_reached_5 rfl (by decide) rfl ?_
  have lb6 : ∀ (fu : Nat) (b0 d0 : Nat), (65 - d0) < fu → (b0 < 64) → (d0 < 64) → (d0 ≤ b0) → (b0.testBit room = true) → (∀ b, b0.testBit b = true → Rch (fun a => M 44 a) (M 31 10) room b) → (d0 = b0 → rcTo (fun a => M 44 a) b0 (M 31 10) = b0) → J p l e ({ frames := 4, cells := 0, slots := 0, locals := 60 }) s m ([.ref (gA Λ 31 0), .int (nI room)] : List Value).toArray below meth c 5 D cy base (MQ below (va_Qi (fun v u => (∃ B, v = nI B ∧ rcOk (fun a => M 44 a) (M 31 10) room B) ∧ u = σ) (Wd D cy base Λ) (Ab base)) ([.ref (gA Λ 31 0), .int (nI room)] : List Value).toArray s 0 0 (Ab base)) 0 0 Λ 6 [(0, .ref (gA Λ 31 0)), (1, .int (nI room)), (2, .int (nI b0)), (3, .int (nI d0))] [] σ := by
    intro fu
    induction fu with
    | zero => intro b0 d0 hfu; exact absurd hfu (Nat.not_lt_zero _)
    | succ fu ih =>
      intro b0 d0 hfu hb hd hle hs hr9 hc
      have ih6 := ih
      refine j_iload_n C dX11_reached_6 rfl 2 rfl ?_
      refine j_iload_n C dX11_reached_7 rfl 3 rfl ?_
      refine j_icmp_eq (tgt := 54) C dX11_reached_8 (by decide) (nI_eq (by omega) (by omega)) (fun h8 => ?_) (fun h8 => ?_)
      · refine j_iload_n C dX11_reached_54 rfl 2 rfl ?_
        exact j_iret C hr hlk (⟨⟨b0, rfl, rc_end hb hs hr9 (hc h8.symm)⟩, rfl⟩) dX11_reached_55
      · refine j_iload_n C dX11_reached_11 rfl 2 rfl ?_
        refine j_istore_n C [(3, .int (nI b0)), (0, .ref (gA Λ 31 0)), (1, .int (nI room)), (2, .int (nI b0))] dX11_reached_12 rfl (by decide) rfl ?_
        refine j_iconst C (nI 0) dX11_reached_13 (by decide) ?_
        refine j_istore C [(4, .int (nI 0)), (3, .int (nI b0)), (0, .ref (gA Λ 31 0)), (1, .int (nI room)), (2, .int (nI b0))] dX11_reached_14 (by decide) rfl ?_
        have lb16 : ∀ (fu : Nat) (b1 a : Nat), (M 31 10 - a) < fu → (a ≤ M 31 10) → (b1 = rcTo (fun a => M 44 a) b0 a) → J p l e ({ frames := 4, cells := 0, slots := 0, locals := 60 }) s m ([.ref (gA Λ 31 0), .int (nI room)] : List Value).toArray below meth c 5 D cy base (MQ below (va_Qi (fun v u => (∃ B, v = nI B ∧ rcOk (fun a => M 44 a) (M 31 10) room B) ∧ u = σ) (Wd D cy base Λ) (Ab base)) ([.ref (gA Λ 31 0), .int (nI room)] : List Value).toArray s 0 0 (Ab base)) 0 0 Λ 16 [(0, .ref (gA Λ 31 0)), (1, .int (nI room)), (2, .int (nI b1)), (3, .int (nI b0)), (4, .int (nI a))] [] σ := by
          intro fu
          induction fu with
          | zero => intro b1 a hfu; exact absurd hfu (Nat.not_lt_zero _)
          | succ fu ih =>
            intro b1 a hfu ha hq
            have hb1 : b1 < 64 := by rw [hq]; exact rcTo_lt hb hx a (by omega)
            have ih16 := ih
            refine j_iload C dX11_reached_16 4 rfl ?_
            refine j_aload_n C dX11_reached_18 rfl 0 rfl ?_
            have hb19 : M 31 10 ≤ 40 := hB 31 10 rfl
            refine j_getI C hwX11 31 0 10 (MR.in0 hM (by decide) (by decide)) rfl rfl (by decide) rfl (nI (M 31 10)) (hM.1 31 10 rfl) hL33 dX11_reached_19 ?_
            refine j_icmp_ge (tgt := 51) C dX11_reached_22 (by decide) (nI_leI (by omega) (by omega)) (fun h22 => ?_) (fun h22 => ?_)
            · refine j_goto (tgt := 6) C dX11_reached_51 (by decide) ?_
              refine j_lv [0, 1, 2, 3] rfl ?_
              exact ih6 b1 b0 (by omega) (by rw [hq, show a = M 31 10 by omega]; exact rcTo_lt hb hx _ hR) (by omega) (by rw [hq]; exact rcTo_le _) (by rw [hq]; exact rcTo_ge hs _) (by rw [hq, show a = M 31 10 by omega]; exact rc_step hr9) (fun e => by rw [← e]; have q := hq; rw [← e, show a = M 31 10 by omega] at q; exact q.symm)
            · refine j_iload_n C dX11_reached_25 rfl 3 rfl ?_
              refine j_iload C dX11_reached_26 4 rfl ?_
              refine j_ishr C (nI (b0 / 2 ^ a)) dX11_reached_28 (shrB (by omega) (by omega)) ?_
              refine j_iconst C (nI 1) dX11_reached_29 (by decide) ?_
              refine j_iand C (nI (b0 / 2 ^ a % 2)) dX11_reached_30 (and1 _) ?_
              refine j_iconst C (nI 1) dX11_reached_31 (by decide) ?_
              refine j_icmp_ne (tgt := 45) C dX11_reached_32 (by decide) (bitI (by omega) (by omega)) (fun h32 => ?_) (fun h32 => ?_)
              · refine j_iinc C [(4, .int (nI (a + 1))), (0, .ref (gA Λ 31 0)), (1, .int (nI room)), (2, .int (nI b1)), (3, .int (nI b0))] (nI (a + 1)) dX11_reached_45 4 rfl (nI_add _ 1) (by decide) rfl ?_
                refine j_goto (tgt := 16) C dX11_reached_48 (by decide) ?_
                refine j_lv [1, 2, 3, 4, 0] rfl ?_
                exact ih16 b1 (a + 1) (by omega) (by omega) (by show _ = (if b0.testBit a = true then rcTo (fun a => M 44 a) b0 a ||| M 44 a else rcTo (fun a => M 44 a) b0 a); rw [if_neg h32, ← hq])
              · refine j_iload_n C dX11_reached_35 rfl 2 rfl ?_
                refine j_aload_n C dX11_reached_36 rfl 0 rfl ?_
                refine j_getV C hwX11 31 0 19 (MR.in0 hM (by decide) (by decide)) rfl rfl (by decide) rfl 0 (hM.2.2.2 19 rfl) hL58 dX11_reached_37 ?_
                refine j_iload C dX11_reached_40 4 rfl ?_
                have hb42 : M 44 a ≤ 63 := hB 44 a (decide_eq_true (show a < 6 by omega))
                refine j_iald C 44 0 a (MR.in0 hM (by decide) (by decide)) rfl rfl 6 (hM.2.2.1 44 (by decide) (by decide)) (by omega) (by omega) (nI (M 44 a)) (hM.1 44 a (decide_eq_true (show a < 6 by omega))) dX11_reached_42 ?_
                refine j_ior C (nI (b1 ||| (M 44 a))) dX11_reached_43 (fa_or _ _) ?_
                refine j_istore_n C [(2, .int (nI (b1 ||| (M 44 a)))), (0, .ref (gA Λ 31 0)), (1, .int (nI room)), (3, .int (nI b0)), (4, .int (nI a))] dX11_reached_44 rfl (by decide) rfl ?_
                refine j_iinc C [(4, .int (nI (a + 1))), (2, .int (nI (b1 ||| (M 44 a)))), (0, .ref (gA Λ 31 0)), (1, .int (nI room)), (3, .int (nI b0))] (nI (a + 1)) dX11_reached_45 4 rfl (nI_add _ 1) (by decide) rfl ?_
                refine j_goto (tgt := 16) C dX11_reached_48 (by decide) ?_
                refine j_lv [2, 3, 1, 4, 0] rfl ?_
                exact ih16 (b1 ||| (M 44 a)) (a + 1) (by omega) (by omega) (by show _ = (if b0.testBit a = true then rcTo (fun a => M 44 a) b0 a ||| M 44 a else rcTo (fun a => M 44 a) b0 a); rw [if_pos h32, ← hq])
        refine j_lv [2, 3, 4, 1, 0] rfl ?_
        exact lb16 _ b0 0 (Nat.lt_succ_self _) (by omega) rfl
  refine j_lv [2, 3, 1, 0] rfl ?_
  exact lb6 _ (2 ^ room) 0 (Nat.lt_succ_self _) (pow6 hrm) (by decide) (Nat.zero_le _) (Nat.testBit_two_pow_self) (fun b h => by rw [Nat.testBit_two_pow] at h; have e := of_decide_eq_true h; rw [← e]; exact fun S h0 _ => h0) (fun e => absurd e (Nat.ne_of_lt (Nat.two_pow_pos room)))

set_option maxHeartbeats 4000000 in
set_option maxRecDepth 100000 in
theorem c_mring_e1 (l : Launch) (D : va_G) (cy : Nat → ClassId) (base : Nat) (Λ : LY) (σ : HS) (M : MM) (hM0 : MR0 Λ σ M) (h00 : M 31 0 = 0) (hB : MBd M) (rm : Int32) (hA : inRm M rm = false) : Met l yX11_ring wsX11_ring ({ frames := 24, cells := 0, slots := 0, locals := 360 }) (va_Pc [.ref (gA Λ 31 0), .int (rm)] (Wd D cy base Λ σ)) (va_Qi (fun v u => MR Λ u (mS M 31 0 1) ∧ Same nMo σ u) (Wd D cy base Λ) (Ab base)) 0 0 (Ab base) := by
  refine j_start (cc := cX11_ring) (nL := 5) (ret := (some .int)) (lv := [(0, .ref (gA Λ 31 0)), (1, .int (rm))]) (by decide) rfl (Nat.le_of_ble_eq_true rfl) rfl ?_
  intro p e s m below meth c C hr hlk hnm
  have C : Cx p s m ([.ref (gA Λ 31 0), .int (rm)] : List Value).toArray c cX11_ring 5 RX11 wsX11_ring D cy base := C
  have hts := C.2.2.2.2.1
  have hwX11 : ∀ w ∈ u_ws RX11 TX11 26, w ∈ wsX11_ring := by decide +kernel
  have hM73 : (Cond.fieldLink RX11 73 (TX11 0).1 (TX11 0).2.1 (TX11 0).2.2.1).before ([.ref (gA Λ 31 0), .int (rm)] : List Value).toArray s = true := hts (.fieldLink RX11 73 "CodeRoomsModel" "thrown" "I") (by decide +kernel)
  have hL73 : FL RX11 73 (TX11 0).1 (TX11 0).2.1 (TX11 0).2.2.1 ([.ref (gA Λ 31 0), .int (rm)] : List Value).toArray s := Or.inl hM73
  have hn : M 31 5 ≤ 40 := hB 31 5 rfl
  refine j_aload_n C dX11_ring_0 rfl 0 rfl ?_
  refine j_iconst C (nI 0) dX11_ring_1 (by decide) ?_
  refine j_putI C hwX11 31 0 0 (MR0.in0 hM0) rfl rfl (by decide) rfl tyX11 tyX11_ok nmX11 rfl rfl rfl hL73 dX11_ring_2 ?_
  have hM := MR0.start hM0 h00
  have hs0 : Same nMo σ (sI σ 31 0 0 (nI 0)) := Same.sI Same.rf (by decide)
  generalize sI σ 31 0 0 (nI 0) = σ0 at hM hs0 ⊢
  refine j_aload_n C dX11_ring_5 rfl 0 rfl ?_
  refine j_aload_n C dX11_ring_6 rfl 0 rfl ?_
  refine j_iload_n C dX11_ring_7 rfl 1 rfl ?_
  refine c_i0 C (r_V C 31 0 [.int (rm)] (c_X11_isRoom l D cy base Λ σ0 M hM hB (rm)) (cwV 1 hts gX11_ring_X11_isRoom rfl rfl rfl (by decide +kernel) ⟨by decide, by decide⟩) (MR.in0 hM (by decide) (by decide)) rfl rfl rfl rfl (Nat.le_of_ble_eq_true rfl) dX11_ring_8 ⟨by decide, by decide⟩) (fun rv uu hp => ?_)
  rw [hp.1, hp.2]
  refine j_ifne_b (tgt := 18) C dX11_ring_11 (by decide) (fun h11 => ?_) (fun h11 => ?_)
  · exact absurd (h11.symm.trans hA) (by decide)
  · refine j_iconst C (nI 1) dX11_ring_14 (by decide) ?_
    refine j_goto (tgt := 19) C dX11_ring_15 (by decide) ?_
    refine j_iconst C (nI 1) dX11_ring_19 (by decide) ?_
    refine c_i0 C (r_V C 31 0 [.int (nI 1), .int (nI 1)] (c_X11_bad1 l D cy base Λ σ0 M hM 1) (cwV 2 hts gX11_ring_X11_bad rfl rfl rfl (by decide +kernel) ⟨by decide, by decide⟩) (MR.in0 hM (by decide) (by decide)) rfl rfl rfl rfl (Nat.le_of_ble_eq_true rfl) dX11_ring_20 ⟨by decide, by decide⟩) (fun rv ub_2 hp => ?_)
    obtain ⟨hp1, hMb_2, hp3⟩ := hp
    have hsb_2 := Same.tr hs0 hp3
    rw [hp1]
    refine j_if_eq (tgt := 28) C (P := False) dX11_ring_23 (by decide) (by decide) (fun z => ?_) (fun z => ?_)
    · exact z.elim
    · refine j_iconst C (nI 0) dX11_ring_26 (by decide) ?_
      exact j_iret C hr hlk (⟨hMb_2, hsb_2⟩) dX11_ring_27

set_option maxHeartbeats 4000000 in
set_option maxRecDepth 100000 in
theorem c_mring_ok (l : Launch) (D : va_G) (cy : Nat → ClassId) (base : Nat) (Λ : LY) (σ : HS) (M : MM) (hM0 : MR0 Λ σ M) (h00 : M 31 0 = 0) (hB : MBd M) (room : Nat) (hroom : room < M 31 10) (hR : M 31 10 ≤ 6) : Met l yX11_ring wsX11_ring ({ frames := 24, cells := 0, slots := 0, locals := 360 }) (va_Pc [.ref (gA Λ 31 0), .int (nI room)] (Wd D cy base Λ σ)) (va_Qi (fun v u => MR Λ u (nextM M (M 31 10)) ∧ Same nMo σ u ∧ ∃ X, v = nI X ∧ rgTo M room X (M 31 10)) (Wd D cy base Λ) (Ab base)) 0 0 (Ab base) := by
  refine j_start (cc := cX11_ring) (nL := 5) (ret := (some .int)) (lv := [(0, .ref (gA Λ 31 0)), (1, .int (nI room))]) (by decide) rfl (Nat.le_of_ble_eq_true rfl) rfl ?_
  intro p e s m below meth c C hr hlk hnm
  have C : Cx p s m ([.ref (gA Λ 31 0), .int (nI room)] : List Value).toArray c cX11_ring 5 RX11 wsX11_ring D cy base := C
  have hts := C.2.2.2.2.1
  have hwX11 : ∀ w ∈ u_ws RX11 TX11 26, w ∈ wsX11_ring := by decide +kernel
  have hM33 : (Cond.fieldLink RX11 33 (TX11 10).1 (TX11 10).2.1 (TX11 10).2.2.1).before ([.ref (gA Λ 31 0), .int (nI room)] : List Value).toArray s = true := hts (.fieldLink RX11 33 "CodeRoomsModel" "rooms" "I") (by decide +kernel)
  have hL33 : FL RX11 33 (TX11 10).1 (TX11 10).2.1 (TX11 10).2.2.1 ([.ref (gA Λ 31 0), .int (nI room)] : List Value).toArray s := Or.inl hM33
  have hM58 : (Cond.fieldLink RX11 58 (TX11 19).1 (TX11 19).2.1 (TX11 19).2.2.1).before ([.ref (gA Λ 31 0), .int (nI room)] : List Value).toArray s = true := hts (.fieldLink RX11 58 "CodeRoomsModel" "next" "[I") (by decide +kernel)
  have hL58 : FL RX11 58 (TX11 19).1 (TX11 19).2.1 (TX11 19).2.2.1 ([.ref (gA Λ 31 0), .int (nI room)] : List Value).toArray s := Or.inl hM58
  have hM73 : (Cond.fieldLink RX11 73 (TX11 0).1 (TX11 0).2.1 (TX11 0).2.2.1).before ([.ref (gA Λ 31 0), .int (nI room)] : List Value).toArray s = true := hts (.fieldLink RX11 73 "CodeRoomsModel" "thrown" "I") (by decide +kernel)
  have hL73 : FL RX11 73 (TX11 0).1 (TX11 0).2.1 (TX11 0).2.2.1 ([.ref (gA Λ 31 0), .int (nI room)] : List Value).toArray s := Or.inl hM73
  have hn : M 31 5 ≤ 40 := hB 31 5 rfl
  have hR40 : M 31 10 ≤ 40 := hB 31 10 rfl
  refine j_aload_n C dX11_ring_0 rfl 0 rfl ?_
  refine j_iconst C (nI 0) dX11_ring_1 (by decide) ?_
  refine j_putI C hwX11 31 0 0 (MR0.in0 hM0) rfl rfl (by decide) rfl tyX11 tyX11_ok nmX11 rfl rfl rfl hL73 dX11_ring_2 ?_
  have hM := MR0.start hM0 h00
  have hs0 : Same nMo σ (sI σ 31 0 0 (nI 0)) := Same.sI Same.rf (by decide)
  generalize sI σ 31 0 0 (nI 0) = σ0 at hM hs0 ⊢
  refine j_aload_n C dX11_ring_5 rfl 0 rfl ?_
  refine j_aload_n C dX11_ring_6 rfl 0 rfl ?_
  refine j_iload_n C dX11_ring_7 rfl 1 rfl ?_
  refine c_i0 C (r_V C 31 0 [.int (nI room)] (c_X11_isRoom l D cy base Λ σ0 M hM hB (nI room)) (cwV 1 hts gX11_ring_X11_isRoom rfl rfl rfl (by decide +kernel) ⟨by decide, by decide⟩) (MR.in0 hM (by decide) (by decide)) rfl rfl rfl rfl (Nat.le_of_ble_eq_true rfl) dX11_ring_8 ⟨by decide, by decide⟩) (fun rv uu hp => ?_)
  rw [hp.1, hp.2]
  refine j_ifne_b (tgt := 18) C dX11_ring_11 (by decide) (fun h11 => ?_) (fun h11 => ?_)
  · refine j_iconst C (nI 0) dX11_ring_18 (by decide) ?_
    refine j_iconst C (nI 1) dX11_ring_19 (by decide) ?_
    refine c_i0 C (r_V C 31 0 [.int (nI 0), .int (nI 1)] (c_X11_bad0 l D cy base Λ σ0 (MR.in0 hM (by decide) (by decide)) 1) (cwV 2 hts gX11_ring_X11_bad rfl rfl rfl (by decide +kernel) ⟨by decide, by decide⟩) (MR.in0 hM (by decide) (by decide)) rfl rfl rfl rfl (Nat.le_of_ble_eq_true rfl) dX11_ring_20 ⟨by decide, by decide⟩) (fun rv uu hp => ?_)
    rw [hp.1, hp.2]
    refine j_if_eq (tgt := 28) C (P := True) dX11_ring_23 (by decide) (by decide) (fun z => ?_) (fun z => ?_)
    · refine j_iconst C (nI 0) dX11_ring_28 (by decide) ?_
      refine j_istore_n C [(2, .int (nI 0)), (0, .ref (gA Λ 31 0)), (1, .int (nI room))] dX11_ring_29 rfl (by decide) rfl ?_
      have lb30 : ∀ (fu : Nat) (σ1 : HS) (a : Nat), (M 31 10 - a) < fu → (a ≤ M 31 10) → (MR Λ σ1 (nextM M a)) → (Same nMo σ σ1) → J p l e ({ frames := 24, cells := 0, slots := 0, locals := 360 }) s m ([.ref (gA Λ 31 0), .int (nI room)] : List Value).toArray below meth c 5 D cy base (MQ below (va_Qi (fun v u => MR Λ u (nextM M (M 31 10)) ∧ Same nMo σ u ∧ ∃ X, v = nI X ∧ rgTo M room X (M 31 10)) (Wd D cy base Λ) (Ab base)) ([.ref (gA Λ 31 0), .int (nI room)] : List Value).toArray s 0 0 (Ab base)) 0 0 Λ 30 [(0, .ref (gA Λ 31 0)), (1, .int (nI room)), (2, .int (nI a))] [] σ1 := by
        intro fu
        induction fu with
        | zero => intro σ1 a hfu; exact absurd hfu (Nat.not_lt_zero _)
        | succ fu ih =>
          intro σ1 a hfu ha hM1 hs1
          have ih30 := ih
          refine j_iload_n C dX11_ring_30 rfl 2 rfl ?_
          refine j_aload_n C dX11_ring_31 rfl 0 rfl ?_
          have hb32 : M 31 10 ≤ 40 := hB 31 10 rfl
          refine j_getI C hwX11 31 0 10 (MR.in0 hM1 (by decide) (by decide)) rfl rfl (by decide) rfl (nI (M 31 10)) ((hM1.1 31 10 rfl).trans (congrArg (menc 31) (congrFun (nextM_nk (by decide)) _))) hL33 dX11_ring_32 ?_
          refine j_icmp_ge (tgt := 97) C dX11_ring_35 (by decide) (nI_leI (by omega) (by omega)) (fun h35 => ?_) (fun h35 => ?_)
          · have hM9 : MR Λ σ1 (nextM M (M 31 10)) := by have q := hM1; rw [show a = M 31 10 by omega] at q; exact q
            have hx8 : ∀ a, a < M 31 10 → (fun a => nextM M (M 31 10) 44 a) a = nxTo M a (M 31 10) := fun a ha => by show nextM M (M 31 10) 44 a = _; unfold nextM; rw [if_pos ⟨rfl, ha⟩]
            have hx9 : ∀ a, a < 6 → nextM M (M 31 10) 44 a < 64 := fun a ha => by have q : nextM M (M 31 10) 44 a ≤ 63 := nextM_B hB hR _ 44 a (decide_eq_true (show a < 6 by omega)); omega
            refine j_aload_n C dX11_ring_97 rfl 0 rfl ?_
            refine j_iload_n C dX11_ring_98 rfl 1 rfl ?_
            refine c_i0 C (r_V C 31 0 [.int (nI room)] (c_X11_reached l D cy base Λ σ1 (nextM M (M 31 10)) hM9 (nextM_B hB hR _) room (by omega) (by rw [nextM_nk (by decide)]; exact hR) hx9) (cwV 1 hts gX11_ring_X11_reached rfl rfl rfl (by decide +kernel) ⟨by decide, by decide⟩) (MR.in0 hM9 (by decide) (by decide)) rfl rfl rfl rfl (Nat.le_of_ble_eq_true rfl) dX11_ring_99 ⟨by decide, by decide⟩) (fun rv uu hp => ?_)
            obtain ⟨⟨B_5, hp1, hp3⟩, hp2⟩ := hp
            have hB_5 := hp3.1
            have gB_5 : ∀ b, B_5.testBit b = true ↔ RchG M room b := fun b => (hp3.2 b).trans (by rw [show (nextM M (M 31 10)) 31 10 = M 31 10 from congrFun (nextM_nk (by decide)) _]; exact Rch_G hx8)
            rw [hp1, hp2]
            
            refine j_istore_n C [(2, .int (nI B_5)), (0, .ref (gA Λ 31 0)), (1, .int (nI room))] dX11_ring_102 rfl (by decide) rfl ?_
            refine j_iconst C (nI 0) dX11_ring_103 (by decide) ?_
            refine j_istore_n C [(3, .int (nI 0)), (2, .int (nI B_5)), (0, .ref (gA Λ 31 0)), (1, .int (nI room))] dX11_ring_104 rfl (by decide) rfl ?_
            refine j_iconst C (nI 0) dX11_ring_105 (by decide) ?_
            refine j_istore C [(4, .int (nI 0)), (3, .int (nI 0)), (2, .int (nI B_5)), (0, .ref (gA Λ 31 0)), (1, .int (nI room))] dX11_ring_106 (by decide) rfl ?_
            have lb108 : ∀ (fu : Nat) (X a : Nat), (M 31 10 - a) < fu → (a ≤ M 31 10) → (rgTo M room X a) → J p l e ({ frames := 24, cells := 0, slots := 0, locals := 360 }) s m ([.ref (gA Λ 31 0), .int (nI room)] : List Value).toArray below meth c 5 D cy base (MQ below (va_Qi (fun v u => MR Λ u (nextM M (M 31 10)) ∧ Same nMo σ u ∧ ∃ X, v = nI X ∧ rgTo M room X (M 31 10)) (Wd D cy base Λ) (Ab base)) ([.ref (gA Λ 31 0), .int (nI room)] : List Value).toArray s 0 0 (Ab base)) 0 0 Λ 108 [(0, .ref (gA Λ 31 0)), (1, .int (nI room)), (2, .int (nI B_5)), (3, .int (nI X)), (4, .int (nI a))] [] σ1 := by
              intro fu
              induction fu with
              | zero => intro X a hfu; exact absurd hfu (Nat.not_lt_zero _)
              | succ fu ih =>
                intro X a hfu ha hX
                have hX64 := hX.1
                have ih108 := ih
                refine j_iload C dX11_ring_108 4 rfl ?_
                refine j_aload_n C dX11_ring_110 rfl 0 rfl ?_
                have hb111 : M 31 10 ≤ 40 := hB 31 10 rfl
                refine j_getI C hwX11 31 0 10 (MR.in0 hM9 (by decide) (by decide)) rfl rfl (by decide) rfl (nI (M 31 10)) ((hM9.1 31 10 rfl).trans (congrArg (menc 31) (congrFun (nextM_nk (by decide)) _))) hL33 dX11_ring_111 ?_
                refine j_icmp_ge (tgt := 158) C dX11_ring_114 (by decide) (nI_leI (by omega) (by omega)) (fun h114 => ?_) (fun h114 => ?_)
                · refine j_iload_n C dX11_ring_158 rfl 3 rfl ?_
                  exact j_iret C hr hlk (⟨hM9, hs1, X, rfl, by rw [show M 31 10 = a by omega]; exact hX⟩) dX11_ring_159
                · refine j_iload_n C dX11_ring_117 rfl 3 rfl ?_
                  refine j_iload_n C dX11_ring_118 rfl 2 rfl ?_
                  refine j_iload C dX11_ring_119 4 rfl ?_
                  refine j_ishr C (nI (B_5 / 2 ^ a)) dX11_ring_121 (shrB (by omega) (by omega)) ?_
                  refine j_iconst C (nI 1) dX11_ring_122 (by decide) ?_
                  refine j_iand C (nI (B_5 / 2 ^ a % 2)) dX11_ring_123 (and1 _) ?_
                  refine j_iconst C (nI 1) dX11_ring_124 (by decide) ?_
                  refine j_icmp_ne (tgt := 149) C dX11_ring_125 (by decide) (bitI (by omega) (by omega)) (fun h125 => ?_) (fun h125 => ?_)
                  · refine j_iconst C (nI 0) dX11_ring_149 (by decide) ?_
                    refine j_ior C (nI (X ||| 0)) dX11_ring_150 (fa_or _ _) ?_
                    refine j_istore_n C [(3, .int (nI (X ||| 0))), (0, .ref (gA Λ 31 0)), (1, .int (nI room)), (2, .int (nI B_5)), (4, .int (nI a))] dX11_ring_151 rfl (by decide) rfl ?_
                    refine j_iinc C [(4, .int (nI (a + 1))), (3, .int (nI (X ||| 0))), (0, .ref (gA Λ 31 0)), (1, .int (nI room)), (2, .int (nI B_5))] (nI (a + 1)) dX11_ring_152 4 rfl (nI_add _ 1) (by decide) rfl ?_
                    refine j_goto (tgt := 108) C dX11_ring_155 (by decide) ?_
                    refine j_lv [2, 3, 4, 1, 0] rfl ?_
                    exact ih108 (X ||| 0) (a + 1) (by omega) (by omega) ⟨by rw [Nat.or_zero]; exact hX.1, fun c => by rw [Nat.or_zero, hX.2 c]; exact rg_no (fun z => h125 ((gB_5 a).mpr z.1))⟩
                  · refine j_aload_n C dX11_ring_128 rfl 0 rfl ?_
                    refine j_iload C dX11_ring_129 4 rfl ?_
                    refine c_i0 C (r_V C 31 0 [.int (nI a)] (c_X11_reached l D cy base Λ σ1 (nextM M (M 31 10)) hM9 (nextM_B hB hR _) a (by omega) (by rw [nextM_nk (by decide)]; exact hR) hx9) (cwV 1 hts gX11_ring_X11_reached rfl rfl rfl (by decide +kernel) ⟨by decide, by decide⟩) (MR.in0 hM9 (by decide) (by decide)) rfl rfl rfl rfl (Nat.le_of_ble_eq_true rfl) dX11_ring_131 ⟨by decide, by decide⟩) (fun rv uu hp => ?_)
                    obtain ⟨⟨B_9, hp1, hp3⟩, hp2⟩ := hp
                    have hB_9 := hp3.1
                    have gB_9 : ∀ b, B_9.testBit b = true ↔ RchG M a b := fun b => (hp3.2 b).trans (by rw [show (nextM M (M 31 10)) 31 10 = M 31 10 from congrFun (nextM_nk (by decide)) _]; exact Rch_G hx8)
                    rw [hp1, hp2]
                    
                    refine j_iload_n C dX11_ring_134 rfl 1 rfl ?_
                    refine j_ishr C (nI (B_9 / 2 ^ room)) dX11_ring_135 (shrB (by omega) (by omega)) ?_
                    refine j_iconst C (nI 1) dX11_ring_136 (by decide) ?_
                    refine j_iand C (nI (B_9 / 2 ^ room % 2)) dX11_ring_137 (and1 _) ?_
                    refine j_iconst C (nI 1) dX11_ring_138 (by decide) ?_
                    refine j_icmp_ne (tgt := 149) C dX11_ring_139 (by decide) (bitI (by omega) (by omega)) (fun h139 => ?_) (fun h139 => ?_)
                    · refine j_iconst C (nI 0) dX11_ring_149 (by decide) ?_
                      refine j_ior C (nI (X ||| 0)) dX11_ring_150 (fa_or _ _) ?_
                      refine j_istore_n C [(3, .int (nI (X ||| 0))), (0, .ref (gA Λ 31 0)), (1, .int (nI room)), (2, .int (nI B_5)), (4, .int (nI a))] dX11_ring_151 rfl (by decide) rfl ?_
                      refine j_iinc C [(4, .int (nI (a + 1))), (3, .int (nI (X ||| 0))), (0, .ref (gA Λ 31 0)), (1, .int (nI room)), (2, .int (nI B_5))] (nI (a + 1)) dX11_ring_152 4 rfl (nI_add _ 1) (by decide) rfl ?_
                      refine j_goto (tgt := 108) C dX11_ring_155 (by decide) ?_
                      refine j_lv [2, 3, 4, 1, 0] rfl ?_
                      exact ih108 (X ||| 0) (a + 1) (by omega) (by omega) ⟨by rw [Nat.or_zero]; exact hX.1, fun c => by rw [Nat.or_zero, hX.2 c]; exact rg_no (fun z => h139 ((gB_9 room).mpr z.2))⟩
                    · refine j_iconst C (nI 1) dX11_ring_142 (by decide) ?_
                      refine j_iload C dX11_ring_143 4 rfl ?_
                      refine j_ishl C (nI (2 ^ a)) dX11_ring_145 (shl1 (by omega)) ?_
                      refine j_goto (tgt := 150) C dX11_ring_146 (by decide) ?_
                      refine j_ior C (nI (X ||| (2 ^ a))) dX11_ring_150 (fa_or _ _) ?_
                      refine j_istore_n C [(3, .int (nI (X ||| (2 ^ a)))), (0, .ref (gA Λ 31 0)), (1, .int (nI room)), (2, .int (nI B_5)), (4, .int (nI a))] dX11_ring_151 rfl (by decide) rfl ?_
                      refine j_iinc C [(4, .int (nI (a + 1))), (3, .int (nI (X ||| (2 ^ a)))), (0, .ref (gA Λ 31 0)), (1, .int (nI room)), (2, .int (nI B_5))] (nI (a + 1)) dX11_ring_152 4 rfl (nI_add _ 1) (by decide) rfl ?_
                      refine j_goto (tgt := 108) C dX11_ring_155 (by decide) ?_
                      refine j_lv [2, 3, 4, 1, 0] rfl ?_
                      exact ih108 (X ||| (2 ^ a)) (a + 1) (by omega) (by omega) ⟨or_lt hX.1 (pow6 (by omega)), fun c => by rw [bit_or_pow, Bool.or_eq_true, hX.2 c, decide_eq_true_eq]; exact rg_yes ((gB_5 a).mp h125) ((gB_9 room).mp h139)⟩
            refine j_lv [3, 4, 2, 1, 0] rfl ?_
            exact lb108 _ 0 0 (Nat.lt_succ_self _) (by omega) ⟨by decide, fun a => by simp⟩
          · refine j_aload_n C dX11_ring_38 rfl 0 rfl ?_
            refine j_getV C hwX11 31 0 19 (MR.in0 hM1 (by decide) (by decide)) rfl rfl (by decide) rfl 0 (hM1.2.2.2 19 rfl) hL58 dX11_ring_39 ?_
            refine j_iload_n C dX11_ring_42 rfl 2 rfl ?_
            refine j_iconst C (nI 0) dX11_ring_43 (by decide) ?_
            refine j_iast C 44 0 a (MR.in0 hM1 (by decide) (by decide)) rfl rfl 6 (hM1.2.2.1 44 (by decide) (by decide)) (by omega) (by omega) (nI 0) rfl dX11_ring_44 ?_
            have hM_11 := MR.set (t := 44) (k := a) (x := 0) (v := (nI 0)) hM1 rfl
            have hs_12 := Same.sI (t := 44) (i := 0) (k := a) (x := (nI 0)) hs1 (by decide)
            refine j_iconst C (nI 0) dX11_ring_45 (by decide) ?_
            refine j_istore_n C [(3, .int (nI 0)), (0, .ref (gA Λ 31 0)), (1, .int (nI room)), (2, .int (nI a))] dX11_ring_46 rfl (by decide) rfl ?_
            have lb47 : ∀ (fu : Nat) (σ2 : HS) (b : Nat), (M 31 10 - b) < fu → (b ≤ M 31 10) → (MR Λ σ2 (mS (nextM M a) 44 a (nxTo M a b))) → (Same nMo σ σ2) → J p l e ({ frames := 24, cells := 0, slots := 0, locals := 360 }) s m ([.ref (gA Λ 31 0), .int (nI room)] : List Value).toArray below meth c 5 D cy base (MQ below (va_Qi (fun v u => MR Λ u (nextM M (M 31 10)) ∧ Same nMo σ u ∧ ∃ X, v = nI X ∧ rgTo M room X (M 31 10)) (Wd D cy base Λ) (Ab base)) ([.ref (gA Λ 31 0), .int (nI room)] : List Value).toArray s 0 0 (Ab base)) 0 0 Λ 47 [(0, .ref (gA Λ 31 0)), (1, .int (nI room)), (2, .int (nI a)), (3, .int (nI b))] [] σ2 := by
              intro fu
              induction fu with
              | zero => intro σ2 b hfu; exact absurd hfu (Nat.not_lt_zero _)
              | succ fu ih =>
                intro σ2 b hfu hb hM2 hs2
                have hnl := nxTo_lt (M := M) (a := a) (b := b) (by omega)
                have ih47 := ih
                refine j_iload_n C dX11_ring_47 rfl 3 rfl ?_
                refine j_aload_n C dX11_ring_48 rfl 0 rfl ?_
                have hb49 : M 31 10 ≤ 40 := hB 31 10 rfl
                refine j_getI C hwX11 31 0 10 (MR.in0 hM2 (by decide) (by decide)) rfl rfl (by decide) rfl (nI (M 31 10)) (((hM2.1 31 10 rfl).trans (congrArg (menc 31) (mS_ne (Or.inl (by decide))))).trans (congrArg (menc 31) (congrFun (nextM_nk (by decide)) _))) hL33 dX11_ring_49 ?_
                refine j_icmp_ge (tgt := 91) C dX11_ring_52 (by decide) (nI_leI (by omega) (by omega)) (fun h52 => ?_) (fun h52 => ?_)
                · refine j_iinc C [(2, .int (nI (a + 1))), (0, .ref (gA Λ 31 0)), (1, .int (nI room)), (3, .int (nI b))] (nI (a + 1)) dX11_ring_91 2 rfl (nI_add _ 1) (by decide) rfl ?_
                  refine j_goto (tgt := 30) C dX11_ring_94 (by decide) ?_
                  refine j_lv [1, 2, 0] rfl ?_
                  exact ih30 σ2 (a + 1) (by omega) (by omega) (by rw [← nextM_succ, ← show b = M 31 10 by omega]; exact hM2) hs2
                · refine j_aload_n C dX11_ring_55 rfl 0 rfl ?_
                  refine j_getV C hwX11 31 0 19 (MR.in0 hM2 (by decide) (by decide)) rfl rfl (by decide) rfl 0 (hM2.2.2.2 19 rfl) hL58 dX11_ring_56 ?_
                  refine j_iload_n C dX11_ring_59 rfl 2 rfl ?_
                  refine j_dup2 C dX11_ring_60 rfl rfl ?_
                  refine j_iald C 44 0 a (MR.in0 hM2 (by decide) (by decide)) rfl rfl 6 (hM2.2.2.1 44 (by decide) (by decide)) (by omega) (by omega) (nI (nxTo M a b)) ((hM2.1 44 a (decide_eq_true (show a < 6 by omega))).trans (congrArg (menc 44) (mS_same _ _ _ _))) dX11_ring_61 ?_
                  refine j_iload_n C dX11_ring_62 rfl 2 rfl ?_
                  refine j_iload_n C dX11_ring_63 rfl 3 rfl ?_
                  refine j_icmp_eq (tgt := 82) C dX11_ring_64 (by decide) (nI_eq (by omega) (by omega)) (fun h64 => ?_) (fun h64 => ?_)
                  · refine j_iconst C (nI 0) dX11_ring_82 (by decide) ?_
                    refine j_ior C (nI ((nxTo M a b) ||| 0)) dX11_ring_83 (fa_or _ _) ?_
                    refine j_iast C 44 0 a (MR.in0 hM2 (by decide) (by decide)) rfl rfl 6 (hM2.2.2.1 44 (by decide) (by decide)) (by omega) (by omega) (nI ((nxTo M a b) ||| 0)) rfl dX11_ring_84 ?_
                    have hM_16 := MR.set (t := 44) (k := a) (x := ((nxTo M a b) ||| 0)) (v := (nI ((nxTo M a b) ||| 0))) hM2 rfl
                    have hs_17 := Same.sI (t := 44) (i := 0) (k := a) (x := (nI ((nxTo M a b) ||| 0))) hs2 (by decide)
                    refine j_iinc C [(3, .int (nI (b + 1))), (0, .ref (gA Λ 31 0)), (1, .int (nI room)), (2, .int (nI a))] (nI (b + 1)) dX11_ring_85 3 rfl (nI_add _ 1) (by decide) rfl ?_
                    refine j_goto (tgt := 47) C dX11_ring_88 (by decide) ?_
                    refine j_lv [1, 2, 3, 0] rfl ?_
                    exact ih47 (sI σ2 44 0 a (nI ((nxTo M a b) ||| 0))) (b + 1) (by omega) (by omega) (by show MR Λ _ (mS (nextM M a) 44 a (nxTo M a b ||| (if a ≠ b ∧ ldB M a b = true then 2 ^ b else 0))); rw [if_neg (fun z => z.1 h64)]; have q := hM_16; rw [mS_twice] at q; exact q) hs_17
                  · refine j_aload_n C dX11_ring_67 rfl 0 rfl ?_
                    refine j_iload_n C dX11_ring_68 rfl 2 rfl ?_
                    refine j_iload_n C dX11_ring_69 rfl 3 rfl ?_
                    refine c_i0 C (r_V C 31 0 [.int (nI a), .int (nI b)] (c_X11_leads l D cy base Λ σ2 (mS (nextM M a) 44 a (nxTo M a b)) hM2 (MBd.set (nextM_B hB hR a) (show nxTo M a b ≤ 63 by omega)) a b (by omega) (by omega)) (cwV 2 hts gX11_ring_X11_leads rfl rfl rfl (by decide +kernel) ⟨by decide, by decide⟩) (MR.in0 hM2 (by decide) (by decide)) rfl rfl rfl rfl (Nat.le_of_ble_eq_true rfl) dX11_ring_70 ⟨by decide, by decide⟩) (fun rv uu hp => ?_)
                    rw [hp.1, hp.2, show ldB (mS (nextM M a) 44 a (nxTo M a b)) a b = ldB M a b from ldB_congr (by rw [mS_nk (by decide)]; rw [nextM_nk (by decide)]) (by rw [mS_nk (by decide)]; rw [nextM_nk (by decide)]) (by rw [mS_nk (by decide)]; rw [nextM_nk (by decide)]) (by rw [mS_nk (by decide)]; rw [nextM_nk (by decide)])]
                    refine j_ifeq_b (tgt := 82) C dX11_ring_73 (by decide) (fun h73 => ?_) (fun h73 => ?_)
                    · refine j_iconst C (nI 0) dX11_ring_82 (by decide) ?_
                      refine j_ior C (nI ((nxTo M a b) ||| 0)) dX11_ring_83 (fa_or _ _) ?_
                      refine j_iast C 44 0 a (MR.in0 hM2 (by decide) (by decide)) rfl rfl 6 (hM2.2.2.1 44 (by decide) (by decide)) (by omega) (by omega) (nI ((nxTo M a b) ||| 0)) rfl dX11_ring_84 ?_
                      have hM_19 := MR.set (t := 44) (k := a) (x := ((nxTo M a b) ||| 0)) (v := (nI ((nxTo M a b) ||| 0))) hM2 rfl
                      have hs_20 := Same.sI (t := 44) (i := 0) (k := a) (x := (nI ((nxTo M a b) ||| 0))) hs2 (by decide)
                      refine j_iinc C [(3, .int (nI (b + 1))), (0, .ref (gA Λ 31 0)), (1, .int (nI room)), (2, .int (nI a))] (nI (b + 1)) dX11_ring_85 3 rfl (nI_add _ 1) (by decide) rfl ?_
                      refine j_goto (tgt := 47) C dX11_ring_88 (by decide) ?_
                      refine j_lv [1, 2, 3, 0] rfl ?_
                      exact ih47 (sI σ2 44 0 a (nI ((nxTo M a b) ||| 0))) (b + 1) (by omega) (by omega) (by show MR Λ _ (mS (nextM M a) 44 a (nxTo M a b ||| (if a ≠ b ∧ ldB M a b = true then 2 ^ b else 0))); rw [if_neg (fun z => absurd (h73.symm.trans z.2) (by decide))]; have q := hM_19; rw [mS_twice] at q; exact q) hs_20
                    · refine j_iconst C (nI 1) dX11_ring_76 (by decide) ?_
                      refine j_iload_n C dX11_ring_77 rfl 3 rfl ?_
                      refine j_ishl C (nI (2 ^ b)) dX11_ring_78 (shl1 (by omega)) ?_
                      refine j_goto (tgt := 83) C dX11_ring_79 (by decide) ?_
                      refine j_ior C (nI ((nxTo M a b) ||| (2 ^ b))) dX11_ring_83 (fa_or _ _) ?_
                      refine j_iast C 44 0 a (MR.in0 hM2 (by decide) (by decide)) rfl rfl 6 (hM2.2.2.1 44 (by decide) (by decide)) (by omega) (by omega) (nI ((nxTo M a b) ||| (2 ^ b))) rfl dX11_ring_84 ?_
                      have hM_21 := MR.set (t := 44) (k := a) (x := ((nxTo M a b) ||| (2 ^ b))) (v := (nI ((nxTo M a b) ||| (2 ^ b)))) hM2 rfl
                      have hs_22 := Same.sI (t := 44) (i := 0) (k := a) (x := (nI ((nxTo M a b) ||| (2 ^ b)))) hs2 (by decide)
                      refine j_iinc C [(3, .int (nI (b + 1))), (0, .ref (gA Λ 31 0)), (1, .int (nI room)), (2, .int (nI a))] (nI (b + 1)) dX11_ring_85 3 rfl (nI_add _ 1) (by decide) rfl ?_
                      refine j_goto (tgt := 47) C dX11_ring_88 (by decide) ?_
                      refine j_lv [1, 2, 3, 0] rfl ?_
                      exact ih47 (sI σ2 44 0 a (nI ((nxTo M a b) ||| (2 ^ b)))) (b + 1) (by omega) (by omega) (by show MR Λ _ (mS (nextM M a) 44 a (nxTo M a b ||| (if a ≠ b ∧ ldB M a b = true then 2 ^ b else 0))); rw [if_pos ⟨h64, h73⟩]; have q := hM_21; rw [mS_twice] at q; exact q) hs_22
            refine j_lv [1, 2, 3, 0] rfl ?_
            exact lb47 _ (sI σ1 44 0 a (nI 0)) 0 (Nat.lt_succ_self _) (by omega) hM_11 hs_12
      refine j_lv [1, 2, 0] rfl ?_
      exact lb30 _ σ0 0 (Nat.lt_succ_self _) (by omega) (by rw [nextM_0]; exact hM) hs0
    · exact absurd trivial z
  · exact absurd (h11.symm.trans (inRm_nI hB hroom)) (by decide)
