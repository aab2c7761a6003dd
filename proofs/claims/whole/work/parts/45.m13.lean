set_option maxHeartbeats 4000000 in
set_option maxRecDepth 100000 in
theorem c_mchange_e1 (l : Launch) (D : va_G) (cy : Nat → ClassId) (base : Nat) (Λ : LY) (σ : HS) (M : MM) (hM0 : MR0 Λ σ M) (h00 : M 31 0 = 0) (hB : MBd M) (lo hi : Int32) (hA : lo.toInt < 0 ∨ hi.toInt < 0 ∨ (p2 (lmN M) : Int) ≤ lo.toInt ∨ (p2 (hmN M) : Int) ≤ hi.toInt) : Met l yX11_change wsX11_change ({ frames := 16, cells := 0, slots := 0, locals := 240 }) (va_Pc [.ref (gA Λ 31 0), .int (lo), .int (hi)] (Wd D cy base Λ σ)) (va_Qi (fun v u => MR Λ u (mS M 31 0 1) ∧ Same nMo σ u) (Wd D cy base Λ) (Ab base)) 0 0 (Ab base) := by
  refine j_start (cc := cX11_change) (nL := 5) (ret := (some .int)) (lv := [(0, .ref (gA Λ 31 0)), (1, .int (lo)), (2, .int (hi))]) (by decide) rfl (Nat.le_of_ble_eq_true rfl) rfl ?_
  intro p e s m below meth c C hr hlk hnm
  have C : Cx p s m ([.ref (gA Λ 31 0), .int (lo), .int (hi)] : List Value).toArray c cX11_change 5 RX11 wsX11_change D cy base := C
  have hts := C.2.2.2.2.1
  have hwX11 : ∀ w ∈ u_ws RX11 TX11 26, w ∈ wsX11_change := by decide +kernel
  have hM73 : (Cond.fieldLink RX11 73 (TX11 0).1 (TX11 0).2.1 (TX11 0).2.2.1).before ([.ref (gA Λ 31 0), .int (lo), .int (hi)] : List Value).toArray s = true := hts (.fieldLink RX11 73 "CodeRoomsModel" "thrown" "I") (by decide +kernel)
  have hL73 : FL RX11 73 (TX11 0).1 (TX11 0).2.1 (TX11 0).2.2.1 ([.ref (gA Λ 31 0), .int (lo), .int (hi)] : List Value).toArray s := Or.inl hM73
  have hM83 : (Cond.fieldLink RX11 83 (TX11 5).1 (TX11 5).2.1 (TX11 5).2.2.1).before ([.ref (gA Λ 31 0), .int (lo), .int (hi)] : List Value).toArray s = true := hts (.fieldLink RX11 83 "CodeRoomsModel" "many" "I") (by decide +kernel)
  have hL83 : FL RX11 83 (TX11 5).1 (TX11 5).2.1 (TX11 5).2.2.1 ([.ref (gA Λ 31 0), .int (lo), .int (hi)] : List Value).toArray s := Or.inl hM83
  have hn : M 31 5 ≤ 40 := hB 31 5 rfl
  have z3 : (nI 3).toInt = 3 := by decide
  have z2 : (nI 2).toInt = 2 := by decide
  have z1 : (nI 1).toInt = 1 := by decide
  have z1000 : (nI 1000).toInt = 1000 := by decide
  have z5 : (nI 5).toInt = 5 := by decide
  have z4 : (nI 4).toInt = 4 := by decide
  have z0 : (nI 0).toInt = 0 := by decide
  have z00 : (0 : Int32).toInt = 0 := by decide
  have z9 : (nI 9).toInt = 9 := by decide
  have z100 : (nI 100).toInt = 100 := by decide
  have z40 : (nI 40).toInt = 40 := by decide
  have z6 : (nI 6).toInt = 6 := by decide
  refine j_aload_n C dX11_change_0 rfl 0 rfl ?_
  refine j_iconst C (nI 0) dX11_change_1 (by decide) ?_
  refine j_putI C hwX11 31 0 0 (MR0.in0 hM0) rfl rfl (by decide) rfl tyX11 tyX11_ok nmX11 rfl rfl rfl hL73 dX11_change_2 ?_
  have hM := MR0.start hM0 h00
  have hs0 : Same nMo σ (sI σ 31 0 0 (nI 0)) := Same.sI Same.rf (by decide)
  generalize sI σ 31 0 0 (nI 0) = σ0 at hM hs0 ⊢
  refine j_aload_n C dX11_change_5 rfl 0 rfl ?_
  have lb23 : ∀ (q : Nat), (q = lmN M) → J p l e ({ frames := 16, cells := 0, slots := 0, locals := 240 }) s m ([.ref (gA Λ 31 0), .int (lo), .int (hi)] : List Value).toArray below meth c 5 D cy base (MQ below (va_Qi (fun v u => MR Λ u (mS M 31 0 1) ∧ Same nMo σ u) (Wd D cy base Λ) (Ab base)) ([.ref (gA Λ 31 0), .int (lo), .int (hi)] : List Value).toArray s 0 0 (Ab base)) 0 0 Λ 23 [(0, .ref (gA Λ 31 0)), (1, .int (lo)), (2, .int (hi))] [.int (nI q)] σ0 := by
    intro q hq
    have hq20 : q ≤ 20 := by rw [hq]; unfold lmN; split <;> omega
    have hp2q := p2_lt hq20
    refine j_istore_n C [(3, .int (nI q)), (0, .ref (gA Λ 31 0)), (1, .int (lo)), (2, .int (hi))] dX11_change_23 rfl (by decide) rfl ?_
    have lb44 : ∀ (w : Nat), (w = hmN M) → J p l e ({ frames := 16, cells := 0, slots := 0, locals := 240 }) s m ([.ref (gA Λ 31 0), .int (lo), .int (hi)] : List Value).toArray below meth c 5 D cy base (MQ below (va_Qi (fun v u => MR Λ u (mS M 31 0 1) ∧ Same nMo σ u) (Wd D cy base Λ) (Ab base)) ([.ref (gA Λ 31 0), .int (lo), .int (hi)] : List Value).toArray s 0 0 (Ab base)) 0 0 Λ 44 [(0, .ref (gA Λ 31 0)), (1, .int (lo)), (2, .int (hi)), (3, .int (nI q))] [.int (nI w)] σ0 := by
      intro w hw
      have hw20 : w ≤ 20 := by rw [hw]; unfold hmN; split <;> omega
      have hp2w := p2_lt hw20
      refine j_istore C [(4, .int (nI w)), (0, .ref (gA Λ 31 0)), (1, .int (lo)), (2, .int (hi)), (3, .int (nI q))] dX11_change_44 (by decide) rfl ?_
      refine j_aload_n C dX11_change_46 rfl 1 rfl ?_
      refine j_iload_n C dX11_change_47 rfl 2 rfl ?_
      refine j_if_lt (tgt := 70) C dX11_change_48 (by decide) (fa_lt _ _) (fun h48 => ?_) (fun h48 => ?_)
      · refine j_iconst C (nI 1) dX11_change_70 (by decide) ?_
        refine j_goto (tgt := 75) C dX11_change_71 (by decide) ?_
        refine j_iconst C (nI 1) dX11_change_75 (by decide) ?_
        refine c_i0 C (r_V C 31 0 [.int (nI 1), .int (nI 1)] (c_X11_bad1 l D cy base Λ σ0 M hM 1) (cwV 2 hts gX11_change_X11_bad rfl rfl rfl (by decide +kernel) ⟨by decide, by decide⟩) (MR.in0 hM (by decide) (by decide)) rfl rfl rfl rfl (Nat.le_of_ble_eq_true rfl) dX11_change_76 ⟨by decide, by decide⟩) (fun rv ub_4 hp => ?_)
        obtain ⟨hp1, hMb_4, hp3⟩ := hp
        have hsb_4 := Same.tr hs0 hp3
        rw [hp1]
        refine j_if_eq (tgt := 84) C (P := False) dX11_change_79 (by decide) (by decide) (fun z => ?_) (fun z => ?_)
        · exact z.elim
        · refine j_iconst C (nI 0) dX11_change_82 (by decide) ?_
          exact j_iret C hr hlk (⟨hMb_4, hsb_4⟩) dX11_change_83
      · refine j_iload_n C dX11_change_51 rfl 3 rfl ?_
        refine j_if_lt (tgt := 70) C dX11_change_52 (by decide) (fa_lt _ _) (fun h52 => ?_) (fun h52 => ?_)
        · refine j_iconst C (nI 1) dX11_change_70 (by decide) ?_
          refine j_goto (tgt := 75) C dX11_change_71 (by decide) ?_
          refine j_iconst C (nI 1) dX11_change_75 (by decide) ?_
          refine c_i0 C (r_V C 31 0 [.int (nI 1), .int (nI 1)] (c_X11_bad1 l D cy base Λ σ0 M hM 1) (cwV 2 hts gX11_change_X11_bad rfl rfl rfl (by decide +kernel) ⟨by decide, by decide⟩) (MR.in0 hM (by decide) (by decide)) rfl rfl rfl rfl (Nat.le_of_ble_eq_true rfl) dX11_change_76 ⟨by decide, by decide⟩) (fun rv ub_7 hp => ?_)
          obtain ⟨hp1, hMb_7, hp3⟩ := hp
          have hsb_7 := Same.tr hs0 hp3
          rw [hp1]
          refine j_if_eq (tgt := 84) C (P := False) dX11_change_79 (by decide) (by decide) (fun z => ?_) (fun z => ?_)
          · exact z.elim
          · refine j_iconst C (nI 0) dX11_change_82 (by decide) ?_
            exact j_iret C hr hlk (⟨hMb_7, hsb_7⟩) dX11_change_83
        · refine j_iload_n C dX11_change_55 rfl 2 rfl ?_
          refine j_iconst C (nI 1) dX11_change_56 (by decide) ?_
          refine j_iload_n C dX11_change_57 rfl 4 rfl ?_
          refine j_ishl C (nI (p2 q)) dX11_change_58 (shl1p (by omega)) ?_
          refine j_icmp_ge (tgt := 70) C dX11_change_59 (by decide) (show (nI (p2 q) ≤ lo) ↔ ((p2 q : Nat) : Int) ≤ lo.toInt by rw [fa_le, nI_toInt (by omega)]) (fun h59 => ?_) (fun h59 => ?_)
          · refine j_iconst C (nI 1) dX11_change_70 (by decide) ?_
            refine j_goto (tgt := 75) C dX11_change_71 (by decide) ?_
            refine j_iconst C (nI 1) dX11_change_75 (by decide) ?_
            refine c_i0 C (r_V C 31 0 [.int (nI 1), .int (nI 1)] (c_X11_bad1 l D cy base Λ σ0 M hM 1) (cwV 2 hts gX11_change_X11_bad rfl rfl rfl (by decide +kernel) ⟨by decide, by decide⟩) (MR.in0 hM (by decide) (by decide)) rfl rfl rfl rfl (Nat.le_of_ble_eq_true rfl) dX11_change_76 ⟨by decide, by decide⟩) (fun rv ub_10 hp => ?_)
            obtain ⟨hp1, hMb_10, hp3⟩ := hp
            have hsb_10 := Same.tr hs0 hp3
            rw [hp1]
            refine j_if_eq (tgt := 84) C (P := False) dX11_change_79 (by decide) (by decide) (fun z => ?_) (fun z => ?_)
            · exact z.elim
            · refine j_iconst C (nI 0) dX11_change_82 (by decide) ?_
              exact j_iret C hr hlk (⟨hMb_10, hsb_10⟩) dX11_change_83
          · refine j_iload_n C dX11_change_62 rfl 3 rfl ?_
            refine j_iconst C (nI 1) dX11_change_63 (by decide) ?_
            refine j_iload C dX11_change_64 0 rfl ?_
            refine j_ishl C (nI (p2 w)) dX11_change_66 (shl1p (by omega)) ?_
            refine j_icmp_lt (tgt := 74) C dX11_change_67 (by decide) (show (hi < nI (p2 w)) ↔ hi.toInt < ((p2 w : Nat) : Int) by rw [fa_lt, nI_toInt (by omega)]) (fun h67 => ?_) (fun h67 => ?_)
            · rw [← hq, ← hw] at hA; omega
            · refine j_iconst C (nI 1) dX11_change_70 (by decide) ?_
              refine j_goto (tgt := 75) C dX11_change_71 (by decide) ?_
              refine j_iconst C (nI 1) dX11_change_75 (by decide) ?_
              refine c_i0 C (r_V C 31 0 [.int (nI 1), .int (nI 1)] (c_X11_bad1 l D cy base Λ σ0 M hM 1) (cwV 2 hts gX11_change_X11_bad rfl rfl rfl (by decide +kernel) ⟨by decide, by decide⟩) (MR.in0 hM (by decide) (by decide)) rfl rfl rfl rfl (Nat.le_of_ble_eq_true rfl) dX11_change_76 ⟨by decide, by decide⟩) (fun rv ub_13 hp => ?_)
              obtain ⟨hp1, hMb_13, hp3⟩ := hp
              have hsb_13 := Same.tr hs0 hp3
              rw [hp1]
              refine j_if_eq (tgt := 84) C (P := False) dX11_change_79 (by decide) (by decide) (fun z => ?_) (fun z => ?_)
              · exact z.elim
              · refine j_iconst C (nI 0) dX11_change_82 (by decide) ?_
                exact j_iret C hr hlk (⟨hMb_13, hsb_13⟩) dX11_change_83
    refine j_aload_n C dX11_change_24 rfl 1 rfl ?_
    have hb25 : M 31 5 ≤ 40 := hB 31 5 rfl
    refine j_getI C hwX11 31 0 5 (MR.in0 hM (by decide) (by decide)) rfl rfl (by decide) rfl (nI (M 31 5)) (hM.1 31 5 rfl) hL83 dX11_change_25 ?_
    refine j_bipush C (nI 20) dX11_change_28 (by decide) ?_
    refine j_icmp_ge (tgt := 37) C dX11_change_30 (by decide) (nI_leI (by omega) (by omega)) (fun h30 => ?_) (fun h30 => ?_)
    · refine j_aload_n C dX11_change_37 rfl 1 rfl ?_
      have hb38 : M 31 5 ≤ 40 := hB 31 5 rfl
      refine j_getI C hwX11 31 0 5 (MR.in0 hM (by decide) (by decide)) rfl rfl (by decide) rfl (nI (M 31 5)) (hM.1 31 5 rfl) hL83 dX11_change_38 ?_
      refine j_bipush C (nI 20) dX11_change_41 (by decide) ?_
      refine j_isub C (nI (M 31 5 - 20)) dX11_change_43 (pk_sub (by omega)) ?_
      refine j_lv [1, 2, 3, 0] rfl ?_
      exact lb44 (M 31 5 - 20) (by unfold hmN; rw [if_neg (by omega)])
    · refine j_iconst C (nI 0) dX11_change_33 (by decide) ?_
      refine j_goto (tgt := 44) C dX11_change_34 (by decide) ?_
      refine j_lv [1, 2, 3, 0] rfl ?_
      exact lb44 0 (by unfold hmN; rw [if_pos (by omega)])
  have hb6 : M 31 5 ≤ 40 := hB 31 5 rfl
  refine j_getI C hwX11 31 0 5 (MR.in0 hM (by decide) (by decide)) rfl rfl (by decide) rfl (nI (M 31 5)) (hM.1 31 5 rfl) hL83 dX11_change_6 ?_
  refine j_bipush C (nI 20) dX11_change_9 (by decide) ?_
  refine j_icmp_ge (tgt := 21) C dX11_change_11 (by decide) (nI_leI (by omega) (by omega)) (fun h11 => ?_) (fun h11 => ?_)
  · refine j_bipush C (nI 20) dX11_change_21 (by decide) ?_
    exact lb23 20 (by unfold lmN; rw [if_neg (by omega)])
  · refine j_aload_n C dX11_change_14 rfl 0 rfl ?_
    have hb15 : M 31 5 ≤ 40 := hB 31 5 rfl
    refine j_getI C hwX11 31 0 5 (MR.in0 hM (by decide) (by decide)) rfl rfl (by decide) rfl (nI (M 31 5)) (hM.1 31 5 rfl) hL83 dX11_change_15 ?_
    refine j_goto (tgt := 23) C dX11_change_18 (by decide) ?_
    exact lb23 (M 31 5) (by unfold lmN; rw [if_pos (by omega)])

set_option maxHeartbeats 4000000 in
set_option maxRecDepth 100000 in
theorem c_mchange_full (l : Launch) (D : va_G) (cy : Nat → ClassId) (base : Nat) (Λ : LY) (σ : HS) (M : MM) (hM0 : MR0 Λ σ M) (h00 : M 31 0 = 0) (hB : MBd M) (lo hi : Nat) (hlo : lo < p2 (lmN M)) (hhi : hi < p2 (hmN M)) (hc : M 31 22 = 60) : Met l yX11_change wsX11_change ({ frames := 16, cells := 0, slots := 0, locals := 240 }) (va_Pc [.ref (gA Λ 31 0), .int (nI lo), .int (nI hi)] (Wd D cy base Λ σ)) (va_Qi (fun v u => MR Λ u M ∧ Same nMo σ u ∧ v = -1) (Wd D cy base Λ) (Ab base)) 0 0 (Ab base) := by
  refine j_start (cc := cX11_change) (nL := 5) (ret := (some .int)) (lv := [(0, .ref (gA Λ 31 0)), (1, .int (nI lo)), (2, .int (nI hi))]) (by decide) rfl (Nat.le_of_ble_eq_true rfl) rfl ?_
  intro p e s m below meth c C hr hlk hnm
  have C : Cx p s m ([.ref (gA Λ 31 0), .int (nI lo), .int (nI hi)] : List Value).toArray c cX11_change 5 RX11 wsX11_change D cy base := C
  have hts := C.2.2.2.2.1
  have hwX11 : ∀ w ∈ u_ws RX11 TX11 26, w ∈ wsX11_change := by decide +kernel
  have hM73 : (Cond.fieldLink RX11 73 (TX11 0).1 (TX11 0).2.1 (TX11 0).2.2.1).before ([.ref (gA Λ 31 0), .int (nI lo), .int (nI hi)] : List Value).toArray s = true := hts (.fieldLink RX11 73 "CodeRoomsModel" "thrown" "I") (by decide +kernel)
  have hL73 : FL RX11 73 (TX11 0).1 (TX11 0).2.1 (TX11 0).2.2.1 ([.ref (gA Λ 31 0), .int (nI lo), .int (nI hi)] : List Value).toArray s := Or.inl hM73
  have hM83 : (Cond.fieldLink RX11 83 (TX11 5).1 (TX11 5).2.1 (TX11 5).2.2.1).before ([.ref (gA Λ 31 0), .int (nI lo), .int (nI hi)] : List Value).toArray s = true := hts (.fieldLink RX11 83 "CodeRoomsModel" "many" "I") (by decide +kernel)
  have hL83 : FL RX11 83 (TX11 5).1 (TX11 5).2.1 (TX11 5).2.2.1 ([.ref (gA Λ 31 0), .int (nI lo), .int (nI hi)] : List Value).toArray s := Or.inl hM83
  have hM173 : (Cond.fieldLink RX11 173 (TX11 22).1 (TX11 22).2.1 (TX11 22).2.2.1).before ([.ref (gA Λ 31 0), .int (nI lo), .int (nI hi)] : List Value).toArray s = true := hts (.fieldLink RX11 173 "CodeRoomsModel" "changes" "I") (by decide +kernel)
  have hL173 : FL RX11 173 (TX11 22).1 (TX11 22).2.1 (TX11 22).2.2.1 ([.ref (gA Λ 31 0), .int (nI lo), .int (nI hi)] : List Value).toArray s := Or.inl hM173
  have hn : M 31 5 ≤ 40 := hB 31 5 rfl
  have hlb : lo < 1048576 := Nat.lt_of_lt_of_le hlo (p2_lt (by unfold lmN; split <;> omega))
  have hhb : hi < 1048576 := Nat.lt_of_lt_of_le hhi (p2_lt (by unfold hmN; split <;> omega))
  refine j_aload_n C dX11_change_0 rfl 0 rfl ?_
  refine j_iconst C (nI 0) dX11_change_1 (by decide) ?_
  refine j_putI C hwX11 31 0 0 (MR0.in0 hM0) rfl rfl (by decide) rfl tyX11 tyX11_ok nmX11 rfl rfl rfl hL73 dX11_change_2 ?_
  have hM := MR0.start hM0 h00
  have hs0 : Same nMo σ (sI σ 31 0 0 (nI 0)) := Same.sI Same.rf (by decide)
  generalize sI σ 31 0 0 (nI 0) = σ0 at hM hs0 ⊢
  refine j_aload_n C dX11_change_5 rfl 0 rfl ?_
  have lb23 : ∀ (q : Nat), (q = lmN M) → J p l e ({ frames := 16, cells := 0, slots := 0, locals := 240 }) s m ([.ref (gA Λ 31 0), .int (nI lo), .int (nI hi)] : List Value).toArray below meth c 5 D cy base (MQ below (va_Qi (fun v u => MR Λ u M ∧ Same nMo σ u ∧ v = -1) (Wd D cy base Λ) (Ab base)) ([.ref (gA Λ 31 0), .int (nI lo), .int (nI hi)] : List Value).toArray s 0 0 (Ab base)) 0 0 Λ 23 [(0, .ref (gA Λ 31 0)), (1, .int (nI lo)), (2, .int (nI hi))] [.int (nI q)] σ0 := by
    intro q hq
    have hq20 : q ≤ 20 := by rw [hq]; unfold lmN; split <;> omega
    have hp2q := p2_lt hq20
    refine j_istore_n C [(3, .int (nI q)), (0, .ref (gA Λ 31 0)), (1, .int (nI lo)), (2, .int (nI hi))] dX11_change_23 rfl (by decide) rfl ?_
    have lb44 : ∀ (w : Nat), (w = hmN M) → J p l e ({ frames := 16, cells := 0, slots := 0, locals := 240 }) s m ([.ref (gA Λ 31 0), .int (nI lo), .int (nI hi)] : List Value).toArray below meth c 5 D cy base (MQ below (va_Qi (fun v u => MR Λ u M ∧ Same nMo σ u ∧ v = -1) (Wd D cy base Λ) (Ab base)) ([.ref (gA Λ 31 0), .int (nI lo), .int (nI hi)] : List Value).toArray s 0 0 (Ab base)) 0 0 Λ 44 [(0, .ref (gA Λ 31 0)), (1, .int (nI lo)), (2, .int (nI hi)), (3, .int (nI q))] [.int (nI w)] σ0 := by
      intro w hw
      have hw20 : w ≤ 20 := by rw [hw]; unfold hmN; split <;> omega
      have hp2w := p2_lt hw20
      refine j_istore C [(4, .int (nI w)), (0, .ref (gA Λ 31 0)), (1, .int (nI lo)), (2, .int (nI hi)), (3, .int (nI q))] dX11_change_44 (by decide) rfl ?_
      refine j_aload_n C dX11_change_46 rfl 1 rfl ?_
      refine j_iload_n C dX11_change_47 rfl 2 rfl ?_
      refine j_if_lt (tgt := 70) C dX11_change_48 (by decide) (nJ_lt0 (by omega)) (fun h48 => ?_) (fun h48 => ?_)
      · rw [← hq] at hlo; rw [← hw] at hhi; first | omega | exact h48.elim | exact h52.elim
      · refine j_iload_n C dX11_change_51 rfl 3 rfl ?_
        refine j_if_lt (tgt := 70) C dX11_change_52 (by decide) (nJ_lt0 (by omega)) (fun h52 => ?_) (fun h52 => ?_)
        · rw [← hq] at hlo; rw [← hw] at hhi; first | omega | exact h48.elim | exact h52.elim
        · refine j_iload_n C dX11_change_55 rfl 2 rfl ?_
          refine j_iconst C (nI 1) dX11_change_56 (by decide) ?_
          refine j_iload_n C dX11_change_57 rfl 4 rfl ?_
          refine j_ishl C (nI (p2 q)) dX11_change_58 (shl1p (by omega)) ?_
          refine j_icmp_ge (tgt := 70) C dX11_change_59 (by decide) (nI_leI (by omega) (by omega)) (fun h59 => ?_) (fun h59 => ?_)
          · rw [← hq] at hlo; rw [← hw] at hhi; first | omega | exact h48.elim | exact h52.elim
          · refine j_iload_n C dX11_change_62 rfl 3 rfl ?_
            refine j_iconst C (nI 1) dX11_change_63 (by decide) ?_
            refine j_iload C dX11_change_64 0 rfl ?_
            refine j_ishl C (nI (p2 w)) dX11_change_66 (shl1p (by omega)) ?_
            refine j_icmp_lt (tgt := 74) C dX11_change_67 (by decide) (nI_ltI (by omega) (by omega)) (fun h67 => ?_) (fun h67 => ?_)
            · refine j_iconst C (nI 0) dX11_change_74 (by decide) ?_
              refine j_iconst C (nI 1) dX11_change_75 (by decide) ?_
              refine c_i0 C (r_V C 31 0 [.int (nI 0), .int (nI 1)] (c_X11_bad0 l D cy base Λ σ0 (MR.in0 hM (by decide) (by decide)) 1) (cwV 2 hts gX11_change_X11_bad rfl rfl rfl (by decide +kernel) ⟨by decide, by decide⟩) (MR.in0 hM (by decide) (by decide)) rfl rfl rfl rfl (Nat.le_of_ble_eq_true rfl) dX11_change_76 ⟨by decide, by decide⟩) (fun rv uu hp => ?_)
              rw [hp.1, hp.2]
              refine j_if_eq (tgt := 84) C (P := True) dX11_change_79 (by decide) (by decide) (fun z => ?_) (fun z => ?_)
              · refine j_aload_n C dX11_change_84 rfl 1 rfl ?_
                have hb85 : M 31 22 ≤ 60 := hB 31 22 rfl
                refine j_getI C hwX11 31 0 22 (MR.in0 hM (by decide) (by decide)) rfl rfl (by decide) rfl (nI (M 31 22)) (hM.1 31 22 rfl) hL173 dX11_change_85 ?_
                refine j_bipush C (nI 60) dX11_change_88 (by decide) ?_
                refine j_icmp_ne (tgt := 95) C dX11_change_90 (by decide) (nI_eq (by omega) (by omega)) (fun h90 => ?_) (fun h90 => ?_)
                · omega
                · refine j_iconst C ((-1)) dX11_change_93 (by decide) ?_
                  exact j_iret C hr hlk (⟨hM, hs0, rfl⟩) dX11_change_94
              · exact absurd trivial z
            · rw [← hq] at hlo; rw [← hw] at hhi; first | omega | exact h48.elim | exact h52.elim
    refine j_aload_n C dX11_change_24 rfl 1 rfl ?_
    have hb25 : M 31 5 ≤ 40 := hB 31 5 rfl
    refine j_getI C hwX11 31 0 5 (MR.in0 hM (by decide) (by decide)) rfl rfl (by decide) rfl (nI (M 31 5)) (hM.1 31 5 rfl) hL83 dX11_change_25 ?_
    refine j_bipush C (nI 20) dX11_change_28 (by decide) ?_
    refine j_icmp_ge (tgt := 37) C dX11_change_30 (by decide) (nI_leI (by omega) (by omega)) (fun h30 => ?_) (fun h30 => ?_)
    · refine j_aload_n C dX11_change_37 rfl 1 rfl ?_
      have hb38 : M 31 5 ≤ 40 := hB 31 5 rfl
      refine j_getI C hwX11 31 0 5 (MR.in0 hM (by decide) (by decide)) rfl rfl (by decide) rfl (nI (M 31 5)) (hM.1 31 5 rfl) hL83 dX11_change_38 ?_
      refine j_bipush C (nI 20) dX11_change_41 (by decide) ?_
      refine j_isub C (nI (M 31 5 - 20)) dX11_change_43 (pk_sub (by omega)) ?_
      refine j_lv [1, 2, 3, 0] rfl ?_
      exact lb44 (M 31 5 - 20) (by unfold hmN; rw [if_neg (by omega)])
    · refine j_iconst C (nI 0) dX11_change_33 (by decide) ?_
      refine j_goto (tgt := 44) C dX11_change_34 (by decide) ?_
      refine j_lv [1, 2, 3, 0] rfl ?_
      exact lb44 0 (by unfold hmN; rw [if_pos (by omega)])
  have hb6 : M 31 5 ≤ 40 := hB 31 5 rfl
  refine j_getI C hwX11 31 0 5 (MR.in0 hM (by decide) (by decide)) rfl rfl (by decide) rfl (nI (M 31 5)) (hM.1 31 5 rfl) hL83 dX11_change_6 ?_
  refine j_bipush C (nI 20) dX11_change_9 (by decide) ?_
  refine j_icmp_ge (tgt := 21) C dX11_change_11 (by decide) (nI_leI (by omega) (by omega)) (fun h11 => ?_) (fun h11 => ?_)
  · refine j_bipush C (nI 20) dX11_change_21 (by decide) ?_
    exact lb23 20 (by unfold lmN; rw [if_neg (by omega)])
  · refine j_aload_n C dX11_change_14 rfl 0 rfl ?_
    have hb15 : M 31 5 ≤ 40 := hB 31 5 rfl
    refine j_getI C hwX11 31 0 5 (MR.in0 hM (by decide) (by decide)) rfl rfl (by decide) rfl (nI (M 31 5)) (hM.1 31 5 rfl) hL83 dX11_change_15 ?_
    refine j_goto (tgt := 23) C dX11_change_18 (by decide) ?_
    exact lb23 (M 31 5) (by unfold lmN; rw [if_pos (by omega)])

set_option maxHeartbeats 4000000 in
set_option maxRecDepth 100000 in
theorem c_mchange_ok (l : Launch) (D : va_G) (cy : Nat → ClassId) (base : Nat) (Λ : LY) (σ : HS) (M : MM) (hM0 : MR0 Λ σ M) (h00 : M 31 0 = 0) (hB : MBd M) (lo hi : Nat) (hlo : lo < p2 (lmN M)) (hhi : hi < p2 (hmN M)) (hc : M 31 22 < 60) : Met l yX11_change wsX11_change ({ frames := 16, cells := 0, slots := 0, locals := 240 }) (va_Pc [.ref (gA Λ 31 0), .int (nI lo), .int (nI hi)] (Wd D cy base Λ σ)) (va_Qi (fun v u => MR Λ u (mS (mS (mS M 45 (M 31 22) lo) 46 (M 31 22) hi) 31 22 (M 31 22 + 1)) ∧ Same nMo σ u ∧ v = nI (M 31 22 + 1)) (Wd D cy base Λ) (Ab base)) 0 0 (Ab base) := by
  refine j_start (cc := cX11_change) (nL := 5) (ret := (some .int)) (lv := [(0, .ref (gA Λ 31 0)), (1, .int (nI lo)), (2, .int (nI hi))]) (by decide) rfl (Nat.le_of_ble_eq_true rfl) rfl ?_
  intro p e s m below meth c C hr hlk hnm
  have C : Cx p s m ([.ref (gA Λ 31 0), .int (nI lo), .int (nI hi)] : List Value).toArray c cX11_change 5 RX11 wsX11_change D cy base := C
  have hts := C.2.2.2.2.1
  have hwX11 : ∀ w ∈ u_ws RX11 TX11 26, w ∈ wsX11_change := by decide +kernel
  have hM61 : (Cond.fieldLink RX11 61 (TX11 20).1 (TX11 20).2.1 (TX11 20).2.2.1).before ([.ref (gA Λ 31 0), .int (nI lo), .int (nI hi)] : List Value).toArray s = true := hts (.fieldLink RX11 61 "CodeRoomsModel" "lows" "[I") (by decide +kernel)
  have hL61 : FL RX11 61 (TX11 20).1 (TX11 20).2.1 (TX11 20).2.2.1 ([.ref (gA Λ 31 0), .int (nI lo), .int (nI hi)] : List Value).toArray s := Or.inl hM61
  have hM64 : (Cond.fieldLink RX11 64 (TX11 21).1 (TX11 21).2.1 (TX11 21).2.2.1).before ([.ref (gA Λ 31 0), .int (nI lo), .int (nI hi)] : List Value).toArray s = true := hts (.fieldLink RX11 64 "CodeRoomsModel" "highs" "[I") (by decide +kernel)
  have hL64 : FL RX11 64 (TX11 21).1 (TX11 21).2.1 (TX11 21).2.2.1 ([.ref (gA Λ 31 0), .int (nI lo), .int (nI hi)] : List Value).toArray s := Or.inl hM64
  have hM73 : (Cond.fieldLink RX11 73 (TX11 0).1 (TX11 0).2.1 (TX11 0).2.2.1).before ([.ref (gA Λ 31 0), .int (nI lo), .int (nI hi)] : List Value).toArray s = true := hts (.fieldLink RX11 73 "CodeRoomsModel" "thrown" "I") (by decide +kernel)
  have hL73 : FL RX11 73 (TX11 0).1 (TX11 0).2.1 (TX11 0).2.2.1 ([.ref (gA Λ 31 0), .int (nI lo), .int (nI hi)] : List Value).toArray s := Or.inl hM73
  have hM83 : (Cond.fieldLink RX11 83 (TX11 5).1 (TX11 5).2.1 (TX11 5).2.2.1).before ([.ref (gA Λ 31 0), .int (nI lo), .int (nI hi)] : List Value).toArray s = true := hts (.fieldLink RX11 83 "CodeRoomsModel" "many" "I") (by decide +kernel)
  have hL83 : FL RX11 83 (TX11 5).1 (TX11 5).2.1 (TX11 5).2.2.1 ([.ref (gA Λ 31 0), .int (nI lo), .int (nI hi)] : List Value).toArray s := Or.inl hM83
  have hM173 : (Cond.fieldLink RX11 173 (TX11 22).1 (TX11 22).2.1 (TX11 22).2.2.1).before ([.ref (gA Λ 31 0), .int (nI lo), .int (nI hi)] : List Value).toArray s = true := hts (.fieldLink RX11 173 "CodeRoomsModel" "changes" "I") (by decide +kernel)
  have hL173 : FL RX11 173 (TX11 22).1 (TX11 22).2.1 (TX11 22).2.2.1 ([.ref (gA Λ 31 0), .int (nI lo), .int (nI hi)] : List Value).toArray s := Or.inl hM173
  have hn : M 31 5 ≤ 40 := hB 31 5 rfl
  have hlb : lo < 1048576 := Nat.lt_of_lt_of_le hlo (p2_lt (by unfold lmN; split <;> omega))
  have hhb : hi < 1048576 := Nat.lt_of_lt_of_le hhi (p2_lt (by unfold hmN; split <;> omega))
  refine j_aload_n C dX11_change_0 rfl 0 rfl ?_
  refine j_iconst C (nI 0) dX11_change_1 (by decide) ?_
  refine j_putI C hwX11 31 0 0 (MR0.in0 hM0) rfl rfl (by decide) rfl tyX11 tyX11_ok nmX11 rfl rfl rfl hL73 dX11_change_2 ?_
  have hM := MR0.start hM0 h00
  have hs0 : Same nMo σ (sI σ 31 0 0 (nI 0)) := Same.sI Same.rf (by decide)
  generalize sI σ 31 0 0 (nI 0) = σ0 at hM hs0 ⊢
  refine j_aload_n C dX11_change_5 rfl 0 rfl ?_
  have lb23 : ∀ (q : Nat), (q = lmN M) → J p l e ({ frames := 16, cells := 0, slots := 0, locals := 240 }) s m ([.ref (gA Λ 31 0), .int (nI lo), .int (nI hi)] : List Value).toArray below meth c 5 D cy base (MQ below (va_Qi (fun v u => MR Λ u (mS (mS (mS M 45 (M 31 22) lo) 46 (M 31 22) hi) 31 22 (M 31 22 + 1)) ∧ Same nMo σ u ∧ v = nI (M 31 22 + 1)) (Wd D cy base Λ) (Ab base)) ([.ref (gA Λ 31 0), .int (nI lo), .int (nI hi)] : List Value).toArray s 0 0 (Ab base)) 0 0 Λ 23 [(0, .ref (gA Λ 31 0)), (1, .int (nI lo)), (2, .int (nI hi))] [.int (nI q)] σ0 := by
    intro q hq
    have hq20 : q ≤ 20 := by rw [hq]; unfold lmN; split <;> omega
    have hp2q := p2_lt hq20
    refine j_istore_n C [(3, .int (nI q)), (0, .ref (gA Λ 31 0)), (1, .int (nI lo)), (2, .int (nI hi))] dX11_change_23 rfl (by decide) rfl ?_
    have lb44 : ∀ (w : Nat), (w = hmN M) → J p l e ({ frames := 16, cells := 0, slots := 0, locals := 240 }) s m ([.ref (gA Λ 31 0), .int (nI lo), .int (nI hi)] : List Value).toArray below meth c 5 D cy base (MQ below (va_Qi (fun v u => MR Λ u (mS (mS (mS M 45 (M 31 22) lo) 46 (M 31 22) hi) 31 22 (M 31 22 + 1)) ∧ Same nMo σ u ∧ v = nI (M 31 22 + 1)) (Wd D cy base Λ) (Ab base)) ([.ref (gA Λ 31 0), .int (nI lo), .int (nI hi)] : List Value).toArray s 0 0 (Ab base)) 0 0 Λ 44 [(0, .ref (gA Λ 31 0)), (1, .int (nI lo)), (2, .int (nI hi)), (3, .int (nI q))] [.int (nI w)] σ0 := by
      intro w hw
      have hw20 : w ≤ 20 := by rw [hw]; unfold hmN; split <;> omega
      have hp2w := p2_lt hw20
      refine j_istore C [(4, .int (nI w)), (0, .ref (gA Λ 31 0)), (1, .int (nI lo)), (2, .int (nI hi)), (3, .int (nI q))] dX11_change_44 (by decide) rfl ?_
      refine j_aload_n C dX11_change_46 rfl 1 rfl ?_
      refine j_iload_n C dX11_change_47 rfl 2 rfl ?_
      refine j_if_lt (tgt := 70) C dX11_change_48 (by decide) (nJ_lt0 (by omega)) (fun h48 => ?_) (fun h48 => ?_)
      · rw [← hq] at hlo; rw [← hw] at hhi; first | omega | exact h48.elim | exact h52.elim
      · refine j_iload_n C dX11_change_51 rfl 3 rfl ?_
        refine j_if_lt (tgt := 70) C dX11_change_52 (by decide) (nJ_lt0 (by omega)) (fun h52 => ?_) (fun h52 => ?_)
        · rw [← hq] at hlo; rw [← hw] at hhi; first | omega | exact h48.elim | exact h52.elim
        · refine j_iload_n C dX11_change_55 rfl 2 rfl ?_
          refine j_iconst C (nI 1) dX11_change_56 (by decide) ?_
          refine j_iload_n C dX11_change_57 rfl 4 rfl ?_
          refine j_ishl C (nI (p2 q)) dX11_change_58 (shl1p (by omega)) ?_
          refine j_icmp_ge (tgt := 70) C dX11_change_59 (by decide) (nI_leI (by omega) (by omega)) (fun h59 => ?_) (fun h59 => ?_)
          · rw [← hq] at hlo; rw [← hw] at hhi; first | omega | exact h48.elim | exact h52.elim
          · refine j_iload_n C dX11_change_62 rfl 3 rfl ?_
            refine j_iconst C (nI 1) dX11_change_63 (by decide) ?_
            refine j_iload C dX11_change_64 0 rfl ?_
            refine j_ishl C (nI (p2 w)) dX11_change_66 (shl1p (by omega)) ?_
            refine j_icmp_lt (tgt := 74) C dX11_change_67 (by decide) (nI_ltI (by omega) (by omega)) (fun h67 => ?_) (fun h67 => ?_)
            · refine j_iconst C (nI 0) dX11_change_74 (by decide) ?_
              refine j_iconst C (nI 1) dX11_change_75 (by decide) ?_
              refine c_i0 C (r_V C 31 0 [.int (nI 0), .int (nI 1)] (c_X11_bad0 l D cy base Λ σ0 (MR.in0 hM (by decide) (by decide)) 1) (cwV 2 hts gX11_change_X11_bad rfl rfl rfl (by decide +kernel) ⟨by decide, by decide⟩) (MR.in0 hM (by decide) (by decide)) rfl rfl rfl rfl (Nat.le_of_ble_eq_true rfl) dX11_change_76 ⟨by decide, by decide⟩) (fun rv uu hp => ?_)
              rw [hp.1, hp.2]
              refine j_if_eq (tgt := 84) C (P := True) dX11_change_79 (by decide) (by decide) (fun z => ?_) (fun z => ?_)
              · refine j_aload_n C dX11_change_84 rfl 1 rfl ?_
                have hb85 : M 31 22 ≤ 60 := hB 31 22 rfl
                refine j_getI C hwX11 31 0 22 (MR.in0 hM (by decide) (by decide)) rfl rfl (by decide) rfl (nI (M 31 22)) (hM.1 31 22 rfl) hL173 dX11_change_85 ?_
                refine j_bipush C (nI 60) dX11_change_88 (by decide) ?_
                refine j_icmp_ne (tgt := 95) C dX11_change_90 (by decide) (nI_eq (by omega) (by omega)) (fun h90 => ?_) (fun h90 => ?_)
                · refine j_aload_n C dX11_change_95 rfl 1 rfl ?_
                  refine j_getV C hwX11 31 0 20 (MR.in0 hM (by decide) (by decide)) rfl rfl (by decide) rfl 0 (hM.2.2.2 20 rfl) hL61 dX11_change_96 ?_
                  refine j_aload_n C dX11_change_99 rfl 1 rfl ?_
                  have hb100 : M 31 22 ≤ 60 := hB 31 22 rfl
                  refine j_getI C hwX11 31 0 22 (MR.in0 hM (by decide) (by decide)) rfl rfl (by decide) rfl (nI (M 31 22)) (hM.1 31 22 rfl) hL173 dX11_change_100 ?_
                  refine j_iload_n C dX11_change_103 rfl 2 rfl ?_
                  refine j_iast C 45 0 (M 31 22) (MR.in0 hM (by decide) (by decide)) rfl rfl 60 (hM.2.2.1 45 (by decide) (by decide)) (by omega) (by omega) (nI lo) rfl dX11_change_104 ?_
                  have hM_9 := MR.set (t := 45) (k := (M 31 22)) (x := lo) (v := (nI lo)) hM rfl
                  have hs_10 := Same.sI (t := 45) (i := 0) (k := (M 31 22)) (x := (nI lo)) hs0 (by decide)
                  refine j_aload_n C dX11_change_105 rfl 1 rfl ?_
                  refine j_getV C hwX11 31 0 21 (MR.in0 hM_9 (by decide) (by decide)) rfl rfl (by decide) rfl 0 (hM_9.2.2.2 21 rfl) hL64 dX11_change_106 ?_
                  refine j_aload_n C dX11_change_109 rfl 1 rfl ?_
                  have hb110 : M 31 22 ≤ 60 := hB 31 22 rfl
                  refine j_getI C hwX11 31 0 22 (MR.in0 hM_9 (by decide) (by decide)) rfl rfl (by decide) rfl (nI (M 31 22)) ((hM_9.1 31 22 rfl).trans (congrArg (menc 31) (mS_ne (Or.inl (by decide))))) hL173 dX11_change_110 ?_
                  refine j_iload_n C dX11_change_113 rfl 3 rfl ?_
                  refine j_iast C 46 0 (M 31 22) (MR.in0 hM_9 (by decide) (by decide)) rfl rfl 60 (hM_9.2.2.1 46 (by decide) (by decide)) (by omega) (by omega) (nI hi) rfl dX11_change_114 ?_
                  have hM_11 := MR.set (t := 46) (k := (M 31 22)) (x := hi) (v := (nI hi)) hM_9 rfl
                  have hs_12 := Same.sI (t := 46) (i := 0) (k := (M 31 22)) (x := (nI hi)) hs_10 (by decide)
                  refine j_aload_n C dX11_change_115 rfl 1 rfl ?_
                  refine j_dup C dX11_change_116 rfl ?_
                  have hb117 : M 31 22 ≤ 60 := hB 31 22 rfl
                  refine j_getI C hwX11 31 0 22 (MR.in0 hM_11 (by decide) (by decide)) rfl rfl (by decide) rfl (nI (M 31 22)) ((hM_11.1 31 22 rfl).trans (congrArg (menc 31) ((mS_ne (Or.inl (by decide))).trans (mS_ne (Or.inl (by decide)))))) hL173 dX11_change_117 ?_
                  refine j_iconst C (nI 1) dX11_change_120 (by decide) ?_
                  refine j_iadd C (nI (M 31 22 + 1)) dX11_change_121 (nI_add _ _) ?_
                  refine j_putI C hwX11 31 0 22 (MR.in0 hM_11 (by decide) (by decide)) rfl rfl (by decide) rfl tyX11 tyX11_ok nmX11 rfl rfl rfl hL173 dX11_change_122 ?_
                  have hM_13 := MR.set (t := 31) (k := 22) (x := (M 31 22 + 1)) (v := (nI (M 31 22 + 1))) hM_11 rfl
                  have hs_14 := Same.sI (t := 31) (i := 0) (k := 22) (x := (nI (M 31 22 + 1))) hs_12 (by decide)
                  refine j_aload_n C dX11_change_125 rfl 1 rfl ?_
                  refine j_getI C hwX11 31 0 22 (MR.in0 hM_13 (by decide) (by decide)) rfl rfl (by decide) rfl (nI (M 31 22 + 1)) ((hM_13.1 31 22 rfl).trans (congrArg (menc 31) (mS_same _ _ _ _))) hL173 dX11_change_126 ?_
                  exact j_iret C hr hlk (⟨hM_13, hs_14, rfl⟩) dX11_change_129
                · omega
              · exact absurd trivial z
            · rw [← hq] at hlo; rw [← hw] at hhi; first | omega | exact h48.elim | exact h52.elim
    refine j_aload_n C dX11_change_24 rfl 1 rfl ?_
    have hb25 : M 31 5 ≤ 40 := hB 31 5 rfl
    refine j_getI C hwX11 31 0 5 (MR.in0 hM (by decide) (by decide)) rfl rfl (by decide) rfl (nI (M 31 5)) (hM.1 31 5 rfl) hL83 dX11_change_25 ?_
    refine j_bipush C (nI 20) dX11_change_28 (by decide) ?_
    refine j_icmp_ge (tgt := 37) C dX11_change_30 (by decide) (nI_leI (by omega) (by omega)) (fun h30 => ?_) (fun h30 => ?_)
    · refine j_aload_n C dX11_change_37 rfl 1 rfl ?_
      have hb38 : M 31 5 ≤ 40 := hB 31 5 rfl
      refine j_getI C hwX11 31 0 5 (MR.in0 hM (by decide) (by decide)) rfl rfl (by decide) rfl (nI (M 31 5)) (hM.1 31 5 rfl) hL83 dX11_change_38 ?_
      refine j_bipush C (nI 20) dX11_change_41 (by decide) ?_
      refine j_isub C (nI (M 31 5 - 20)) dX11_change_43 (pk_sub (by omega)) ?_
      refine j_lv [1, 2, 3, 0] rfl ?_
      exact lb44 (M 31 5 - 20) (by unfold hmN; rw [if_neg (by omega)])
    · refine j_iconst C (nI 0) dX11_change_33 (by decide) ?_
      refine j_goto (tgt := 44) C dX11_change_34 (by decide) ?_
      refine j_lv [1, 2, 3, 0] rfl ?_
      exact lb44 0 (by unfold hmN; rw [if_pos (by omega)])
  have hb6 : M 31 5 ≤ 40 := hB 31 5 rfl
  refine j_getI C hwX11 31 0 5 (MR.in0 hM (by decide) (by decide)) rfl rfl (by decide) rfl (nI (M 31 5)) (hM.1 31 5 rfl) hL83 dX11_change_6 ?_
  refine j_bipush C (nI 20) dX11_change_9 (by decide) ?_
  refine j_icmp_ge (tgt := 21) C dX11_change_11 (by decide) (nI_leI (by omega) (by omega)) (fun h11 => ?_) (fun h11 => ?_)
  · refine j_bipush C (nI 20) dX11_change_21 (by decide) ?_
    exact lb23 20 (by unfold lmN; rw [if_neg (by omega)])
  · refine j_aload_n C dX11_change_14 rfl 0 rfl ?_
    have hb15 : M 31 5 ≤ 40 := hB 31 5 rfl
    refine j_getI C hwX11 31 0 5 (MR.in0 hM (by decide) (by decide)) rfl rfl (by decide) rfl (nI (M 31 5)) (hM.1 31 5 rfl) hL83 dX11_change_15 ?_
    refine j_goto (tgt := 23) C dX11_change_18 (by decide) ?_
    exact lb23 (M 31 5) (by unfold lmN; rw [if_pos (by omega)])

set_option maxHeartbeats 4000000 in
set_option maxRecDepth 100000 in
theorem c_X11_has (l : Launch) (D : va_G) (cy : Nat → ClassId) (base : Nat) (Λ : LY) (σ : HS) (M : MM) (hM : MR Λ σ M) (hB : MBd M) (k r : Nat) (hk : k < 60) (hr0 : r < 40) : Met l yX11_has wsX11_has ({ frames := 4, cells := 0, slots := 0, locals := 60 }) (va_Pc [.ref (gA Λ 31 0), .int (nI k), .int (nI r)] (Wd D cy base Λ σ)) (va_Qi (fun v u => v = bI (memB M k r) ∧ u = σ) (Wd D cy base Λ) (Ab base)) 0 0 (Ab base) := by
  refine j_start (cc := cX11_has) (nL := 3) (ret := (some .boolean)) (lv := [(0, .ref (gA Λ 31 0)), (1, .int (nI k)), (2, .int (nI r))]) (by decide) rfl (Nat.le_of_ble_eq_true rfl) rfl ?_
  intro p e s m below meth c C hr hlk hnm
  have C : Cx p s m ([.ref (gA Λ 31 0), .int (nI k), .int (nI r)] : List Value).toArray c cX11_has 3 RX11 wsX11_has D cy base := C
  have hts := C.2.2.2.2.1
  have hwX11 : ∀ w ∈ u_ws RX11 TX11 26, w ∈ wsX11_has := by decide +kernel
  have hM61 : (Cond.fieldLink RX11 61 (TX11 20).1 (TX11 20).2.1 (TX11 20).2.2.1).before ([.ref (gA Λ 31 0), .int (nI k), .int (nI r)] : List Value).toArray s = true := hts (.fieldLink RX11 61 "CodeRoomsModel" "lows" "[I") (by decide +kernel)
  have hL61 : FL RX11 61 (TX11 20).1 (TX11 20).2.1 (TX11 20).2.2.1 ([.ref (gA Λ 31 0), .int (nI k), .int (nI r)] : List Value).toArray s := Or.inl hM61
  have hM64 : (Cond.fieldLink RX11 64 (TX11 21).1 (TX11 21).2.1 (TX11 21).2.2.1).before ([.ref (gA Λ 31 0), .int (nI k), .int (nI r)] : List Value).toArray s = true := hts (.fieldLink RX11 64 "CodeRoomsModel" "highs" "[I") (by decide +kernel)
  have hL64 : FL RX11 64 (TX11 21).1 (TX11 21).2.1 (TX11 21).2.2.1 ([.ref (gA Λ 31 0), .int (nI k), .int (nI r)] : List Value).toArray s := Or.inl hM64
  refine j_iload_n C dX11_has_0 rfl 2 rfl ?_
  refine j_bipush C (nI 20) dX11_has_1 (by decide) ?_
  refine j_icmp_ge (tgt := 17) C dX11_has_3 (by decide) (nI_leI (by omega) (by omega)) (fun h3 => ?_) (fun h3 => ?_)
  · refine j_aload_n C dX11_has_17 rfl 0 rfl ?_
    refine j_getV C hwX11 31 0 21 (MR.in0 hM (by decide) (by decide)) rfl rfl (by decide) rfl 0 (hM.2.2.2 21 rfl) hL64 dX11_has_18 ?_
    refine j_iload_n C dX11_has_21 rfl 1 rfl ?_
    have hb22 : M 46 k ≤ 1048575 := hB 46 k (decide_eq_true (show k < 60 by omega))
    refine j_iald C 46 0 k (MR.in0 hM (by decide) (by decide)) rfl rfl 60 (hM.2.2.1 46 (by decide) (by decide)) (by omega) (by omega) (nI (M 46 k)) (hM.1 46 k (decide_eq_true (show k < 60 by omega))) dX11_has_22 ?_
    refine j_iload_n C dX11_has_23 rfl 2 rfl ?_
    refine j_bipush C (nI 20) dX11_has_24 (by decide) ?_
    refine j_isub C (nI (r - 20)) dX11_has_26 (pk_sub (by omega)) ?_
    refine j_ishr C (nI (M 46 k / 2 ^ (r - 20))) dX11_has_27 (shrN (by omega) (by omega)) ?_
    refine j_iconst C (nI 1) dX11_has_28 (by decide) ?_
    refine j_iand C (nI (M 46 k / 2 ^ (r - 20) % 2)) dX11_has_29 (and1 _) ?_
    refine j_iconst C (nI 1) dX11_has_30 (by decide) ?_
    refine j_icmp_ne (tgt := 38) C dX11_has_31 (by decide) bitN (fun h31 => ?_) (fun h31 => ?_)
    · refine j_iconst C (nI 0) dX11_has_38 (by decide) ?_
      exact j_zret C (by first | rfl | exact nz_b _ | exact nz_n (by omega)) hr hlk (⟨rt0 (by unfold memB; rw [if_neg (by omega)]; simpa using h31), rfl⟩) dX11_has_39
    · refine j_iconst C (nI 1) dX11_has_34 (by decide) ?_
      refine j_goto (tgt := 39) C dX11_has_35 (by decide) ?_
      exact j_zret C (by first | rfl | exact nz_b _ | exact nz_n (by omega)) hr hlk (⟨rt1 (by unfold memB; rw [if_neg (by omega)]; exact h31), rfl⟩) dX11_has_39
  · refine j_aload_n C dX11_has_6 rfl 0 rfl ?_
    refine j_getV C hwX11 31 0 20 (MR.in0 hM (by decide) (by decide)) rfl rfl (by decide) rfl 0 (hM.2.2.2 20 rfl) hL61 dX11_has_7 ?_
    refine j_iload_n C dX11_has_10 rfl 1 rfl ?_
    have hb11 : M 45 k ≤ 1048575 := hB 45 k (decide_eq_true (show k < 60 by omega))
    refine j_iald C 45 0 k (MR.in0 hM (by decide) (by decide)) rfl rfl 60 (hM.2.2.1 45 (by decide) (by decide)) (by omega) (by omega) (nI (M 45 k)) (hM.1 45 k (decide_eq_true (show k < 60 by omega))) dX11_has_11 ?_
    refine j_iload_n C dX11_has_12 rfl 2 rfl ?_
    refine j_ishr C (nI (M 45 k / 2 ^ r)) dX11_has_13 (shrN (by omega) (by omega)) ?_
    refine j_goto (tgt := 28) C dX11_has_14 (by decide) ?_
    refine j_iconst C (nI 1) dX11_has_28 (by decide) ?_
    refine j_iand C (nI (M 45 k / 2 ^ r % 2)) dX11_has_29 (and1 _) ?_
    refine j_iconst C (nI 1) dX11_has_30 (by decide) ?_
    refine j_icmp_ne (tgt := 38) C dX11_has_31 (by decide) bitN (fun h31 => ?_) (fun h31 => ?_)
    · refine j_iconst C (nI 0) dX11_has_38 (by decide) ?_
      exact j_zret C (by first | rfl | exact nz_b _ | exact nz_n (by omega)) hr hlk (⟨rt0 (by unfold memB; rw [if_pos (by omega)]; simpa using h31), rfl⟩) dX11_has_39
    · refine j_iconst C (nI 1) dX11_has_34 (by decide) ?_
      refine j_goto (tgt := 39) C dX11_has_35 (by decide) ?_
      exact j_zret C (by first | rfl | exact nz_b _ | exact nz_n (by omega)) hr hlk (⟨rt1 (by unfold memB; rw [if_pos (by omega)]; exact h31), rfl⟩) dX11_has_39

set_option maxHeartbeats 4000000 in
set_option maxRecDepth 100000 in
theorem c_malone (l : Launch) (D : va_G) (cy : Nat → ClassId) (base : Nat) (Λ : LY) (σ : HS) (M : MM) (hM0 : MR0 Λ σ M) (h00 : M 31 0 = 0) (hB : MBd M)  : Met l yX11_alone wsX11_alone ({ frames := 16, cells := 0, slots := 0, locals := 240 }) (va_Pc [.ref (gA Λ 31 0)] (Wd D cy base Λ σ)) (va_Qi (fun v u => MR Λ u M ∧ Same nMo σ u ∧ v = nI (fb_ct (alnB M) (M 31 22))) (Wd D cy base Λ) (Ab base)) 0 0 (Ab base) := by
  refine j_start (cc := cX11_alone) (nL := 5) (ret := (some .int)) (lv := [(0, .ref (gA Λ 31 0))]) (by decide) rfl (Nat.le_of_ble_eq_true rfl) rfl ?_
  intro p e s m below meth c C hr hlk hnm
  have C : Cx p s m ([.ref (gA Λ 31 0)] : List Value).toArray c cX11_alone 5 RX11 wsX11_alone D cy base := C
  have hts := C.2.2.2.2.1
  have hwX11 : ∀ w ∈ u_ws RX11 TX11 26, w ∈ wsX11_alone := by decide +kernel
  have hM36 : (Cond.fieldLink RX11 36 (TX11 11).1 (TX11 11).2.1 (TX11 11).2.2.1).before ([.ref (gA Λ 31 0)] : List Value).toArray s = true := hts (.fieldLink RX11 36 "CodeRoomsModel" "isHub" "[Z") (by decide +kernel)
  have hL36 : FL RX11 36 (TX11 11).1 (TX11 11).2.1 (TX11 11).2.2.1 ([.ref (gA Λ 31 0)] : List Value).toArray s := Or.inl hM36
  have hM40 : (Cond.fieldLink RX11 40 (TX11 12).1 (TX11 12).2.1 (TX11 12).2.2.1).before ([.ref (gA Λ 31 0)] : List Value).toArray s = true := hts (.fieldLink RX11 40 "CodeRoomsModel" "roomOf" "[I") (by decide +kernel)
  have hL40 : FL RX11 40 (TX11 12).1 (TX11 12).2.1 (TX11 12).2.2.1 ([.ref (gA Λ 31 0)] : List Value).toArray s := Or.inl hM40
  have hM73 : (Cond.fieldLink RX11 73 (TX11 0).1 (TX11 0).2.1 (TX11 0).2.2.1).before ([.ref (gA Λ 31 0)] : List Value).toArray s = true := hts (.fieldLink RX11 73 "CodeRoomsModel" "thrown" "I") (by decide +kernel)
  have hL73 : FL RX11 73 (TX11 0).1 (TX11 0).2.1 (TX11 0).2.2.1 ([.ref (gA Λ 31 0)] : List Value).toArray s := Or.inl hM73
  have hM83 : (Cond.fieldLink RX11 83 (TX11 5).1 (TX11 5).2.1 (TX11 5).2.2.1).before ([.ref (gA Λ 31 0)] : List Value).toArray s = true := hts (.fieldLink RX11 83 "CodeRoomsModel" "many" "I") (by decide +kernel)
  have hL83 : FL RX11 83 (TX11 5).1 (TX11 5).2.1 (TX11 5).2.2.1 ([.ref (gA Λ 31 0)] : List Value).toArray s := Or.inl hM83
  have hM173 : (Cond.fieldLink RX11 173 (TX11 22).1 (TX11 22).2.1 (TX11 22).2.2.1).before ([.ref (gA Λ 31 0)] : List Value).toArray s = true := hts (.fieldLink RX11 173 "CodeRoomsModel" "changes" "I") (by decide +kernel)
  have hL173 : FL RX11 173 (TX11 22).1 (TX11 22).2.1 (TX11 22).2.2.1 ([.ref (gA Λ 31 0)] : List Value).toArray s := Or.inl hM173
  have hn : M 31 5 ≤ 40 := hB 31 5 rfl
  have hc60 : M 31 22 ≤ 60 := hB 31 22 rfl
  refine j_aload_n C dX11_alone_0 rfl 0 rfl ?_
  refine j_iconst C (nI 0) dX11_alone_1 (by decide) ?_
  refine j_putI C hwX11 31 0 0 (MR0.in0 hM0) rfl rfl (by decide) rfl tyX11 tyX11_ok nmX11 rfl rfl rfl hL73 dX11_alone_2 ?_
  have hM := MR0.start hM0 h00
  have hs0 : Same nMo σ (sI σ 31 0 0 (nI 0)) := Same.sI Same.rf (by decide)
  generalize sI σ 31 0 0 (nI 0) = σ0 at hM hs0 ⊢
  refine j_iconst C (nI 0) dX11_alone_5 (by decide) ?_
  refine j_istore_n C [(1, .int (nI 0)), (0, .ref (gA Λ 31 0))] dX11_alone_6 rfl (by decide) rfl ?_
  refine j_iconst C (nI 0) dX11_alone_7 (by decide) ?_
  refine j_istore_n C [(2, .int (nI 0)), (1, .int (nI 0)), (0, .ref (gA Λ 31 0))] dX11_alone_8 rfl (by decide) rfl ?_
  have lb9 : ∀ (fu : Nat) (a k : Nat), (M 31 22 - k) < fu → (k ≤ M 31 22) → (a = fb_ct (alnB M) k) → J p l e ({ frames := 16, cells := 0, slots := 0, locals := 240 }) s m ([.ref (gA Λ 31 0)] : List Value).toArray below meth c 5 D cy base (MQ below (va_Qi (fun v u => MR Λ u M ∧ Same nMo σ u ∧ v = nI (fb_ct (alnB M) (M 31 22))) (Wd D cy base Λ) (Ab base)) ([.ref (gA Λ 31 0)] : List Value).toArray s 0 0 (Ab base)) 0 0 Λ 9 [(0, .ref (gA Λ 31 0)), (1, .int (nI a)), (2, .int (nI k))] [] σ0 := by
    intro fu
    induction fu with
    | zero => intro a k hfu; exact absurd hfu (Nat.not_lt_zero _)
    | succ fu ih =>
      intro a k hfu hk ha
      have ih9 := ih
      refine j_iload_n C dX11_alone_9 rfl 2 rfl ?_
      refine j_aload_n C dX11_alone_10 rfl 0 rfl ?_
      have hb11 : M 31 22 ≤ 60 := hB 31 22 rfl
      refine j_getI C hwX11 31 0 22 (MR.in0 hM (by decide) (by decide)) rfl rfl (by decide) rfl (nI (M 31 22)) (hM.1 31 22 rfl) hL173 dX11_alone_11 ?_
      refine j_icmp_ge (tgt := 99) C dX11_alone_14 (by decide) (nI_leI (by omega) (by omega)) (fun h14 => ?_) (fun h14 => ?_)
      · refine j_iload_n C dX11_alone_99 rfl 1 rfl ?_
        exact j_iret C hr hlk (⟨hM, hs0, (by rw [ha, show k = M 31 22 by omega])⟩) dX11_alone_100
      · refine j_iconst C (nI 0) dX11_alone_17 (by decide) ?_
        refine j_istore_n C [(3, .int (nI 0)), (0, .ref (gA Λ 31 0)), (1, .int (nI a)), (2, .int (nI k))] dX11_alone_18 rfl (by decide) rfl ?_
        refine j_iconst C (nI 0) dX11_alone_19 (by decide) ?_
        refine j_istore C [(4, .int (nI 0)), (3, .int (nI 0)), (0, .ref (gA Λ 31 0)), (1, .int (nI a)), (2, .int (nI k))] dX11_alone_20 (by decide) rfl ?_
        have lb22 : ∀ (fu : Nat) (q r : Nat), (M 31 5 - r) < fu → (r ≤ M 31 5) → (q = alb M k r) → J p l e ({ frames := 16, cells := 0, slots := 0, locals := 240 }) s m ([.ref (gA Λ 31 0)] : List Value).toArray below meth c 5 D cy base (MQ below (va_Qi (fun v u => MR Λ u M ∧ Same nMo σ u ∧ v = nI (fb_ct (alnB M) (M 31 22))) (Wd D cy base Λ) (Ab base)) ([.ref (gA Λ 31 0)] : List Value).toArray s 0 0 (Ab base)) 0 0 Λ 22 [(0, .ref (gA Λ 31 0)), (1, .int (nI a)), (2, .int (nI k)), (3, .int (nI q)), (4, .int (nI r))] [] σ0 := by
          intro fu
          induction fu with
          | zero => intro q r hfu; exact absurd hfu (Nat.not_lt_zero _)
          | succ fu ih =>
            intro q r hfu hr0 hq
            have hq64 : q < 64 := by rw [hq]; exact alb_lt hB (by omega)
            have ih22 := ih
            refine j_iload C dX11_alone_22 4 rfl ?_
            refine j_aload_n C dX11_alone_24 rfl 0 rfl ?_
            have hb25 : M 31 5 ≤ 40 := hB 31 5 rfl
            refine j_getI C hwX11 31 0 5 (MR.in0 hM (by decide) (by decide)) rfl rfl (by decide) rfl (nI (M 31 5)) (hM.1 31 5 rfl) hL83 dX11_alone_25 ?_
            refine j_icmp_ge (tgt := 73) C dX11_alone_28 (by decide) (nI_leI (by omega) (by omega)) (fun h28 => ?_) (fun h28 => ?_)
            · refine j_iload_n C dX11_alone_73 rfl 1 rfl ?_
              refine j_iload_n C dX11_alone_74 rfl 3 rfl ?_
              refine j_if_eq (tgt := 90) C dX11_alone_75 (by decide) (nJ_eq0 (by omega)) (fun h75 => ?_) (fun h75 => ?_)
              · refine j_iconst C (nI 0) dX11_alone_90 (by decide) ?_
                refine j_iadd C (nI (a + 0)) dX11_alone_91 (nI_add _ _) ?_
                refine j_istore_n C [(1, .int (nI (a + 0))), (0, .ref (gA Λ 31 0)), (2, .int (nI k)), (3, .int (nI q)), (4, .int (nI r))] dX11_alone_92 rfl (by decide) rfl ?_
                refine j_iinc C [(2, .int (nI (k + 1))), (1, .int (nI (a + 0))), (0, .ref (gA Λ 31 0)), (3, .int (nI q)), (4, .int (nI r))] (nI (k + 1)) dX11_alone_93 2 rfl (nI_add _ 1) (by decide) rfl ?_
                refine j_goto (tgt := 9) C dX11_alone_96 (by decide) ?_
                refine j_lv [2, 1, 0] rfl ?_
                exact ih9 (a + 0) (k + 1) (by omega) (by omega) (by rw [fb_ct_succ, ← ha, show alnB M k = false from decide_eq_false (by rw [← show r = M 31 5 by omega, ← hq]; exact fun z => z.1 h75)]; rfl)
              · refine j_iload_n C dX11_alone_78 rfl 3 rfl ?_
                refine j_iload_n C dX11_alone_79 rfl 3 rfl ?_
                refine j_iconst C (nI 1) dX11_alone_80 (by decide) ?_
                refine j_isub C (nI (q - 1)) dX11_alone_81 (pk_sub (by omega)) ?_
                refine j_iand C (nI (q &&& (q - 1))) dX11_alone_82 (fa_and _ _) ?_
                have hqa : q &&& (q - 1) ≤ q := Nat.and_le_left
                refine j_if_ne (tgt := 90) C dX11_alone_83 (by decide) (nJ_ne0 (by omega)) (fun h83 => ?_) (fun h83 => ?_)
                · refine j_iconst C (nI 0) dX11_alone_90 (by decide) ?_
                  refine j_iadd C (nI (a + 0)) dX11_alone_91 (nI_add _ _) ?_
                  refine j_istore_n C [(1, .int (nI (a + 0))), (0, .ref (gA Λ 31 0)), (2, .int (nI k)), (3, .int (nI q)), (4, .int (nI r))] dX11_alone_92 rfl (by decide) rfl ?_
                  refine j_iinc C [(2, .int (nI (k + 1))), (1, .int (nI (a + 0))), (0, .ref (gA Λ 31 0)), (3, .int (nI q)), (4, .int (nI r))] (nI (k + 1)) dX11_alone_93 2 rfl (nI_add _ 1) (by decide) rfl ?_
                  refine j_goto (tgt := 9) C dX11_alone_96 (by decide) ?_
                  refine j_lv [2, 1, 0] rfl ?_
                  exact ih9 (a + 0) (k + 1) (by omega) (by omega) (by rw [fb_ct_succ, ← ha, show alnB M k = false from decide_eq_false (by rw [← show r = M 31 5 by omega, ← hq]; exact fun z => h83 z.2)]; rfl)
                · refine j_iconst C (nI 1) dX11_alone_86 (by decide) ?_
                  refine j_goto (tgt := 91) C dX11_alone_87 (by decide) ?_
                  refine j_iadd C (nI (a + 1)) dX11_alone_91 (nI_add _ _) ?_
                  refine j_istore_n C [(1, .int (nI (a + 1))), (0, .ref (gA Λ 31 0)), (2, .int (nI k)), (3, .int (nI q)), (4, .int (nI r))] dX11_alone_92 rfl (by decide) rfl ?_
                  refine j_iinc C [(2, .int (nI (k + 1))), (1, .int (nI (a + 1))), (0, .ref (gA Λ 31 0)), (3, .int (nI q)), (4, .int (nI r))] (nI (k + 1)) dX11_alone_93 2 rfl (nI_add _ 1) (by decide) rfl ?_
                  refine j_goto (tgt := 9) C dX11_alone_96 (by decide) ?_
                  refine j_lv [2, 1, 0] rfl ?_
                  exact ih9 (a + 1) (k + 1) (by omega) (by omega) (by rw [fb_ct_succ, ← ha, show alnB M k = true from decide_eq_true (by rw [← show r = M 31 5 by omega, ← hq]; exact ⟨h75, h83⟩)]; rfl)
            · refine j_iload_n C dX11_alone_31 rfl 3 rfl ?_
              refine j_aload_n C dX11_alone_32 rfl 0 rfl ?_
              refine j_iload_n C dX11_alone_33 rfl 2 rfl ?_
              refine j_iload C dX11_alone_34 4 rfl ?_
              refine c_i0 C (r_V C 31 0 [.int (nI k), .int (nI r)] (c_X11_has l D cy base Λ σ0 M hM hB k r (by omega) (by omega)) (cwV 2 hts gX11_alone_X11_has rfl rfl rfl (by decide +kernel) ⟨by decide, by decide⟩) (MR.in0 hM (by decide) (by decide)) rfl rfl rfl rfl (Nat.le_of_ble_eq_true rfl) dX11_alone_36 ⟨by decide, by decide⟩) (fun rv uu hp => ?_)
              rw [hp.1, hp.2]
              refine j_ifeq_b (tgt := 64) C dX11_alone_39 (by decide) (fun h39 => ?_) (fun h39 => ?_)
              · refine j_iconst C (nI 0) dX11_alone_64 (by decide) ?_
                refine j_ior C (nI (q ||| 0)) dX11_alone_65 (fa_or _ _) ?_
                refine j_istore_n C [(3, .int (nI (q ||| 0))), (0, .ref (gA Λ 31 0)), (1, .int (nI a)), (2, .int (nI k)), (4, .int (nI r))] dX11_alone_66 rfl (by decide) rfl ?_
                refine j_iinc C [(4, .int (nI (r + 1))), (3, .int (nI (q ||| 0))), (0, .ref (gA Λ 31 0)), (1, .int (nI a)), (2, .int (nI k))] (nI (r + 1)) dX11_alone_67 4 rfl (nI_add _ 1) (by decide) rfl ?_
                refine j_goto (tgt := 22) C dX11_alone_70 (by decide) ?_
                refine j_lv [2, 3, 4, 1, 0] rfl ?_
                exact ih22 (q ||| 0) (r + 1) (by omega) (by omega) (by show _ = alb M k r ||| (if memB M k r = true ∧ M 37 r = 0 then 2 ^ M 38 r else 0); rw [if_neg (fun z => absurd (h39.symm.trans z.1) (by decide)), hq])
              · refine j_aload_n C dX11_alone_42 rfl 0 rfl ?_
                refine j_getV C hwX11 31 0 11 (MR.in0 hM (by decide) (by decide)) rfl rfl (by decide) rfl 0 (hM.2.2.2 11 rfl) hL36 dX11_alone_43 ?_
                refine j_iload C dX11_alone_46 4 rfl ?_
                have hb48 : M 37 r ≤ 1 := hB 37 r (decide_eq_true (show r < 40 by omega))
                refine j_zald C 37 0 r (MR.in0 hM (by decide) (by decide)) rfl rfl 40 (hM.2.2.1 37 (by decide) (by decide)) (by omega) (by omega) (nI (M 37 r)) (hM.1 37 r (decide_eq_true (show r < 40 by omega))) dX11_alone_48 ?_
                refine j_if_ne (tgt := 64) C dX11_alone_49 (by decide) (nJ_ne0 (by omega)) (fun h49 => ?_) (fun h49 => ?_)
                · refine j_iconst C (nI 0) dX11_alone_64 (by decide) ?_
                  refine j_ior C (nI (q ||| 0)) dX11_alone_65 (fa_or _ _) ?_
                  refine j_istore_n C [(3, .int (nI (q ||| 0))), (0, .ref (gA Λ 31 0)), (1, .int (nI a)), (2, .int (nI k)), (4, .int (nI r))] dX11_alone_66 rfl (by decide) rfl ?_
                  refine j_iinc C [(4, .int (nI (r + 1))), (3, .int (nI (q ||| 0))), (0, .ref (gA Λ 31 0)), (1, .int (nI a)), (2, .int (nI k))] (nI (r + 1)) dX11_alone_67 4 rfl (nI_add _ 1) (by decide) rfl ?_
                  refine j_goto (tgt := 22) C dX11_alone_70 (by decide) ?_
                  refine j_lv [2, 3, 4, 1, 0] rfl ?_
                  exact ih22 (q ||| 0) (r + 1) (by omega) (by omega) (by show _ = alb M k r ||| (if memB M k r = true ∧ M 37 r = 0 then 2 ^ M 38 r else 0); rw [if_neg (fun z => h49 z.2), hq])
                · refine j_iconst C (nI 1) dX11_alone_52 (by decide) ?_
                  refine j_aload_n C dX11_alone_53 rfl 0 rfl ?_
                  refine j_getV C hwX11 31 0 12 (MR.in0 hM (by decide) (by decide)) rfl rfl (by decide) rfl 0 (hM.2.2.2 12 rfl) hL40 dX11_alone_54 ?_
                  refine j_iload C dX11_alone_57 4 rfl ?_
                  have hb59 : M 38 r ≤ 5 := hB 38 r (decide_eq_true (show r < 40 by omega))
                  refine j_iald C 38 0 r (MR.in0 hM (by decide) (by decide)) rfl rfl 40 (hM.2.2.1 38 (by decide) (by decide)) (by omega) (by omega) (nI (M 38 r)) (hM.1 38 r (decide_eq_true (show r < 40 by omega))) dX11_alone_59 ?_
                  refine j_ishl C (nI (2 ^ M 38 r)) dX11_alone_60 (shl1 (by omega)) ?_
                  refine j_goto (tgt := 65) C dX11_alone_61 (by decide) ?_
                  refine j_ior C (nI (q ||| (2 ^ M 38 r))) dX11_alone_65 (fa_or _ _) ?_
                  refine j_istore_n C [(3, .int (nI (q ||| (2 ^ M 38 r)))), (0, .ref (gA Λ 31 0)), (1, .int (nI a)), (2, .int (nI k)), (4, .int (nI r))] dX11_alone_66 rfl (by decide) rfl ?_
                  refine j_iinc C [(4, .int (nI (r + 1))), (3, .int (nI (q ||| (2 ^ M 38 r)))), (0, .ref (gA Λ 31 0)), (1, .int (nI a)), (2, .int (nI k))] (nI (r + 1)) dX11_alone_67 4 rfl (nI_add _ 1) (by decide) rfl ?_
                  refine j_goto (tgt := 22) C dX11_alone_70 (by decide) ?_
                  refine j_lv [2, 3, 4, 1, 0] rfl ?_
                  exact ih22 (q ||| (2 ^ M 38 r)) (r + 1) (by omega) (by omega) (by show _ = alb M k r ||| (if memB M k r = true ∧ M 37 r = 0 then 2 ^ M 38 r else 0); rw [if_pos ⟨h39, h49⟩, hq])
        refine j_lv [2, 3, 4, 1, 0] rfl ?_
        exact lb22 _ 0 0 (Nat.lt_succ_self _) (by omega) rfl
  refine j_lv [2, 1, 0] rfl ?_
  exact lb9 _ 0 0 (Nat.lt_succ_self _) (by omega) rfl

set_option maxHeartbeats 4000000 in
set_option maxRecDepth 100000 in
theorem c_mkeep (l : Launch) (D : va_G) (cy : Nat → ClassId) (base : Nat) (Λ : LY) (σ : HS) (M : MM) (hM0 : MR0 Λ σ M) (h00 : M 31 0 = 0) (hB : MBd M)  : Met l yX11_keep wsX11_keep ({ frames := 16, cells := 0, slots := 0, locals := 240 }) (va_Pc [.ref (gA Λ 31 0)] (Wd D cy base Λ σ)) (va_Qi (fun v u => MR Λ u (kpTo M 40) ∧ Same nMo σ u ∧ v = nI (fb_ct (fun r => decide (kpV M r ≠ 0)) 40)) (Wd D cy base Λ) (Ab base)) 0 0 (Ab base) := by
  refine j_start (cc := cX11_keep) (nL := 3) (ret := (some .int)) (lv := [(0, .ref (gA Λ 31 0))]) (by decide) rfl (Nat.le_of_ble_eq_true rfl) rfl ?_
  intro p e s m below meth c C hr hlk hnm
  have C : Cx p s m ([.ref (gA Λ 31 0)] : List Value).toArray c cX11_keep 3 RX11 wsX11_keep D cy base := C
  have hts := C.2.2.2.2.1
  have hwX11 : ∀ w ∈ u_ws RX11 TX11 26, w ∈ wsX11_keep := by decide +kernel
  have hM36 : (Cond.fieldLink RX11 36 (TX11 11).1 (TX11 11).2.1 (TX11 11).2.2.1).before ([.ref (gA Λ 31 0)] : List Value).toArray s = true := hts (.fieldLink RX11 36 "CodeRoomsModel" "isHub" "[Z") (by decide +kernel)
  have hL36 : FL RX11 36 (TX11 11).1 (TX11 11).2.1 (TX11 11).2.2.1 ([.ref (gA Λ 31 0)] : List Value).toArray s := Or.inl hM36
  have hM40 : (Cond.fieldLink RX11 40 (TX11 12).1 (TX11 12).2.1 (TX11 12).2.2.1).before ([.ref (gA Λ 31 0)] : List Value).toArray s = true := hts (.fieldLink RX11 40 "CodeRoomsModel" "roomOf" "[I") (by decide +kernel)
  have hL40 : FL RX11 40 (TX11 12).1 (TX11 12).2.1 (TX11 12).2.2.1 ([.ref (gA Λ 31 0)] : List Value).toArray s := Or.inl hM40
  have hM67 : (Cond.fieldLink RX11 67 (TX11 24).1 (TX11 24).2.1 (TX11 24).2.2.1).before ([.ref (gA Λ 31 0)] : List Value).toArray s = true := hts (.fieldLink RX11 67 "CodeRoomsModel" "keptRoom" "[I") (by decide +kernel)
  have hL67 : FL RX11 67 (TX11 24).1 (TX11 24).2.1 (TX11 24).2.2.1 ([.ref (gA Λ 31 0)] : List Value).toArray s := Or.inl hM67
  have hM73 : (Cond.fieldLink RX11 73 (TX11 0).1 (TX11 0).2.1 (TX11 0).2.2.1).before ([.ref (gA Λ 31 0)] : List Value).toArray s = true := hts (.fieldLink RX11 73 "CodeRoomsModel" "thrown" "I") (by decide +kernel)
  have hL73 : FL RX11 73 (TX11 0).1 (TX11 0).2.1 (TX11 0).2.2.1 ([.ref (gA Λ 31 0)] : List Value).toArray s := Or.inl hM73
  have hM83 : (Cond.fieldLink RX11 83 (TX11 5).1 (TX11 5).2.1 (TX11 5).2.2.1).before ([.ref (gA Λ 31 0)] : List Value).toArray s = true := hts (.fieldLink RX11 83 "CodeRoomsModel" "many" "I") (by decide +kernel)
  have hL83 : FL RX11 83 (TX11 5).1 (TX11 5).2.1 (TX11 5).2.2.1 ([.ref (gA Λ 31 0)] : List Value).toArray s := Or.inl hM83
  have hM179 : (Cond.fieldLink RX11 179 (TX11 23).1 (TX11 23).2.1 (TX11 23).2.2.1).before ([.ref (gA Λ 31 0)] : List Value).toArray s = true := hts (.fieldLink RX11 179 "CodeRoomsModel" "isKept" "Z") (by decide +kernel)
  have hL179 : FL RX11 179 (TX11 23).1 (TX11 23).2.1 (TX11 23).2.2.1 ([.ref (gA Λ 31 0)] : List Value).toArray s := Or.inl hM179
  have hn : M 31 5 ≤ 40 := hB 31 5 rfl
  refine j_aload_n C dX11_keep_0 rfl 0 rfl ?_
  refine j_iconst C (nI 0) dX11_keep_1 (by decide) ?_
  refine j_putI C hwX11 31 0 0 (MR0.in0 hM0) rfl rfl (by decide) rfl tyX11 tyX11_ok nmX11 rfl rfl rfl hL73 dX11_keep_2 ?_
  have hM := MR0.start hM0 h00
  have hs0 : Same nMo σ (sI σ 31 0 0 (nI 0)) := Same.sI Same.rf (by decide)
  generalize sI σ 31 0 0 (nI 0) = σ0 at hM hs0 ⊢
  refine j_aload_n C dX11_keep_5 rfl 0 rfl ?_
  refine j_iconst C (nI 1) dX11_keep_6 (by decide) ?_
  refine j_putI C hwX11 31 0 23 (MR.in0 hM (by decide) (by decide)) rfl rfl (by decide) rfl tyX11 tyX11_ok nmX11 rfl (by first | rfl | exact nz_b _) (by first | rfl | exact fz_b _) hL179 dX11_keep_7 ?_
  have hM_1 := MR.set (t := 31) (k := 23) (x := 1) (v := (nI 1)) hM rfl
  have hs_2 := Same.sI (t := 31) (i := 0) (k := 23) (x := (nI 1)) hs0 (by decide)
  refine j_iconst C (nI 0) dX11_keep_10 (by decide) ?_
  refine j_istore_n C [(1, .int (nI 0)), (0, .ref (gA Λ 31 0))] dX11_keep_11 rfl (by decide) rfl ?_
  refine j_iconst C (nI 0) dX11_keep_12 (by decide) ?_
  refine j_istore_n C [(2, .int (nI 0)), (1, .int (nI 0)), (0, .ref (gA Λ 31 0))] dX11_keep_13 rfl (by decide) rfl ?_
  have lb14 : ∀ (fu : Nat) (σ1 : HS) (a r : Nat), (40 - r) < fu → (r ≤ 40) → (MR Λ σ1 (kpTo M r)) → (Same nMo σ σ1) → (a = fb_ct (fun r => decide (kpV M r ≠ 0)) r) → J p l e ({ frames := 16, cells := 0, slots := 0, locals := 240 }) s m ([.ref (gA Λ 31 0)] : List Value).toArray below meth c 3 D cy base (MQ below (va_Qi (fun v u => MR Λ u (kpTo M 40) ∧ Same nMo σ u ∧ v = nI (fb_ct (fun r => decide (kpV M r ≠ 0)) 40)) (Wd D cy base Λ) (Ab base)) ([.ref (gA Λ 31 0)] : List Value).toArray s 0 0 (Ab base)) 0 0 Λ 14 [(0, .ref (gA Λ 31 0)), (1, .int (nI a)), (2, .int (nI r))] [] σ1 := by
    intro fu
    induction fu with
    | zero => intro σ1 a r hfu; exact absurd hfu (Nat.not_lt_zero _)
    | succ fu ih =>
      intro σ1 a r hfu hr0 hM1 hs1 ha
      have ih14 := ih
      refine j_iload_n C dX11_keep_14 rfl 2 rfl ?_
      refine j_bipush C (nI 40) dX11_keep_15 (by decide) ?_
      refine j_icmp_ge (tgt := 76) C dX11_keep_17 (by decide) (nI_leI (by omega) (by omega)) (fun h17 => ?_) (fun h17 => ?_)
      · refine j_iload_n C dX11_keep_76 rfl 1 rfl ?_
        exact j_iret C hr hlk (⟨by rw [show (40 : Nat) = r by omega]; exact hM1, hs1, by rw [ha, show r = 40 by omega]⟩) dX11_keep_77
      · refine j_aload_n C dX11_keep_20 rfl 0 rfl ?_
        refine j_getV C hwX11 31 0 24 (MR.in0 hM1 (by decide) (by decide)) rfl rfl (by decide) rfl 0 (hM1.2.2.2 24 rfl) hL67 dX11_keep_21 ?_
        refine j_iload_n C dX11_keep_24 rfl 2 rfl ?_
        refine j_iload_n C dX11_keep_25 rfl 2 rfl ?_
        refine j_aload_n C dX11_keep_26 rfl 0 rfl ?_
        have hb27 : M 31 5 ≤ 40 := hB 31 5 rfl
        refine j_getI C hwX11 31 0 5 (MR.in0 hM1 (by decide) (by decide)) rfl rfl (by decide) rfl (nI (M 31 5)) ((hM1.1 31 5 rfl).trans (congrArg (menc 31) (kpTo_31 (by decide)))) hL83 dX11_keep_27 ?_
        refine j_icmp_ge (tgt := 51) C dX11_keep_30 (by decide) (nI_leI (by omega) (by omega)) (fun h30 => ?_) (fun h30 => ?_)
        · refine j_iconst C ((-1)) dX11_keep_51 (by decide) ?_
          refine j_iast C 47 0 r (MR.in0 hM1 (by decide) (by decide)) rfl rfl 40 (hM1.2.2.1 47 (by decide) (by decide)) (by omega) (by omega) ((-1)) rfl dX11_keep_52 ?_
          have hM_6 := MR.set (t := 47) (k := r) (x := 0) (v := (-1)) hM1 m1_0.symm
          have hs_7 := Same.sI (t := 47) (i := 0) (k := r) (x := (-1)) hs1 (by decide)
          refine j_iload_n C dX11_keep_53 rfl 1 rfl ?_
          refine j_aload_n C dX11_keep_54 rfl 0 rfl ?_
          refine j_getV C hwX11 31 0 24 (MR.in0 hM_6 (by decide) (by decide)) rfl rfl (by decide) rfl 0 (hM_6.2.2.2 24 rfl) hL67 dX11_keep_55 ?_
          refine j_iload_n C dX11_keep_58 rfl 2 rfl ?_
          refine j_iald C 47 0 r (MR.in0 hM_6 (by decide) (by decide)) rfl rfl 40 (hM_6.2.2.1 47 (by decide) (by decide)) (by omega) (by omega) (nI 0 - 1) ((hM_6.1 47 r (decide_eq_true (show r < 40 by omega))).trans (congrArg (menc 47) (mS_same _ _ _ _))) dX11_keep_59 ?_
          refine j_if_lt (tgt := 67) C dX11_keep_60 (by decide) (m1_lt (by omega)) (fun h60 => ?_) (fun h60 => ?_)
          · refine j_iconst C (nI 0) dX11_keep_67 (by decide) ?_
            refine j_iadd C (nI (a + 0)) dX11_keep_68 (nI_add _ _) ?_
            refine j_istore_n C [(1, .int (nI (a + 0))), (0, .ref (gA Λ 31 0)), (2, .int (nI r))] dX11_keep_69 rfl (by decide) rfl ?_
            refine j_iinc C [(2, .int (nI (r + 1))), (1, .int (nI (a + 0))), (0, .ref (gA Λ 31 0))] (nI (r + 1)) dX11_keep_70 2 rfl (nI_add _ 1) (by decide) rfl ?_
            refine j_goto (tgt := 14) C dX11_keep_73 (by decide) ?_
            refine j_lv [2, 1, 0] rfl ?_
            exact ih14 (sI σ1 47 0 r ((-1))) (a + 0) (r + 1) (by omega) (by omega) (by rw [← kpTo_succ, show kpV M r = 0 by unfold kpV; rw [if_neg (by omega)]]; exact hM_6) hs_7 (by first | (exfalso; omega) | (rw [fb_ct_succ, ← ha, show kpV M r = 0 by unfold kpV; rw [if_neg (by omega)]]; simp))
          · refine j_iconst C (nI 1) dX11_keep_63 (by decide) ?_
            refine j_goto (tgt := 68) C dX11_keep_64 (by decide) ?_
            refine j_iadd C (nI (a + 1)) dX11_keep_68 (nI_add _ _) ?_
            refine j_istore_n C [(1, .int (nI (a + 1))), (0, .ref (gA Λ 31 0)), (2, .int (nI r))] dX11_keep_69 rfl (by decide) rfl ?_
            refine j_iinc C [(2, .int (nI (r + 1))), (1, .int (nI (a + 1))), (0, .ref (gA Λ 31 0))] (nI (r + 1)) dX11_keep_70 2 rfl (nI_add _ 1) (by decide) rfl ?_
            refine j_goto (tgt := 14) C dX11_keep_73 (by decide) ?_
            refine j_lv [2, 1, 0] rfl ?_
            exact ih14 (sI σ1 47 0 r ((-1))) (a + 1) (r + 1) (by omega) (by omega) (by rw [← kpTo_succ, show kpV M r = 0 by unfold kpV; rw [if_neg (by omega)]]; exact hM_6) hs_7 (by first | (exfalso; omega) | (rw [fb_ct_succ, ← ha, show kpV M r = 0 by unfold kpV; rw [if_neg (by omega)]]; simp))
        · refine j_aload_n C dX11_keep_33 rfl 0 rfl ?_
          refine j_getV C hwX11 31 0 11 (MR.in0 hM1 (by decide) (by decide)) rfl rfl (by decide) rfl 0 (hM1.2.2.2 11 rfl) hL36 dX11_keep_34 ?_
          refine j_iload_n C dX11_keep_37 rfl 2 rfl ?_
          have hb38 : M 37 r ≤ 1 := hB 37 r (decide_eq_true (show r < 40 by omega))
          refine j_zald C 37 0 r (MR.in0 hM1 (by decide) (by decide)) rfl rfl 40 (hM1.2.2.1 37 (by decide) (by decide)) (by omega) (by omega) (nI (M 37 r)) ((hM1.1 37 r (decide_eq_true (show r < 40 by omega))).trans (congrArg (menc 37) (congrFun (kpTo_nk (by decide) (by decide)) _))) dX11_keep_38 ?_
          refine j_if_ne (tgt := 51) C dX11_keep_39 (by decide) (nJ_ne0 (by omega)) (fun h39 => ?_) (fun h39 => ?_)
          · refine j_iconst C ((-1)) dX11_keep_51 (by decide) ?_
            refine j_iast C 47 0 r (MR.in0 hM1 (by decide) (by decide)) rfl rfl 40 (hM1.2.2.1 47 (by decide) (by decide)) (by omega) (by omega) ((-1)) rfl dX11_keep_52 ?_
            have hM_10 := MR.set (t := 47) (k := r) (x := 0) (v := (-1)) hM1 m1_0.symm
            have hs_11 := Same.sI (t := 47) (i := 0) (k := r) (x := (-1)) hs1 (by decide)
            refine j_iload_n C dX11_keep_53 rfl 1 rfl ?_
            refine j_aload_n C dX11_keep_54 rfl 0 rfl ?_
            refine j_getV C hwX11 31 0 24 (MR.in0 hM_10 (by decide) (by decide)) rfl rfl (by decide) rfl 0 (hM_10.2.2.2 24 rfl) hL67 dX11_keep_55 ?_
            refine j_iload_n C dX11_keep_58 rfl 2 rfl ?_
            refine j_iald C 47 0 r (MR.in0 hM_10 (by decide) (by decide)) rfl rfl 40 (hM_10.2.2.1 47 (by decide) (by decide)) (by omega) (by omega) (nI 0 - 1) ((hM_10.1 47 r (decide_eq_true (show r < 40 by omega))).trans (congrArg (menc 47) (mS_same _ _ _ _))) dX11_keep_59 ?_
            refine j_if_lt (tgt := 67) C dX11_keep_60 (by decide) (m1_lt (by omega)) (fun h60 => ?_) (fun h60 => ?_)
            · refine j_iconst C (nI 0) dX11_keep_67 (by decide) ?_
              refine j_iadd C (nI (a + 0)) dX11_keep_68 (nI_add _ _) ?_
              refine j_istore_n C [(1, .int (nI (a + 0))), (0, .ref (gA Λ 31 0)), (2, .int (nI r))] dX11_keep_69 rfl (by decide) rfl ?_
              refine j_iinc C [(2, .int (nI (r + 1))), (1, .int (nI (a + 0))), (0, .ref (gA Λ 31 0))] (nI (r + 1)) dX11_keep_70 2 rfl (nI_add _ 1) (by decide) rfl ?_
              refine j_goto (tgt := 14) C dX11_keep_73 (by decide) ?_
              refine j_lv [2, 1, 0] rfl ?_
              exact ih14 (sI σ1 47 0 r ((-1))) (a + 0) (r + 1) (by omega) (by omega) (by rw [← kpTo_succ, show kpV M r = 0 by unfold kpV; rw [if_neg (by omega)]]; exact hM_10) hs_11 (by first | (exfalso; omega) | (rw [fb_ct_succ, ← ha, show kpV M r = 0 by unfold kpV; rw [if_neg (by omega)]]; simp))
            · refine j_iconst C (nI 1) dX11_keep_63 (by decide) ?_
              refine j_goto (tgt := 68) C dX11_keep_64 (by decide) ?_
              refine j_iadd C (nI (a + 1)) dX11_keep_68 (nI_add _ _) ?_
              refine j_istore_n C [(1, .int (nI (a + 1))), (0, .ref (gA Λ 31 0)), (2, .int (nI r))] dX11_keep_69 rfl (by decide) rfl ?_
              refine j_iinc C [(2, .int (nI (r + 1))), (1, .int (nI (a + 1))), (0, .ref (gA Λ 31 0))] (nI (r + 1)) dX11_keep_70 2 rfl (nI_add _ 1) (by decide) rfl ?_
              refine j_goto (tgt := 14) C dX11_keep_73 (by decide) ?_
              refine j_lv [2, 1, 0] rfl ?_
              exact ih14 (sI σ1 47 0 r ((-1))) (a + 1) (r + 1) (by omega) (by omega) (by rw [← kpTo_succ, show kpV M r = 0 by unfold kpV; rw [if_neg (by omega)]]; exact hM_10) hs_11 (by first | (exfalso; omega) | (rw [fb_ct_succ, ← ha, show kpV M r = 0 by unfold kpV; rw [if_neg (by omega)]]; simp))
          · refine j_aload_n C dX11_keep_42 rfl 0 rfl ?_
            refine j_getV C hwX11 31 0 12 (MR.in0 hM1 (by decide) (by decide)) rfl rfl (by decide) rfl 0 (hM1.2.2.2 12 rfl) hL40 dX11_keep_43 ?_
            refine j_iload_n C dX11_keep_46 rfl 2 rfl ?_
            have hb47 : M 38 r ≤ 5 := hB 38 r (decide_eq_true (show r < 40 by omega))
            refine j_iald C 38 0 r (MR.in0 hM1 (by decide) (by decide)) rfl rfl 40 (hM1.2.2.1 38 (by decide) (by decide)) (by omega) (by omega) (nI (M 38 r)) ((hM1.1 38 r (decide_eq_true (show r < 40 by omega))).trans (congrArg (menc 38) (congrFun (kpTo_nk (by decide) (by decide)) _))) dX11_keep_47 ?_
            refine j_goto (tgt := 52) C dX11_keep_48 (by decide) ?_
            refine j_iast C 47 0 r (MR.in0 hM1 (by decide) (by decide)) rfl rfl 40 (hM1.2.2.1 47 (by decide) (by decide)) (by omega) (by omega) (nI (M 38 r)) rfl dX11_keep_52 ?_
            have hM_13 := MR.set (t := 47) (k := r) (x := (M 38 r + 1)) (v := (nI (M 38 r))) hM1 (nI_pred _).symm
            have hs_14 := Same.sI (t := 47) (i := 0) (k := r) (x := (nI (M 38 r))) hs1 (by decide)
            refine j_iload_n C dX11_keep_53 rfl 1 rfl ?_
            refine j_aload_n C dX11_keep_54 rfl 0 rfl ?_
            refine j_getV C hwX11 31 0 24 (MR.in0 hM_13 (by decide) (by decide)) rfl rfl (by decide) rfl 0 (hM_13.2.2.2 24 rfl) hL67 dX11_keep_55 ?_
            refine j_iload_n C dX11_keep_58 rfl 2 rfl ?_
            refine j_iald C 47 0 r (MR.in0 hM_13 (by decide) (by decide)) rfl rfl 40 (hM_13.2.2.1 47 (by decide) (by decide)) (by omega) (by omega) (nI (M 38 r + 1) - 1) ((hM_13.1 47 r (decide_eq_true (show r < 40 by omega))).trans (congrArg (menc 47) (mS_same _ _ _ _))) dX11_keep_59 ?_
            refine j_if_lt (tgt := 67) C dX11_keep_60 (by decide) (m1_lt (by omega)) (fun h60 => ?_) (fun h60 => ?_)
            · refine j_iconst C (nI 0) dX11_keep_67 (by decide) ?_
              refine j_iadd C (nI (a + 0)) dX11_keep_68 (nI_add _ _) ?_
              refine j_istore_n C [(1, .int (nI (a + 0))), (0, .ref (gA Λ 31 0)), (2, .int (nI r))] dX11_keep_69 rfl (by decide) rfl ?_
              refine j_iinc C [(2, .int (nI (r + 1))), (1, .int (nI (a + 0))), (0, .ref (gA Λ 31 0))] (nI (r + 1)) dX11_keep_70 2 rfl (nI_add _ 1) (by decide) rfl ?_
              refine j_goto (tgt := 14) C dX11_keep_73 (by decide) ?_
              refine j_lv [2, 1, 0] rfl ?_
              exact ih14 (sI σ1 47 0 r (nI (M 38 r))) (a + 0) (r + 1) (by omega) (by omega) (by rw [← kpTo_succ, show kpV M r = M 38 r + 1 by unfold kpV; rw [if_pos (by omega)]]; exact hM_13) hs_14 (by first | (exfalso; omega) | (rw [fb_ct_succ, ← ha, show kpV M r = M 38 r + 1 by unfold kpV; rw [if_pos (by omega)]]; simp))
            · refine j_iconst C (nI 1) dX11_keep_63 (by decide) ?_
              refine j_goto (tgt := 68) C dX11_keep_64 (by decide) ?_
              refine j_iadd C (nI (a + 1)) dX11_keep_68 (nI_add _ _) ?_
              refine j_istore_n C [(1, .int (nI (a + 1))), (0, .ref (gA Λ 31 0)), (2, .int (nI r))] dX11_keep_69 rfl (by decide) rfl ?_
              refine j_iinc C [(2, .int (nI (r + 1))), (1, .int (nI (a + 1))), (0, .ref (gA Λ 31 0))] (nI (r + 1)) dX11_keep_70 2 rfl (nI_add _ 1) (by decide) rfl ?_
              refine j_goto (tgt := 14) C dX11_keep_73 (by decide) ?_
              refine j_lv [2, 1, 0] rfl ?_
              exact ih14 (sI σ1 47 0 r (nI (M 38 r))) (a + 1) (r + 1) (by omega) (by omega) (by rw [← kpTo_succ, show kpV M r = M 38 r + 1 by unfold kpV; rw [if_pos (by omega)]]; exact hM_13) hs_14 (by first | (exfalso; omega) | (rw [fb_ct_succ, ← ha, show kpV M r = M 38 r + 1 by unfold kpV; rw [if_pos (by omega)]]; simp))
  refine j_lv [2, 1, 0] rfl ?_
  exact lb14 _ (sI σ0 31 0 23 (nI 1)) 0 0 (Nat.lt_succ_self _) (by omega) (by rw [kpTo_0]; exact hM_1) hs_2 rfl

set_option maxHeartbeats 4000000 in
set_option maxRecDepth 100000 in
theorem c_stays_6 (l : Launch) (D : va_G) (cy : Nat → ClassId) (base : Nat) (Λ : LY) (σ : HS) (M : MM) (hM : MR Λ σ M) (hB : MBd M) (h48 : ∀ x, x < 36 → M 48 x ≤ 40) (us : Nat) (hus : us < 64) : Met l yX11_stays wsX11_stays ({ frames := 4, cells := 0, slots := 0, locals := 60 }) (va_Pc [.ref (gA Λ 31 0), .int (nI 6), .int (nI us)] (Wd D cy base Λ σ)) (va_Qi (fun v u => v = nI (stF (M 48) 0 6 us) ∧ u = σ) (Wd D cy base Λ) (Ab base)) 0 0 (Ab base) := by
  refine j_start (cc := cX11_stays) (nL := 6) (ret := (some .int)) (lv := [(0, .ref (gA Λ 31 0)), (1, .int (nI 6)), (2, .int (nI us))]) (by decide) rfl (Nat.le_of_ble_eq_true rfl) rfl ?_
  intro p e s m below meth c C hr hlk hnm
  have C : Cx p s m ([.ref (gA Λ 31 0), .int (nI 6), .int (nI us)] : List Value).toArray c cX11_stays 6 RX11 wsX11_stays D cy base := C
  have hts := C.2.2.2.2.1
  refine j_iload_n C dX11_stays_0 rfl 1 rfl ?_
  refine j_bipush C (nI 6) dX11_stays_1 (by decide) ?_
  refine j_icmp_ne (tgt := 8) C (P := True) dX11_stays_3 (by decide) (by decide) (fun z => ?_) (fun z => ?_)
  · exact absurd trivial z
  · refine j_iconst C (nI 0) dX11_stays_6 (by decide) ?_
    exact j_iret C hr hlk (⟨rfl, rfl⟩) dX11_stays_7

set_option maxHeartbeats 4000000 in
set_option maxRecDepth 100000 in
theorem c_stays_5 (l : Launch) (D : va_G) (cy : Nat → ClassId) (base : Nat) (Λ : LY) (σ : HS) (M : MM) (hM : MR Λ σ M) (hB : MBd M) (h48 : ∀ x, x < 36 → M 48 x ≤ 40) (us : Nat) (hus : us < 64) : Met l yX11_stays wsX11_stays ({ frames := 8, cells := 0, slots := 0, locals := 120 }) (va_Pc [.ref (gA Λ 31 0), .int (nI 5), .int (nI us)] (Wd D cy base Λ σ)) (va_Qi (fun v u => v = nI (stF (M 48) 1 5 us) ∧ u = σ) (Wd D cy base Λ) (Ab base)) 0 0 (Ab base) := by
  refine j_start (cc := cX11_stays) (nL := 6) (ret := (some .int)) (lv := [(0, .ref (gA Λ 31 0)), (1, .int (nI 5)), (2, .int (nI us))]) (by decide) rfl (Nat.le_of_ble_eq_true rfl) rfl ?_
  intro p e s m below meth c C hr hlk hnm
  have C : Cx p s m ([.ref (gA Λ 31 0), .int (nI 5), .int (nI us)] : List Value).toArray c cX11_stays 6 RX11 wsX11_stays D cy base := C
  have hts := C.2.2.2.2.1
  have hwX11 : ∀ w ∈ u_ws RX11 TX11 26, w ∈ wsX11_stays := by decide +kernel
  have hM70 : (Cond.fieldLink RX11 70 (TX11 25).1 (TX11 25).2.1 (TX11 25).2.2.1).before ([.ref (gA Λ 31 0), .int (nI 5), .int (nI us)] : List Value).toArray s = true := hts (.fieldLink RX11 70 "CodeRoomsModel" "together" "[I") (by decide +kernel)
  have hL70 : FL RX11 70 (TX11 25).1 (TX11 25).2.1 (TX11 25).2.2.1 ([.ref (gA Λ 31 0), .int (nI 5), .int (nI us)] : List Value).toArray s := Or.inl hM70
  refine j_iload_n C dX11_stays_0 rfl 1 rfl ?_
  refine j_bipush C (nI 6) dX11_stays_1 (by decide) ?_
  refine j_icmp_ne (tgt := 8) C (P := False) dX11_stays_3 (by decide) (by decide) (fun z => ?_) (fun z => ?_)
  · refine j_iconst C (nI 0) dX11_stays_8 (by decide) ?_
    refine j_istore_n C [(3, .int (nI 0)), (0, .ref (gA Λ 31 0)), (1, .int (nI 5)), (2, .int (nI us))] dX11_stays_9 rfl (by decide) rfl ?_
    refine j_iconst C (nI 0) dX11_stays_10 (by decide) ?_
    refine j_istore C [(4, .int (nI 0)), (3, .int (nI 0)), (0, .ref (gA Λ 31 0)), (1, .int (nI 5)), (2, .int (nI us))] dX11_stays_11 (by decide) rfl ?_
    have lb13 : ∀ (fu : Nat) (q b : Nat), (6 - b) < fu → (b ≤ 6) → (q = stRow (fun b => M 48 (6 * 5 + b) + stF (M 48) 0 (5 + 1) (us ||| 2 ^ b)) us b) → J p l e ({ frames := 8, cells := 0, slots := 0, locals := 120 }) s m ([.ref (gA Λ 31 0), .int (nI 5), .int (nI us)] : List Value).toArray below meth c 6 D cy base (MQ below (va_Qi (fun v u => v = nI (stF (M 48) 1 5 us) ∧ u = σ) (Wd D cy base Λ) (Ab base)) ([.ref (gA Λ 31 0), .int (nI 5), .int (nI us)] : List Value).toArray s 0 0 (Ab base)) 0 0 Λ 13 [(0, .ref (gA Λ 31 0)), (1, .int (nI 5)), (2, .int (nI us)), (3, .int (nI q)), (4, .int (nI b))] [] σ := by
      intro fu
      induction fu with
      | zero => intro q b hfu; exact absurd hfu (Nat.not_lt_zero _)
      | succ fu ih =>
        intro q b hfu hb hq
        have hq240 : q ≤ 240 := by rw [hq]; exact stRow_le (fun x hx => by have q1 := stF_le (f := M 48) (d := 0) (a := 5 + 1) (used := us ||| 2 ^ x) (by omega) h48; have q2 := h48 (6 * 5 + x) (by omega); show M 48 (6 * 5 + x) + stF (M 48) 0 (5 + 1) (us ||| 2 ^ x) ≤ 240; omega)
        have ih13 := ih
        refine j_iload C dX11_stays_13 4 rfl ?_
        refine j_bipush C (nI 6) dX11_stays_15 (by decide) ?_
        refine j_icmp_ge (tgt := 80) C dX11_stays_17 (by decide) (nI_leI (by omega) (by omega)) (fun h17 => ?_) (fun h17 => ?_)
        · refine j_iload_n C dX11_stays_80 rfl 3 rfl ?_
          exact j_iret C hr hlk (⟨by rw [hq, show b = 6 by omega]; rfl, rfl⟩) dX11_stays_81
        · refine j_iload_n C dX11_stays_20 rfl 2 rfl ?_
          refine j_iload C dX11_stays_21 4 rfl ?_
          refine j_ishr C (nI (us / 2 ^ b)) dX11_stays_23 (shrB (by omega) (by omega)) ?_
          refine j_iconst C (nI 1) dX11_stays_24 (by decide) ?_
          refine j_iand C (nI (us / 2 ^ b % 2)) dX11_stays_25 (and1 _) ?_
          refine j_iconst C (nI 1) dX11_stays_26 (by decide) ?_
          refine j_icmp_ne (tgt := 33) C dX11_stays_27 (by decide) (bitI (by omega) (by omega)) (fun h27 => ?_) (fun h27 => ?_)
          · refine j_aload_n C dX11_stays_33 rfl 0 rfl ?_
            refine j_getV C hwX11 31 0 25 (MR.in0 hM (by decide) (by decide)) rfl rfl (by decide) rfl 0 (hM.2.2.2 25 rfl) hL70 dX11_stays_34 ?_
            refine j_bipush C (nI 6) dX11_stays_37 (by decide) ?_
            refine j_iload_n C dX11_stays_39 rfl 1 rfl ?_
            refine j_imul C (nI 30) dX11_stays_40 (by decide) ?_
            refine j_iload C dX11_stays_41 4 rfl ?_
            refine j_iadd C (nI (30 + b)) dX11_stays_43 (nI_add _ _) ?_
            have hb44 : M 48 (30 + b) ≤ 40 := hB 48 (30 + b) (decide_eq_true (show 30 + b < 36 by omega))
            refine j_iald C 48 0 (30 + b) (MR.in0 hM (by decide) (by decide)) rfl rfl 36 (hM.2.2.1 48 (by decide) (by decide)) (by omega) (by omega) (nI (M 48 (30 + b))) (hM.1 48 (30 + b) (decide_eq_true (show 30 + b < 36 by omega))) dX11_stays_44 ?_
            refine j_aload_n C dX11_stays_45 rfl 0 rfl ?_
            refine j_iload_n C dX11_stays_46 rfl 1 rfl ?_
            refine j_iconst C (nI 1) dX11_stays_47 (by decide) ?_
            refine j_iadd C (nI 6) dX11_stays_48 (by decide) ?_
            refine j_iload_n C dX11_stays_49 rfl 2 rfl ?_
            refine j_iconst C (nI 1) dX11_stays_50 (by decide) ?_
            refine j_iload C dX11_stays_51 4 rfl ?_
            refine j_ishl C (nI (2 ^ b)) dX11_stays_53 (shl1 (by omega)) ?_
            refine j_ior C (nI (us ||| (2 ^ b))) dX11_stays_54 (fa_or _ _) ?_
            have hsb := stF_le (f := M 48) (d := 0) (a := 6) (used := us ||| (2 ^ b)) (by omega) h48
            refine c_i0 C (r_V C 31 0 [.int (nI 6), .int (nI (us ||| (2 ^ b)))] (c_stays_6 l D cy base Λ σ M hM hB h48 (us ||| (2 ^ b)) (or_lt (by omega) (pow6 (by omega)))) (cwV 2 hts gX11_stays_X11_stays rfl rfl rfl (by decide +kernel) ⟨by decide, by decide⟩) (MR.in0 hM (by decide) (by decide)) rfl rfl rfl rfl (Nat.le_of_ble_eq_true rfl) dX11_stays_55 ⟨by decide, by decide⟩) (fun rv uu hp => ?_)
            rw [hp.1, hp.2]
            refine j_iadd C (nI (M 48 (30 + b) + (stF (M 48) 0 6 (us ||| (2 ^ b))))) dX11_stays_58 (nI_add _ _) ?_
            refine j_istore C [(5, .int (nI (M 48 (30 + b) + (stF (M 48) 0 6 (us ||| (2 ^ b)))))), (0, .ref (gA Λ 31 0)), (1, .int (nI 5)), (2, .int (nI us)), (3, .int (nI q)), (4, .int (nI b))] dX11_stays_59 (by decide) rfl ?_
            refine j_iload C dX11_stays_61 0 rfl ?_
            refine j_iload_n C dX11_stays_63 rfl 4 rfl ?_
            refine j_icmp_le (tgt := 72) C dX11_stays_64 (by decide) (nI_leI (by omega) (by omega)) (fun h64 => ?_) (fun h64 => ?_)
            · refine j_iload_n C dX11_stays_72 rfl 4 rfl ?_
              refine j_istore_n C [(3, .int (nI q)), (5, .int (nI (M 48 (30 + b) + (stF (M 48) 0 6 (us ||| (2 ^ b)))))), (0, .ref (gA Λ 31 0)), (1, .int (nI 5)), (2, .int (nI us)), (4, .int (nI b))] dX11_stays_73 rfl (by decide) rfl ?_
              refine j_iinc C [(4, .int (nI (b + 1))), (3, .int (nI q)), (5, .int (nI (M 48 (30 + b) + (stF (M 48) 0 6 (us ||| (2 ^ b)))))), (0, .ref (gA Λ 31 0)), (1, .int (nI 5)), (2, .int (nI us))] (nI (b + 1)) dX11_stays_74 5 rfl (nI_add _ 1) (by decide) rfl ?_
              refine j_goto (tgt := 13) C dX11_stays_77 (by decide) ?_
              refine j_lv [3, 4, 5, 1, 0] rfl ?_
              exact ih13 q (b + 1) (by omega) (by omega) (by show _ = (if us.testBit b = true then stRow (fun b => M 48 (6 * 5 + b) + stF (M 48) 0 (5 + 1) (us ||| 2 ^ b)) us b else if (fun b => M 48 (6 * 5 + b) + stF (M 48) 0 (5 + 1) (us ||| 2 ^ b)) b ≤ stRow (fun b => M 48 (6 * 5 + b) + stF (M 48) 0 (5 + 1) (us ||| 2 ^ b)) us b then stRow (fun b => M 48 (6 * 5 + b) + stF (M 48) 0 (5 + 1) (us ||| 2 ^ b)) us b else (fun b => M 48 (6 * 5 + b) + stF (M 48) 0 (5 + 1) (us ||| 2 ^ b)) b); rw [← hq, if_neg h27, if_pos h64])
            · refine j_iload C dX11_stays_67 0 rfl ?_
              refine j_goto (tgt := 73) C dX11_stays_69 (by decide) ?_
              refine j_istore_n C [(3, .int (nI (M 48 (30 + b) + (stF (M 48) 0 6 (us ||| (2 ^ b)))))), (5, .int (nI (M 48 (30 + b) + (stF (M 48) 0 6 (us ||| (2 ^ b)))))), (0, .ref (gA Λ 31 0)), (1, .int (nI 5)), (2, .int (nI us)), (4, .int (nI b))] dX11_stays_73 rfl (by decide) rfl ?_
              refine j_iinc C [(4, .int (nI (b + 1))), (3, .int (nI (M 48 (30 + b) + (stF (M 48) 0 6 (us ||| (2 ^ b)))))), (5, .int (nI (M 48 (30 + b) + (stF (M 48) 0 6 (us ||| (2 ^ b)))))), (0, .ref (gA Λ 31 0)), (1, .int (nI 5)), (2, .int (nI us))] (nI (b + 1)) dX11_stays_74 5 rfl (nI_add _ 1) (by decide) rfl ?_
              refine j_goto (tgt := 13) C dX11_stays_77 (by decide) ?_
              refine j_lv [3, 4, 5, 1, 0] rfl ?_
              exact ih13 (M 48 (30 + b) + (stF (M 48) 0 6 (us ||| (2 ^ b)))) (b + 1) (by omega) (by omega) (by show _ = (if us.testBit b = true then stRow (fun b => M 48 (6 * 5 + b) + stF (M 48) 0 (5 + 1) (us ||| 2 ^ b)) us b else if (fun b => M 48 (6 * 5 + b) + stF (M 48) 0 (5 + 1) (us ||| 2 ^ b)) b ≤ stRow (fun b => M 48 (6 * 5 + b) + stF (M 48) 0 (5 + 1) (us ||| 2 ^ b)) us b then stRow (fun b => M 48 (6 * 5 + b) + stF (M 48) 0 (5 + 1) (us ||| 2 ^ b)) us b else (fun b => M 48 (6 * 5 + b) + stF (M 48) 0 (5 + 1) (us ||| 2 ^ b)) b); rw [← hq, if_neg h27, if_neg h64])
          · refine j_goto (tgt := 74) C dX11_stays_30 (by decide) ?_
            refine j_iinc C [(4, .int (nI (b + 1))), (0, .ref (gA Λ 31 0)), (1, .int (nI 5)), (2, .int (nI us)), (3, .int (nI q))] (nI (b + 1)) dX11_stays_74 4 rfl (nI_add _ 1) (by decide) rfl ?_
            refine j_goto (tgt := 13) C dX11_stays_77 (by decide) ?_
            refine j_lv [1, 2, 3, 4, 0] rfl ?_
            exact ih13 q (b + 1) (by omega) (by omega) (by show _ = (if us.testBit b = true then stRow (fun b => M 48 (6 * 5 + b) + stF (M 48) 0 (5 + 1) (us ||| 2 ^ b)) us b else if (fun b => M 48 (6 * 5 + b) + stF (M 48) 0 (5 + 1) (us ||| 2 ^ b)) b ≤ stRow (fun b => M 48 (6 * 5 + b) + stF (M 48) 0 (5 + 1) (us ||| 2 ^ b)) us b then stRow (fun b => M 48 (6 * 5 + b) + stF (M 48) 0 (5 + 1) (us ||| 2 ^ b)) us b else (fun b => M 48 (6 * 5 + b) + stF (M 48) 0 (5 + 1) (us ||| 2 ^ b)) b); rw [← hq, if_pos h27])
    refine j_lv [2, 3, 4, 1, 0] rfl ?_
    exact lb13 _ 0 0 (Nat.lt_succ_self _) (by omega) rfl
  · exact z.elim

set_option maxHeartbeats 4000000 in
set_option maxRecDepth 100000 in
theorem c_stays_4 (l : Launch) (D : va_G) (cy : Nat → ClassId) (base : Nat) (Λ : LY) (σ : HS) (M : MM) (hM : MR Λ σ M) (hB : MBd M) (h48 : ∀ x, x < 36 → M 48 x ≤ 40) (us : Nat) (hus : us < 64) : Met l yX11_stays wsX11_stays ({ frames := 12, cells := 0, slots := 0, locals := 180 }) (va_Pc [.ref (gA Λ 31 0), .int (nI 4), .int (nI us)] (Wd D cy base Λ σ)) (va_Qi (fun v u => v = nI (stF (M 48) 2 4 us) ∧ u = σ) (Wd D cy base Λ) (Ab base)) 0 0 (Ab base) := by
  refine j_start (cc := cX11_stays) (nL := 6) (ret := (some .int)) (lv := [(0, .ref (gA Λ 31 0)), (1, .int (nI 4)), (2, .int (nI us))]) (by decide) rfl (Nat.le_of_ble_eq_true rfl) rfl ?_
  intro p e s m below meth c C hr hlk hnm
  have C : Cx p s m ([.ref (gA Λ 31 0), .int (nI 4), .int (nI us)] : List Value).toArray c cX11_stays 6 RX11 wsX11_stays D cy base := C
  have hts := C.2.2.2.2.1
  have hwX11 : ∀ w ∈ u_ws RX11 TX11 26, w ∈ wsX11_stays := by decide +kernel
  have hM70 : (Cond.fieldLink RX11 70 (TX11 25).1 (TX11 25).2.1 (TX11 25).2.2.1).before ([.ref (gA Λ 31 0), .int (nI 4), .int (nI us)] : List Value).toArray s = true := hts (.fieldLink RX11 70 "CodeRoomsModel" "together" "[I") (by decide +kernel)
  have hL70 : FL RX11 70 (TX11 25).1 (TX11 25).2.1 (TX11 25).2.2.1 ([.ref (gA Λ 31 0), .int (nI 4), .int (nI us)] : List Value).toArray s := Or.inl hM70
  refine j_iload_n C dX11_stays_0 rfl 1 rfl ?_
  refine j_bipush C (nI 6) dX11_stays_1 (by decide) ?_
  refine j_icmp_ne (tgt := 8) C (P := False) dX11_stays_3 (by decide) (by decide) (fun z => ?_) (fun z => ?_)
  · refine j_iconst C (nI 0) dX11_stays_8 (by decide) ?_
    refine j_istore_n C [(3, .int (nI 0)), (0, .ref (gA Λ 31 0)), (1, .int (nI 4)), (2, .int (nI us))] dX11_stays_9 rfl (by decide) rfl ?_
    refine j_iconst C (nI 0) dX11_stays_10 (by decide) ?_
    refine j_istore C [(4, .int (nI 0)), (3, .int (nI 0)), (0, .ref (gA Λ 31 0)), (1, .int (nI 4)), (2, .int (nI us))] dX11_stays_11 (by decide) rfl ?_
    have lb13 : ∀ (fu : Nat) (q b : Nat), (6 - b) < fu → (b ≤ 6) → (q = stRow (fun b => M 48 (6 * 4 + b) + stF (M 48) 1 (4 + 1) (us ||| 2 ^ b)) us b) → J p l e ({ frames := 12, cells := 0, slots := 0, locals := 180 }) s m ([.ref (gA Λ 31 0), .int (nI 4), .int (nI us)] : List Value).toArray below meth c 6 D cy base (MQ below (va_Qi (fun v u => v = nI (stF (M 48) 2 4 us) ∧ u = σ) (Wd D cy base Λ) (Ab base)) ([.ref (gA Λ 31 0), .int (nI 4), .int (nI us)] : List Value).toArray s 0 0 (Ab base)) 0 0 Λ 13 [(0, .ref (gA Λ 31 0)), (1, .int (nI 4)), (2, .int (nI us)), (3, .int (nI q)), (4, .int (nI b))] [] σ := by
      intro fu
      induction fu with
      | zero => intro q b hfu; exact absurd hfu (Nat.not_lt_zero _)
      | succ fu ih =>
        intro q b hfu hb hq
        have hq240 : q ≤ 240 := by rw [hq]; exact stRow_le (fun x hx => by have q1 := stF_le (f := M 48) (d := 1) (a := 4 + 1) (used := us ||| 2 ^ x) (by omega) h48; have q2 := h48 (6 * 4 + x) (by omega); show M 48 (6 * 4 + x) + stF (M 48) 1 (4 + 1) (us ||| 2 ^ x) ≤ 240; omega)
        have ih13 := ih
        refine j_iload C dX11_stays_13 4 rfl ?_
        refine j_bipush C (nI 6) dX11_stays_15 (by decide) ?_
        refine j_icmp_ge (tgt := 80) C dX11_stays_17 (by decide) (nI_leI (by omega) (by omega)) (fun h17 => ?_) (fun h17 => ?_)
        · refine j_iload_n C dX11_stays_80 rfl 3 rfl ?_
          exact j_iret C hr hlk (⟨by rw [hq, show b = 6 by omega]; rfl, rfl⟩) dX11_stays_81
        · refine j_iload_n C dX11_stays_20 rfl 2 rfl ?_
          refine j_iload C dX11_stays_21 4 rfl ?_
          refine j_ishr C (nI (us / 2 ^ b)) dX11_stays_23 (shrB (by omega) (by omega)) ?_
          refine j_iconst C (nI 1) dX11_stays_24 (by decide) ?_
          refine j_iand C (nI (us / 2 ^ b % 2)) dX11_stays_25 (and1 _) ?_
          refine j_iconst C (nI 1) dX11_stays_26 (by decide) ?_
          refine j_icmp_ne (tgt := 33) C dX11_stays_27 (by decide) (bitI (by omega) (by omega)) (fun h27 => ?_) (fun h27 => ?_)
          · refine j_aload_n C dX11_stays_33 rfl 0 rfl ?_
            refine j_getV C hwX11 31 0 25 (MR.in0 hM (by decide) (by decide)) rfl rfl (by decide) rfl 0 (hM.2.2.2 25 rfl) hL70 dX11_stays_34 ?_
            refine j_bipush C (nI 6) dX11_stays_37 (by decide) ?_
            refine j_iload_n C dX11_stays_39 rfl 1 rfl ?_
            refine j_imul C (nI 24) dX11_stays_40 (by decide) ?_
            refine j_iload C dX11_stays_41 4 rfl ?_
            refine j_iadd C (nI (24 + b)) dX11_stays_43 (nI_add _ _) ?_
            have hb44 : M 48 (24 + b) ≤ 40 := hB 48 (24 + b) (decide_eq_true (show 24 + b < 36 by omega))
            refine j_iald C 48 0 (24 + b) (MR.in0 hM (by decide) (by decide)) rfl rfl 36 (hM.2.2.1 48 (by decide) (by decide)) (by omega) (by omega) (nI (M 48 (24 + b))) (hM.1 48 (24 + b) (decide_eq_true (show 24 + b < 36 by omega))) dX11_stays_44 ?_
            refine j_aload_n C dX11_stays_45 rfl 0 rfl ?_
            refine j_iload_n C dX11_stays_46 rfl 1 rfl ?_
            refine j_iconst C (nI 1) dX11_stays_47 (by decide) ?_
            refine j_iadd C (nI 5) dX11_stays_48 (by decide) ?_
            refine j_iload_n C dX11_stays_49 rfl 2 rfl ?_
            refine j_iconst C (nI 1) dX11_stays_50 (by decide) ?_
            refine j_iload C dX11_stays_51 4 rfl ?_
            refine j_ishl C (nI (2 ^ b)) dX11_stays_53 (shl1 (by omega)) ?_
            refine j_ior C (nI (us ||| (2 ^ b))) dX11_stays_54 (fa_or _ _) ?_
            have hsb := stF_le (f := M 48) (d := 1) (a := 5) (used := us ||| (2 ^ b)) (by omega) h48
            refine c_i0 C (r_V C 31 0 [.int (nI 5), .int (nI (us ||| (2 ^ b)))] (c_stays_5 l D cy base Λ σ M hM hB h48 (us ||| (2 ^ b)) (or_lt (by omega) (pow6 (by omega)))) (cwV 2 hts gX11_stays_X11_stays rfl rfl rfl (by decide +kernel) ⟨by decide, by decide⟩) (MR.in0 hM (by decide) (by decide)) rfl rfl rfl rfl (Nat.le_of_ble_eq_true rfl) dX11_stays_55 ⟨by decide, by decide⟩) (fun rv uu hp => ?_)
            rw [hp.1, hp.2]
            refine j_iadd C (nI (M 48 (24 + b) + (stF (M 48) 1 5 (us ||| (2 ^ b))))) dX11_stays_58 (nI_add _ _) ?_
            refine j_istore C [(5, .int (nI (M 48 (24 + b) + (stF (M 48) 1 5 (us ||| (2 ^ b)))))), (0, .ref (gA Λ 31 0)), (1, .int (nI 4)), (2, .int (nI us)), (3, .int (nI q)), (4, .int (nI b))] dX11_stays_59 (by decide) rfl ?_
            refine j_iload C dX11_stays_61 0 rfl ?_
            refine j_iload_n C dX11_stays_63 rfl 4 rfl ?_
            refine j_icmp_le (tgt := 72) C dX11_stays_64 (by decide) (nI_leI (by omega) (by omega)) (fun h64 => ?_) (fun h64 => ?_)
            · refine j_iload_n C dX11_stays_72 rfl 4 rfl ?_
              refine j_istore_n C [(3, .int (nI q)), (5, .int (nI (M 48 (24 + b) + (stF (M 48) 1 5 (us ||| (2 ^ b)))))), (0, .ref (gA Λ 31 0)), (1, .int (nI 4)), (2, .int (nI us)), (4, .int (nI b))] dX11_stays_73 rfl (by decide) rfl ?_
              refine j_iinc C [(4, .int (nI (b + 1))), (3, .int (nI q)), (5, .int (nI (M 48 (24 + b) + (stF (M 48) 1 5 (us ||| (2 ^ b)))))), (0, .ref (gA Λ 31 0)), (1, .int (nI 4)), (2, .int (nI us))] (nI (b + 1)) dX11_stays_74 5 rfl (nI_add _ 1) (by decide) rfl ?_
              refine j_goto (tgt := 13) C dX11_stays_77 (by decide) ?_
              refine j_lv [3, 4, 5, 1, 0] rfl ?_
              exact ih13 q (b + 1) (by omega) (by omega) (by show _ = (if us.testBit b = true then stRow (fun b => M 48 (6 * 4 + b) + stF (M 48) 1 (4 + 1) (us ||| 2 ^ b)) us b else if (fun b => M 48 (6 * 4 + b) + stF (M 48) 1 (4 + 1) (us ||| 2 ^ b)) b ≤ stRow (fun b => M 48 (6 * 4 + b) + stF (M 48) 1 (4 + 1) (us ||| 2 ^ b)) us b then stRow (fun b => M 48 (6 * 4 + b) + stF (M 48) 1 (4 + 1) (us ||| 2 ^ b)) us b else (fun b => M 48 (6 * 4 + b) + stF (M 48) 1 (4 + 1) (us ||| 2 ^ b)) b); rw [← hq, if_neg h27, if_pos h64])
            · refine j_iload C dX11_stays_67 0 rfl ?_
              refine j_goto (tgt := 73) C dX11_stays_69 (by decide) ?_
              refine j_istore_n C [(3, .int (nI (M 48 (24 + b) + (stF (M 48) 1 5 (us ||| (2 ^ b)))))), (5, .int (nI (M 48 (24 + b) + (stF (M 48) 1 5 (us ||| (2 ^ b)))))), (0, .ref (gA Λ 31 0)), (1, .int (nI 4)), (2, .int (nI us)), (4, .int (nI b))] dX11_stays_73 rfl (by decide) rfl ?_
              refine j_iinc C [(4, .int (nI (b + 1))), (3, .int (nI (M 48 (24 + b) + (stF (M 48) 1 5 (us ||| (2 ^ b)))))), (5, .int (nI (M 48 (24 + b) + (stF (M 48) 1 5 (us ||| (2 ^ b)))))), (0, .ref (gA Λ 31 0)), (1, .int (nI 4)), (2, .int (nI us))] (nI (b + 1)) dX11_stays_74 5 rfl (nI_add _ 1) (by decide) rfl ?_
              refine j_goto (tgt := 13) C dX11_stays_77 (by decide) ?_
              refine j_lv [3, 4, 5, 1, 0] rfl ?_
              exact ih13 (M 48 (24 + b) + (stF (M 48) 1 5 (us ||| (2 ^ b)))) (b + 1) (by omega) (by omega) (by show _ = (if us.testBit b = true then stRow (fun b => M 48 (6 * 4 + b) + stF (M 48) 1 (4 + 1) (us ||| 2 ^ b)) us b else if (fun b => M 48 (6 * 4 + b) + stF (M 48) 1 (4 + 1) (us ||| 2 ^ b)) b ≤ stRow (fun b => M 48 (6 * 4 + b) + stF (M 48) 1 (4 + 1) (us ||| 2 ^ b)) us b then stRow (fun b => M 48 (6 * 4 + b) + stF (M 48) 1 (4 + 1) (us ||| 2 ^ b)) us b else (fun b => M 48 (6 * 4 + b) + stF (M 48) 1 (4 + 1) (us ||| 2 ^ b)) b); rw [← hq, if_neg h27, if_neg h64])
          · refine j_goto (tgt := 74) C dX11_stays_30 (by decide) ?_
            refine j_iinc C [(4, .int (nI (b + 1))), (0, .ref (gA Λ 31 0)), (1, .int (nI 4)), (2, .int (nI us)), (3, .int (nI q))] (nI (b + 1)) dX11_stays_74 4 rfl (nI_add _ 1) (by decide) rfl ?_
            refine j_goto (tgt := 13) C dX11_stays_77 (by decide) ?_
            refine j_lv [1, 2, 3, 4, 0] rfl ?_
            exact ih13 q (b + 1) (by omega) (by omega) (by show _ = (if us.testBit b = true then stRow (fun b => M 48 (6 * 4 + b) + stF (M 48) 1 (4 + 1) (us ||| 2 ^ b)) us b else if (fun b => M 48 (6 * 4 + b) + stF (M 48) 1 (4 + 1) (us ||| 2 ^ b)) b ≤ stRow (fun b => M 48 (6 * 4 + b) + stF (M 48) 1 (4 + 1) (us ||| 2 ^ b)) us b then stRow (fun b => M 48 (6 * 4 + b) + stF (M 48) 1 (4 + 1) (us ||| 2 ^ b)) us b else (fun b => M 48 (6 * 4 + b) + stF (M 48) 1 (4 + 1) (us ||| 2 ^ b)) b); rw [← hq, if_pos h27])
    refine j_lv [2, 3, 4, 1, 0] rfl ?_
    exact lb13 _ 0 0 (Nat.lt_succ_self _) (by omega) rfl
  · exact z.elim

set_option maxHeartbeats 4000000 in
set_option maxRecDepth 100000 in
theorem c_stays_3 (l : Launch) (D : va_G) (cy : Nat → ClassId) (base : Nat) (Λ : LY) (σ : HS) (M : MM) (hM : MR Λ σ M) (hB : MBd M) (h48 : ∀ x, x < 36 → M 48 x ≤ 40) (us : Nat) (hus : us < 64) : Met l yX11_stays wsX11_stays ({ frames := 16, cells := 0, slots := 0, locals := 240 }) (va_Pc [.ref (gA Λ 31 0), .int (nI 3), .int (nI us)] (Wd D cy base Λ σ)) (va_Qi (fun v u => v = nI (stF (M 48) 3 3 us) ∧ u = σ) (Wd D cy base Λ) (Ab base)) 0 0 (Ab base) := by
  refine j_start (cc := cX11_stays) (nL := 6) (ret := (some .int)) (lv := [(0, .ref (gA Λ 31 0)), (1, .int (nI 3)), (2, .int (nI us))]) (by decide) rfl (Nat.le_of_ble_eq_true rfl) rfl ?_
  intro p e s m below meth c C hr hlk hnm
  have C : Cx p s m ([.ref (gA Λ 31 0), .int (nI 3), .int (nI us)] : List Value).toArray c cX11_stays 6 RX11 wsX11_stays D cy base := C
  have hts := C.2.2.2.2.1
  have hwX11 : ∀ w ∈ u_ws RX11 TX11 26, w ∈ wsX11_stays := by decide +kernel
  have hM70 : (Cond.fieldLink RX11 70 (TX11 25).1 (TX11 25).2.1 (TX11 25).2.2.1).before ([.ref (gA Λ 31 0), .int (nI 3), .int (nI us)] : List Value).toArray s = true := hts (.fieldLink RX11 70 "CodeRoomsModel" "together" "[I") (by decide +kernel)
  have hL70 : FL RX11 70 (TX11 25).1 (TX11 25).2.1 (TX11 25).2.2.1 ([.ref (gA Λ 31 0), .int (nI 3), .int (nI us)] : List Value).toArray s := Or.inl hM70
  refine j_iload_n C dX11_stays_0 rfl 1 rfl ?_
  refine j_bipush C (nI 6) dX11_stays_1 (by decide) ?_
  refine j_icmp_ne (tgt := 8) C (P := False) dX11_stays_3 (by decide) (by decide) (fun z => ?_) (fun z => ?_)
  · refine j_iconst C (nI 0) dX11_stays_8 (by decide) ?_
    refine j_istore_n C [(3, .int (nI 0)), (0, .ref (gA Λ 31 0)), (1, .int (nI 3)), (2, .int (nI us))] dX11_stays_9 rfl (by decide) rfl ?_
    refine j_iconst C (nI 0) dX11_stays_10 (by decide) ?_
    refine j_istore C [(4, .int (nI 0)), (3, .int (nI 0)), (0, .ref (gA Λ 31 0)), (1, .int (nI 3)), (2, .int (nI us))] dX11_stays_11 (by decide) rfl ?_
    have lb13 : ∀ (fu : Nat) (q b : Nat), (6 - b) < fu → (b ≤ 6) → (q = stRow (fun b => M 48 (6 * 3 + b) + stF (M 48) 2 (3 + 1) (us ||| 2 ^ b)) us b) → J p l e ({ frames := 16, cells := 0, slots := 0, locals := 240 }) s m ([.ref (gA Λ 31 0), .int (nI 3), .int (nI us)] : List Value).toArray below meth c 6 D cy base (MQ below (va_Qi (fun v u => v = nI (stF (M 48) 3 3 us) ∧ u = σ) (Wd D cy base Λ) (Ab base)) ([.ref (gA Λ 31 0), .int (nI 3), .int (nI us)] : List Value).toArray s 0 0 (Ab base)) 0 0 Λ 13 [(0, .ref (gA Λ 31 0)), (1, .int (nI 3)), (2, .int (nI us)), (3, .int (nI q)), (4, .int (nI b))] [] σ := by
      intro fu
      induction fu with
      | zero => intro q b hfu; exact absurd hfu (Nat.not_lt_zero _)
      | succ fu ih =>
        intro q b hfu hb hq
        have hq240 : q ≤ 240 := by rw [hq]; exact stRow_le (fun x hx => by have q1 := stF_le (f := M 48) (d := 2) (a := 3 + 1) (used := us ||| 2 ^ x) (by omega) h48; have q2 := h48 (6 * 3 + x) (by omega); show M 48 (6 * 3 + x) + stF (M 48) 2 (3 + 1) (us ||| 2 ^ x) ≤ 240; omega)
        have ih13 := ih
        refine j_iload C dX11_stays_13 4 rfl ?_
        refine j_bipush C (nI 6) dX11_stays_15 (by decide) ?_
        refine j_icmp_ge (tgt := 80) C dX11_stays_17 (by decide) (nI_leI (by omega) (by omega)) (fun h17 => ?_) (fun h17 => ?_)
        · refine j_iload_n C dX11_stays_80 rfl 3 rfl ?_
          exact j_iret C hr hlk (⟨by rw [hq, show b = 6 by omega]; rfl, rfl⟩) dX11_stays_81
        · refine j_iload_n C dX11_stays_20 rfl 2 rfl ?_
          refine j_iload C dX11_stays_21 4 rfl ?_
          refine j_ishr C (nI (us / 2 ^ b)) dX11_stays_23 (shrB (by omega) (by omega)) ?_
          refine j_iconst C (nI 1) dX11_stays_24 (by decide) ?_
          refine j_iand C (nI (us / 2 ^ b % 2)) dX11_stays_25 (and1 _) ?_
          refine j_iconst C (nI 1) dX11_stays_26 (by decide) ?_
          refine j_icmp_ne (tgt := 33) C dX11_stays_27 (by decide) (bitI (by omega) (by omega)) (fun h27 => ?_) (fun h27 => ?_)
          · refine j_aload_n C dX11_stays_33 rfl 0 rfl ?_
            refine j_getV C hwX11 31 0 25 (MR.in0 hM (by decide) (by decide)) rfl rfl (by decide) rfl 0 (hM.2.2.2 25 rfl) hL70 dX11_stays_34 ?_
            refine j_bipush C (nI 6) dX11_stays_37 (by decide) ?_
            refine j_iload_n C dX11_stays_39 rfl 1 rfl ?_
            refine j_imul C (nI 18) dX11_stays_40 (by decide) ?_
            refine j_iload C dX11_stays_41 4 rfl ?_
            refine j_iadd C (nI (18 + b)) dX11_stays_43 (nI_add _ _) ?_
            have hb44 : M 48 (18 + b) ≤ 40 := hB 48 (18 + b) (decide_eq_true (show 18 + b < 36 by omega))
            refine j_iald C 48 0 (18 + b) (MR.in0 hM (by decide) (by decide)) rfl rfl 36 (hM.2.2.1 48 (by decide) (by decide)) (by omega) (by omega) (nI (M 48 (18 + b))) (hM.1 48 (18 + b) (decide_eq_true (show 18 + b < 36 by omega))) dX11_stays_44 ?_
            refine j_aload_n C dX11_stays_45 rfl 0 rfl ?_
            refine j_iload_n C dX11_stays_46 rfl 1 rfl ?_
            refine j_iconst C (nI 1) dX11_stays_47 (by decide) ?_
            refine j_iadd C (nI 4) dX11_stays_48 (by decide) ?_
            refine j_iload_n C dX11_stays_49 rfl 2 rfl ?_
            refine j_iconst C (nI 1) dX11_stays_50 (by decide) ?_
            refine j_iload C dX11_stays_51 4 rfl ?_
            refine j_ishl C (nI (2 ^ b)) dX11_stays_53 (shl1 (by omega)) ?_
            refine j_ior C (nI (us ||| (2 ^ b))) dX11_stays_54 (fa_or _ _) ?_
            have hsb := stF_le (f := M 48) (d := 2) (a := 4) (used := us ||| (2 ^ b)) (by omega) h48
            refine c_i0 C (r_V C 31 0 [.int (nI 4), .int (nI (us ||| (2 ^ b)))] (c_stays_4 l D cy base Λ σ M hM hB h48 (us ||| (2 ^ b)) (or_lt (by omega) (pow6 (by omega)))) (cwV 2 hts gX11_stays_X11_stays rfl rfl rfl (by decide +kernel) ⟨by decide, by decide⟩) (MR.in0 hM (by decide) (by decide)) rfl rfl rfl rfl (Nat.le_of_ble_eq_true rfl) dX11_stays_55 ⟨by decide, by decide⟩) (fun rv uu hp => ?_)
            rw [hp.1, hp.2]
            refine j_iadd C (nI (M 48 (18 + b) + (stF (M 48) 2 4 (us ||| (2 ^ b))))) dX11_stays_58 (nI_add _ _) ?_
            refine j_istore C [(5, .int (nI (M 48 (18 + b) + (stF (M 48) 2 4 (us ||| (2 ^ b)))))), (0, .ref (gA Λ 31 0)), (1, .int (nI 3)), (2, .int (nI us)), (3, .int (nI q)), (4, .int (nI b))] dX11_stays_59 (by decide) rfl ?_
            refine j_iload C dX11_stays_61 0 rfl ?_
            refine j_iload_n C dX11_stays_63 rfl 4 rfl ?_
            refine j_icmp_le (tgt := 72) C dX11_stays_64 (by decide) (nI_leI (by omega) (by omega)) (fun h64 => ?_) (fun h64 => ?_)
            · refine j_iload_n C dX11_stays_72 rfl 4 rfl ?_
              refine j_istore_n C [(3, .int (nI q)), (5, .int (nI (M 48 (18 + b) + (stF (M 48) 2 4 (us ||| (2 ^ b)))))), (0, .ref (gA Λ 31 0)), (1, .int (nI 3)), (2, .int (nI us)), (4, .int (nI b))] dX11_stays_73 rfl (by decide) rfl ?_
              refine j_iinc C [(4, .int (nI (b + 1))), (3, .int (nI q)), (5, .int (nI (M 48 (18 + b) + (stF (M 48) 2 4 (us ||| (2 ^ b)))))), (0, .ref (gA Λ 31 0)), (1, .int (nI 3)), (2, .int (nI us))] (nI (b + 1)) dX11_stays_74 5 rfl (nI_add _ 1) (by decide) rfl ?_
              refine j_goto (tgt := 13) C dX11_stays_77 (by decide) ?_
              refine j_lv [3, 4, 5, 1, 0] rfl ?_
              exact ih13 q (b + 1) (by omega) (by omega) (by show _ = (if us.testBit b = true then stRow (fun b => M 48 (6 * 3 + b) + stF (M 48) 2 (3 + 1) (us ||| 2 ^ b)) us b else if (fun b => M 48 (6 * 3 + b) + stF (M 48) 2 (3 + 1) (us ||| 2 ^ b)) b ≤ stRow (fun b => M 48 (6 * 3 + b) + stF (M 48) 2 (3 + 1) (us ||| 2 ^ b)) us b then stRow (fun b => M 48 (6 * 3 + b) + stF (M 48) 2 (3 + 1) (us ||| 2 ^ b)) us b else (fun b => M 48 (6 * 3 + b) + stF (M 48) 2 (3 + 1) (us ||| 2 ^ b)) b); rw [← hq, if_neg h27, if_pos h64])
            · refine j_iload C dX11_stays_67 0 rfl ?_
              refine j_goto (tgt := 73) C dX11_stays_69 (by decide) ?_
              refine j_istore_n C [(3, .int (nI (M 48 (18 + b) + (stF (M 48) 2 4 (us ||| (2 ^ b)))))), (5, .int (nI (M 48 (18 + b) + (stF (M 48) 2 4 (us ||| (2 ^ b)))))), (0, .ref (gA Λ 31 0)), (1, .int (nI 3)), (2, .int (nI us)), (4, .int (nI b))] dX11_stays_73 rfl (by decide) rfl ?_
              refine j_iinc C [(4, .int (nI (b + 1))), (3, .int (nI (M 48 (18 + b) + (stF (M 48) 2 4 (us ||| (2 ^ b)))))), (5, .int (nI (M 48 (18 + b) + (stF (M 48) 2 4 (us ||| (2 ^ b)))))), (0, .ref (gA Λ 31 0)), (1, .int (nI 3)), (2, .int (nI us))] (nI (b + 1)) dX11_stays_74 5 rfl (nI_add _ 1) (by decide) rfl ?_
              refine j_goto (tgt := 13) C dX11_stays_77 (by decide) ?_
              refine j_lv [3, 4, 5, 1, 0] rfl ?_
              exact ih13 (M 48 (18 + b) + (stF (M 48) 2 4 (us ||| (2 ^ b)))) (b + 1) (by omega) (by omega) (by show _ = (if us.testBit b = true then stRow (fun b => M 48 (6 * 3 + b) + stF (M 48) 2 (3 + 1) (us ||| 2 ^ b)) us b else if (fun b => M 48 (6 * 3 + b) + stF (M 48) 2 (3 + 1) (us ||| 2 ^ b)) b ≤ stRow (fun b => M 48 (6 * 3 + b) + stF (M 48) 2 (3 + 1) (us ||| 2 ^ b)) us b then stRow (fun b => M 48 (6 * 3 + b) + stF (M 48) 2 (3 + 1) (us ||| 2 ^ b)) us b else (fun b => M 48 (6 * 3 + b) + stF (M 48) 2 (3 + 1) (us ||| 2 ^ b)) b); rw [← hq, if_neg h27, if_neg h64])
          · refine j_goto (tgt := 74) C dX11_stays_30 (by decide) ?_
            refine j_iinc C [(4, .int (nI (b + 1))), (0, .ref (gA Λ 31 0)), (1, .int (nI 3)), (2, .int (nI us)), (3, .int (nI q))] (nI (b + 1)) dX11_stays_74 4 rfl (nI_add _ 1) (by decide) rfl ?_
            refine j_goto (tgt := 13) C dX11_stays_77 (by decide) ?_
            refine j_lv [1, 2, 3, 4, 0] rfl ?_
            exact ih13 q (b + 1) (by omega) (by omega) (by show _ = (if us.testBit b = true then stRow (fun b => M 48 (6 * 3 + b) + stF (M 48) 2 (3 + 1) (us ||| 2 ^ b)) us b else if (fun b => M 48 (6 * 3 + b) + stF (M 48) 2 (3 + 1) (us ||| 2 ^ b)) b ≤ stRow (fun b => M 48 (6 * 3 + b) + stF (M 48) 2 (3 + 1) (us ||| 2 ^ b)) us b then stRow (fun b => M 48 (6 * 3 + b) + stF (M 48) 2 (3 + 1) (us ||| 2 ^ b)) us b else (fun b => M 48 (6 * 3 + b) + stF (M 48) 2 (3 + 1) (us ||| 2 ^ b)) b); rw [← hq, if_pos h27])
    refine j_lv [2, 3, 4, 1, 0] rfl ?_
    exact lb13 _ 0 0 (Nat.lt_succ_self _) (by omega) rfl
  · exact z.elim

set_option maxHeartbeats 4000000 in
set_option maxRecDepth 100000 in
theorem c_stays_2 (l : Launch) (D : va_G) (cy : Nat → ClassId) (base : Nat) (Λ : LY) (σ : HS) (M : MM) (hM : MR Λ σ M) (hB : MBd M) (h48 : ∀ x, x < 36 → M 48 x ≤ 40) (us : Nat) (hus : us < 64) : Met l yX11_stays wsX11_stays ({ frames := 20, cells := 0, slots := 0, locals := 300 }) (va_Pc [.ref (gA Λ 31 0), .int (nI 2), .int (nI us)] (Wd D cy base Λ σ)) (va_Qi (fun v u => v = nI (stF (M 48) 4 2 us) ∧ u = σ) (Wd D cy base Λ) (Ab base)) 0 0 (Ab base) := by
  refine j_start (cc := cX11_stays) (nL := 6) (ret := (some .int)) (lv := [(0, .ref (gA Λ 31 0)), (1, .int (nI 2)), (2, .int (nI us))]) (by decide) rfl (Nat.le_of_ble_eq_true rfl) rfl ?_
  intro p e s m below meth c C hr hlk hnm
  have C : Cx p s m ([.ref (gA Λ 31 0), .int (nI 2), .int (nI us)] : List Value).toArray c cX11_stays 6 RX11 wsX11_stays D cy base := C
  have hts := C.2.2.2.2.1
  have hwX11 : ∀ w ∈ u_ws RX11 TX11 26, w ∈ wsX11_stays := by decide +kernel
  have hM70 : (Cond.fieldLink RX11 70 (TX11 25).1 (TX11 25).2.1 (TX11 25).2.2.1).before ([.ref (gA Λ 31 0), .int (nI 2), .int (nI us)] : List Value).toArray s = true := hts (.fieldLink RX11 70 "CodeRoomsModel" "together" "[I") (by decide +kernel)
  have hL70 : FL RX11 70 (TX11 25).1 (TX11 25).2.1 (TX11 25).2.2.1 ([.ref (gA Λ 31 0), .int (nI 2), .int (nI us)] : List Value).toArray s := Or.inl hM70
  refine j_iload_n C dX11_stays_0 rfl 1 rfl ?_
  refine j_bipush C (nI 6) dX11_stays_1 (by decide) ?_
  refine j_icmp_ne (tgt := 8) C (P := False) dX11_stays_3 (by decide) (by decide) (fun z => ?_) (fun z => ?_)
  · refine j_iconst C (nI 0) dX11_stays_8 (by decide) ?_
    refine j_istore_n C [(3, .int (nI 0)), (0, .ref (gA Λ 31 0)), (1, .int (nI 2)), (2, .int (nI us))] dX11_stays_9 rfl (by decide) rfl ?_
    refine j_iconst C (nI 0) dX11_stays_10 (by decide) ?_
    refine j_istore C [(4, .int (nI 0)), (3, .int (nI 0)), (0, .ref (gA Λ 31 0)), (1, .int (nI 2)), (2, .int (nI us))] dX11_stays_11 (by decide) rfl ?_
    have lb13 : ∀ (fu : Nat) (q b : Nat), (6 - b) < fu → (b ≤ 6) → (q = stRow (fun b => M 48 (6 * 2 + b) + stF (M 48) 3 (2 + 1) (us ||| 2 ^ b)) us b) → J p l e ({ frames := 20, cells := 0, slots := 0, locals := 300 }) s m ([.ref (gA Λ 31 0), .int (nI 2), .int (nI us)] : List Value).toArray below meth c 6 D cy base (MQ below (va_Qi (fun v u => v = nI (stF (M 48) 4 2 us) ∧ u = σ) (Wd D cy base Λ) (Ab base)) ([.ref (gA Λ 31 0), .int (nI 2), .int (nI us)] : List Value).toArray s 0 0 (Ab base)) 0 0 Λ 13 [(0, .ref (gA Λ 31 0)), (1, .int (nI 2)), (2, .int (nI us)), (3, .int (nI q)), (4, .int (nI b))] [] σ := by
      intro fu
      induction fu with
      | zero => intro q b hfu; exact absurd hfu (Nat.not_lt_zero _)
      | succ fu ih =>
        intro q b hfu hb hq
        have hq240 : q ≤ 240 := by rw [hq]; exact stRow_le (fun x hx => by have q1 := stF_le (f := M 48) (d := 3) (a := 2 + 1) (used := us ||| 2 ^ x) (by omega) h48; have q2 := h48 (6 * 2 + x) (by omega); show M 48 (6 * 2 + x) + stF (M 48) 3 (2 + 1) (us ||| 2 ^ x) ≤ 240; omega)
        have ih13 := ih
        refine j_iload C dX11_stays_13 4 rfl ?_
        refine j_bipush C (nI 6) dX11_stays_15 (by decide) ?_
        refine j_icmp_ge (tgt := 80) C dX11_stays_17 (by decide) (nI_leI (by omega) (by omega)) (fun h17 => ?_) (fun h17 => ?_)
        · refine j_iload_n C dX11_stays_80 rfl 3 rfl ?_
          exact j_iret C hr hlk (⟨by rw [hq, show b = 6 by omega]; rfl, rfl⟩) dX11_stays_81
        · refine j_iload_n C dX11_stays_20 rfl 2 rfl ?_
          refine j_iload C dX11_stays_21 4 rfl ?_
          refine j_ishr C (nI (us / 2 ^ b)) dX11_stays_23 (shrB (by omega) (by omega)) ?_
          refine j_iconst C (nI 1) dX11_stays_24 (by decide) ?_
          refine j_iand C (nI (us / 2 ^ b % 2)) dX11_stays_25 (and1 _) ?_
          refine j_iconst C (nI 1) dX11_stays_26 (by decide) ?_
          refine j_icmp_ne (tgt := 33) C dX11_stays_27 (by decide) (bitI (by omega) (by omega)) (fun h27 => ?_) (fun h27 => ?_)
          · refine j_aload_n C dX11_stays_33 rfl 0 rfl ?_
            refine j_getV C hwX11 31 0 25 (MR.in0 hM (by decide) (by decide)) rfl rfl (by decide) rfl 0 (hM.2.2.2 25 rfl) hL70 dX11_stays_34 ?_
            refine j_bipush C (nI 6) dX11_stays_37 (by decide) ?_
            refine j_iload_n C dX11_stays_39 rfl 1 rfl ?_
            refine j_imul C (nI 12) dX11_stays_40 (by decide) ?_
            refine j_iload C dX11_stays_41 4 rfl ?_
            refine j_iadd C (nI (12 + b)) dX11_stays_43 (nI_add _ _) ?_
            have hb44 : M 48 (12 + b) ≤ 40 := hB 48 (12 + b) (decide_eq_true (show 12 + b < 36 by omega))
            refine j_iald C 48 0 (12 + b) (MR.in0 hM (by decide) (by decide)) rfl rfl 36 (hM.2.2.1 48 (by decide) (by decide)) (by omega) (by omega) (nI (M 48 (12 + b))) (hM.1 48 (12 + b) (decide_eq_true (show 12 + b < 36 by omega))) dX11_stays_44 ?_
            refine j_aload_n C dX11_stays_45 rfl 0 rfl ?_
            refine j_iload_n C dX11_stays_46 rfl 1 rfl ?_
            refine j_iconst C (nI 1) dX11_stays_47 (by decide) ?_
            refine j_iadd C (nI 3) dX11_stays_48 (by decide) ?_
            refine j_iload_n C dX11_stays_49 rfl 2 rfl ?_
            refine j_iconst C (nI 1) dX11_stays_50 (by decide) ?_
            refine j_iload C dX11_stays_51 4 rfl ?_
            refine j_ishl C (nI (2 ^ b)) dX11_stays_53 (shl1 (by omega)) ?_
            refine j_ior C (nI (us ||| (2 ^ b))) dX11_stays_54 (fa_or _ _) ?_
            have hsb := stF_le (f := M 48) (d := 3) (a := 3) (used := us ||| (2 ^ b)) (by omega) h48
            refine c_i0 C (r_V C 31 0 [.int (nI 3), .int (nI (us ||| (2 ^ b)))] (c_stays_3 l D cy base Λ σ M hM hB h48 (us ||| (2 ^ b)) (or_lt (by omega) (pow6 (by omega)))) (cwV 2 hts gX11_stays_X11_stays rfl rfl rfl (by decide +kernel) ⟨by decide, by decide⟩) (MR.in0 hM (by decide) (by decide)) rfl rfl rfl rfl (Nat.le_of_ble_eq_true rfl) dX11_stays_55 ⟨by decide, by decide⟩) (fun rv uu hp => ?_)
            rw [hp.1, hp.2]
            refine j_iadd C (nI (M 48 (12 + b) + (stF (M 48) 3 3 (us ||| (2 ^ b))))) dX11_stays_58 (nI_add _ _) ?_
            refine j_istore C [(5, .int (nI (M 48 (12 + b) + (stF (M 48) 3 3 (us ||| (2 ^ b)))))), (0, .ref (gA Λ 31 0)), (1, .int (nI 2)), (2, .int (nI us)), (3, .int (nI q)), (4, .int (nI b))] dX11_stays_59 (by decide) rfl ?_
            refine j_iload C dX11_stays_61 0 rfl ?_
            refine j_iload_n C dX11_stays_63 rfl 4 rfl ?_
            refine j_icmp_le (tgt := 72) C dX11_stays_64 (by decide) (nI_leI (by omega) (by omega)) (fun h64 => ?_) (fun h64 => ?_)
            · refine j_iload_n C dX11_stays_72 rfl 4 rfl ?_
              refine j_istore_n C [(3, .int (nI q)), (5, .int (nI (M 48 (12 + b) + (stF (M 48) 3 3 (us ||| (2 ^ b)))))), (0, .ref (gA Λ 31 0)), (1, .int (nI 2)), (2, .int (nI us)), (4, .int (nI b))] dX11_stays_73 rfl (by decide) rfl ?_
              refine j_iinc C [(4, .int (nI (b + 1))), (3, .int (nI q)), (5, .int (nI (M 48 (12 + b) + (stF (M 48) 3 3 (us ||| (2 ^ b)))))), (0, .ref (gA Λ 31 0)), (1, .int (nI 2)), (2, .int (nI us))] (nI (b + 1)) dX11_stays_74 5 rfl (nI_add _ 1) (by decide) rfl ?_
              refine j_goto (tgt := 13) C dX11_stays_77 (by decide) ?_
              refine j_lv [3, 4, 5, 1, 0] rfl ?_
              exact ih13 q (b + 1) (by omega) (by omega) (by show _ = (if us.testBit b = true then stRow (fun b => M 48 (6 * 2 + b) + stF (M 48) 3 (2 + 1) (us ||| 2 ^ b)) us b else if (fun b => M 48 (6 * 2 + b) + stF (M 48) 3 (2 + 1) (us ||| 2 ^ b)) b ≤ stRow (fun b => M 48 (6 * 2 + b) + stF (M 48) 3 (2 + 1) (us ||| 2 ^ b)) us b then stRow (fun b => M 48 (6 * 2 + b) + stF (M 48) 3 (2 + 1) (us ||| 2 ^ b)) us b else (fun b => M 48 (6 * 2 + b) + stF (M 48) 3 (2 + 1) (us ||| 2 ^ b)) b); rw [← hq, if_neg h27, if_pos h64])
            · refine j_iload C dX11_stays_67 0 rfl ?_
              refine j_goto (tgt := 73) C dX11_stays_69 (by decide) ?_
              refine j_istore_n C [(3, .int (nI (M 48 (12 + b) + (stF (M 48) 3 3 (us ||| (2 ^ b)))))), (5, .int (nI (M 48 (12 + b) + (stF (M 48) 3 3 (us ||| (2 ^ b)))))), (0, .ref (gA Λ 31 0)), (1, .int (nI 2)), (2, .int (nI us)), (4, .int (nI b))] dX11_stays_73 rfl (by decide) rfl ?_
              refine j_iinc C [(4, .int (nI (b + 1))), (3, .int (nI (M 48 (12 + b) + (stF (M 48) 3 3 (us ||| (2 ^ b)))))), (5, .int (nI (M 48 (12 + b) + (stF (M 48) 3 3 (us ||| (2 ^ b)))))), (0, .ref (gA Λ 31 0)), (1, .int (nI 2)), (2, .int (nI us))] (nI (b + 1)) dX11_stays_74 5 rfl (nI_add _ 1) (by decide) rfl ?_
              refine j_goto (tgt := 13) C dX11_stays_77 (by decide) ?_
              refine j_lv [3, 4, 5, 1, 0] rfl ?_
              exact ih13 (M 48 (12 + b) + (stF (M 48) 3 3 (us ||| (2 ^ b)))) (b + 1) (by omega) (by omega) (by show _ = (if us.testBit b = true then stRow (fun b => M 48 (6 * 2 + b) + stF (M 48) 3 (2 + 1) (us ||| 2 ^ b)) us b else if (fun b => M 48 (6 * 2 + b) + stF (M 48) 3 (2 + 1) (us ||| 2 ^ b)) b ≤ stRow (fun b => M 48 (6 * 2 + b) + stF (M 48) 3 (2 + 1) (us ||| 2 ^ b)) us b then stRow (fun b => M 48 (6 * 2 + b) + stF (M 48) 3 (2 + 1) (us ||| 2 ^ b)) us b else (fun b => M 48 (6 * 2 + b) + stF (M 48) 3 (2 + 1) (us ||| 2 ^ b)) b); rw [← hq, if_neg h27, if_neg h64])
          · refine j_goto (tgt := 74) C dX11_stays_30 (by decide) ?_
            refine j_iinc C [(4, .int (nI (b + 1))), (0, .ref (gA Λ 31 0)), (1, .int (nI 2)), (2, .int (nI us)), (3, .int (nI q))] (nI (b + 1)) dX11_stays_74 4 rfl (nI_add _ 1) (by decide) rfl ?_
            refine j_goto (tgt := 13) C dX11_stays_77 (by decide) ?_
            refine j_lv [1, 2, 3, 4, 0] rfl ?_
            exact ih13 q (b + 1) (by omega) (by omega) (by show _ = (if us.testBit b = true then stRow (fun b => M 48 (6 * 2 + b) + stF (M 48) 3 (2 + 1) (us ||| 2 ^ b)) us b else if (fun b => M 48 (6 * 2 + b) + stF (M 48) 3 (2 + 1) (us ||| 2 ^ b)) b ≤ stRow (fun b => M 48 (6 * 2 + b) + stF (M 48) 3 (2 + 1) (us ||| 2 ^ b)) us b then stRow (fun b => M 48 (6 * 2 + b) + stF (M 48) 3 (2 + 1) (us ||| 2 ^ b)) us b else (fun b => M 48 (6 * 2 + b) + stF (M 48) 3 (2 + 1) (us ||| 2 ^ b)) b); rw [← hq, if_pos h27])
    refine j_lv [2, 3, 4, 1, 0] rfl ?_
    exact lb13 _ 0 0 (Nat.lt_succ_self _) (by omega) rfl
  · exact z.elim

set_option maxHeartbeats 4000000 in
set_option maxRecDepth 100000 in
theorem c_stays_1 (l : Launch) (D : va_G) (cy : Nat → ClassId) (base : Nat) (Λ : LY) (σ : HS) (M : MM) (hM : MR Λ σ M) (hB : MBd M) (h48 : ∀ x, x < 36 → M 48 x ≤ 40) (us : Nat) (hus : us < 64) : Met l yX11_stays wsX11_stays ({ frames := 24, cells := 0, slots := 0, locals := 360 }) (va_Pc [.ref (gA Λ 31 0), .int (nI 1), .int (nI us)] (Wd D cy base Λ σ)) (va_Qi (fun v u => v = nI (stF (M 48) 5 1 us) ∧ u = σ) (Wd D cy base Λ) (Ab base)) 0 0 (Ab base) := by
  refine j_start (cc := cX11_stays) (nL := 6) (ret := (some .int)) (lv := [(0, .ref (gA Λ 31 0)), (1, .int (nI 1)), (2, .int (nI us))]) (by decide) rfl (Nat.le_of_ble_eq_true rfl) rfl ?_
  intro p e s m below meth c C hr hlk hnm
  have C : Cx p s m ([.ref (gA Λ 31 0), .int (nI 1), .int (nI us)] : List Value).toArray c cX11_stays 6 RX11 wsX11_stays D cy base := C
  have hts := C.2.2.2.2.1
  have hwX11 : ∀ w ∈ u_ws RX11 TX11 26, w ∈ wsX11_stays := by decide +kernel
  have hM70 : (Cond.fieldLink RX11 70 (TX11 25).1 (TX11 25).2.1 (TX11 25).2.2.1).before ([.ref (gA Λ 31 0), .int (nI 1), .int (nI us)] : List Value).toArray s = true := hts (.fieldLink RX11 70 "CodeRoomsModel" "together" "[I") (by decide +kernel)
  have hL70 : FL RX11 70 (TX11 25).1 (TX11 25).2.1 (TX11 25).2.2.1 ([.ref (gA Λ 31 0), .int (nI 1), .int (nI us)] : List Value).toArray s := Or.inl hM70
  refine j_iload_n C dX11_stays_0 rfl 1 rfl ?_
  refine j_bipush C (nI 6) dX11_stays_1 (by decide) ?_
  refine j_icmp_ne (tgt := 8) C (P := False) dX11_stays_3 (by decide) (by decide) (fun z => ?_) (fun z => ?_)
  · refine j_iconst C (nI 0) dX11_stays_8 (by decide) ?_
    refine j_istore_n C [(3, .int (nI 0)), (0, .ref (gA Λ 31 0)), (1, .int (nI 1)), (2, .int (nI us))] dX11_stays_9 rfl (by decide) rfl ?_
    refine j_iconst C (nI 0) dX11_stays_10 (by decide) ?_
    refine j_istore C [(4, .int (nI 0)), (3, .int (nI 0)), (0, .ref (gA Λ 31 0)), (1, .int (nI 1)), (2, .int (nI us))] dX11_stays_11 (by decide) rfl ?_
    have lb13 : ∀ (fu : Nat) (q b : Nat), (6 - b) < fu → (b ≤ 6) → (q = stRow (fun b => M 48 (6 * 1 + b) + stF (M 48) 4 (1 + 1) (us ||| 2 ^ b)) us b) → J p l e ({ frames := 24, cells := 0, slots := 0, locals := 360 }) s m ([.ref (gA Λ 31 0), .int (nI 1), .int (nI us)] : List Value).toArray below meth c 6 D cy base (MQ below (va_Qi (fun v u => v = nI (stF (M 48) 5 1 us) ∧ u = σ) (Wd D cy base Λ) (Ab base)) ([.ref (gA Λ 31 0), .int (nI 1), .int (nI us)] : List Value).toArray s 0 0 (Ab base)) 0 0 Λ 13 [(0, .ref (gA Λ 31 0)), (1, .int (nI 1)), (2, .int (nI us)), (3, .int (nI q)), (4, .int (nI b))] [] σ := by
      intro fu
      induction fu with
      | zero => intro q b hfu; exact absurd hfu (Nat.not_lt_zero _)
      | succ fu ih =>
        intro q b hfu hb hq
        have hq240 : q ≤ 240 := by rw [hq]; exact stRow_le (fun x hx => by have q1 := stF_le (f := M 48) (d := 4) (a := 1 + 1) (used := us ||| 2 ^ x) (by omega) h48; have q2 := h48 (6 * 1 + x) (by omega); show M 48 (6 * 1 + x) + stF (M 48) 4 (1 + 1) (us ||| 2 ^ x) ≤ 240; omega)
        have ih13 := ih
        refine j_iload C dX11_stays_13 4 rfl ?_
        refine j_bipush C (nI 6) dX11_stays_15 (by decide) ?_
        refine j_icmp_ge (tgt := 80) C dX11_stays_17 (by decide) (nI_leI (by omega) (by omega)) (fun h17 => ?_) (fun h17 => ?_)
        · refine j_iload_n C dX11_stays_80 rfl 3 rfl ?_
          exact j_iret C hr hlk (⟨by rw [hq, show b = 6 by omega]; rfl, rfl⟩) dX11_stays_81
        · refine j_iload_n C dX11_stays_20 rfl 2 rfl ?_
          refine j_iload C dX11_stays_21 4 rfl ?_
          refine j_ishr C (nI (us / 2 ^ b)) dX11_stays_23 (shrB (by omega) (by omega)) ?_
          refine j_iconst C (nI 1) dX11_stays_24 (by decide) ?_
          refine j_iand C (nI (us / 2 ^ b % 2)) dX11_stays_25 (and1 _) ?_
          refine j_iconst C (nI 1) dX11_stays_26 (by decide) ?_
          refine j_icmp_ne (tgt := 33) C dX11_stays_27 (by decide) (bitI (by omega) (by omega)) (fun h27 => ?_) (fun h27 => ?_)
          · refine j_aload_n C dX11_stays_33 rfl 0 rfl ?_
            refine j_getV C hwX11 31 0 25 (MR.in0 hM (by decide) (by decide)) rfl rfl (by decide) rfl 0 (hM.2.2.2 25 rfl) hL70 dX11_stays_34 ?_
            refine j_bipush C (nI 6) dX11_stays_37 (by decide) ?_
            refine j_iload_n C dX11_stays_39 rfl 1 rfl ?_
            refine j_imul C (nI 6) dX11_stays_40 (by decide) ?_
            refine j_iload C dX11_stays_41 4 rfl ?_
            refine j_iadd C (nI (6 + b)) dX11_stays_43 (nI_add _ _) ?_
            have hb44 : M 48 (6 + b) ≤ 40 := hB 48 (6 + b) (decide_eq_true (show 6 + b < 36 by omega))
            refine j_iald C 48 0 (6 + b) (MR.in0 hM (by decide) (by decide)) rfl rfl 36 (hM.2.2.1 48 (by decide) (by decide)) (by omega) (by omega) (nI (M 48 (6 + b))) (hM.1 48 (6 + b) (decide_eq_true (show 6 + b < 36 by omega))) dX11_stays_44 ?_
            refine j_aload_n C dX11_stays_45 rfl 0 rfl ?_
            refine j_iload_n C dX11_stays_46 rfl 1 rfl ?_
            refine j_iconst C (nI 1) dX11_stays_47 (by decide) ?_
            refine j_iadd C (nI 2) dX11_stays_48 (by decide) ?_
            refine j_iload_n C dX11_stays_49 rfl 2 rfl ?_
            refine j_iconst C (nI 1) dX11_stays_50 (by decide) ?_
            refine j_iload C dX11_stays_51 4 rfl ?_
            refine j_ishl C (nI (2 ^ b)) dX11_stays_53 (shl1 (by omega)) ?_
            refine j_ior C (nI (us ||| (2 ^ b))) dX11_stays_54 (fa_or _ _) ?_
            have hsb := stF_le (f := M 48) (d := 4) (a := 2) (used := us ||| (2 ^ b)) (by omega) h48
            refine c_i0 C (r_V C 31 0 [.int (nI 2), .int (nI (us ||| (2 ^ b)))] (c_stays_2 l D cy base Λ σ M hM hB h48 (us ||| (2 ^ b)) (or_lt (by omega) (pow6 (by omega)))) (cwV 2 hts gX11_stays_X11_stays rfl rfl rfl (by decide +kernel) ⟨by decide, by decide⟩) (MR.in0 hM (by decide) (by decide)) rfl rfl rfl rfl (Nat.le_of_ble_eq_true rfl) dX11_stays_55 ⟨by decide, by decide⟩) (fun rv uu hp => ?_)
            rw [hp.1, hp.2]
            refine j_iadd C (nI (M 48 (6 + b) + (stF (M 48) 4 2 (us ||| (2 ^ b))))) dX11_stays_58 (nI_add _ _) ?_
            refine j_istore C [(5, .int (nI (M 48 (6 + b) + (stF (M 48) 4 2 (us ||| (2 ^ b)))))), (0, .ref (gA Λ 31 0)), (1, .int (nI 1)), (2, .int (nI us)), (3, .int (nI q)), (4, .int (nI b))] dX11_stays_59 (by decide) rfl ?_
            refine j_iload C dX11_stays_61 0 rfl ?_
            refine j_iload_n C dX11_stays_63 rfl 4 rfl ?_
            refine j_icmp_le (tgt := 72) C dX11_stays_64 (by decide) (nI_leI (by omega) (by omega)) (fun h64 => ?_) (fun h64 => ?_)
            · refine j_iload_n C dX11_stays_72 rfl 4 rfl ?_
              refine j_istore_n C [(3, .int (nI q)), (5, .int (nI (M 48 (6 + b) + (stF (M 48) 4 2 (us ||| (2 ^ b)))))), (0, .ref (gA Λ 31 0)), (1, .int (nI 1)), (2, .int (nI us)), (4, .int (nI b))] dX11_stays_73 rfl (by decide) rfl ?_
              refine j_iinc C [(4, .int (nI (b + 1))), (3, .int (nI q)), (5, .int (nI (M 48 (6 + b) + (stF (M 48) 4 2 (us ||| (2 ^ b)))))), (0, .ref (gA Λ 31 0)), (1, .int (nI 1)), (2, .int (nI us))] (nI (b + 1)) dX11_stays_74 5 rfl (nI_add _ 1) (by decide) rfl ?_
              refine j_goto (tgt := 13) C dX11_stays_77 (by decide) ?_
              refine j_lv [3, 4, 5, 1, 0] rfl ?_
              exact ih13 q (b + 1) (by omega) (by omega) (by show _ = (if us.testBit b = true then stRow (fun b => M 48 (6 * 1 + b) + stF (M 48) 4 (1 + 1) (us ||| 2 ^ b)) us b else if (fun b => M 48 (6 * 1 + b) + stF (M 48) 4 (1 + 1) (us ||| 2 ^ b)) b ≤ stRow (fun b => M 48 (6 * 1 + b) + stF (M 48) 4 (1 + 1) (us ||| 2 ^ b)) us b then stRow (fun b => M 48 (6 * 1 + b) + stF (M 48) 4 (1 + 1) (us ||| 2 ^ b)) us b else (fun b => M 48 (6 * 1 + b) + stF (M 48) 4 (1 + 1) (us ||| 2 ^ b)) b); rw [← hq, if_neg h27, if_pos h64])
            · refine j_iload C dX11_stays_67 0 rfl ?_
              refine j_goto (tgt := 73) C dX11_stays_69 (by decide) ?_
              refine j_istore_n C [(3, .int (nI (M 48 (6 + b) + (stF (M 48) 4 2 (us ||| (2 ^ b)))))), (5, .int (nI (M 48 (6 + b) + (stF (M 48) 4 2 (us ||| (2 ^ b)))))), (0, .ref (gA Λ 31 0)), (1, .int (nI 1)), (2, .int (nI us)), (4, .int (nI b))] dX11_stays_73 rfl (by decide) rfl ?_
              refine j_iinc C [(4, .int (nI (b + 1))), (3, .int (nI (M 48 (6 + b) + (stF (M 48) 4 2 (us ||| (2 ^ b)))))), (5, .int (nI (M 48 (6 + b) + (stF (M 48) 4 2 (us ||| (2 ^ b)))))), (0, .ref (gA Λ 31 0)), (1, .int (nI 1)), (2, .int (nI us))] (nI (b + 1)) dX11_stays_74 5 rfl (nI_add _ 1) (by decide) rfl ?_
              refine j_goto (tgt := 13) C dX11_stays_77 (by decide) ?_
              refine j_lv [3, 4, 5, 1, 0] rfl ?_
              exact ih13 (M 48 (6 + b) + (stF (M 48) 4 2 (us ||| (2 ^ b)))) (b + 1) (by omega) (by omega) (by show _ = (if us.testBit b = true then stRow (fun b => M 48 (6 * 1 + b) + stF (M 48) 4 (1 + 1) (us ||| 2 ^ b)) us b else if (fun b => M 48 (6 * 1 + b) + stF (M 48) 4 (1 + 1) (us ||| 2 ^ b)) b ≤ stRow (fun b => M 48 (6 * 1 + b) + stF (M 48) 4 (1 + 1) (us ||| 2 ^ b)) us b then stRow (fun b => M 48 (6 * 1 + b) + stF (M 48) 4 (1 + 1) (us ||| 2 ^ b)) us b else (fun b => M 48 (6 * 1 + b) + stF (M 48) 4 (1 + 1) (us ||| 2 ^ b)) b); rw [← hq, if_neg h27, if_neg h64])
          · refine j_goto (tgt := 74) C dX11_stays_30 (by decide) ?_
            refine j_iinc C [(4, .int (nI (b + 1))), (0, .ref (gA Λ 31 0)), (1, .int (nI 1)), (2, .int (nI us)), (3, .int (nI q))] (nI (b + 1)) dX11_stays_74 4 rfl (nI_add _ 1) (by decide) rfl ?_
            refine j_goto (tgt := 13) C dX11_stays_77 (by decide) ?_
            refine j_lv [1, 2, 3, 4, 0] rfl ?_
            exact ih13 q (b + 1) (by omega) (by omega) (by show _ = (if us.testBit b = true then stRow (fun b => M 48 (6 * 1 + b) + stF (M 48) 4 (1 + 1) (us ||| 2 ^ b)) us b else if (fun b => M 48 (6 * 1 + b) + stF (M 48) 4 (1 + 1) (us ||| 2 ^ b)) b ≤ stRow (fun b => M 48 (6 * 1 + b) + stF (M 48) 4 (1 + 1) (us ||| 2 ^ b)) us b then stRow (fun b => M 48 (6 * 1 + b) + stF (M 48) 4 (1 + 1) (us ||| 2 ^ b)) us b else (fun b => M 48 (6 * 1 + b) + stF (M 48) 4 (1 + 1) (us ||| 2 ^ b)) b); rw [← hq, if_pos h27])
    refine j_lv [2, 3, 4, 1, 0] rfl ?_
    exact lb13 _ 0 0 (Nat.lt_succ_self _) (by omega) rfl
  · exact z.elim

set_option maxHeartbeats 4000000 in
set_option maxRecDepth 100000 in
theorem c_stays_0 (l : Launch) (D : va_G) (cy : Nat → ClassId) (base : Nat) (Λ : LY) (σ : HS) (M : MM) (hM : MR Λ σ M) (hB : MBd M) (h48 : ∀ x, x < 36 → M 48 x ≤ 40) (us : Nat) (hus : us < 64) : Met l yX11_stays wsX11_stays ({ frames := 28, cells := 0, slots := 0, locals := 420 }) (va_Pc [.ref (gA Λ 31 0), .int (nI 0), .int (nI us)] (Wd D cy base Λ σ)) (va_Qi (fun v u => v = nI (stF (M 48) 6 0 us) ∧ u = σ) (Wd D cy base Λ) (Ab base)) 0 0 (Ab base) := by
  refine j_start (cc := cX11_stays) (nL := 6) (ret := (some .int)) (lv := [(0, .ref (gA Λ 31 0)), (1, .int (nI 0)), (2, .int (nI us))]) (by decide) rfl (Nat.le_of_ble_eq_true rfl) rfl ?_
  intro p e s m below meth c C hr hlk hnm
  have C : Cx p s m ([.ref (gA Λ 31 0), .int (nI 0), .int (nI us)] : List Value).toArray c cX11_stays 6 RX11 wsX11_stays D cy base := C
  have hts := C.2.2.2.2.1
  have hwX11 : ∀ w ∈ u_ws RX11 TX11 26, w ∈ wsX11_stays := by decide +kernel
  have hM70 : (Cond.fieldLink RX11 70 (TX11 25).1 (TX11 25).2.1 (TX11 25).2.2.1).before ([.ref (gA Λ 31 0), .int (nI 0), .int (nI us)] : List Value).toArray s = true := hts (.fieldLink RX11 70 "CodeRoomsModel" "together" "[I") (by decide +kernel)
  have hL70 : FL RX11 70 (TX11 25).1 (TX11 25).2.1 (TX11 25).2.2.1 ([.ref (gA Λ 31 0), .int (nI 0), .int (nI us)] : List Value).toArray s := Or.inl hM70
  refine j_iload_n C dX11_stays_0 rfl 1 rfl ?_
  refine j_bipush C (nI 6) dX11_stays_1 (by decide) ?_
  refine j_icmp_ne (tgt := 8) C (P := False) dX11_stays_3 (by decide) (by decide) (fun z => ?_) (fun z => ?_)
  · refine j_iconst C (nI 0) dX11_stays_8 (by decide) ?_
    refine j_istore_n C [(3, .int (nI 0)), (0, .ref (gA Λ 31 0)), (1, .int (nI 0)), (2, .int (nI us))] dX11_stays_9 rfl (by decide) rfl ?_
    refine j_iconst C (nI 0) dX11_stays_10 (by decide) ?_
    refine j_istore C [(4, .int (nI 0)), (3, .int (nI 0)), (0, .ref (gA Λ 31 0)), (1, .int (nI 0)), (2, .int (nI us))] dX11_stays_11 (by decide) rfl ?_
    have lb13 : ∀ (fu : Nat) (q b : Nat), (6 - b) < fu → (b ≤ 6) → (q = stRow (fun b => M 48 (6 * 0 + b) + stF (M 48) 5 (0 + 1) (us ||| 2 ^ b)) us b) → J p l e ({ frames := 28, cells := 0, slots := 0, locals := 420 }) s m ([.ref (gA Λ 31 0), .int (nI 0), .int (nI us)] : List Value).toArray below meth c 6 D cy base (MQ below (va_Qi (fun v u => v = nI (stF (M 48) 6 0 us) ∧ u = σ) (Wd D cy base Λ) (Ab base)) ([.ref (gA Λ 31 0), .int (nI 0), .int (nI us)] : List Value).toArray s 0 0 (Ab base)) 0 0 Λ 13 [(0, .ref (gA Λ 31 0)), (1, .int (nI 0)), (2, .int (nI us)), (3, .int (nI q)), (4, .int (nI b))] [] σ := by
      intro fu
      induction fu with
      | zero => intro q b hfu; exact absurd hfu (Nat.not_lt_zero _)
      | succ fu ih =>
        intro q b hfu hb hq
        have hq240 : q ≤ 240 := by rw [hq]; exact stRow_le (fun x hx => by have q1 := stF_le (f := M 48) (d := 5) (a := 0 + 1) (used := us ||| 2 ^ x) (by omega) h48; have q2 := h48 (6 * 0 + x) (by omega); show M 48 (6 * 0 + x) + stF (M 48) 5 (0 + 1) (us ||| 2 ^ x) ≤ 240; omega)
        have ih13 := ih
        refine j_iload C dX11_stays_13 4 rfl ?_
        refine j_bipush C (nI 6) dX11_stays_15 (by decide) ?_
        refine j_icmp_ge (tgt := 80) C dX11_stays_17 (by decide) (nI_leI (by omega) (by omega)) (fun h17 => ?_) (fun h17 => ?_)
        · refine j_iload_n C dX11_stays_80 rfl 3 rfl ?_
          exact j_iret C hr hlk (⟨by rw [hq, show b = 6 by omega]; rfl, rfl⟩) dX11_stays_81
        · refine j_iload_n C dX11_stays_20 rfl 2 rfl ?_
          refine j_iload C dX11_stays_21 4 rfl ?_
          refine j_ishr C (nI (us / 2 ^ b)) dX11_stays_23 (shrB (by omega) (by omega)) ?_
          refine j_iconst C (nI 1) dX11_stays_24 (by decide) ?_
          refine j_iand C (nI (us / 2 ^ b % 2)) dX11_stays_25 (and1 _) ?_
          refine j_iconst C (nI 1) dX11_stays_26 (by decide) ?_
          refine j_icmp_ne (tgt := 33) C dX11_stays_27 (by decide) (bitI (by omega) (by omega)) (fun h27 => ?_) (fun h27 => ?_)
          · refine j_aload_n C dX11_stays_33 rfl 0 rfl ?_
            refine j_getV C hwX11 31 0 25 (MR.in0 hM (by decide) (by decide)) rfl rfl (by decide) rfl 0 (hM.2.2.2 25 rfl) hL70 dX11_stays_34 ?_
            refine j_bipush C (nI 6) dX11_stays_37 (by decide) ?_
            refine j_iload_n C dX11_stays_39 rfl 1 rfl ?_
            refine j_imul C (nI 0) dX11_stays_40 (by decide) ?_
            refine j_iload C dX11_stays_41 4 rfl ?_
            refine j_iadd C (nI (0 + b)) dX11_stays_43 (nI_add _ _) ?_
            have hb44 : M 48 (0 + b) ≤ 40 := hB 48 (0 + b) (decide_eq_true (show 0 + b < 36 by omega))
            refine j_iald C 48 0 (0 + b) (MR.in0 hM (by decide) (by decide)) rfl rfl 36 (hM.2.2.1 48 (by decide) (by decide)) (by omega) (by omega) (nI (M 48 (0 + b))) (hM.1 48 (0 + b) (decide_eq_true (show 0 + b < 36 by omega))) dX11_stays_44 ?_
            refine j_aload_n C dX11_stays_45 rfl 0 rfl ?_
            refine j_iload_n C dX11_stays_46 rfl 1 rfl ?_
            refine j_iconst C (nI 1) dX11_stays_47 (by decide) ?_
            refine j_iadd C (nI 1) dX11_stays_48 (by decide) ?_
            refine j_iload_n C dX11_stays_49 rfl 2 rfl ?_
            refine j_iconst C (nI 1) dX11_stays_50 (by decide) ?_
            refine j_iload C dX11_stays_51 4 rfl ?_
            refine j_ishl C (nI (2 ^ b)) dX11_stays_53 (shl1 (by omega)) ?_
            refine j_ior C (nI (us ||| (2 ^ b))) dX11_stays_54 (fa_or _ _) ?_
            have hsb := stF_le (f := M 48) (d := 5) (a := 1) (used := us ||| (2 ^ b)) (by omega) h48
            refine c_i0 C (r_V C 31 0 [.int (nI 1), .int (nI (us ||| (2 ^ b)))] (c_stays_1 l D cy base Λ σ M hM hB h48 (us ||| (2 ^ b)) (or_lt (by omega) (pow6 (by omega)))) (cwV 2 hts gX11_stays_X11_stays rfl rfl rfl (by decide +kernel) ⟨by decide, by decide⟩) (MR.in0 hM (by decide) (by decide)) rfl rfl rfl rfl (Nat.le_of_ble_eq_true rfl) dX11_stays_55 ⟨by decide, by decide⟩) (fun rv uu hp => ?_)
            rw [hp.1, hp.2]
            refine j_iadd C (nI (M 48 (0 + b) + (stF (M 48) 5 1 (us ||| (2 ^ b))))) dX11_stays_58 (nI_add _ _) ?_
            refine j_istore C [(5, .int (nI (M 48 (0 + b) + (stF (M 48) 5 1 (us ||| (2 ^ b)))))), (0, .ref (gA Λ 31 0)), (1, .int (nI 0)), (2, .int (nI us)), (3, .int (nI q)), (4, .int (nI b))] dX11_stays_59 (by decide) rfl ?_
            refine j_iload C dX11_stays_61 0 rfl ?_
            refine j_iload_n C dX11_stays_63 rfl 4 rfl ?_
            refine j_icmp_le (tgt := 72) C dX11_stays_64 (by decide) (nI_leI (by omega) (by omega)) (fun h64 => ?_) (fun h64 => ?_)
            · refine j_iload_n C dX11_stays_72 rfl 4 rfl ?_
              refine j_istore_n C [(3, .int (nI q)), (5, .int (nI (M 48 (0 + b) + (stF (M 48) 5 1 (us ||| (2 ^ b)))))), (0, .ref (gA Λ 31 0)), (1, .int (nI 0)), (2, .int (nI us)), (4, .int (nI b))] dX11_stays_73 rfl (by decide) rfl ?_
              refine j_iinc C [(4, .int (nI (b + 1))), (3, .int (nI q)), (5, .int (nI (M 48 (0 + b) + (stF (M 48) 5 1 (us ||| (2 ^ b)))))), (0, .ref (gA Λ 31 0)), (1, .int (nI 0)), (2, .int (nI us))] (nI (b + 1)) dX11_stays_74 5 rfl (nI_add _ 1) (by decide) rfl ?_
              refine j_goto (tgt := 13) C dX11_stays_77 (by decide) ?_
              refine j_lv [3, 4, 5, 1, 0] rfl ?_
              exact ih13 q (b + 1) (by omega) (by omega) (by show _ = (if us.testBit b = true then stRow (fun b => M 48 (6 * 0 + b) + stF (M 48) 5 (0 + 1) (us ||| 2 ^ b)) us b else if (fun b => M 48 (6 * 0 + b) + stF (M 48) 5 (0 + 1) (us ||| 2 ^ b)) b ≤ stRow (fun b => M 48 (6 * 0 + b) + stF (M 48) 5 (0 + 1) (us ||| 2 ^ b)) us b then stRow (fun b => M 48 (6 * 0 + b) + stF (M 48) 5 (0 + 1) (us ||| 2 ^ b)) us b else (fun b => M 48 (6 * 0 + b) + stF (M 48) 5 (0 + 1) (us ||| 2 ^ b)) b); rw [← hq, if_neg h27, if_pos h64])
            · refine j_iload C dX11_stays_67 0 rfl ?_
              refine j_goto (tgt := 73) C dX11_stays_69 (by decide) ?_
              refine j_istore_n C [(3, .int (nI (M 48 (0 + b) + (stF (M 48) 5 1 (us ||| (2 ^ b)))))), (5, .int (nI (M 48 (0 + b) + (stF (M 48) 5 1 (us ||| (2 ^ b)))))), (0, .ref (gA Λ 31 0)), (1, .int (nI 0)), (2, .int (nI us)), (4, .int (nI b))] dX11_stays_73 rfl (by decide) rfl ?_
              refine j_iinc C [(4, .int (nI (b + 1))), (3, .int (nI (M 48 (0 + b) + (stF (M 48) 5 1 (us ||| (2 ^ b)))))), (5, .int (nI (M 48 (0 + b) + (stF (M 48) 5 1 (us ||| (2 ^ b)))))), (0, .ref (gA Λ 31 0)), (1, .int (nI 0)), (2, .int (nI us))] (nI (b + 1)) dX11_stays_74 5 rfl (nI_add _ 1) (by decide) rfl ?_
              refine j_goto (tgt := 13) C dX11_stays_77 (by decide) ?_
              refine j_lv [3, 4, 5, 1, 0] rfl ?_
              exact ih13 (M 48 (0 + b) + (stF (M 48) 5 1 (us ||| (2 ^ b)))) (b + 1) (by omega) (by omega) (by show _ = (if us.testBit b = true then stRow (fun b => M 48 (6 * 0 + b) + stF (M 48) 5 (0 + 1) (us ||| 2 ^ b)) us b else if (fun b => M 48 (6 * 0 + b) + stF (M 48) 5 (0 + 1) (us ||| 2 ^ b)) b ≤ stRow (fun b => M 48 (6 * 0 + b) + stF (M 48) 5 (0 + 1) (us ||| 2 ^ b)) us b then stRow (fun b => M 48 (6 * 0 + b) + stF (M 48) 5 (0 + 1) (us ||| 2 ^ b)) us b else (fun b => M 48 (6 * 0 + b) + stF (M 48) 5 (0 + 1) (us ||| 2 ^ b)) b); rw [← hq, if_neg h27, if_neg h64])
          · refine j_goto (tgt := 74) C dX11_stays_30 (by decide) ?_
            refine j_iinc C [(4, .int (nI (b + 1))), (0, .ref (gA Λ 31 0)), (1, .int (nI 0)), (2, .int (nI us)), (3, .int (nI q))] (nI (b + 1)) dX11_stays_74 4 rfl (nI_add _ 1) (by decide) rfl ?_
            refine j_goto (tgt := 13) C dX11_stays_77 (by decide) ?_
            refine j_lv [1, 2, 3, 4, 0] rfl ?_
            exact ih13 q (b + 1) (by omega) (by omega) (by show _ = (if us.testBit b = true then stRow (fun b => M 48 (6 * 0 + b) + stF (M 48) 5 (0 + 1) (us ||| 2 ^ b)) us b else if (fun b => M 48 (6 * 0 + b) + stF (M 48) 5 (0 + 1) (us ||| 2 ^ b)) b ≤ stRow (fun b => M 48 (6 * 0 + b) + stF (M 48) 5 (0 + 1) (us ||| 2 ^ b)) us b then stRow (fun b => M 48 (6 * 0 + b) + stF (M 48) 5 (0 + 1) (us ||| 2 ^ b)) us b else (fun b => M 48 (6 * 0 + b) + stF (M 48) 5 (0 + 1) (us ||| 2 ^ b)) b); rw [← hq, if_pos h27])
    refine j_lv [2, 3, 4, 1, 0] rfl ?_
    exact lb13 _ 0 0 (Nat.lt_succ_self _) (by omega) rfl
  · exact z.elim

set_option maxHeartbeats 4000000 in
set_option maxRecDepth 100000 in
theorem c_mmoves_no (l : Launch) (D : va_G) (cy : Nat → ClassId) (base : Nat) (Λ : LY) (σ : HS) (M : MM) (hM0 : MR0 Λ σ M) (h00 : M 31 0 = 0) (hB : MBd M) (hk : M 31 23 = 0) : Met l yX11_moves wsX11_moves ({ frames := 36, cells := 0, slots := 0, locals := 540 }) (va_Pc [.ref (gA Λ 31 0)] (Wd D cy base Λ σ)) (va_Qi (fun v u => MR Λ u M ∧ Same nMo σ u ∧ v = -1) (Wd D cy base Λ) (Ab base)) 0 0 (Ab base) := by
  refine j_start (cc := cX11_moves) (nL := 3) (ret := (some .int)) (lv := [(0, .ref (gA Λ 31 0))]) (by decide) rfl (Nat.le_of_ble_eq_true rfl) rfl ?_
  intro p e s m below meth c C hr hlk hnm
  have C : Cx p s m ([.ref (gA Λ 31 0)] : List Value).toArray c cX11_moves 3 RX11 wsX11_moves D cy base := C
  have hts := C.2.2.2.2.1
  have hwX11 : ∀ w ∈ u_ws RX11 TX11 26, w ∈ wsX11_moves := by decide +kernel
  have hM73 : (Cond.fieldLink RX11 73 (TX11 0).1 (TX11 0).2.1 (TX11 0).2.2.1).before ([.ref (gA Λ 31 0)] : List Value).toArray s = true := hts (.fieldLink RX11 73 "CodeRoomsModel" "thrown" "I") (by decide +kernel)
  have hL73 : FL RX11 73 (TX11 0).1 (TX11 0).2.1 (TX11 0).2.2.1 ([.ref (gA Λ 31 0)] : List Value).toArray s := Or.inl hM73
  have hM179 : (Cond.fieldLink RX11 179 (TX11 23).1 (TX11 23).2.1 (TX11 23).2.2.1).before ([.ref (gA Λ 31 0)] : List Value).toArray s = true := hts (.fieldLink RX11 179 "CodeRoomsModel" "isKept" "Z") (by decide +kernel)
  have hL179 : FL RX11 179 (TX11 23).1 (TX11 23).2.1 (TX11 23).2.2.1 ([.ref (gA Λ 31 0)] : List Value).toArray s := Or.inl hM179
  have hn : M 31 5 ≤ 40 := hB 31 5 rfl
  refine j_aload_n C dX11_moves_0 rfl 0 rfl ?_
  refine j_iconst C (nI 0) dX11_moves_1 (by decide) ?_
  refine j_putI C hwX11 31 0 0 (MR0.in0 hM0) rfl rfl (by decide) rfl tyX11 tyX11_ok nmX11 rfl rfl rfl hL73 dX11_moves_2 ?_
  have hM := MR0.start hM0 h00
  have hs0 : Same nMo σ (sI σ 31 0 0 (nI 0)) := Same.sI Same.rf (by decide)
  generalize sI σ 31 0 0 (nI 0) = σ0 at hM hs0 ⊢
  refine j_aload_n C dX11_moves_5 rfl 0 rfl ?_
  have hb6 : M 31 23 ≤ 40 := hB 31 23 rfl
  refine j_getI C hwX11 31 0 23 (MR.in0 hM (by decide) (by decide)) rfl rfl (by decide) rfl (nI (M 31 23)) (hM.1 31 23 rfl) hL179 dX11_moves_6 ?_
  refine j_if_ne (tgt := 14) C dX11_moves_9 (by decide) (nJ_ne0 (by omega)) (fun h9 => ?_) (fun h9 => ?_)
  · omega
  · refine j_iconst C ((-1)) dX11_moves_12 (by decide) ?_
    exact j_iret C hr hlk (⟨hM, hs0, rfl⟩) dX11_moves_13

set_option maxHeartbeats 4000000 in
set_option maxRecDepth 100000 in
theorem c_mmoves_ok (l : Launch) (D : va_G) (cy : Nat → ClassId) (base : Nat) (Λ : LY) (σ : HS) (M : MM) (hM0 : MR0 Λ σ M) (h00 : M 31 0 = 0) (hB : MBd M) (hk : M 31 23 ≠ 0) : Met l yX11_moves wsX11_moves ({ frames := 36, cells := 0, slots := 0, locals := 540 }) (va_Pc [.ref (gA Λ 31 0)] (Wd D cy base Λ σ)) (va_Qi (fun v u => MR Λ u (tgTo M (M 31 5)) ∧ Same nMo σ u ∧ v = nI (fb_ct (bothB M) (M 31 5)) - nI (stF (fun x => fb_ct (tgP M x) (M 31 5)) 6 0 0)) (Wd D cy base Λ) (Ab base)) 0 0 (Ab base) := by
  refine j_start (cc := cX11_moves) (nL := 3) (ret := (some .int)) (lv := [(0, .ref (gA Λ 31 0))]) (by decide) rfl (Nat.le_of_ble_eq_true rfl) rfl ?_
  intro p e s m below meth c C hr hlk hnm
  have C : Cx p s m ([.ref (gA Λ 31 0)] : List Value).toArray c cX11_moves 3 RX11 wsX11_moves D cy base := C
  have hts := C.2.2.2.2.1
  have hwX11 : ∀ w ∈ u_ws RX11 TX11 26, w ∈ wsX11_moves := by decide +kernel
  have hM36 : (Cond.fieldLink RX11 36 (TX11 11).1 (TX11 11).2.1 (TX11 11).2.2.1).before ([.ref (gA Λ 31 0)] : List Value).toArray s = true := hts (.fieldLink RX11 36 "CodeRoomsModel" "isHub" "[Z") (by decide +kernel)
  have hL36 : FL RX11 36 (TX11 11).1 (TX11 11).2.1 (TX11 11).2.2.1 ([.ref (gA Λ 31 0)] : List Value).toArray s := Or.inl hM36
  have hM40 : (Cond.fieldLink RX11 40 (TX11 12).1 (TX11 12).2.1 (TX11 12).2.2.1).before ([.ref (gA Λ 31 0)] : List Value).toArray s = true := hts (.fieldLink RX11 40 "CodeRoomsModel" "roomOf" "[I") (by decide +kernel)
  have hL40 : FL RX11 40 (TX11 12).1 (TX11 12).2.1 (TX11 12).2.2.1 ([.ref (gA Λ 31 0)] : List Value).toArray s := Or.inl hM40
  have hM67 : (Cond.fieldLink RX11 67 (TX11 24).1 (TX11 24).2.1 (TX11 24).2.2.1).before ([.ref (gA Λ 31 0)] : List Value).toArray s = true := hts (.fieldLink RX11 67 "CodeRoomsModel" "keptRoom" "[I") (by decide +kernel)
  have hL67 : FL RX11 67 (TX11 24).1 (TX11 24).2.1 (TX11 24).2.2.1 ([.ref (gA Λ 31 0)] : List Value).toArray s := Or.inl hM67
  have hM70 : (Cond.fieldLink RX11 70 (TX11 25).1 (TX11 25).2.1 (TX11 25).2.2.1).before ([.ref (gA Λ 31 0)] : List Value).toArray s = true := hts (.fieldLink RX11 70 "CodeRoomsModel" "together" "[I") (by decide +kernel)
  have hL70 : FL RX11 70 (TX11 25).1 (TX11 25).2.1 (TX11 25).2.2.1 ([.ref (gA Λ 31 0)] : List Value).toArray s := Or.inl hM70
  have hM73 : (Cond.fieldLink RX11 73 (TX11 0).1 (TX11 0).2.1 (TX11 0).2.2.1).before ([.ref (gA Λ 31 0)] : List Value).toArray s = true := hts (.fieldLink RX11 73 "CodeRoomsModel" "thrown" "I") (by decide +kernel)
  have hL73 : FL RX11 73 (TX11 0).1 (TX11 0).2.1 (TX11 0).2.2.1 ([.ref (gA Λ 31 0)] : List Value).toArray s := Or.inl hM73
  have hM83 : (Cond.fieldLink RX11 83 (TX11 5).1 (TX11 5).2.1 (TX11 5).2.2.1).before ([.ref (gA Λ 31 0)] : List Value).toArray s = true := hts (.fieldLink RX11 83 "CodeRoomsModel" "many" "I") (by decide +kernel)
  have hL83 : FL RX11 83 (TX11 5).1 (TX11 5).2.1 (TX11 5).2.2.1 ([.ref (gA Λ 31 0)] : List Value).toArray s := Or.inl hM83
  have hM179 : (Cond.fieldLink RX11 179 (TX11 23).1 (TX11 23).2.1 (TX11 23).2.2.1).before ([.ref (gA Λ 31 0)] : List Value).toArray s = true := hts (.fieldLink RX11 179 "CodeRoomsModel" "isKept" "Z") (by decide +kernel)
  have hL179 : FL RX11 179 (TX11 23).1 (TX11 23).2.1 (TX11 23).2.2.1 ([.ref (gA Λ 31 0)] : List Value).toArray s := Or.inl hM179
  have hn : M 31 5 ≤ 40 := hB 31 5 rfl
  refine j_aload_n C dX11_moves_0 rfl 0 rfl ?_
  refine j_iconst C (nI 0) dX11_moves_1 (by decide) ?_
  refine j_putI C hwX11 31 0 0 (MR0.in0 hM0) rfl rfl (by decide) rfl tyX11 tyX11_ok nmX11 rfl rfl rfl hL73 dX11_moves_2 ?_
  have hM := MR0.start hM0 h00
  have hs0 : Same nMo σ (sI σ 31 0 0 (nI 0)) := Same.sI Same.rf (by decide)
  generalize sI σ 31 0 0 (nI 0) = σ0 at hM hs0 ⊢
  refine j_aload_n C dX11_moves_5 rfl 0 rfl ?_
  have hb6 : M 31 23 ≤ 40 := hB 31 23 rfl
  refine j_getI C hwX11 31 0 23 (MR.in0 hM (by decide) (by decide)) rfl rfl (by decide) rfl (nI (M 31 23)) (hM.1 31 23 rfl) hL179 dX11_moves_6 ?_
  refine j_if_ne (tgt := 14) C dX11_moves_9 (by decide) (nJ_ne0 (by omega)) (fun h9 => ?_) (fun h9 => ?_)
  · refine j_iconst C (nI 0) dX11_moves_14 (by decide) ?_
    refine j_istore_n C [(1, .int (nI 0)), (0, .ref (gA Λ 31 0))] dX11_moves_15 rfl (by decide) rfl ?_
    have lb16 : ∀ (fu : Nat) (σ1 : HS) (i : Nat), (36 - i) < fu → (i ≤ 36) → (MR Λ σ1 (zrTo M i)) → (Same nMo σ σ1) → J p l e ({ frames := 36, cells := 0, slots := 0, locals := 540 }) s m ([.ref (gA Λ 31 0)] : List Value).toArray below meth c 3 D cy base (MQ below (va_Qi (fun v u => MR Λ u (tgTo M (M 31 5)) ∧ Same nMo σ u ∧ v = nI (fb_ct (bothB M) (M 31 5)) - nI (stF (fun x => fb_ct (tgP M x) (M 31 5)) 6 0 0)) (Wd D cy base Λ) (Ab base)) ([.ref (gA Λ 31 0)] : List Value).toArray s 0 0 (Ab base)) 0 0 Λ 16 [(0, .ref (gA Λ 31 0)), (1, .int (nI i))] [] σ1 := by
      intro fu
      induction fu with
      | zero => intro σ1 i hfu; exact absurd hfu (Nat.not_lt_zero _)
      | succ fu ih =>
        intro σ1 i hfu hi hM1 hs1
        have ih16 := ih
        refine j_iload_n C dX11_moves_16 rfl 1 rfl ?_
        refine j_bipush C (nI 36) dX11_moves_17 (by decide) ?_
        refine j_icmp_ge (tgt := 35) C dX11_moves_19 (by decide) (nI_leI (by omega) (by omega)) (fun h19 => ?_) (fun h19 => ?_)
        · refine j_iconst C (nI 0) dX11_moves_35 (by decide) ?_
          refine j_istore_n C [(1, .int (nI 0)), (0, .ref (gA Λ 31 0))] dX11_moves_36 rfl (by decide) rfl ?_
          refine j_iconst C (nI 0) dX11_moves_37 (by decide) ?_
          refine j_istore_n C [(2, .int (nI 0)), (1, .int (nI 0)), (0, .ref (gA Λ 31 0))] dX11_moves_38 rfl (by decide) rfl ?_
          have lb39 : ∀ (fu : Nat) (σ2 : HS) (a r : Nat), (M 31 5 - r) < fu → (r ≤ M 31 5) → (MR Λ σ2 (tgTo M r)) → (Same nMo σ σ2) → (a = fb_ct (bothB M) r) → J p l e ({ frames := 36, cells := 0, slots := 0, locals := 540 }) s m ([.ref (gA Λ 31 0)] : List Value).toArray below meth c 3 D cy base (MQ below (va_Qi (fun v u => MR Λ u (tgTo M (M 31 5)) ∧ Same nMo σ u ∧ v = nI (fb_ct (bothB M) (M 31 5)) - nI (stF (fun x => fb_ct (tgP M x) (M 31 5)) 6 0 0)) (Wd D cy base Λ) (Ab base)) ([.ref (gA Λ 31 0)] : List Value).toArray s 0 0 (Ab base)) 0 0 Λ 39 [(0, .ref (gA Λ 31 0)), (1, .int (nI a)), (2, .int (nI r))] [] σ2 := by
            intro fu
            induction fu with
            | zero => intro σ2 a r hfu; exact absurd hfu (Nat.not_lt_zero _)
            | succ fu ih =>
              intro σ2 a r hfu hr0 hM2 hs2 ha
              have ih39 := ih
              refine j_iload_n C dX11_moves_39 rfl 2 rfl ?_
              refine j_aload_n C dX11_moves_40 rfl 0 rfl ?_
              have hb41 : M 31 5 ≤ 40 := hB 31 5 rfl
              refine j_getI C hwX11 31 0 5 (MR.in0 hM2 (by decide) (by decide)) rfl rfl (by decide) rfl (nI (M 31 5)) ((hM2.1 31 5 rfl).trans (congrArg (menc 31) (congrFun (tgTo_nk (by decide)) _))) hL83 dX11_moves_41 ?_
              refine j_icmp_ge (tgt := 102) C dX11_moves_44 (by decide) (nI_leI (by omega) (by omega)) (fun h44 => ?_) (fun h44 => ?_)
              · have hrN : r = M 31 5 := by omega
                have h489 : ∀ x, x < 36 → (tgTo M r) 48 x ≤ 40 := fun x hx => by rw [tgTo_48 hx]; have := fb_ct_le (tgP M x) r; omega
                have hB9 : MBd (tgTo M r) := tgTo_B hB hn (by omega)
                refine j_iload_n C dX11_moves_102 rfl 1 rfl ?_
                refine j_aload_n C dX11_moves_103 rfl 0 rfl ?_
                refine j_iconst C (nI 0) dX11_moves_104 (by decide) ?_
                refine j_iconst C (nI 0) dX11_moves_105 (by decide) ?_
                refine c_i0 C (r_V C 31 0 [.int (nI 0), .int (nI 0)] (c_stays_0 l D cy base Λ σ2 (tgTo M r) hM2 hB9 h489 0 (by decide)) (cwV 2 hts gX11_moves_X11_stays rfl rfl rfl (by decide +kernel) ⟨by decide, by decide⟩) (MR.in0 hM2 (by decide) (by decide)) rfl rfl rfl rfl (Nat.le_of_ble_eq_true rfl) dX11_moves_106 ⟨by decide, by decide⟩) (fun rv uu hp => ?_)
                rw [hp.1, hp.2]
                refine j_isub C ((nI a) - (nI (stF (tgTo M r 48) 6 0 0))) dX11_moves_109 rfl ?_
                exact j_iret C hr hlk (⟨by rw [← hrN]; exact hM2, hs2, by rw [ha, hrN, stF_congr (f := tgTo M (M 31 5) 48) (g := fun x => fb_ct (tgP M x) (M 31 5)) (fun x hx => tgTo_48 hx) (by omega)]⟩) dX11_moves_110
              · refine j_aload_n C dX11_moves_47 rfl 0 rfl ?_
                refine j_getV C hwX11 31 0 11 (MR.in0 hM2 (by decide) (by decide)) rfl rfl (by decide) rfl 0 (hM2.2.2.2 11 rfl) hL36 dX11_moves_48 ?_
                refine j_iload_n C dX11_moves_51 rfl 2 rfl ?_
                have hb52 : M 37 r ≤ 1 := hB 37 r (decide_eq_true (show r < 40 by omega))
                refine j_zald C 37 0 r (MR.in0 hM2 (by decide) (by decide)) rfl rfl 40 (hM2.2.2.1 37 (by decide) (by decide)) (by omega) (by omega) (nI (M 37 r)) ((hM2.1 37 r (decide_eq_true (show r < 40 by omega))).trans (congrArg (menc 37) (congrFun (tgTo_nk (by decide)) _))) dX11_moves_52 ?_
                refine j_if_ne (tgt := 96) C dX11_moves_53 (by decide) (nJ_ne0 (by omega)) (fun h53 => ?_) (fun h53 => ?_)
                · refine j_iinc C [(2, .int (nI (r + 1))), (0, .ref (gA Λ 31 0)), (1, .int (nI a))] (nI (r + 1)) dX11_moves_96 2 rfl (nI_add _ 1) (by decide) rfl ?_
                  refine j_goto (tgt := 39) C dX11_moves_99 (by decide) ?_
                  refine j_lv [1, 2, 0] rfl ?_
                  exact ih39 σ2 a (r + 1) (by omega) (by omega) (by rw [← tgTo_no (fun z => h53 z.1)]; exact hM2) hs2 (by rw [fb_ct_succ, ← ha, show bothB M r = false from decide_eq_false (fun z => h53 z.1)]; rfl)
                · refine j_aload_n C dX11_moves_56 rfl 0 rfl ?_
                  refine j_getV C hwX11 31 0 24 (MR.in0 hM2 (by decide) (by decide)) rfl rfl (by decide) rfl 0 (hM2.2.2.2 24 rfl) hL67 dX11_moves_57 ?_
                  refine j_iload_n C dX11_moves_60 rfl 2 rfl ?_
                  have hb61 : M 47 r ≤ 6 := hB 47 r (decide_eq_true (show r < 40 by omega))
                  refine j_iald C 47 0 r (MR.in0 hM2 (by decide) (by decide)) rfl rfl 40 (hM2.2.2.1 47 (by decide) (by decide)) (by omega) (by omega) (nI (M 47 r) - 1) ((hM2.1 47 r (decide_eq_true (show r < 40 by omega))).trans (congrArg (menc 47) (congrFun (tgTo_nk (by decide)) _))) dX11_moves_61 ?_
                  refine j_if_ge (tgt := 68) C dX11_moves_62 (by decide) (m1_ge (by omega)) (fun h62 => ?_) (fun h62 => ?_)
                  · have hb47 : M 47 r ≤ 6 := hB 47 r (decide_eq_true (show r < 40 by omega))
                    have hb38 : M 38 r ≤ 5 := hB 38 r (decide_eq_true (show r < 40 by omega))
                    refine j_aload_n C dX11_moves_68 rfl 0 rfl ?_
                    refine j_getV C hwX11 31 0 25 (MR.in0 hM2 (by decide) (by decide)) rfl rfl (by decide) rfl 0 (hM2.2.2.2 25 rfl) hL70 dX11_moves_69 ?_
                    refine j_bipush C (nI 6) dX11_moves_72 (by decide) ?_
                    refine j_aload_n C dX11_moves_74 rfl 0 rfl ?_
                    refine j_getV C hwX11 31 0 24 (MR.in0 hM2 (by decide) (by decide)) rfl rfl (by decide) rfl 0 (hM2.2.2.2 24 rfl) hL67 dX11_moves_75 ?_
                    refine j_iload_n C dX11_moves_78 rfl 2 rfl ?_
                    refine j_iald C 47 0 r (MR.in0 hM2 (by decide) (by decide)) rfl rfl 40 (hM2.2.2.1 47 (by decide) (by decide)) (by omega) (by omega) (nI (M 47 r - 1)) (((hM2.1 47 r (decide_eq_true (show r < 40 by omega))).trans (congrArg (menc 47) (congrFun (tgTo_nk (by decide)) _))).trans (m1_nI h62)) dX11_moves_79 ?_
                    refine j_imul C (nI (6 * (M 47 r - 1))) dX11_moves_80 (pk_mul _ _) ?_
                    refine j_aload_n C dX11_moves_81 rfl 0 rfl ?_
                    refine j_getV C hwX11 31 0 12 (MR.in0 hM2 (by decide) (by decide)) rfl rfl (by decide) rfl 0 (hM2.2.2.2 12 rfl) hL40 dX11_moves_82 ?_
                    refine j_iload_n C dX11_moves_85 rfl 2 rfl ?_
                    have hb86 : M 38 r ≤ 5 := hB 38 r (decide_eq_true (show r < 40 by omega))
                    refine j_iald C 38 0 r (MR.in0 hM2 (by decide) (by decide)) rfl rfl 40 (hM2.2.2.1 38 (by decide) (by decide)) (by omega) (by omega) (nI (M 38 r)) ((hM2.1 38 r (decide_eq_true (show r < 40 by omega))).trans (congrArg (menc 38) (congrFun (tgTo_nk (by decide)) _))) dX11_moves_86 ?_
                    refine j_iadd C (nI (6 * (M 47 r - 1) + (M 38 r))) dX11_moves_87 (nI_add _ _) ?_
                    refine j_dup2 C dX11_moves_88 rfl rfl ?_
                    refine j_iald C 48 0 (6 * (M 47 r - 1) + (M 38 r)) (MR.in0 hM2 (by decide) (by decide)) rfl rfl 36 (hM2.2.2.1 48 (by decide) (by decide)) (by omega) (by omega) (nI (fb_ct (tgP M (6 * (M 47 r - 1) + (M 38 r))) r)) ((hM2.1 48 (6 * (M 47 r - 1) + (M 38 r)) (decide_eq_true (show 6 * (M 47 r - 1) + (M 38 r) < 36 by omega))).trans (congrArg (menc 48) (tgTo_48 (by omega)))) dX11_moves_89 ?_
                    refine j_iconst C (nI 1) dX11_moves_90 (by decide) ?_
                    refine j_iadd C (nI (fb_ct (tgP M (6 * (M 47 r - 1) + (M 38 r))) r + 1)) dX11_moves_91 (nI_add _ _) ?_
                    refine j_iast C 48 0 (6 * (M 47 r - 1) + (M 38 r)) (MR.in0 hM2 (by decide) (by decide)) rfl rfl 36 (hM2.2.2.1 48 (by decide) (by decide)) (by omega) (by omega) (nI (fb_ct (tgP M (6 * (M 47 r - 1) + (M 38 r))) r + 1)) rfl dX11_moves_92 ?_
                    have hM_8 := MR.set (t := 48) (k := (6 * (M 47 r - 1) + (M 38 r))) (x := (fb_ct (tgP M (6 * (M 47 r - 1) + (M 38 r))) r + 1)) (v := (nI (fb_ct (tgP M (6 * (M 47 r - 1) + (M 38 r))) r + 1))) hM2 rfl
                    have hs_9 := Same.sI (t := 48) (i := 0) (k := (6 * (M 47 r - 1) + (M 38 r))) (x := (nI (fb_ct (tgP M (6 * (M 47 r - 1) + (M 38 r))) r + 1))) hs2 (by decide)
                    refine j_iinc C [(1, .int (nI (a + 1))), (0, .ref (gA Λ 31 0)), (2, .int (nI r))] (nI (a + 1)) dX11_moves_93 1 rfl (nI_add _ 1) (by decide) rfl ?_
                    refine j_iinc C [(2, .int (nI (r + 1))), (1, .int (nI (a + 1))), (0, .ref (gA Λ 31 0))] (nI (r + 1)) dX11_moves_96 2 rfl (nI_add _ 1) (by decide) rfl ?_
                    refine j_goto (tgt := 39) C dX11_moves_99 (by decide) ?_
                    refine j_lv [2, 1, 0] rfl ?_
                    exact ih39 (sI σ2 48 0 (6 * (M 47 r - 1) + (M 38 r)) (nI (fb_ct (tgP M (6 * (M 47 r - 1) + (M 38 r))) r + 1))) (a + 1) (r + 1) (by omega) (by omega) (by rw [← tgTo_yes h53 h62 (by omega)]; exact hM_8) hs_9 (by rw [fb_ct_succ, ← ha, show bothB M r = true from decide_eq_true ⟨h53, h62⟩]; rfl)
                  · refine j_goto (tgt := 96) C dX11_moves_65 (by decide) ?_
                    refine j_iinc C [(2, .int (nI (r + 1))), (0, .ref (gA Λ 31 0)), (1, .int (nI a))] (nI (r + 1)) dX11_moves_96 2 rfl (nI_add _ 1) (by decide) rfl ?_
                    refine j_goto (tgt := 39) C dX11_moves_99 (by decide) ?_
                    refine j_lv [1, 2, 0] rfl ?_
                    exact ih39 σ2 a (r + 1) (by omega) (by omega) (by rw [← tgTo_no (fun z => h62 z.2)]; exact hM2) hs2 (by rw [fb_ct_succ, ← ha, show bothB M r = false from decide_eq_false (fun z => h62 z.2)]; rfl)
          refine j_lv [2, 1, 0] rfl ?_
          exact lb39 _ σ1 0 0 (Nat.lt_succ_self _) (by omega) (by rw [← zrTo_tg, ← show i = 36 by omega]; exact hM1) hs1 rfl
        · refine j_aload_n C dX11_moves_22 rfl 0 rfl ?_
          refine j_getV C hwX11 31 0 25 (MR.in0 hM1 (by decide) (by decide)) rfl rfl (by decide) rfl 0 (hM1.2.2.2 25 rfl) hL70 dX11_moves_23 ?_
          refine j_iload_n C dX11_moves_26 rfl 1 rfl ?_
          refine j_iconst C (nI 0) dX11_moves_27 (by decide) ?_
          refine j_iast C 48 0 i (MR.in0 hM1 (by decide) (by decide)) rfl rfl 36 (hM1.2.2.1 48 (by decide) (by decide)) (by omega) (by omega) (nI 0) rfl dX11_moves_28 ?_
          have hM_10 := MR.set (t := 48) (k := i) (x := 0) (v := (nI 0)) hM1 rfl
          have hs_11 := Same.sI (t := 48) (i := 0) (k := i) (x := (nI 0)) hs1 (by decide)
          refine j_iinc C [(1, .int (nI (i + 1))), (0, .ref (gA Λ 31 0))] (nI (i + 1)) dX11_moves_29 1 rfl (nI_add _ 1) (by decide) rfl ?_
          refine j_goto (tgt := 16) C dX11_moves_32 (by decide) ?_
          refine j_lv [1, 0] rfl ?_
          exact ih16 (sI σ1 48 0 i (nI 0)) (i + 1) (by omega) (by omega) (by rw [← zrTo_succ]; exact hM_10) hs_11
    refine j_lv [1, 0] rfl ?_
    exact lb16 _ σ0 0 (Nat.lt_succ_self _) (by omega) (by rw [zrTo_0]; exact hM) hs0
  · omega

set_option maxHeartbeats 4000000 in
set_option maxRecDepth 100000 in
theorem c_mcount_0 (l : Launch) (D : va_G) (cy : Nat → ClassId) (base : Nat) (Λ : LY) (σ : HS) (M : MM) (hM0 : MR0 Λ σ M) (h00 : M 31 0 = 0) (hB : MBd M)  : Met l yX11_count wsX11_count ({ frames := 16, cells := 0, slots := 0, locals := 240 }) (va_Pc [.ref (gA Λ 31 0), .int (nI 0)] (Wd D cy base Λ σ)) (va_Qi (fun v u => MR Λ u M ∧ Same nMo σ u ∧ v = nI (M 31 5)) (Wd D cy base Λ) (Ab base)) 0 0 (Ab base) := by
  refine j_start (cc := cX11_count) (nL := 4) (ret := (some .int)) (lv := [(0, .ref (gA Λ 31 0)), (1, .int (nI 0))]) (by decide) rfl (Nat.le_of_ble_eq_true rfl) rfl ?_
  intro p e s m below meth c C hr hlk hnm
  have C : Cx p s m ([.ref (gA Λ 31 0), .int (nI 0)] : List Value).toArray c cX11_count 4 RX11 wsX11_count D cy base := C
  have hts := C.2.2.2.2.1
  have hwX11 : ∀ w ∈ u_ws RX11 TX11 26, w ∈ wsX11_count := by decide +kernel
  have hM73 : (Cond.fieldLink RX11 73 (TX11 0).1 (TX11 0).2.1 (TX11 0).2.2.1).before ([.ref (gA Λ 31 0), .int (nI 0)] : List Value).toArray s = true := hts (.fieldLink RX11 73 "CodeRoomsModel" "thrown" "I") (by decide +kernel)
  have hL73 : FL RX11 73 (TX11 0).1 (TX11 0).2.1 (TX11 0).2.2.1 ([.ref (gA Λ 31 0), .int (nI 0)] : List Value).toArray s := Or.inl hM73
  have hM83 : (Cond.fieldLink RX11 83 (TX11 5).1 (TX11 5).2.1 (TX11 5).2.2.1).before ([.ref (gA Λ 31 0), .int (nI 0)] : List Value).toArray s = true := hts (.fieldLink RX11 83 "CodeRoomsModel" "many" "I") (by decide +kernel)
  have hL83 : FL RX11 83 (TX11 5).1 (TX11 5).2.1 (TX11 5).2.2.1 ([.ref (gA Λ 31 0), .int (nI 0)] : List Value).toArray s := Or.inl hM83
  have hn : M 31 5 ≤ 40 := hB 31 5 rfl
  refine j_aload_n C dX11_count_0 rfl 0 rfl ?_
  refine j_iconst C (nI 0) dX11_count_1 (by decide) ?_
  refine j_putI C hwX11 31 0 0 (MR0.in0 hM0) rfl rfl (by decide) rfl tyX11 tyX11_ok nmX11 rfl rfl rfl hL73 dX11_count_2 ?_
  have hM := MR0.start hM0 h00
  have hs0 : Same nMo σ (sI σ 31 0 0 (nI 0)) := Same.sI Same.rf (by decide)
  generalize sI σ 31 0 0 (nI 0) = σ0 at hM hs0 ⊢
  refine j_iload_n C dX11_count_5 rfl 1 rfl ?_
  refine j_tableIn (off := 38) (tgt := 44) C dX11_count_6 (by decide) (by decide) (by decide) (by decide) ?_
  refine j_aload_n C dX11_count_44 rfl 0 rfl ?_
  have hb45 : M 31 5 ≤ 40 := hB 31 5 rfl
  refine j_getI C hwX11 31 0 5 (MR.in0 hM (by decide) (by decide)) rfl rfl (by decide) rfl (nI (M 31 5)) (hM.1 31 5 rfl) hL83 dX11_count_45 ?_
  exact j_iret C hr hlk (⟨hM, hs0, rfl⟩) dX11_count_48

set_option maxHeartbeats 4000000 in
set_option maxRecDepth 100000 in
theorem c_mcount_2 (l : Launch) (D : va_G) (cy : Nat → ClassId) (base : Nat) (Λ : LY) (σ : HS) (M : MM) (hM0 : MR0 Λ σ M) (h00 : M 31 0 = 0) (hB : MBd M)  : Met l yX11_count wsX11_count ({ frames := 16, cells := 0, slots := 0, locals := 240 }) (va_Pc [.ref (gA Λ 31 0), .int (nI 2)] (Wd D cy base Λ σ)) (va_Qi (fun v u => MR Λ u M ∧ Same nMo σ u ∧ v = nI (M 31 22)) (Wd D cy base Λ) (Ab base)) 0 0 (Ab base) := by
  refine j_start (cc := cX11_count) (nL := 4) (ret := (some .int)) (lv := [(0, .ref (gA Λ 31 0)), (1, .int (nI 2))]) (by decide) rfl (Nat.le_of_ble_eq_true rfl) rfl ?_
  intro p e s m below meth c C hr hlk hnm
  have C : Cx p s m ([.ref (gA Λ 31 0), .int (nI 2)] : List Value).toArray c cX11_count 4 RX11 wsX11_count D cy base := C
  have hts := C.2.2.2.2.1
  have hwX11 : ∀ w ∈ u_ws RX11 TX11 26, w ∈ wsX11_count := by decide +kernel
  have hM73 : (Cond.fieldLink RX11 73 (TX11 0).1 (TX11 0).2.1 (TX11 0).2.2.1).before ([.ref (gA Λ 31 0), .int (nI 2)] : List Value).toArray s = true := hts (.fieldLink RX11 73 "CodeRoomsModel" "thrown" "I") (by decide +kernel)
  have hL73 : FL RX11 73 (TX11 0).1 (TX11 0).2.1 (TX11 0).2.2.1 ([.ref (gA Λ 31 0), .int (nI 2)] : List Value).toArray s := Or.inl hM73
  have hM173 : (Cond.fieldLink RX11 173 (TX11 22).1 (TX11 22).2.1 (TX11 22).2.2.1).before ([.ref (gA Λ 31 0), .int (nI 2)] : List Value).toArray s = true := hts (.fieldLink RX11 173 "CodeRoomsModel" "changes" "I") (by decide +kernel)
  have hL173 : FL RX11 173 (TX11 22).1 (TX11 22).2.1 (TX11 22).2.2.1 ([.ref (gA Λ 31 0), .int (nI 2)] : List Value).toArray s := Or.inl hM173
  have hn : M 31 5 ≤ 40 := hB 31 5 rfl
  refine j_aload_n C dX11_count_0 rfl 0 rfl ?_
  refine j_iconst C (nI 0) dX11_count_1 (by decide) ?_
  refine j_putI C hwX11 31 0 0 (MR0.in0 hM0) rfl rfl (by decide) rfl tyX11 tyX11_ok nmX11 rfl rfl rfl hL73 dX11_count_2 ?_
  have hM := MR0.start hM0 h00
  have hs0 : Same nMo σ (sI σ 31 0 0 (nI 0)) := Same.sI Same.rf (by decide)
  generalize sI σ 31 0 0 (nI 0) = σ0 at hM hs0 ⊢
  refine j_iload_n C dX11_count_5 rfl 1 rfl ?_
  refine j_tableIn (off := 80) (tgt := 86) C dX11_count_6 (by decide) (by decide) (by decide) (by decide) ?_
  refine j_aload_n C dX11_count_86 rfl 0 rfl ?_
  have hb87 : M 31 22 ≤ 60 := hB 31 22 rfl
  refine j_getI C hwX11 31 0 22 (MR.in0 hM (by decide) (by decide)) rfl rfl (by decide) rfl (nI (M 31 22)) (hM.1 31 22 rfl) hL173 dX11_count_87 ?_
  exact j_iret C hr hlk (⟨hM, hs0, rfl⟩) dX11_count_90

set_option maxHeartbeats 4000000 in
set_option maxRecDepth 100000 in
theorem c_mcount_3 (l : Launch) (D : va_G) (cy : Nat → ClassId) (base : Nat) (Λ : LY) (σ : HS) (M : MM) (hM0 : MR0 Λ σ M) (h00 : M 31 0 = 0) (hB : MBd M)  : Met l yX11_count wsX11_count ({ frames := 16, cells := 0, slots := 0, locals := 240 }) (va_Pc [.ref (gA Λ 31 0), .int (nI 3)] (Wd D cy base Λ σ)) (va_Qi (fun v u => MR Λ u M ∧ Same nMo σ u ∧ v = nI (M 31 2)) (Wd D cy base Λ) (Ab base)) 0 0 (Ab base) := by
  refine j_start (cc := cX11_count) (nL := 4) (ret := (some .int)) (lv := [(0, .ref (gA Λ 31 0)), (1, .int (nI 3))]) (by decide) rfl (Nat.le_of_ble_eq_true rfl) rfl ?_
  intro p e s m below meth c C hr hlk hnm
  have C : Cx p s m ([.ref (gA Λ 31 0), .int (nI 3)] : List Value).toArray c cX11_count 4 RX11 wsX11_count D cy base := C
  have hts := C.2.2.2.2.1
  have hwX11 : ∀ w ∈ u_ws RX11 TX11 26, w ∈ wsX11_count := by decide +kernel
  have hM73 : (Cond.fieldLink RX11 73 (TX11 0).1 (TX11 0).2.1 (TX11 0).2.2.1).before ([.ref (gA Λ 31 0), .int (nI 3)] : List Value).toArray s = true := hts (.fieldLink RX11 73 "CodeRoomsModel" "thrown" "I") (by decide +kernel)
  have hL73 : FL RX11 73 (TX11 0).1 (TX11 0).2.1 (TX11 0).2.2.1 ([.ref (gA Λ 31 0), .int (nI 3)] : List Value).toArray s := Or.inl hM73
  have hM76 : (Cond.fieldLink RX11 76 (TX11 2).1 (TX11 2).2.1 (TX11 2).2.2.1).before ([.ref (gA Λ 31 0), .int (nI 3)] : List Value).toArray s = true := hts (.fieldLink RX11 76 "CodeRoomsModel" "taped" "I") (by decide +kernel)
  have hL76 : FL RX11 76 (TX11 2).1 (TX11 2).2.1 (TX11 2).2.2.1 ([.ref (gA Λ 31 0), .int (nI 3)] : List Value).toArray s := Or.inl hM76
  have hn : M 31 5 ≤ 40 := hB 31 5 rfl
  refine j_aload_n C dX11_count_0 rfl 0 rfl ?_
  refine j_iconst C (nI 0) dX11_count_1 (by decide) ?_
  refine j_putI C hwX11 31 0 0 (MR0.in0 hM0) rfl rfl (by decide) rfl tyX11 tyX11_ok nmX11 rfl rfl rfl hL73 dX11_count_2 ?_
  have hM := MR0.start hM0 h00
  have hs0 : Same nMo σ (sI σ 31 0 0 (nI 0)) := Same.sI Same.rf (by decide)
  generalize sI σ 31 0 0 (nI 0) = σ0 at hM hs0 ⊢
  refine j_iload_n C dX11_count_5 rfl 1 rfl ?_
  refine j_tableIn (off := 85) (tgt := 91) C dX11_count_6 (by decide) (by decide) (by decide) (by decide) ?_
  refine j_aload_n C dX11_count_91 rfl 0 rfl ?_
  have hb92 : M 31 2 ≤ 40 := hB 31 2 rfl
  refine j_getI C hwX11 31 0 2 (MR.in0 hM (by decide) (by decide)) rfl rfl (by decide) rfl (nI (M 31 2)) (hM.1 31 2 rfl) hL76 dX11_count_92 ?_
  exact j_iret C hr hlk (⟨hM, hs0, rfl⟩) dX11_count_95

set_option maxHeartbeats 4000000 in
set_option maxRecDepth 100000 in
theorem c_mcount_4 (l : Launch) (D : va_G) (cy : Nat → ClassId) (base : Nat) (Λ : LY) (σ : HS) (M : MM) (hM0 : MR0 Λ σ M) (h00 : M 31 0 = 0) (hB : MBd M)  : Met l yX11_count wsX11_count ({ frames := 16, cells := 0, slots := 0, locals := 240 }) (va_Pc [.ref (gA Λ 31 0), .int (nI 4)] (Wd D cy base Λ σ)) (va_Qi (fun v u => MR Λ u M ∧ Same nMo σ u ∧ v = nI (M 31 18)) (Wd D cy base Λ) (Ab base)) 0 0 (Ab base) := by
  refine j_start (cc := cX11_count) (nL := 4) (ret := (some .int)) (lv := [(0, .ref (gA Λ 31 0)), (1, .int (nI 4))]) (by decide) rfl (Nat.le_of_ble_eq_true rfl) rfl ?_
  intro p e s m below meth c C hr hlk hnm
  have C : Cx p s m ([.ref (gA Λ 31 0), .int (nI 4)] : List Value).toArray c cX11_count 4 RX11 wsX11_count D cy base := C
  have hts := C.2.2.2.2.1
  have hwX11 : ∀ w ∈ u_ws RX11 TX11 26, w ∈ wsX11_count := by decide +kernel
  have hM73 : (Cond.fieldLink RX11 73 (TX11 0).1 (TX11 0).2.1 (TX11 0).2.2.1).before ([.ref (gA Λ 31 0), .int (nI 4)] : List Value).toArray s = true := hts (.fieldLink RX11 73 "CodeRoomsModel" "thrown" "I") (by decide +kernel)
  have hL73 : FL RX11 73 (TX11 0).1 (TX11 0).2.1 (TX11 0).2.2.1 ([.ref (gA Λ 31 0), .int (nI 4)] : List Value).toArray s := Or.inl hM73
  have hM160 : (Cond.fieldLink RX11 160 (TX11 18).1 (TX11 18).2.1 (TX11 18).2.2.1).before ([.ref (gA Λ 31 0), .int (nI 4)] : List Value).toArray s = true := hts (.fieldLink RX11 160 "CodeRoomsModel" "pageLong" "I") (by decide +kernel)
  have hL160 : FL RX11 160 (TX11 18).1 (TX11 18).2.1 (TX11 18).2.2.1 ([.ref (gA Λ 31 0), .int (nI 4)] : List Value).toArray s := Or.inl hM160
  have hn : M 31 5 ≤ 40 := hB 31 5 rfl
  refine j_aload_n C dX11_count_0 rfl 0 rfl ?_
  refine j_iconst C (nI 0) dX11_count_1 (by decide) ?_
  refine j_putI C hwX11 31 0 0 (MR0.in0 hM0) rfl rfl (by decide) rfl tyX11 tyX11_ok nmX11 rfl rfl rfl hL73 dX11_count_2 ?_
  have hM := MR0.start hM0 h00
  have hs0 : Same nMo σ (sI σ 31 0 0 (nI 0)) := Same.sI Same.rf (by decide)
  generalize sI σ 31 0 0 (nI 0) = σ0 at hM hs0 ⊢
  refine j_iload_n C dX11_count_5 rfl 1 rfl ?_
  refine j_tableIn (off := 90) (tgt := 96) C dX11_count_6 (by decide) (by decide) (by decide) (by decide) ?_
  refine j_aload_n C dX11_count_96 rfl 0 rfl ?_
  have hb97 : M 31 18 ≤ 40 := hB 31 18 rfl
  refine j_getI C hwX11 31 0 18 (MR.in0 hM (by decide) (by decide)) rfl rfl (by decide) rfl (nI (M 31 18)) (hM.1 31 18 rfl) hL160 dX11_count_97 ?_
  exact j_iret C hr hlk (⟨hM, hs0, rfl⟩) dX11_count_100

set_option maxHeartbeats 4000000 in
set_option maxRecDepth 100000 in
theorem c_mcount_5 (l : Launch) (D : va_G) (cy : Nat → ClassId) (base : Nat) (Λ : LY) (σ : HS) (M : MM) (hM0 : MR0 Λ σ M) (h00 : M 31 0 = 0) (hB : MBd M)  : Met l yX11_count wsX11_count ({ frames := 16, cells := 0, slots := 0, locals := 240 }) (va_Pc [.ref (gA Λ 31 0), .int (nI 5)] (Wd D cy base Λ σ)) (va_Qi (fun v u => MR Λ u M ∧ Same nMo σ u ∧ v = nI (brkN M)) (Wd D cy base Λ) (Ab base)) 0 0 (Ab base) := by
  refine j_start (cc := cX11_count) (nL := 4) (ret := (some .int)) (lv := [(0, .ref (gA Λ 31 0)), (1, .int (nI 5))]) (by decide) rfl (Nat.le_of_ble_eq_true rfl) rfl ?_
  intro p e s m below meth c C hr hlk hnm
  have C : Cx p s m ([.ref (gA Λ 31 0), .int (nI 5)] : List Value).toArray c cX11_count 4 RX11 wsX11_count D cy base := C
  have hts := C.2.2.2.2.1
  have hwX11 : ∀ w ∈ u_ws RX11 TX11 26, w ∈ wsX11_count := by decide +kernel
  have hM73 : (Cond.fieldLink RX11 73 (TX11 0).1 (TX11 0).2.1 (TX11 0).2.2.1).before ([.ref (gA Λ 31 0), .int (nI 5)] : List Value).toArray s = true := hts (.fieldLink RX11 73 "CodeRoomsModel" "thrown" "I") (by decide +kernel)
  have hL73 : FL RX11 73 (TX11 0).1 (TX11 0).2.1 (TX11 0).2.2.1 ([.ref (gA Λ 31 0), .int (nI 5)] : List Value).toArray s := Or.inl hM73
  have hn : M 31 5 ≤ 40 := hB 31 5 rfl
  refine j_aload_n C dX11_count_0 rfl 0 rfl ?_
  refine j_iconst C (nI 0) dX11_count_1 (by decide) ?_
  refine j_putI C hwX11 31 0 0 (MR0.in0 hM0) rfl rfl (by decide) rfl tyX11 tyX11_ok nmX11 rfl rfl rfl hL73 dX11_count_2 ?_
  have hM := MR0.start hM0 h00
  have hs0 : Same nMo σ (sI σ 31 0 0 (nI 0)) := Same.sI Same.rf (by decide)
  generalize sI σ 31 0 0 (nI 0) = σ0 at hM hs0 ⊢
  refine j_iload_n C dX11_count_5 rfl 1 rfl ?_
  refine j_tableIn (off := 95) (tgt := 101) C dX11_count_6 (by decide) (by decide) (by decide) (by decide) ?_
  refine j_aload_n C dX11_count_101 rfl 0 rfl ?_
  refine c_i0 C (r_V C 31 0 [] (c_X11_brokenMany l D cy base Λ σ0 M hM hB) (cwV 0 hts gX11_count_X11_brokenMany rfl rfl rfl (by decide +kernel) ⟨by decide, by decide⟩) (MR.in0 hM (by decide) (by decide)) rfl rfl rfl rfl (Nat.le_of_ble_eq_true rfl) dX11_count_102 ⟨by decide, by decide⟩) (fun rv uu hp => ?_)
  rw [hp.1, hp.2]
  exact j_iret C hr hlk (⟨hM, hs0, rfl⟩) dX11_count_105

set_option maxHeartbeats 4000000 in
set_option maxRecDepth 100000 in
theorem c_mcount_1 (l : Launch) (D : va_G) (cy : Nat → ClassId) (base : Nat) (Λ : LY) (σ : HS) (M : MM) (hM0 : MR0 Λ σ M) (h00 : M 31 0 = 0) (hB : MBd M)  : Met l yX11_count wsX11_count ({ frames := 16, cells := 0, slots := 0, locals := 240 }) (va_Pc [.ref (gA Λ 31 0), .int (nI 1)] (Wd D cy base Λ σ)) (va_Qi (fun v u => MR Λ u M ∧ Same nMo σ u ∧ v = nI (fb_ct (fun r => decide (M 37 r ≠ 0)) (M 31 5))) (Wd D cy base Λ) (Ab base)) 0 0 (Ab base) := by
  refine j_start (cc := cX11_count) (nL := 4) (ret := (some .int)) (lv := [(0, .ref (gA Λ 31 0)), (1, .int (nI 1))]) (by decide) rfl (Nat.le_of_ble_eq_true rfl) rfl ?_
  intro p e s m below meth c C hr hlk hnm
  have C : Cx p s m ([.ref (gA Λ 31 0), .int (nI 1)] : List Value).toArray c cX11_count 4 RX11 wsX11_count D cy base := C
  have hts := C.2.2.2.2.1
  have hwX11 : ∀ w ∈ u_ws RX11 TX11 26, w ∈ wsX11_count := by decide +kernel
  have hM36 : (Cond.fieldLink RX11 36 (TX11 11).1 (TX11 11).2.1 (TX11 11).2.2.1).before ([.ref (gA Λ 31 0), .int (nI 1)] : List Value).toArray s = true := hts (.fieldLink RX11 36 "CodeRoomsModel" "isHub" "[Z") (by decide +kernel)
  have hL36 : FL RX11 36 (TX11 11).1 (TX11 11).2.1 (TX11 11).2.2.1 ([.ref (gA Λ 31 0), .int (nI 1)] : List Value).toArray s := Or.inl hM36
  have hM73 : (Cond.fieldLink RX11 73 (TX11 0).1 (TX11 0).2.1 (TX11 0).2.2.1).before ([.ref (gA Λ 31 0), .int (nI 1)] : List Value).toArray s = true := hts (.fieldLink RX11 73 "CodeRoomsModel" "thrown" "I") (by decide +kernel)
  have hL73 : FL RX11 73 (TX11 0).1 (TX11 0).2.1 (TX11 0).2.2.1 ([.ref (gA Λ 31 0), .int (nI 1)] : List Value).toArray s := Or.inl hM73
  have hM83 : (Cond.fieldLink RX11 83 (TX11 5).1 (TX11 5).2.1 (TX11 5).2.2.1).before ([.ref (gA Λ 31 0), .int (nI 1)] : List Value).toArray s = true := hts (.fieldLink RX11 83 "CodeRoomsModel" "many" "I") (by decide +kernel)
  have hL83 : FL RX11 83 (TX11 5).1 (TX11 5).2.1 (TX11 5).2.2.1 ([.ref (gA Λ 31 0), .int (nI 1)] : List Value).toArray s := Or.inl hM83
  have hn : M 31 5 ≤ 40 := hB 31 5 rfl
  refine j_aload_n C dX11_count_0 rfl 0 rfl ?_
  refine j_iconst C (nI 0) dX11_count_1 (by decide) ?_
  refine j_putI C hwX11 31 0 0 (MR0.in0 hM0) rfl rfl (by decide) rfl tyX11 tyX11_ok nmX11 rfl rfl rfl hL73 dX11_count_2 ?_
  have hM := MR0.start hM0 h00
  have hs0 : Same nMo σ (sI σ 31 0 0 (nI 0)) := Same.sI Same.rf (by decide)
  generalize sI σ 31 0 0 (nI 0) = σ0 at hM hs0 ⊢
  refine j_iload_n C dX11_count_5 rfl 1 rfl ?_
  refine j_tableIn (off := 43) (tgt := 49) C dX11_count_6 (by decide) (by decide) (by decide) (by decide) ?_
  refine j_iconst C (nI 0) dX11_count_49 (by decide) ?_
  refine j_istore_n C [(2, .int (nI 0)), (0, .ref (gA Λ 31 0)), (1, .int (nI 1))] dX11_count_50 rfl (by decide) rfl ?_
  refine j_iconst C (nI 0) dX11_count_51 (by decide) ?_
  refine j_istore_n C [(3, .int (nI 0)), (2, .int (nI 0)), (0, .ref (gA Λ 31 0)), (1, .int (nI 1))] dX11_count_52 rfl (by decide) rfl ?_
  have lb53 : ∀ (fu : Nat) (a i : Nat), (M 31 5 - i) < fu → (i ≤ M 31 5) → (a = fb_ct (fun r => decide (M 37 r ≠ 0)) i) → J p l e ({ frames := 16, cells := 0, slots := 0, locals := 240 }) s m ([.ref (gA Λ 31 0), .int (nI 1)] : List Value).toArray below meth c 4 D cy base (MQ below (va_Qi (fun v u => MR Λ u M ∧ Same nMo σ u ∧ v = nI (fb_ct (fun r => decide (M 37 r ≠ 0)) (M 31 5))) (Wd D cy base Λ) (Ab base)) ([.ref (gA Λ 31 0), .int (nI 1)] : List Value).toArray s 0 0 (Ab base)) 0 0 Λ 53 [(0, .ref (gA Λ 31 0)), (1, .int (nI 1)), (2, .int (nI a)), (3, .int (nI i))] [] σ0 := by
    intro fu
    induction fu with
    | zero => intro a i hfu; exact absurd hfu (Nat.not_lt_zero _)
    | succ fu ih =>
      intro a i hfu hi ha
      have ih53 := ih
      refine j_iload_n C dX11_count_53 rfl 3 rfl ?_
      refine j_aload_n C dX11_count_54 rfl 0 rfl ?_
      have hb55 : M 31 5 ≤ 40 := hB 31 5 rfl
      refine j_getI C hwX11 31 0 5 (MR.in0 hM (by decide) (by decide)) rfl rfl (by decide) rfl (nI (M 31 5)) (hM.1 31 5 rfl) hL83 dX11_count_55 ?_
      refine j_icmp_ge (tgt := 84) C dX11_count_58 (by decide) (nI_leI (by omega) (by omega)) (fun h58 => ?_) (fun h58 => ?_)
      · refine j_iload_n C dX11_count_84 rfl 2 rfl ?_
        exact j_iret C hr hlk (⟨hM, hs0, (by rw [ha, show i = M 31 5 by omega])⟩) dX11_count_85
      · refine j_iload_n C dX11_count_61 rfl 2 rfl ?_
        refine j_aload_n C dX11_count_62 rfl 0 rfl ?_
        refine j_getV C hwX11 31 0 11 (MR.in0 hM (by decide) (by decide)) rfl rfl (by decide) rfl 0 (hM.2.2.2 11 rfl) hL36 dX11_count_63 ?_
        refine j_iload_n C dX11_count_66 rfl 3 rfl ?_
        have hb67 : M 37 i ≤ 1 := hB 37 i (decide_eq_true (show i < 40 by omega))
        refine j_zald C 37 0 i (MR.in0 hM (by decide) (by decide)) rfl rfl 40 (hM.2.2.1 37 (by decide) (by decide)) (by omega) (by omega) (nI (M 37 i)) (hM.1 37 i (decide_eq_true (show i < 40 by omega))) dX11_count_67 ?_
        refine j_if_eq (tgt := 75) C dX11_count_68 (by decide) (nJ_eq0 (by omega)) (fun h68 => ?_) (fun h68 => ?_)
        · refine j_iconst C (nI 0) dX11_count_75 (by decide) ?_
          refine j_iadd C (nI (a + 0)) dX11_count_76 (nI_add _ _) ?_
          refine j_istore_n C [(2, .int (nI (a + 0))), (0, .ref (gA Λ 31 0)), (1, .int (nI 1)), (3, .int (nI i))] dX11_count_77 rfl (by decide) rfl ?_
          refine j_iinc C [(3, .int (nI (i + 1))), (2, .int (nI (a + 0))), (0, .ref (gA Λ 31 0)), (1, .int (nI 1))] (nI (i + 1)) dX11_count_78 3 rfl (nI_add _ 1) (by decide) rfl ?_
          refine j_goto (tgt := 53) C dX11_count_81 (by decide) ?_
          refine j_lv [2, 3, 1, 0] rfl ?_
          exact ih53 (a + 0) (i + 1) (by omega) (by omega) (by rw [fb_ct_succ, ← ha]; simp [h58, h68])
        · refine j_iconst C (nI 1) dX11_count_71 (by decide) ?_
          refine j_goto (tgt := 76) C dX11_count_72 (by decide) ?_
          refine j_iadd C (nI (a + 1)) dX11_count_76 (nI_add _ _) ?_
          refine j_istore_n C [(2, .int (nI (a + 1))), (0, .ref (gA Λ 31 0)), (1, .int (nI 1)), (3, .int (nI i))] dX11_count_77 rfl (by decide) rfl ?_
          refine j_iinc C [(3, .int (nI (i + 1))), (2, .int (nI (a + 1))), (0, .ref (gA Λ 31 0)), (1, .int (nI 1))] (nI (i + 1)) dX11_count_78 3 rfl (nI_add _ 1) (by decide) rfl ?_
          refine j_goto (tgt := 53) C dX11_count_81 (by decide) ?_
          refine j_lv [2, 3, 1, 0] rfl ?_
          exact ih53 (a + 1) (i + 1) (by omega) (by omega) (by rw [fb_ct_succ, ← ha]; simp [h58, h68])
  refine j_lv [2, 3, 1, 0] rfl ?_
  exact lb53 _ 0 0 (Nat.lt_succ_self _) (by omega) rfl

set_option maxHeartbeats 4000000 in
set_option maxRecDepth 100000 in
theorem c_mcount_x (l : Launch) (D : va_G) (cy : Nat → ClassId) (base : Nat) (Λ : LY) (σ : HS) (M : MM) (hM0 : MR0 Λ σ M) (h00 : M 31 0 = 0) (hB : MBd M) (w : Int32) (hw : w.toInt < 0 ∨ 5 < w.toInt) : Met l yX11_count wsX11_count ({ frames := 16, cells := 0, slots := 0, locals := 240 }) (va_Pc [.ref (gA Λ 31 0), .int (w)] (Wd D cy base Λ σ)) (va_Qi (fun v u => MR Λ u M ∧ Same nMo σ u ∧ v = -1) (Wd D cy base Λ) (Ab base)) 0 0 (Ab base) := by
  refine j_start (cc := cX11_count) (nL := 4) (ret := (some .int)) (lv := [(0, .ref (gA Λ 31 0)), (1, .int (w))]) (by decide) rfl (Nat.le_of_ble_eq_true rfl) rfl ?_
  intro p e s m below meth c C hr hlk hnm
  have C : Cx p s m ([.ref (gA Λ 31 0), .int (w)] : List Value).toArray c cX11_count 4 RX11 wsX11_count D cy base := C
  have hts := C.2.2.2.2.1
  have hwX11 : ∀ w ∈ u_ws RX11 TX11 26, w ∈ wsX11_count := by decide +kernel
  have hM73 : (Cond.fieldLink RX11 73 (TX11 0).1 (TX11 0).2.1 (TX11 0).2.2.1).before ([.ref (gA Λ 31 0), .int (w)] : List Value).toArray s = true := hts (.fieldLink RX11 73 "CodeRoomsModel" "thrown" "I") (by decide +kernel)
  have hL73 : FL RX11 73 (TX11 0).1 (TX11 0).2.1 (TX11 0).2.2.1 ([.ref (gA Λ 31 0), .int (w)] : List Value).toArray s := Or.inl hM73
  have hn : M 31 5 ≤ 40 := hB 31 5 rfl
  refine j_aload_n C dX11_count_0 rfl 0 rfl ?_
  refine j_iconst C (nI 0) dX11_count_1 (by decide) ?_
  refine j_putI C hwX11 31 0 0 (MR0.in0 hM0) rfl rfl (by decide) rfl tyX11 tyX11_ok nmX11 rfl rfl rfl hL73 dX11_count_2 ?_
  have hM := MR0.start hM0 h00
  have hs0 : Same nMo σ (sI σ 31 0 0 (nI 0)) := Same.sI Same.rf (by decide)
  generalize sI σ 31 0 0 (nI 0) = σ0 at hM hs0 ⊢
  refine j_iload_n C dX11_count_5 rfl 1 rfl ?_
  refine j_tableOut (tgt := 106) C dX11_count_6 hw (by decide) ?_
  refine j_iconst C ((-1)) dX11_count_106 (by decide) ?_
  exact j_iret C hr hlk (⟨hM, hs0, rfl⟩) dX11_count_107
