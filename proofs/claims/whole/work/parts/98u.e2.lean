set_option maxHeartbeats 4000000 in
set_option maxRecDepth 100000 in
theorem c_X0_enter (l : Launch) (D : va_G) (cy : Nat → ClassId) (base : Nat) (Λ : LY) (σ : HS) (n ar cp : Nat) (wf tx ln hd : Nat → Nat) (lt : Nat → Nat → Nat) (hL : GL Λ σ n ar cp wf tx ln hd lt) (r : Nat) (P : Nat → Nat → (Nat → Nat) → Prop) (hW : GW P n ln hd lt) (hr40 : r < 40) (j m9 : Nat) (g : Nat → Nat) (hT : TX Λ σ j m9 m9 g) (hj2 : 2 ≤ j) (hn450 : n ≤ 450) (hm0 : m9 ≠ 0) : Met l yX0_enter wsX0_enter ({ frames := 32, cells := 2, slots := 1002, locals := 480 }) (va_Pc [.ref (gA Λ 14 0), .ref (gA Λ 1 j), .long (lN (2 ^ r))] (Wg D cy base Λ σ)) (va_Qv (fun x => EnP Λ σ n r m9 P g x) (Wx D cy base) (Ab base)) 2 1002 (Ab base) := by
  refine j_startG (cc := cX0_enter) (nL := 5) (ret := none) (lv := [(0, .ref (gA Λ 14 0)), (1, .ref (gA Λ 1 j)), (2, .long (lN (2 ^ r)))]) (by decide) rfl (Nat.le_of_ble_eq_true rfl) rfl ?_
  intro p e s m below meth c C hr hlk hnm hZ
  have C : Cx p s m ([.ref (gA Λ 14 0), .ref (gA Λ 1 j), .long (lN (2 ^ r))] : List Value).toArray c cX0_enter 5 RX0 wsX0_enter D cy base := C
  have hts := C.2.2.2.2.1
  have hwX0 : ∀ w ∈ u_ws RX0 TX0 1, w ∈ wsX0_enter := by decide +kernel
  have hwX9 : ∀ w ∈ u_ws RX9 TX9 2, w ∈ wsX0_enter := by decide +kernel
  have hM10 : (Cond.fieldLink RX0 10 (TX0 0).1 (TX0 0).2.1 (TX0 0).2.2.1).before ([.ref (gA Λ 14 0), .ref (gA Λ 1 j), .long (lN (2 ^ r))] : List Value).toArray s = true := hts (.fieldLink RX0 10 "CodeRooms$Glossary" "words" "Ljava/util/ArrayList;") (by decide +kernel)
  have hL10 : FL RX0 10 (TX0 0).1 (TX0 0).2.1 (TX0 0).2.2.1 ([.ref (gA Λ 14 0), .ref (gA Λ 1 j), .long (lN (2 ^ r))] : List Value).toArray s := Or.inl hM10
  have hL43 : FL RX0 43 (TX9 0).1 (TX9 0).2.1 (TX9 0).2.2.1 ([.ref (gA Λ 14 0), .ref (gA Λ 1 j), .long (lN (2 ^ r))] : List Value).toArray s := Or.inr ⟨_, Ex.nestF C.2.2.2.2.2.2 nf_X0_43⟩
  have hL51 : FL RX0 51 (TX9 1).1 (TX9 1).2.1 (TX9 1).2.2.1 ([.ref (gA Λ 14 0), .ref (gA Λ 1 j), .long (lN (2 ^ r))] : List Value).toArray s := Or.inr ⟨_, Ex.nestF C.2.2.2.2.2.2 nf_X0_51⟩
  have hncp := hL.1.2.2.1
  refine j_iconst C (nI 0) dX0_enter_0 (by decide) ?_
  refine j_istore C [(4, .int (nI 0)), (0, .ref (gA Λ 14 0)), (1, .ref (gA Λ 1 j)), (2, .long (lN (2 ^ r)))] dX0_enter_1 (by decide) rfl ?_
  have lb3 : ∀ (fu : Nat) (sp : Nat), (n - sp) < fu → (sp ≤ n) → (∀ a, a < sp → wlt (ln a) (lt a) m9 g) → J p l e ({ frames := 32, cells := 2, slots := 1002, locals := 480 }) s m ([.ref (gA Λ 14 0), .ref (gA Λ 1 j), .long (lN (2 ^ r))] : List Value).toArray below meth c 5 D cy base (MQ below (va_Qv (fun x => EnP Λ σ n r m9 P g x) (Wx D cy base) (Ab base)) ([.ref (gA Λ 14 0), .ref (gA Λ 1 j), .long (lN (2 ^ r))] : List Value).toArray s 2 1002 (Ab base)) 0 0 Λ 3 [(0, .ref (gA Λ 14 0)), (1, .ref (gA Λ 1 j)), (2, .long (lN (2 ^ r))), (4, .int (nI sp))] [] σ := by
    intro fu
    induction fu with
    | zero => intro sp hfu; exact absurd hfu (Nat.not_lt_zero _)
    | succ fu ih =>
      intro sp hfu hsp hlo
      have ih3 := ih
      refine j_iload C dX0_enter_3 3 rfl ?_
      have lb43 : (sp < n → ¬ wlt (ln sp) (lt sp) m9 g) → J p l e ({ frames := 32, cells := 2, slots := 1002, locals := 480 }) s m ([.ref (gA Λ 14 0), .ref (gA Λ 1 j), .long (lN (2 ^ r))] : List Value).toArray below meth c 5 D cy base (MQ below (va_Qv (fun x => EnP Λ σ n r m9 P g x) (Wx D cy base) (Ab base)) ([.ref (gA Λ 14 0), .ref (gA Λ 1 j), .long (lN (2 ^ r))] : List Value).toArray s 2 1002 (Ab base)) 0 0 Λ 43 [(0, .ref (gA Λ 14 0)), (1, .ref (gA Λ 1 j)), (2, .long (lN (2 ^ r))), (4, .int (nI sp))] [] σ := by
        intro  hup
        refine j_iload C dX0_enter_43 3 rfl ?_
        have lb101 : (sp < n → ¬ wlt (ln sp) (lt sp) m9 g ∧ ¬ weq (ln sp) (lt sp) m9 g) → J p l e ({ frames := 32, cells := 2, slots := 1002, locals := 480 }) s m ([.ref (gA Λ 14 0), .ref (gA Λ 1 j), .long (lN (2 ^ r))] : List Value).toArray below meth c 5 D cy base (MQ below (va_Qv (fun x => EnP Λ σ n r m9 P g x) (Wx D cy base) (Ab base)) ([.ref (gA Λ 14 0), .ref (gA Λ 1 j), .long (lN (2 ^ r))] : List Value).toArray s 2 1002 (Ab base)) 0 0 Λ 101 [(0, .ref (gA Λ 14 0)), (1, .ref (gA Λ 1 j)), (2, .long (lN (2 ^ r))), (4, .int (nI sp))] [] σ := by
          intro  hup2
          refine j_aload_n C dX0_enter_101 rfl 0 rfl ?_
          have hb14 := hL.2.2.1.1
          have hb15 := hL.1.1
          have hbj := hT.1
          refine j_getV C hwX0 14 0 0 hL.2.2.1.1 rfl rfl (by decide) rfl 0 hL.2.2.1.2 hL10 dX0_enter_102 ?_
          refine j_iload C dX0_enter_105 3 rfl ?_
          refine j_new C hwX9 17 (by decide) rfl rfl tyX9 tyX9_ok (hts (.classLink RX0 41 RX9) (by decide +kernel)) (hts (.instantiable RX9 2) (by decide +kernel)) (hts (.initialized RX9) (by decide +kernel)) (by decide +kernel) (by decide) (by decide) dX0_enter_107 (fun Λ_4 qΛ_4 hyΛ_4 => ?_)
          have hGΛ_4 : Gw Λ Λ_4 := by rw [hyΛ_4]; exact Gw.nY (by decide)
          have hb_5 : 0 < gC Λ_4 14 := Nat.lt_of_lt_of_le hb14 (hGΛ_4.1 14)
          have hb_6 : 0 < gC Λ_4 15 := Nat.lt_of_lt_of_le hb15 (hGΛ_4.1 15)
          have hb_7 : j < gC Λ_4 1 := Nat.lt_of_lt_of_le hbj (hGΛ_4.1 1)
          have hz_8 : Zx base (gA Λ_4 50 0) s := by rw [hGΛ_4.2.2]; exact hZ
          have he_9 : gA Λ_4 14 0 = gA Λ 14 0 := (hGΛ_4.2.1 14 0 (by first | assumption | omega)).1
          have he_10 : gA Λ_4 1 j = gA Λ 1 j := (hGΛ_4.2.1 1 j (by first | assumption | omega)).1
          have he_11 : gA Λ_4 15 0 = gA Λ 15 0 := (hGΛ_4.2.1 15 0 (by first | assumption | omega)).1
          refine j_eq (lv' := [(0, .ref (gA Λ_4 14 0)), (1, .ref (gA Λ_4 1 j)), (2, .long (lN (2 ^ r))), (4, .int (nI sp))]) (st' := [.ref (gA Λ_4 17 (gC Λ 17)), .int (nI sp), .ref (gA Λ_4 15 0)]) (by simp only [he_9, he_10, he_11]) (by simp only [he_9, he_10, he_11]) ?_
          have hb_12 : gC Λ 17 < gC Λ_4 17 := by rw [hyΛ_4, gC_nL, if_pos rfl]; omega
          refine j_dup C dX0_enter_110 rfl ?_
          refine j_aload_n C dX0_enter_111 rfl 1 rfl ?_
          refine j_lload_n C dX0_enter_112 rfl 2 rfl ?_
          refine c_vx C (r_I C 17 (gC Λ 17) [.ref (gA Λ_4 1 j), .long (lN (2 ^ r))] (c_X9_init l D cy base Λ_4 (nS Λ σ 17) (gC Λ 17) j (lN (2 ^ r)) hb_12 hb_7) (cwI 2 hts gX0_enter_X9_init rfl rfl rfl (hts (.initialized RX9) (by decide +kernel)) (hts (.methodLink RX0 55 yX9_init) (by decide +kernel)) (hts (.instanceMethod yX9_init) (by decide +kernel)) rfl (by decide +kernel) ⟨by decide, by decide⟩) rfl rfl (Nat.le_of_ble_eq_true rfl) dX0_enter_113 ⟨by decide, by decide⟩) (fun Λ_13 σ_14 hp => ?_)
          have hu13 := hp
          obtain ⟨hl13, hs13⟩ := Prod.mk.inj hu13
          have hGΛ_13 : Gw Λ_4 Λ_13 := by rw [hl13]; exact Gw.rf
          have hb_15 : 0 < gC Λ_13 14 := Nat.lt_of_lt_of_le hb_5 (hGΛ_13.1 14)
          have hb_16 : 0 < gC Λ_13 15 := Nat.lt_of_lt_of_le hb_6 (hGΛ_13.1 15)
          have hb_17 : j < gC Λ_13 1 := Nat.lt_of_lt_of_le hb_7 (hGΛ_13.1 1)
          have hb_18 : (gC Λ 17) < gC Λ_13 17 := Nat.lt_of_lt_of_le hb_12 (hGΛ_13.1 17)
          have hz_19 : Zx base (gA Λ_13 50 0) s := by rw [hGΛ_13.2.2]; exact hz_8
          have he_20 : gA Λ_13 14 0 = gA Λ_4 14 0 := (hGΛ_13.2.1 14 0 (by first | assumption | omega)).1
          have he_21 : gA Λ_13 1 j = gA Λ_4 1 j := (hGΛ_13.2.1 1 j (by first | assumption | omega)).1
          have he_22 : gA Λ_13 17 (gC Λ 17) = gA Λ_4 17 (gC Λ 17) := (hGΛ_13.2.1 17 (gC Λ 17) (by first | assumption | omega)).1
          have he_23 : gA Λ_13 15 0 = gA Λ_4 15 0 := (hGΛ_13.2.1 15 0 (by first | assumption | omega)).1
          refine j_eq (lv' := [(0, .ref (gA Λ_13 14 0)), (1, .ref (gA Λ_13 1 j)), (2, .long (lN (2 ^ r))), (4, .int (nI sp))]) (st' := [.ref (gA Λ_13 17 (gC Λ 17)), .int (nI sp), .ref (gA Λ_13 15 0)]) (by simp only [he_20, he_21, he_22, he_23]) (by simp only [he_20, he_21, he_22, he_23]) ?_
          rcases (show cp = 0 ∨ (0 < cp ∧ n = cp) ∨ n < cp by omega) with h0 | ⟨h0, hne⟩ | hlt
          · have hGt : Gw Λ Λ_13 := hGΛ_4.tr hGΛ_13
            have hKt : Kp Λ σ σ_14 := by rw [hs13]; exact Kp_word
            have hwt : gC Λ 17 < gC Λ_13 17 := hb_18
            refine c_vx C (r_Vg C hz_19 15 0 [.int (nI sp), .ref (gA Λ_13 17 (gC Λ 17))] (c_ladd_first l D cy base Λ_13 σ_14 n ar cp wf (hL.1.old hGt hKt) hn450 sp (gC Λ 17) hsp hwt hL.2.1 h0) (cwV 2 hts gX0_enter_Jx4a65c_add_7a177 rfl rfl rfl (by decide +kernel) ⟨by decide, by decide⟩) hb_16 rfl rfl rfl rfl (Nat.le_of_ble_eq_true rfl) dX0_enter_116 ⟨by decide, by decide⟩) (fun Λ9 u9 hp9 => ?_)
            rw [hs13, hl13] at hp9
            refine j_lv (lv' := []) [] rfl ?_
            exact j_vretx C hr hlk (EnP.new hL hW hsp hr40 hlo hup2 hm0 hj2 hT hyΛ_4 hp9) dX0_enter_119
          · have hGt : Gw Λ Λ_13 := hGΛ_4.tr hGΛ_13
            have hKt : Kp Λ σ σ_14 := by rw [hs13]; exact Kp_word
            have hwt : gC Λ 17 < gC Λ_13 17 := hb_18
            refine c_vx C (r_V C 15 0 [.int (nI sp), .ref (gA Λ_13 17 (gC Λ 17))] (c_ladd_more l D cy base Λ_13 σ_14 n ar cp wf (hL.1.old hGt hKt) hn450 sp (gC Λ 17) hsp hwt hL.2.1 h0 hne) (cwV 2 hts gX0_enter_Jx4a65c_add_7a177 rfl rfl rfl (by decide +kernel) ⟨by decide, by decide⟩) hb_16 rfl rfl rfl rfl (Nat.le_of_ble_eq_true rfl) dX0_enter_116 ⟨by decide, by decide⟩) (fun Λ9 u9 hp9 => ?_)
            rw [hs13, hl13] at hp9
            refine j_lv (lv' := []) [] rfl ?_
            exact j_vretx C hr hlk (EnP.new hL hW hsp hr40 hlo hup2 hm0 hj2 hT hyΛ_4 hp9) dX0_enter_119
          · have hGt : Gw Λ Λ_13 := hGΛ_4.tr hGΛ_13
            have hKt : Kp Λ σ σ_14 := by rw [hs13]; exact Kp_word
            have hwt : gC Λ 17 < gC Λ_13 17 := hb_18
            refine c_vx C (r_V C 15 0 [.int (nI sp), .ref (gA Λ_13 17 (gC Λ 17))] (c_ladd_room l D cy base Λ_13 σ_14 n ar cp wf (hL.1.old hGt hKt) hn450 sp (gC Λ 17) hsp hwt hL.2.1 hlt) (cwV 2 hts gX0_enter_Jx4a65c_add_7a177 rfl rfl rfl (by decide +kernel) ⟨by decide, by decide⟩) hb_16 rfl rfl rfl rfl (Nat.le_of_ble_eq_true rfl) dX0_enter_116 ⟨by decide, by decide⟩) (fun Λ9 u9 hp9 => ?_)
            rw [hs13, hl13] at hp9
            refine j_lv (lv' := []) [] rfl ?_
            exact j_vretx C hr hlk (EnP.new hL hW hsp hr40 hlo hup2 hm0 hj2 hT hyΛ_4 hp9) dX0_enter_119
        refine j_aload_n C dX0_enter_45 rfl 0 rfl ?_
        refine j_getV C hwX0 14 0 0 hL.2.2.1.1 rfl rfl (by decide) rfl 0 hL.2.2.1.2 hL10 dX0_enter_46 ?_
        refine c_i0 C (r_V C 15 0 [] (c_Jx4a65c_size_8abf5 l D cy base Λ σ n ar cp wf hL.1) (cwV 0 hts gX0_enter_Jx4a65c_size_8abf5 rfl rfl rfl (by decide +kernel) ⟨by decide, by decide⟩) hL.1.1 rfl rfl rfl rfl (Nat.le_of_ble_eq_true rfl) dX0_enter_49 ⟨by decide, by decide⟩) (fun rv uu hp => ?_)
        rw [hp.1, hp.2]
        refine j_icmp_ge (tgt := 101) C dX0_enter_52 (by decide) (nI_leI (by omega) (by omega)) (fun h52 => ?_) (fun h52 => ?_)
        · exact lb101  (fun z => absurd z (by omega))
        · refine j_aload_n C dX0_enter_55 rfl 0 rfl ?_
          refine j_getV C hwX0 14 0 0 hL.2.2.1.1 rfl rfl (by decide) rfl 0 hL.2.2.1.2 hL10 dX0_enter_56 ?_
          refine j_iload C dX0_enter_59 3 rfl ?_
          refine c_r0 C (r_V C 15 0 [.int (nI sp)] (c_Jx4a65c_get_915e3 l D cy base Λ σ n ar cp wf hL.1 sp (by omega)) (cwV 1 hts gX0_enter_Jx4a65c_get_915e3 rfl rfl rfl (by decide +kernel) ⟨by decide, by decide⟩) hL.1.1 rfl rfl rfl rfl (Nat.le_of_ble_eq_true rfl) dX0_enter_61 ⟨by decide, by decide⟩) (fun uu jj hp => ?_)
          obtain ⟨hk1, hk2⟩ := Prod.mk.inj hp
          rw [hk1, hk2]
          refine j_cast C 17 (wf sp) (hL.2.2.2.1 sp (by omega)).1 rfl rfl (hts (.classLink RX0 41 RX9) (by decide +kernel)) dX0_enter_64 ?_
          refine j_getV C hwX9 17 (wf sp) 0 (hL.2.2.2.1 sp (by omega)).1 rfl rfl (by decide) rfl (tx sp) (hL.2.2.2.1 sp (by omega)).2.1 hL43 dX0_enter_67 ?_
          refine j_aload_n C dX0_enter_70 rfl 1 rfl ?_
          refine c_i0 C (r_V C 1 (tx sp) [.ref (gA Λ 1 j)] (c_X7_compareWith l D cy base Λ σ (tx sp) (ln sp) (ln sp) (lt sp) (hL.2.2.2.1 sp (by omega)).2.2.2.2.2 j m9 m9 g hT) (cwV 1 hts gX0_enter_X7_compareWith rfl rfl rfl (by decide +kernel) ⟨by decide, by decide⟩) (hL.2.2.2.1 sp (by omega)).2.2.2.2.2.1 rfl rfl rfl rfl (Nat.le_of_ble_eq_true rfl) dX0_enter_71 ⟨by decide, by decide⟩) (fun rv71 uu hq71 => ?_)
          rw [hq71.2]
          refine j_if_ne (tgt := 101) C dX0_enter_74 (by decide) (cmp_eq0 hq71.1) (fun h74 => ?_) (fun h74 => ?_)
          · exact lb101  (fun z => ⟨hup z, h74⟩)
          · refine j_aload_n C dX0_enter_77 rfl 0 rfl ?_
            refine j_getV C hwX0 14 0 0 hL.2.2.1.1 rfl rfl (by decide) rfl 0 hL.2.2.1.2 hL10 dX0_enter_78 ?_
            refine j_iload C dX0_enter_81 3 rfl ?_
            refine c_r0 C (r_V C 15 0 [.int (nI sp)] (c_Jx4a65c_get_915e3 l D cy base Λ σ n ar cp wf hL.1 sp (by omega)) (cwV 1 hts gX0_enter_Jx4a65c_get_915e3 rfl rfl rfl (by decide +kernel) ⟨by decide, by decide⟩) hL.1.1 rfl rfl rfl rfl (Nat.le_of_ble_eq_true rfl) dX0_enter_83 ⟨by decide, by decide⟩) (fun uu jj hp => ?_)
            obtain ⟨hk1, hk2⟩ := Prod.mk.inj hp
            rw [hk1, hk2]
            refine j_cast C 17 (wf sp) (hL.2.2.2.1 sp (by omega)).1 rfl rfl (hts (.classLink RX0 41 RX9) (by decide +kernel)) dX0_enter_86 ?_
            refine j_dup C dX0_enter_89 rfl ?_
            refine j_getJ C hwX9 17 (wf sp) 1 (hL.2.2.2.1 sp (by omega)).1 rfl rfl (by decide) rfl (lN (hd sp)) (hL.2.2.2.1 sp (by omega)).2.2.1 hL51 dX0_enter_90 ?_
            refine j_lload_n C dX0_enter_93 rfl 2 rfl ?_
            refine j_lor C (lN (hd sp ||| 2 ^ r)) dX0_enter_94 (lN_or _ _) ?_
            refine j_putJ C hwX9 17 (wf sp) 1 (hL.2.2.2.1 sp (by omega)).1 rfl rfl (by decide) rfl tyX9 tyX9_ok nmX9 rfl rfl rfl hL51 dX0_enter_95 ?_
            refine j_goto (tgt := 119) C dX0_enter_98 (by decide) ?_
            refine j_wide (k := 2) (n := 1002) (by omega) (by omega) ?_
            exact j_vretx C hr hlk (⟨n, ar, cp, wf, tx, ln, _, lt, GL.hold hL (by omega) hr40, by omega, GW.add hW (by omega) h74, Gw.rf, fun _ _ _ => rfl, Same.sJ Same.rf (by omega)⟩) dX0_enter_119
      refine j_aload_n C dX0_enter_5 rfl 0 rfl ?_
      refine j_getV C hwX0 14 0 0 hL.2.2.1.1 rfl rfl (by decide) rfl 0 hL.2.2.1.2 hL10 dX0_enter_6 ?_
      refine c_i0 C (r_V C 15 0 [] (c_Jx4a65c_size_8abf5 l D cy base Λ σ n ar cp wf hL.1) (cwV 0 hts gX0_enter_Jx4a65c_size_8abf5 rfl rfl rfl (by decide +kernel) ⟨by decide, by decide⟩) hL.1.1 rfl rfl rfl rfl (Nat.le_of_ble_eq_true rfl) dX0_enter_9 ⟨by decide, by decide⟩) (fun rv uu hp => ?_)
      rw [hp.1, hp.2]
      refine j_icmp_ge (tgt := 43) C dX0_enter_12 (by decide) (nI_leI (by omega) (by omega)) (fun h12 => ?_) (fun h12 => ?_)
      · exact lb43  (fun z => absurd z (by omega))
      · refine j_aload_n C dX0_enter_15 rfl 0 rfl ?_
        refine j_getV C hwX0 14 0 0 hL.2.2.1.1 rfl rfl (by decide) rfl 0 hL.2.2.1.2 hL10 dX0_enter_16 ?_
        refine j_iload C dX0_enter_19 3 rfl ?_
        refine c_r0 C (r_V C 15 0 [.int (nI sp)] (c_Jx4a65c_get_915e3 l D cy base Λ σ n ar cp wf hL.1 sp (by omega)) (cwV 1 hts gX0_enter_Jx4a65c_get_915e3 rfl rfl rfl (by decide +kernel) ⟨by decide, by decide⟩) hL.1.1 rfl rfl rfl rfl (Nat.le_of_ble_eq_true rfl) dX0_enter_21 ⟨by decide, by decide⟩) (fun uu jj hp => ?_)
        obtain ⟨hk1, hk2⟩ := Prod.mk.inj hp
        rw [hk1, hk2]
        refine j_cast C 17 (wf sp) (hL.2.2.2.1 sp (by omega)).1 rfl rfl (hts (.classLink RX0 41 RX9) (by decide +kernel)) dX0_enter_24 ?_
        refine j_getV C hwX9 17 (wf sp) 0 (hL.2.2.2.1 sp (by omega)).1 rfl rfl (by decide) rfl (tx sp) (hL.2.2.2.1 sp (by omega)).2.1 hL43 dX0_enter_27 ?_
        refine j_aload_n C dX0_enter_30 rfl 1 rfl ?_
        refine c_i0 C (r_V C 1 (tx sp) [.ref (gA Λ 1 j)] (c_X7_compareWith l D cy base Λ σ (tx sp) (ln sp) (ln sp) (lt sp) (hL.2.2.2.1 sp (by omega)).2.2.2.2.2 j m9 m9 g hT) (cwV 1 hts gX0_enter_X7_compareWith rfl rfl rfl (by decide +kernel) ⟨by decide, by decide⟩) (hL.2.2.2.1 sp (by omega)).2.2.2.2.2.1 rfl rfl rfl rfl (Nat.le_of_ble_eq_true rfl) dX0_enter_31 ⟨by decide, by decide⟩) (fun rv31 uu hq31 => ?_)
        rw [hq31.2]
        refine j_if_ge (tgt := 43) C dX0_enter_34 (by decide) (cmp_ge hq31.1) (fun h34 => ?_) (fun h34 => ?_)
        · exact lb43  (fun _ => h34)
        · refine j_iinc C [(4, .int (nI (sp + 1))), (0, .ref (gA Λ 14 0)), (1, .ref (gA Λ 1 j)), (2, .long (lN (2 ^ r)))] (nI (sp + 1)) dX0_enter_37 3 rfl (nI_add _ 1) (by decide) rfl ?_
          refine j_goto (tgt := 3) C dX0_enter_40 (by decide) ?_
          refine j_lv [1, 2, 3, 0] rfl ?_
          exact ih3 (sp + 1) (by omega) (by omega) (fun a ha => by rcases Nat.lt_succ_iff_lt_or_eq.mp ha with z | z; exact hlo a z; rw [z]; exact Classical.not_not.mp h34)
  refine j_lv [1, 2, 3, 0] rfl ?_
  exact lb3 _ 0 (Nat.lt_succ_self _) (by omega) (fun a ha => absurd ha (Nat.not_lt_zero a))
