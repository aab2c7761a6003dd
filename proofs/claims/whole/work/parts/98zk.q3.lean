set_option maxHeartbeats 4000000 in
set_option maxRecDepth 100000 in
theorem c_rout_ok (l : Launch) (D : va_G) (cy : Nat → ClassId) (base : Nat) (Λ : LY) (σ : HS) (M : MM) (hN : INV Λ σ M) (hB : MBd M) (n : Nat) (hA : n ≤ M 31 2) (h40 : M 31 5 < 40) (hNm : nameB (mS M 31 2 0) n = true) (hD : ∀ r, r < M 31 5 → hasN (mS M 31 2 0) r n = false) (hW : WT (mS M 31 2 0)) (hZ9 : WZ (mS M 31 2 0)) (hBn : MBd (newM (mS (mS M 31 2 0) 60 (mS M 31 2 0 31 5) (gC Λ 1)) n)) (hN34 : ∀ r, r < 40 → M 34 r ≤ 20) : Met l yX10_routine wsX10_routine ({ frames := 48, cells := 54, slots := 11748, locals := 720 }) (va_Pc [.ref (gA Λ 0 0), .int (nI n)] (Wg D cy base Λ σ)) (va_Qi (fun v x => v = nI (M 31 5) ∧ INV x.1 x.2 (settle (newM (mS (mS M 31 2 0) 60 (mS M 31 2 0 31 5) (gC Λ 1)) n)) ∧ OUT Λ σ x) (Wx D cy base) (Ab base)) 54 11748 (Ab base) := by
  refine j_startG (cc := cX10_routine) (nL := 4) (ret := (some .int)) (lv := [(0, .ref (gA Λ 0 0)), (1, .int (nI n))]) (by decide) rfl (Nat.le_of_ble_eq_true rfl) rfl ?_
  intro p e s m below meth c C hr hlk hnm hZ
  have C : Cx p s m ([.ref (gA Λ 0 0), .int (nI n)] : List Value).toArray c cX10_routine 4 RX10 wsX10_routine D cy base := C
  have hts := C.2.2.2.2.1
  have hwX10 : ∀ w ∈ u_ws RX10 TX10 9, w ∈ wsX10_routine := by decide +kernel
  have hwX4 : ∀ w ∈ u_ws RX4 TX4 6, w ∈ wsX10_routine := by decide +kernel
  have hwX5 : ∀ w ∈ u_ws RX5 TX5 13, w ∈ wsX10_routine := by decide +kernel
  have hwX7 : ∀ w ∈ u_ws RX7 TX7 2, w ∈ wsX10_routine := by decide +kernel
  have hM14 : (Cond.fieldLink RX10 14 (TX10 0).1 (TX10 0).2.1 (TX10 0).2.2.1).before ([.ref (gA Λ 0 0), .int (nI n)] : List Value).toArray s = true := hts (.fieldLink RX10 14 "CodeRooms" "tape" "LCodeRooms$Text;") (by decide +kernel)
  have hL14 : FL RX10 14 (TX10 0).1 (TX10 0).2.1 (TX10 0).2.2.1 ([.ref (gA Λ 0 0), .int (nI n)] : List Value).toArray s := Or.inl hM14
  have hM24 : (Cond.fieldLink RX10 24 (TX10 2).1 (TX10 2).2.1 (TX10 2).2.2.1).before ([.ref (gA Λ 0 0), .int (nI n)] : List Value).toArray s = true := hts (.fieldLink RX10 24 "CodeRooms" "plan" "LCodeRooms$Plan;") (by decide +kernel)
  have hL24 : FL RX10 24 (TX10 2).1 (TX10 2).2.1 (TX10 2).2.2.1 ([.ref (gA Λ 0 0), .int (nI n)] : List Value).toArray s := Or.inl hM24
  have hM31 : (Cond.fieldLink RX10 31 (TX10 3).1 (TX10 3).2.1 (TX10 3).2.2.1).before ([.ref (gA Λ 0 0), .int (nI n)] : List Value).toArray s = true := hts (.fieldLink RX10 31 "CodeRooms" "glossary" "LCodeRooms$Glossary;") (by decide +kernel)
  have hL31 : FL RX10 31 (TX10 3).1 (TX10 3).2.1 (TX10 3).2.2.1 ([.ref (gA Λ 0 0), .int (nI n)] : List Value).toArray s := Or.inl hM31
  have hL72 : FL RX10 72 (TX7 1).1 (TX7 1).2.1 (TX7 1).2.2.1 ([.ref (gA Λ 0 0), .int (nI n)] : List Value).toArray s := Or.inr ⟨_, Ex.nestF C.2.2.2.2.2.2 nf_X10_72⟩
  have hL86 : FL RX10 86 (TX4 4).1 (TX4 4).2.1 (TX4 4).2.2.1 ([.ref (gA Λ 0 0), .int (nI n)] : List Value).toArray s := Or.inr ⟨_, Ex.nestF C.2.2.2.2.2.2 nf_X10_86⟩
  have hL111 : FL RX10 111 (TX5 1).1 (TX5 1).2.1 (TX5 1).2.2.1 ([.ref (gA Λ 0 0), .int (nI n)] : List Value).toArray s := Or.inr ⟨_, Ex.nestF C.2.2.2.2.2.2 nf_X10_111⟩
  have hL121 : FL RX10 121 (TX5 0).1 (TX5 0).2.1 (TX5 0).2.2.1 ([.ref (gA Λ 0 0), .int (nI n)] : List Value).toArray s := Or.inr ⟨_, Ex.nestF C.2.2.2.2.2.2 nf_X10_121⟩
  have hn : M 31 5 ≤ 40 := hB 31 5 rfl
  have hC := hN.1
  have hT0 := CR.tx0 hC hB
  have h2 : M 31 2 ≤ 40 := hB 31 2 rfl
  have hE12 := hC.1.2.2.2.2.2.1
  have hc2 := hC.1.2.2.2.2.1
  have hNB : (decide (1 ≤ n ∧ n ≤ 20) && lets (M 32) n) = true := by rw [lets_all (M := (mS M 31 2 0)) (f := M 32) (fun _ _ => rfl)]; exact hNm
  have hnl : n ≤ 20 := by have h9 := (Bool.and_eq_true _ _ ▸ hNm : _ ∧ _).1; exact (of_decide_eq_true h9).2
  refine j_iload_n C dX10_routine_0 rfl 1 rfl ?_
  refine j_if_lt (tgt := 15) C dX10_routine_1 (by decide) (nJ_lt0 (by omega)) (fun h1 => ?_) (fun h1 => ?_)
  · first | omega | exact h1.elim
  · refine j_iload_n C dX10_routine_4 rfl 1 rfl ?_
    refine j_aload_n C dX10_routine_5 rfl 0 rfl ?_
    refine j_getV C hwX10 0 0 0 (CR.n1 hC (by decide)) rfl rfl (by decide) rfl 0 (CR.v hC 0 0 0 ⟨rfl, by decide⟩ id) hL14 dX10_routine_6 ?_
    refine j_getI C hwX7 1 0 1 hT0.1 rfl rfl (by decide) rfl (nI (M 31 2)) hT0.2.2.2.1 hL72 dX10_routine_9 ?_
    refine j_icmp_le (tgt := 25) C dX10_routine_12 (by decide) (nI_leI (by omega) (by omega)) (fun h12 => ?_) (fun h12 => ?_)
    · refine j_aload_n C dX10_routine_25 rfl 0 rfl ?_
      refine j_getV C hwX10 0 0 2 (CR.n1 hC (by decide)) rfl rfl (by decide) rfl 0 (CR.v hC 0 0 2 ⟨rfl, by decide⟩ id) hL24 dX10_routine_26 ?_
      refine j_getI C hwX4 3 0 4 (CR.n1 hC (by decide)) rfl rfl (by decide) rfl (nI (M 31 5)) (CR.i hC 3 0 4 ⟨rfl, Or.inl rfl⟩ id) hL86 dX10_routine_29 ?_
      refine j_bipush C (nI 40) dX10_routine_32 (by decide) ?_
      refine j_icmp_lt (tgt := 47) C dX10_routine_34 (by decide) (nI_ltI (by omega) (by omega)) (fun h34 => ?_) (fun h34 => ?_)
      · refine j_aload_n C dX10_routine_47 rfl 0 rfl ?_
        refine j_getV C hwX10 0 0 0 (CR.n1 hC (by decide)) rfl rfl (by decide) rfl 0 (CR.v hC 0 0 0 ⟨rfl, by decide⟩ id) hL14 dX10_routine_48 ?_
        refine j_iconst C (nI 0) dX10_routine_51 (by decide) ?_
        refine j_iload_n C dX10_routine_52 rfl 1 rfl ?_
        refine c_rx C (r_V C 1 0 [.int (nI 0), .int (nI n)] (c_X7_part l D cy base Λ σ 0 (M 31 2) 40 (M 32) hT0 hE12 0 n (by omega) (by omega)) (cwV 2 hts gX10_routine_X7_part rfl rfl rfl (by decide +kernel) ⟨by decide, by decide⟩) hT0.1 rfl rfl rfl rfl (Nat.le_of_ble_eq_true rfl) dX10_routine_53 ⟨by decide, by decide⟩) (fun Λ1 u1 j1 hp1 => ?_)
        obtain ⟨p1, p2, p3, p4, p5, p6, p7, p8⟩ := hp1
        dsimp only at p1 p2 p3 p4 p5 p6 p7 p8
        subst p1
        have hI1 := LnI.part hE12 hN.1.2.1 p2 p3 p4 p5 p6 p8 p7
        rw [Nat.sub_zero] at p7
        have hTb := TX.ext (g := M 32) p7 (fun k hk => by rw [Nat.zero_add])
        have hN1 := hN.part hI1 p3
        have hC1 := hN1.1
        have hb00 := CR.n1 hC (t := 0) (by decide)
        have hb_4 : 0 < gC Λ1 0 := Nat.lt_of_lt_of_le hb00 (p2.1 0)
        have hz_5 : Zx base (gA Λ1 50 0) s := by rw [p2.2.2]; exact hZ
        have he_6 : gA Λ1 0 0 = gA Λ 0 0 := (p2.2.1 0 0 (by first | assumption | omega)).1
        refine j_eq (lv' := [(0, .ref (gA Λ1 0 0)), (1, .int (nI n))]) (st' := [.ref (gA Λ1 1 (gC Λ 1))]) (by simp only [he_6]) (by simp only [he_6]) ?_
        refine j_astore_n C [(2, .ref (gA Λ1 1 (gC Λ 1))), (0, .ref (gA Λ1 0 0)), (1, .int (nI n))] dX10_routine_56 rfl (by decide) rfl ?_
        refine j_aload_n C dX10_routine_57 rfl 1 rfl ?_
        refine j_getV C hwX10 0 0 0 (CR.n1 hC1 (by decide)) rfl rfl (by decide) rfl 0 (CR.v hC1 0 0 0 ⟨rfl, by decide⟩ id) hL14 dX10_routine_58 ?_
        refine c_v0 C (r_V C 1 0 [] (c_clear l D cy base Λ1 u1 0 (CR.tx0 hC1 hB).1) (cwV 0 hts gX10_routine_X7_clear rfl rfl rfl (by decide +kernel) ⟨by decide, by decide⟩) (CR.tx0 hC1 hB).1 rfl rfl rfl rfl (Nat.le_of_ble_eq_true rfl) dX10_routine_61 ⟨by decide, by decide⟩) (fun u2 hq2 => ?_)
        have hN2 : INV Λ1 u2 (mS M 31 2 0) := by rw [hq2]; exact hN1.clr hB
        have hTc : TX Λ1 u2 (gC Λ 1) n n (M 32) := by rw [hq2]; exact (TX.clr (CR.tx0 hC1 hB)).2.tx (by omega) hTb
        have hO2 : OUT Λ σ (Λ1, u2) := by rw [hq2]; exact OUT.clr p2 p6 p8
        have hC2 := hN2.1
        have hB2 : MBd (mS M 31 2 0) := clr_B hB
        refine j_aload_n C dX10_routine_64 rfl 0 rfl ?_
        refine c_i0 C (r_V C 1 (gC Λ 1) [] (c_X7_isName l D cy base Λ1 u2 (gC Λ 1) n n (M 32) hTc) (cwV 0 hts gX10_routine_X7_isName rfl rfl rfl (by decide +kernel) ⟨by decide, by decide⟩) hTc.1 rfl rfl rfl rfl (Nat.le_of_ble_eq_true rfl) dX10_routine_65 ⟨by decide, by decide⟩) (fun rv uu hp => ?_)
        rw [hp.1, hp.2]
        refine j_ifne_b (tgt := 73) C dX10_routine_68 (by decide) (fun h68 => ?_) (fun h68 => ?_)
        · refine j_aload_n C dX10_routine_73 rfl 1 rfl ?_
          refine j_getV C hwX10 0 0 2 (CR.n1 hC2 (by decide)) rfl rfl (by decide) rfl 0 (CR.v hC2 0 0 2 ⟨rfl, by decide⟩ id) hL24 dX10_routine_74 ?_
          refine j_aload_n C dX10_routine_77 rfl 0 rfl ?_
          refine c_i0 C (r_V C 3 0 [.ref (gA Λ1 1 (gC Λ 1))] (c_hasName_n l D cy base Λ1 u2 (mS M 31 2 0) hC2 hB2 hN2.2.1 (gC Λ 1) n n (M 32) hTc (fun r a b => by have c1 := hasN_weq.mpr b; have c2 := hD r a; rw [c2] at c1; cases c1)) (cwV 1 hts gX10_routine_X4_hasName rfl rfl rfl (by decide +kernel) ⟨by decide, by decide⟩) (CR.n1 hC2 (by decide)) rfl rfl rfl rfl (Nat.le_of_ble_eq_true rfl) dX10_routine_78 ⟨by decide, by decide⟩) (fun rv uu hp => ?_)
          rw [hp.1, hp.2]
          refine j_ifeq_b (tgt := 87) C dX10_routine_81 (by decide) (fun h81 => ?_) (fun h81 => ?_)
          · refine j_aload_n C dX10_routine_87 rfl 1 rfl ?_
            refine j_getV C hwX10 0 0 2 (CR.n1 hC2 (by decide)) rfl rfl (by decide) rfl 0 (CR.v hC2 0 0 2 ⟨rfl, by decide⟩ id) hL24 dX10_routine_88 ?_
            refine j_aload_n C dX10_routine_91 rfl 0 rfl ?_
            refine c_rx C (r_V C 3 0 [.ref (gA Λ1 1 (gC Λ 1))] (c_X4_add l D cy base Λ1 u2 (mS M 31 2 0) hC2 hB2 hW hZ9 h40 (gC Λ 1) n hTc.1 hBn) (cwV 1 hts gX10_routine_X4_add rfl rfl rfl (by decide +kernel) ⟨by decide, by decide⟩) (CR.n1 hC2 (by decide)) rfl rfl rfl rfl (Nat.le_of_ble_eq_true rfl) dX10_routine_92 ⟨by decide, by decide⟩) (fun Λ2 u3 j2 hp2 => ?_)
            obtain ⟨a1, hC3, a3, a4, a5⟩ := hp2
            dsimp only at a1 hC3 a3 a4 a5
            subst a1
            have h35 : (settle (newM (mS (mS M 31 2 0) 60 (mS M 31 2 0 31 5) (gC Λ 1)) n)) 31 5 = mS M 31 2 0 31 5 + 1 := nw_5
            have hlbx := hTc.1
            have hb_9 : 0 < gC Λ2 0 := Nat.lt_of_lt_of_le hb_4 (a3.1 0)
            have hb_10 : (gC Λ 1) < gC Λ2 1 := Nat.lt_of_lt_of_le hlbx (a3.1 1)
            have hz_11 : Zx base (gA Λ2 50 0) s := by rw [a3.2.2]; exact hz_5
            have he_12 : gA Λ2 1 (gC Λ 1) = gA Λ1 1 (gC Λ 1) := (a3.2.1 1 (gC Λ 1) (by first | assumption | omega)).1
            have he_13 : gA Λ2 0 0 = gA Λ1 0 0 := (a3.2.1 0 0 (by first | assumption | omega)).1
            refine j_eq (lv' := [(2, .ref (gA Λ2 1 (gC Λ 1))), (0, .ref (gA Λ2 0 0)), (1, .int (nI n))]) (st' := [.ref (gA Λ2 8 (mS M 31 2 0 31 5))]) (by simp only [he_12, he_13]) (by simp only [he_12, he_13]) ?_
            have hTd := hTc.gs a3 a5
            have h39 : mS M 31 2 0 31 5 ≤ 39 := by have e : mS M 31 2 0 31 5 = M 31 5 := rfl; omega
            refine j_astore_n C [(3, .ref (gA Λ2 8 (mS M 31 2 0 31 5))), (2, .ref (gA Λ2 1 (gC Λ 1))), (0, .ref (gA Λ2 0 0)), (1, .int (nI n))] dX10_routine_95 rfl (by decide) rfl ?_
            obtain ⟨n9, ar, cp, wf, tx, ln, hd, lt, g1, g2, g3⟩ := hN2.2.2
            refine j_aload_n C dX10_routine_96 rfl 2 rfl ?_
            refine j_getV C hwX10 0 0 3 (CR.n1 hC3 (by decide)) rfl rfl (by decide) rfl 0 (CR.v hC3 0 0 3 ⟨rfl, by decide⟩ id) hL31 dX10_routine_97 ?_
            refine j_aload_n C dX10_routine_100 rfl 1 rfl ?_
            refine j_aload_n C dX10_routine_101 rfl 0 rfl ?_
            refine j_getJ C hwX5 8 (mS M 31 2 0 31 5) 1 (CR.n8 hC3 (by decide) (show mS M 31 2 0 31 5 < (settle (newM (mS (mS M 31 2 0) 60 (mS M 31 2 0 31 5) (gC Λ 1)) n)) 31 5 by omega)) rfl rfl (by decide) rfl (lN (2 ^ (mS M 31 2 0 31 5))) (CR.j hC3 8 (mS M 31 2 0 31 5) 1 ⟨show mS M 31 2 0 31 5 < (settle (newM (mS (mS M 31 2 0) 60 (mS M 31 2 0 31 5) (gC Λ 1)) n)) 31 5 by omega, Or.inl rfl⟩ id) hL111 dX10_routine_102 ?_
            refine c_vx C (r_Vg C hz_11 14 0 [.ref (gA Λ2 1 (gC Λ 1)), .long (lN (2 ^ (mS M 31 2 0 31 5)))] (c_X0_learn l D cy base Λ2 u3 n9 ar cp wf tx ln hd lt (g1.gs a3 a5) (mS M 31 2 0 31 5) (PW (mS M 31 2 0)) g2 (by omega) (gC Λ 1) n n (M 32) hTd hC3.1.2.2.2.2.2.1 hC3.2.1 hC3.1.2.2.2.2.1 (settle (newM (mS (mS M 31 2 0) 60 (mS M 31 2 0 31 5) (gC Λ 1)) n)) (by rw [nw_34, if_pos rfl]) hnl (fun q hq => nw_new (M := (mS M 31 2 0)) hnl q hq) (by omega)) (cwV 2 hts gX10_routine_X0_learn rfl rfl rfl (by decide +kernel) ⟨by decide, by decide⟩) (CR.n1 hC3 (by decide)) rfl rfl rfl rfl (Nat.le_of_ble_eq_true rfl) dX10_routine_105 ⟨by decide, by decide⟩) (fun Λ4 u4 hp4 => ?_)
            have hp5 := hp4
            obtain ⟨n2, ar2, cp2, wf2, tx2, ln2, hd2, lt2, y1, y2, y3, hI4⟩ := hp4
            have hG4 := hI4.1
            have hb8 : mS M 31 2 0 31 5 < gC Λ2 8 := CR.n8 hC3 (by decide) (by omega)
            have hNf := INV.new hN2.2.1 hC3 a3 a5 hTc (by omega) hN34 h40 hnl g3 hp5
            have hOf := hO2.new a3 a4 a5 hI4
            have hb_14 : 0 < gC Λ4 0 := Nat.lt_of_lt_of_le hb_9 (hG4.1 0)
            have hb_15 : (gC Λ 1) < gC Λ4 1 := Nat.lt_of_lt_of_le hb_10 (hG4.1 1)
            have hb_16 : (mS M 31 2 0 31 5) < gC Λ4 8 := Nat.lt_of_lt_of_le hb8 (hG4.1 8)
            have hz_17 : Zx base (gA Λ4 50 0) s := by rw [hG4.2.2]; exact hz_11
            have he_18 : gA Λ4 8 (mS M 31 2 0 31 5) = gA Λ2 8 (mS M 31 2 0 31 5) := (hG4.2.1 8 (mS M 31 2 0 31 5) (by first | assumption | omega)).1
            have he_19 : gA Λ4 1 (gC Λ 1) = gA Λ2 1 (gC Λ 1) := (hG4.2.1 1 (gC Λ 1) (by first | assumption | omega)).1
            have he_20 : gA Λ4 0 0 = gA Λ2 0 0 := (hG4.2.1 0 0 (by first | assumption | omega)).1
            refine j_eq (lv' := [(3, .ref (gA Λ4 8 (mS M 31 2 0 31 5))), (2, .ref (gA Λ4 1 (gC Λ 1))), (0, .ref (gA Λ4 0 0)), (1, .int (nI n))]) (st' := []) (by simp only [he_18, he_19, he_20]) (by rfl) ?_
            refine j_aload_n C dX10_routine_108 rfl 0 rfl ?_
            refine j_getI C hwX5 8 (mS M 31 2 0 31 5) 0 hb_16 rfl rfl (by decide) rfl (nI (mS M 31 2 0 31 5)) ((congrFun (congrFun (hI4.2.2.1 8 ⟨by decide, by decide, by decide, by decide, by decide⟩).1 (mS M 31 2 0 31 5)) 0).trans (CR.i hC3 8 (mS M 31 2 0 31 5) 0 ⟨by omega, Or.inl rfl⟩ id)) hL121 dX10_routine_109 ?_
            exact j_iretx C hr hlk (⟨rfl, hNf, hOf⟩) dX10_routine_112
          · exact absurd h81 (by decide)
        · exact absurd (h68.symm.trans hNB) (by decide)
      · omega
    · first | omega | exact h1.elim
