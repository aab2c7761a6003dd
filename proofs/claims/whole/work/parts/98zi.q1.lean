theorem INV.part {Λ L2 : LY} {σ u : HS} {M : MM} (h : INV Λ σ M) (hI : LnI Λ σ L2 u) (hK : Kp Λ σ u) : INV L2 u M := by
  obtain ⟨h1, h2, n, ar, cp, wf, tx, ln, hd, lt, g1, g2, g3⟩ := h
  exact ⟨h1.ln hI, fun r hr => ⟨hI.tx (h2 r hr).1, (h2 r hr).2⟩, n, ar, cp, wf, tx, ln, hd, lt, g1.old hI.1 hK, g2, g3⟩
theorem PW_congr {M M' : MM} (h5 : M' 31 5 = M 31 5) (h3 : M' 33 = M 33) (h4 : M' 34 = M 34) (r m : Nat) (g : Nat → Nat) : PW M r m g ↔ PW M' r m g := by
  unfold PW
  rw [h5, hasW_congr h3 h4]
theorem INV.clr {Λ : LY} {σ : HS} {M : MM} (h : INV Λ σ M) (hB : MBd M) : INV Λ (sI σ 1 0 1 (nI 0)) (mS M 31 2 0) := by
  obtain ⟨h1, h2, n, ar, cp, wf, tx, ln, hd, lt, g1, g2, g3⟩ := h
  have hc := TX.clr (CR.tx0 h1 hB)
  refine ⟨?_, fun r hr => ?_, n, ar, cp, wf, tx, ln, hd, lt, g1.gx hc.2 (by decide), g2.iff (PW_congr rfl rfl rfl), g3⟩
  · rw [← tp0]
    exact CR.tape h1 hc.2 hc.1 (fun k hk => absurd hk (Nat.not_lt_zero k))
  · obtain ⟨a, b⟩ := h2 r hr
    exact ⟨hc.2.tx (show M 60 r ≠ 0 by omega) a, b⟩
def OUT (Λ : LY) (σ : HS) (x : LY × HS) : Prop := Gw Λ x.1 ∧ (∀ t, 31 ≤ t → gC x.1 t = gC Λ t) ∧ Same (fun t => 31 ≤ t) σ x.2
theorem OUT.clr {Λ L1 : LY} {σ u : HS} (hG : Gw Λ L1) (c3 : ∀ t, t ≠ 1 → t ≠ 2 → gC L1 t = gC Λ t) (hs : Same (fun t => t ≠ 1 ∧ t ≠ 2) σ u) : OUT Λ σ (L1, sI u 1 0 1 (nI 0)) := ⟨hG, fun t ht => c3 t (by omega) (by omega), Same.sI (Same.mono hs (fun t ht => by omega)) (by omega)⟩
theorem clr_B {M : MM} (hB : MBd M) : MBd (mS M 31 2 0) := by
  intro t k hk
  unfold mS
  by_cases h : t = 31 ∧ k = 2
  · rw [if_pos h]; exact Nat.zero_le _
  · rw [if_neg h]; exact hB t k hk
set_option maxHeartbeats 4000000 in
set_option maxRecDepth 100000 in
theorem c_rout_m1 (l : Launch) (D : va_G) (cy : Nat → ClassId) (base : Nat) (Λ : LY) (σ : HS) (M : MM) (hN : INV Λ σ M) (hB : MBd M) (n : Nat) (hA : n ≤ M 31 2) (h40 : M 31 5 < 40) (hNm : nameB (mS M 31 2 0) n = false) : Met l yX10_routine wsX10_routine ({ frames := 20, cells := 2, slots := 42, locals := 300 }) (va_Pc [.ref (gA Λ 0 0), .int (nI n)] (Wd D cy base Λ σ)) (va_Qi (fun v x => v = -1 ∧ INV x.1 x.2 (mS M 31 2 0) ∧ OUT Λ σ x) (Wx D cy base) (Ab base)) 2 42 (Ab base) := by
  refine j_start (cc := cX10_routine) (nL := 4) (ret := (some .int)) (lv := [(0, .ref (gA Λ 0 0)), (1, .int (nI n))]) (by decide) rfl (Nat.le_of_ble_eq_true rfl) rfl ?_
  intro p e s m below meth c C hr hlk hnm
  have C : Cx p s m ([.ref (gA Λ 0 0), .int (nI n)] : List Value).toArray c cX10_routine 4 RX10 wsX10_routine D cy base := C
  have hts := C.2.2.2.2.1
  have hwX10 : ∀ w ∈ u_ws RX10 TX10 9, w ∈ wsX10_routine := by decide +kernel
  have hwX4 : ∀ w ∈ u_ws RX4 TX4 6, w ∈ wsX10_routine := by decide +kernel
  have hwX7 : ∀ w ∈ u_ws RX7 TX7 2, w ∈ wsX10_routine := by decide +kernel
  have hM14 : (Cond.fieldLink RX10 14 (TX10 0).1 (TX10 0).2.1 (TX10 0).2.2.1).before ([.ref (gA Λ 0 0), .int (nI n)] : List Value).toArray s = true := hts (.fieldLink RX10 14 "CodeRooms" "tape" "LCodeRooms$Text;") (by decide +kernel)
  have hL14 : FL RX10 14 (TX10 0).1 (TX10 0).2.1 (TX10 0).2.2.1 ([.ref (gA Λ 0 0), .int (nI n)] : List Value).toArray s := Or.inl hM14
  have hM24 : (Cond.fieldLink RX10 24 (TX10 2).1 (TX10 2).2.1 (TX10 2).2.2.1).before ([.ref (gA Λ 0 0), .int (nI n)] : List Value).toArray s = true := hts (.fieldLink RX10 24 "CodeRooms" "plan" "LCodeRooms$Plan;") (by decide +kernel)
  have hL24 : FL RX10 24 (TX10 2).1 (TX10 2).2.1 (TX10 2).2.2.1 ([.ref (gA Λ 0 0), .int (nI n)] : List Value).toArray s := Or.inl hM24
  have hL72 : FL RX10 72 (TX7 1).1 (TX7 1).2.1 (TX7 1).2.2.1 ([.ref (gA Λ 0 0), .int (nI n)] : List Value).toArray s := Or.inr ⟨_, Ex.nestF C.2.2.2.2.2.2 nf_X10_72⟩
  have hL86 : FL RX10 86 (TX4 4).1 (TX4 4).2.1 (TX4 4).2.2.1 ([.ref (gA Λ 0 0), .int (nI n)] : List Value).toArray s := Or.inr ⟨_, Ex.nestF C.2.2.2.2.2.2 nf_X10_86⟩
  have hn : M 31 5 ≤ 40 := hB 31 5 rfl
  have hC := hN.1
  have hT0 := CR.tx0 hC hB
  have h2 : M 31 2 ≤ 40 := hB 31 2 rfl
  have hE12 := hC.1.2.2.2.2.2.1
  have hc2 := hC.1.2.2.2.2.1
  have hNB : (decide (1 ≤ n ∧ n ≤ 20) && lets (M 32) n) = false := by rw [lets_all (M := (mS M 31 2 0)) (f := M 32) (fun _ _ => rfl)]; exact hNm
  refine j_iload_n C dX10_routine_0 rfl 1 rfl ?_
  refine j_if_lt (tgt := 15) C dX10_routine_1 (by decide) (nJ_lt0 (by omega)) (fun h1 => ?_) (fun h1 => ?_)
  · first | omega | exact h1.elim
  · refine j_iload_n C dX10_routine_4 rfl 1 rfl ?_
    refine j_aload_n C dX10_routine_5 rfl 0 rfl ?_
    refine j_getV C hwX10 0 0 0 (CR.n1 hC (by decide)) rfl rfl (by decide) rfl 0 (CR.v hC 0 0 0 ⟨rfl, by decide⟩ id) hL14 dX10_routine_6 ?_
    refine j_getI C hwX7 1 0 1 hT0.1 rfl rfl (by decide) rfl (nI (M 31 2)) hT0.2.2.2.1 hL72 dX10_routine_9 ?_
    refine j_icmp_le (tgt := 25) C dX10_routine_12 (by decide) (nI_leI (by omega) (by omega)) (fun h12 => ?_) (fun h12 => ?_)
    · refine j_aload_n C dX10_routine_25 rfl 0 rfl ?_
      refine j_getV C hwX10 0 0 2 (CR.n1 hC (by decide)) rfl rfl (by decide) rfl 0 (CR.v hC 0 0 2 ⟨rfl, by decide⟩ id) hL24 dX10_routine_26 ?_
      refine j_getI C hwX4 3 0 4 (CR.n1 hC (by decide)) rfl rfl (by decide) rfl (nI (M 31 5)) (CR.i hC 3 0 4 ⟨rfl, Or.inl rfl⟩ id) hL86 dX10_routine_29 ?_
      refine j_bipush C (nI 40) dX10_routine_32 (by decide) ?_
      refine j_icmp_lt (tgt := 47) C dX10_routine_34 (by decide) (nI_ltI (by omega) (by omega)) (fun h34 => ?_) (fun h34 => ?_)
      · refine j_aload_n C dX10_routine_47 rfl 0 rfl ?_
        refine j_getV C hwX10 0 0 0 (CR.n1 hC (by decide)) rfl rfl (by decide) rfl 0 (CR.v hC 0 0 0 ⟨rfl, by decide⟩ id) hL14 dX10_routine_48 ?_
        refine j_iconst C (nI 0) dX10_routine_51 (by decide) ?_
        refine j_iload_n C dX10_routine_52 rfl 1 rfl ?_
        refine c_rx C (r_V C 1 0 [.int (nI 0), .int (nI n)] (c_X7_part l D cy base Λ σ 0 (M 31 2) 40 (M 32) hT0 hE12 0 n (by omega) (by omega)) (cwV 2 hts gX10_routine_X7_part rfl rfl rfl (by decide +kernel) ⟨by decide, by decide⟩) hT0.1 rfl rfl rfl rfl (Nat.le_of_ble_eq_true rfl) dX10_routine_53 ⟨by decide, by decide⟩) (fun Λ1 u1 j1 hp1 => ?_)
        obtain ⟨p1, p2, p3, p4, p5, p6, p7, p8⟩ := hp1
        dsimp only at p1 p2 p3 p4 p5 p6 p7 p8
        subst p1
        have hI1 := LnI.part hE12 hN.1.2.1 p2 p3 p4 p5 p6 p8 p7
        rw [Nat.sub_zero] at p7
        have hTb := TX.ext (g := M 32) p7 (fun k hk => by rw [Nat.zero_add])
        have hN1 := hN.part hI1 p3
        have hC1 := hN1.1
        have hb00 := CR.n1 hC (t := 0) (by decide)
        have hb_4 : 0 < gC Λ1 0 := Nat.lt_of_lt_of_le hb00 (p2.1 0)
        have he_5 : gA Λ1 0 0 = gA Λ 0 0 := (p2.2.1 0 0 (by first | assumption | omega)).1
        refine j_eq (lv' := [(0, .ref (gA Λ1 0 0)), (1, .int (nI n))]) (st' := [.ref (gA Λ1 1 (gC Λ 1))]) (by simp only [he_5]) (by simp only [he_5]) ?_
        refine j_astore_n C [(2, .ref (gA Λ1 1 (gC Λ 1))), (0, .ref (gA Λ1 0 0)), (1, .int (nI n))] dX10_routine_56 rfl (by decide) rfl ?_
        refine j_aload_n C dX10_routine_57 rfl 1 rfl ?_
        refine j_getV C hwX10 0 0 0 (CR.n1 hC1 (by decide)) rfl rfl (by decide) rfl 0 (CR.v hC1 0 0 0 ⟨rfl, by decide⟩ id) hL14 dX10_routine_58 ?_
        refine c_v0 C (r_V C 1 0 [] (c_clear l D cy base Λ1 u1 0 (CR.tx0 hC1 hB).1) (cwV 0 hts gX10_routine_X7_clear rfl rfl rfl (by decide +kernel) ⟨by decide, by decide⟩) (CR.tx0 hC1 hB).1 rfl rfl rfl rfl (Nat.le_of_ble_eq_true rfl) dX10_routine_61 ⟨by decide, by decide⟩) (fun u2 hq2 => ?_)
        have hN2 : INV Λ1 u2 (mS M 31 2 0) := by rw [hq2]; exact hN1.clr hB
        have hTc : TX Λ1 u2 (gC Λ 1) n n (M 32) := by rw [hq2]; exact (TX.clr (CR.tx0 hC1 hB)).2.tx (by omega) hTb
        have hO2 : OUT Λ σ (Λ1, u2) := by rw [hq2]; exact OUT.clr p2 p6 p8
        have hC2 := hN2.1
        have hB2 : MBd (mS M 31 2 0) := clr_B hB
        refine j_aload_n C dX10_routine_64 rfl 0 rfl ?_
        refine c_i0 C (r_V C 1 (gC Λ 1) [] (c_X7_isName l D cy base Λ1 u2 (gC Λ 1) n n (M 32) hTc) (cwV 0 hts gX10_routine_X7_isName rfl rfl rfl (by decide +kernel) ⟨by decide, by decide⟩) hTc.1 rfl rfl rfl rfl (Nat.le_of_ble_eq_true rfl) dX10_routine_65 ⟨by decide, by decide⟩) (fun rv uu hp => ?_)
        rw [hp.1, hp.2]
        refine j_ifne_b (tgt := 73) C dX10_routine_68 (by decide) (fun h68 => ?_) (fun h68 => ?_)
        · exact absurd (h68.symm.trans hNB) (by decide)
        · refine j_iconst C ((-1)) dX10_routine_71 (by decide) ?_
          exact j_iretx C hr hlk (⟨rfl, hN2, hO2⟩) dX10_routine_72
      · omega
    · first | omega | exact h1.elim

set_option maxHeartbeats 4000000 in
set_option maxRecDepth 100000 in
theorem c_rout_m2 (l : Launch) (D : va_G) (cy : Nat → ClassId) (base : Nat) (Λ : LY) (σ : HS) (M : MM) (hN : INV Λ σ M) (hB : MBd M) (n : Nat) (hA : n ≤ M 31 2) (h40 : M 31 5 < 40) (hNm : nameB (mS M 31 2 0) n = true) (hD : ∃ r, r < M 31 5 ∧ hasN (mS M 31 2 0) r n = true) : Met l yX10_routine wsX10_routine ({ frames := 20, cells := 2, slots := 42, locals := 300 }) (va_Pc [.ref (gA Λ 0 0), .int (nI n)] (Wd D cy base Λ σ)) (va_Qi (fun v x => v = -2 ∧ INV x.1 x.2 (mS M 31 2 0) ∧ OUT Λ σ x) (Wx D cy base) (Ab base)) 2 42 (Ab base) := by
  refine j_start (cc := cX10_routine) (nL := 4) (ret := (some .int)) (lv := [(0, .ref (gA Λ 0 0)), (1, .int (nI n))]) (by decide) rfl (Nat.le_of_ble_eq_true rfl) rfl ?_
  intro p e s m below meth c C hr hlk hnm
  have C : Cx p s m ([.ref (gA Λ 0 0), .int (nI n)] : List Value).toArray c cX10_routine 4 RX10 wsX10_routine D cy base := C
  have hts := C.2.2.2.2.1
  have hwX10 : ∀ w ∈ u_ws RX10 TX10 9, w ∈ wsX10_routine := by decide +kernel
  have hwX4 : ∀ w ∈ u_ws RX4 TX4 6, w ∈ wsX10_routine := by decide +kernel
  have hwX7 : ∀ w ∈ u_ws RX7 TX7 2, w ∈ wsX10_routine := by decide +kernel
  have hM14 : (Cond.fieldLink RX10 14 (TX10 0).1 (TX10 0).2.1 (TX10 0).2.2.1).before ([.ref (gA Λ 0 0), .int (nI n)] : List Value).toArray s = true := hts (.fieldLink RX10 14 "CodeRooms" "tape" "LCodeRooms$Text;") (by decide +kernel)
  have hL14 : FL RX10 14 (TX10 0).1 (TX10 0).2.1 (TX10 0).2.2.1 ([.ref (gA Λ 0 0), .int (nI n)] : List Value).toArray s := Or.inl hM14
  have hM24 : (Cond.fieldLink RX10 24 (TX10 2).1 (TX10 2).2.1 (TX10 2).2.2.1).before ([.ref (gA Λ 0 0), .int (nI n)] : List Value).toArray s = true := hts (.fieldLink RX10 24 "CodeRooms" "plan" "LCodeRooms$Plan;") (by decide +kernel)
  have hL24 : FL RX10 24 (TX10 2).1 (TX10 2).2.1 (TX10 2).2.2.1 ([.ref (gA Λ 0 0), .int (nI n)] : List Value).toArray s := Or.inl hM24
  have hL72 : FL RX10 72 (TX7 1).1 (TX7 1).2.1 (TX7 1).2.2.1 ([.ref (gA Λ 0 0), .int (nI n)] : List Value).toArray s := Or.inr ⟨_, Ex.nestF C.2.2.2.2.2.2 nf_X10_72⟩
  have hL86 : FL RX10 86 (TX4 4).1 (TX4 4).2.1 (TX4 4).2.2.1 ([.ref (gA Λ 0 0), .int (nI n)] : List Value).toArray s := Or.inr ⟨_, Ex.nestF C.2.2.2.2.2.2 nf_X10_86⟩
  have hn : M 31 5 ≤ 40 := hB 31 5 rfl
  have hC := hN.1
  have hT0 := CR.tx0 hC hB
  have h2 : M 31 2 ≤ 40 := hB 31 2 rfl
  have hE12 := hC.1.2.2.2.2.2.1
  have hc2 := hC.1.2.2.2.2.1
  have hNB : (decide (1 ≤ n ∧ n ≤ 20) && lets (M 32) n) = true := by rw [lets_all (M := (mS M 31 2 0)) (f := M 32) (fun _ _ => rfl)]; exact hNm
  refine j_iload_n C dX10_routine_0 rfl 1 rfl ?_
  refine j_if_lt (tgt := 15) C dX10_routine_1 (by decide) (nJ_lt0 (by omega)) (fun h1 => ?_) (fun h1 => ?_)
  · first | omega | exact h1.elim
  · refine j_iload_n C dX10_routine_4 rfl 1 rfl ?_
    refine j_aload_n C dX10_routine_5 rfl 0 rfl ?_
    refine j_getV C hwX10 0 0 0 (CR.n1 hC (by decide)) rfl rfl (by decide) rfl 0 (CR.v hC 0 0 0 ⟨rfl, by decide⟩ id) hL14 dX10_routine_6 ?_
    refine j_getI C hwX7 1 0 1 hT0.1 rfl rfl (by decide) rfl (nI (M 31 2)) hT0.2.2.2.1 hL72 dX10_routine_9 ?_
    refine j_icmp_le (tgt := 25) C dX10_routine_12 (by decide) (nI_leI (by omega) (by omega)) (fun h12 => ?_) (fun h12 => ?_)
    · refine j_aload_n C dX10_routine_25 rfl 0 rfl ?_
      refine j_getV C hwX10 0 0 2 (CR.n1 hC (by decide)) rfl rfl (by decide) rfl 0 (CR.v hC 0 0 2 ⟨rfl, by decide⟩ id) hL24 dX10_routine_26 ?_
      refine j_getI C hwX4 3 0 4 (CR.n1 hC (by decide)) rfl rfl (by decide) rfl (nI (M 31 5)) (CR.i hC 3 0 4 ⟨rfl, Or.inl rfl⟩ id) hL86 dX10_routine_29 ?_
      refine j_bipush C (nI 40) dX10_routine_32 (by decide) ?_
      refine j_icmp_lt (tgt := 47) C dX10_routine_34 (by decide) (nI_ltI (by omega) (by omega)) (fun h34 => ?_) (fun h34 => ?_)
      · refine j_aload_n C dX10_routine_47 rfl 0 rfl ?_
        refine j_getV C hwX10 0 0 0 (CR.n1 hC (by decide)) rfl rfl (by decide) rfl 0 (CR.v hC 0 0 0 ⟨rfl, by decide⟩ id) hL14 dX10_routine_48 ?_
        refine j_iconst C (nI 0) dX10_routine_51 (by decide) ?_
        refine j_iload_n C dX10_routine_52 rfl 1 rfl ?_
        refine c_rx C (r_V C 1 0 [.int (nI 0), .int (nI n)] (c_X7_part l D cy base Λ σ 0 (M 31 2) 40 (M 32) hT0 hE12 0 n (by omega) (by omega)) (cwV 2 hts gX10_routine_X7_part rfl rfl rfl (by decide +kernel) ⟨by decide, by decide⟩) hT0.1 rfl rfl rfl rfl (Nat.le_of_ble_eq_true rfl) dX10_routine_53 ⟨by decide, by decide⟩) (fun Λ1 u1 j1 hp1 => ?_)
        obtain ⟨p1, p2, p3, p4, p5, p6, p7, p8⟩ := hp1
        dsimp only at p1 p2 p3 p4 p5 p6 p7 p8
        subst p1
        have hI1 := LnI.part hE12 hN.1.2.1 p2 p3 p4 p5 p6 p8 p7
        rw [Nat.sub_zero] at p7
        have hTb := TX.ext (g := M 32) p7 (fun k hk => by rw [Nat.zero_add])
        have hN1 := hN.part hI1 p3
        have hC1 := hN1.1
        have hb00 := CR.n1 hC (t := 0) (by decide)
        have hb_4 : 0 < gC Λ1 0 := Nat.lt_of_lt_of_le hb00 (p2.1 0)
        have he_5 : gA Λ1 0 0 = gA Λ 0 0 := (p2.2.1 0 0 (by first | assumption | omega)).1
        refine j_eq (lv' := [(0, .ref (gA Λ1 0 0)), (1, .int (nI n))]) (st' := [.ref (gA Λ1 1 (gC Λ 1))]) (by simp only [he_5]) (by simp only [he_5]) ?_
        refine j_astore_n C [(2, .ref (gA Λ1 1 (gC Λ 1))), (0, .ref (gA Λ1 0 0)), (1, .int (nI n))] dX10_routine_56 rfl (by decide) rfl ?_
        refine j_aload_n C dX10_routine_57 rfl 1 rfl ?_
        refine j_getV C hwX10 0 0 0 (CR.n1 hC1 (by decide)) rfl rfl (by decide) rfl 0 (CR.v hC1 0 0 0 ⟨rfl, by decide⟩ id) hL14 dX10_routine_58 ?_
        refine c_v0 C (r_V C 1 0 [] (c_clear l D cy base Λ1 u1 0 (CR.tx0 hC1 hB).1) (cwV 0 hts gX10_routine_X7_clear rfl rfl rfl (by decide +kernel) ⟨by decide, by decide⟩) (CR.tx0 hC1 hB).1 rfl rfl rfl rfl (Nat.le_of_ble_eq_true rfl) dX10_routine_61 ⟨by decide, by decide⟩) (fun u2 hq2 => ?_)
        have hN2 : INV Λ1 u2 (mS M 31 2 0) := by rw [hq2]; exact hN1.clr hB
        have hTc : TX Λ1 u2 (gC Λ 1) n n (M 32) := by rw [hq2]; exact (TX.clr (CR.tx0 hC1 hB)).2.tx (by omega) hTb
        have hO2 : OUT Λ σ (Λ1, u2) := by rw [hq2]; exact OUT.clr p2 p6 p8
        have hC2 := hN2.1
        have hB2 : MBd (mS M 31 2 0) := clr_B hB
        refine j_aload_n C dX10_routine_64 rfl 0 rfl ?_
        refine c_i0 C (r_V C 1 (gC Λ 1) [] (c_X7_isName l D cy base Λ1 u2 (gC Λ 1) n n (M 32) hTc) (cwV 0 hts gX10_routine_X7_isName rfl rfl rfl (by decide +kernel) ⟨by decide, by decide⟩) hTc.1 rfl rfl rfl rfl (Nat.le_of_ble_eq_true rfl) dX10_routine_65 ⟨by decide, by decide⟩) (fun rv uu hp => ?_)
        rw [hp.1, hp.2]
        refine j_ifne_b (tgt := 73) C dX10_routine_68 (by decide) (fun h68 => ?_) (fun h68 => ?_)
        · refine j_aload_n C dX10_routine_73 rfl 1 rfl ?_
          refine j_getV C hwX10 0 0 2 (CR.n1 hC2 (by decide)) rfl rfl (by decide) rfl 0 (CR.v hC2 0 0 2 ⟨rfl, by decide⟩ id) hL24 dX10_routine_74 ?_
          refine j_aload_n C dX10_routine_77 rfl 0 rfl ?_
          refine c_i0 C (r_V C 3 0 [.ref (gA Λ1 1 (gC Λ 1))] (c_hasName_y l D cy base Λ1 u2 (mS M 31 2 0) hC2 hB2 hN2.2.1 (gC Λ 1) n n (M 32) hTc (by obtain ⟨r, a, b⟩ := hD; exact ⟨r, a, hasN_weq.mp b⟩)) (cwV 1 hts gX10_routine_X4_hasName rfl rfl rfl (by decide +kernel) ⟨by decide, by decide⟩) (CR.n1 hC2 (by decide)) rfl rfl rfl rfl (Nat.le_of_ble_eq_true rfl) dX10_routine_78 ⟨by decide, by decide⟩) (fun rv uu hp => ?_)
          rw [hp.1, hp.2]
          refine j_ifeq_b (tgt := 87) C dX10_routine_81 (by decide) (fun h81 => ?_) (fun h81 => ?_)
          · exact absurd h81 (by decide)
          · refine j_bipush C ((-2)) dX10_routine_84 (by decide) ?_
            exact j_iretx C hr hlk (⟨rfl, hN2, hO2⟩) dX10_routine_86
        · exact absurd (h68.symm.trans hNB) (by decide)
      · omega
    · first | omega | exact h1.elim
