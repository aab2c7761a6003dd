/-- the list has room for one more -/
def GrP (Λ : LY) (σ : HS) (n cp : Nat) (wf : Nat → Nat) (x : LY × HS × Nat) : Prop := ∃ cp2, AL x.1 x.2.1 n x.2.2 cp2 wf ∧ n < cp2 ∧ cp2 ≤ max 10 (n + n / 2) ∧ Gw Λ x.1 ∧ (∀ t, t ≠ 16 → gC x.1 t = gC Λ t) ∧ Same (fun t => t ≠ 15 ∧ t ≠ 16) σ x.2.1
theorem AL.w0 {Λ : LY} {σ : HS} {n ar cp : Nat} {w : Nat → Nat} {x : Int32} (h : AL Λ σ n ar cp w) : AL Λ (sI σ 15 0 0 x) n ar cp w := h
theorem GrP.first {Λ Λ2 : LY} {σ : HS} {n ar cp q : Nat} {wf : Nat → Nat} (hA : AL Λ σ n ar cp wf) (h0 : cp = 0) (e : Λ2 = nY Λ 16 q 10) : GrP Λ σ n cp wf (Λ2, sI (sV (nS Λ σ 16) 15 0 1 (some (gC Λ 16))) 15 0 1 0, gC Λ 16) := by
  obtain ⟨h1, h2, h3, h4, h5, h6⟩ := hA
  have hn : n = 0 := by omega
  subst hn
  subst e
  refine ⟨10, ⟨?_, ?_, by decide, by decide, Or.inr ⟨⟨?_, ?_⟩, ?_, ?_, by decide⟩, fun k hk => absurd hk (Nat.not_lt_zero k)⟩, by decide, by decide, Gw.nY (by decide), fun t ht => gC_ne ht, ?_⟩
  · show 0 < gC (nY Λ 16 q 10) 15
    rw [gC_ne (by decide)]; exact h1
  · show gI (sI (sV (nS Λ σ 16) 15 0 1 (some (gC Λ 16))) 15 0 1 0) 15 0 2 = _
    rw [gI_sI, if_neg (by decide), gI_sV, gI_nS, if_neg (by omega)]; exact h2
  · show gI (sI (sV (nS Λ σ 16) 15 0 1 (some (gC Λ 16))) 15 0 1 0) 15 0 1 ≠ 1
    rw [gI_same]; decide
  · show gV (sI (sV (nS Λ σ 16) 15 0 1 (some (gC Λ 16))) 15 0 1 0) 15 0 1 = _
    rw [gV_sI, gV_same]
  · show gC Λ 16 < gC (nY Λ 16 q 10) 16
    rw [gC_nL, if_pos rfl]; omega
  · show gN (nY Λ 16 q 10) 16 (gC Λ 16) = 10
    rw [gN_nL, if_pos ⟨rfl, rfl⟩]
  · exact Same.sI (Same.sV (Same.nS Same.rf (by omega)) (by omega)) (by omega)
theorem GrP.more {Λ Λ2 : LY} {σ : HS} {n ar cp n2 q : Nat} {wf : Nat → Nat} (hA : AL Λ σ n ar cp wf) (h0 : 0 < cp) (hnc : n = cp) (hn2 : n2 = cp + max 1 (cp / 2)) (hb : n2 ≤ 1000) (e : Λ2 = nY Λ 16 q n2) : GrP Λ σ n cp wf (Λ2, sI (sV (sW (nS Λ σ 16) 16 (gC Λ 16) (va_cpy (gV (nS Λ σ 16) 16 ar) (gV (nS Λ σ 16) 16 (gC Λ 16)) 0 0 cp)) 15 0 1 (some (gC Λ 16))) 15 0 1 0, gC Λ 16) := by
  obtain ⟨a1, a2, a3, a4⟩ := hA.arr h0
  obtain ⟨h1, h2, h3, h4, h5, h6⟩ := hA
  subst e
  have hm : max 1 (cp / 2) = cp / 2 := Nat.max_eq_right (by omega)
  refine ⟨n2, ⟨?_, ?_, by show n ≤ n2; omega, by show n2 < _; omega, Or.inr ⟨⟨?_, ?_⟩, ?_, ?_, by omega⟩, fun k hk => ?_⟩, by omega, ?_, Gw.nY (by decide), fun t ht => gC_ne ht, ?_⟩
  · show 0 < gC (nY Λ 16 q n2) 15
    rw [gC_ne (by decide)]; exact h1
  · show gI (sI (sV (sW (nS Λ σ 16) 16 (gC Λ 16) _) 15 0 1 (some (gC Λ 16))) 15 0 1 0) 15 0 2 = _
    rw [gI_sI, if_neg (by decide), gI_sV, gI_sW, gI_nS, if_neg (by omega)]; exact h2
  · show gI (sI (sV (sW (nS Λ σ 16) 16 (gC Λ 16) _) 15 0 1 (some (gC Λ 16))) 15 0 1 0) 15 0 1 ≠ 1
    rw [gI_same]; decide
  · show gV (sI (sV (sW (nS Λ σ 16) 16 (gC Λ 16) _) 15 0 1 (some (gC Λ 16))) 15 0 1 0) 15 0 1 = _
    rw [gV_sI, gV_same]
  · show gC Λ 16 < gC (nY Λ 16 q n2) 16
    rw [gC_nL, if_pos rfl]; omega
  · show gN (nY Λ 16 q n2) 16 (gC Λ 16) = n2
    rw [gN_nL, if_pos ⟨rfl, rfl⟩]
  · show gV (sI (sV (sW (nS Λ σ 16) 16 (gC Λ 16) _) 15 0 1 (some (gC Λ 16))) 15 0 1 0) 16 (gC Λ 16) k = _
    rw [gV_sI, gV_ne (Or.inl (by decide)), gV_sW]
    unfold va_cpy
    rw [if_pos ⟨Nat.zero_le _, by omega⟩, gV_nS, if_neg (by omega), Nat.zero_add, Nat.sub_zero]
    exact h6 k hk
  · rw [hn2, hm]
    have := Nat.le_max_right 10 (n + n / 2)
    omega
  · have hw : Same (fun t => t ≠ 15 ∧ t ≠ 16) σ (sW (nS Λ σ 16) 16 (gC Λ 16) (va_cpy (gV (nS Λ σ 16) 16 ar) (gV (nS Λ σ 16) 16 (gC Λ 16)) 0 0 cp)) := fun t ht => by
      have h9 := (Same.nS (Λ := Λ) (t := 16) (P := fun t => t ≠ 15 ∧ t ≠ 16) (Same.rf (σ := σ)) (by omega)) t ht
      exact ⟨h9.1, h9.2.1, by rw [← h9.2.2]; funext i; exact gV_sWn (Or.inl ht.2)⟩
    exact Same.sI (Same.sV hw (by omega)) (by omega)
set_option maxHeartbeats 4000000 in
set_option maxRecDepth 100000 in
theorem c_grow_more (l : Launch) (D : va_G) (cy : Nat → ClassId) (base : Nat) (Λ : LY) (σ : HS) (n ar cp : Nat) (wf : Nat → Nat) (hA : AL Λ σ n ar cp wf) (hn450 : n ≤ 450) (h0 : 0 < cp) (hne : n = cp) : Met l yJx4a65c_grow_92f84 wsJx4a65c_grow_92f84 ({ frames := 16, cells := 1, slots := 1000, locals := 240 }) (va_Pc [.ref (gA Λ 15 0), .int (nI (n + 1))] (Wd D cy base Λ σ)) (va_Qr (fun x => GrP Λ σ n cp wf x) (Wy D cy base 16) (Ab base)) 1 1000 (Ab base) := by
  refine j_start (cc := cJx4a65c_grow_92f84) (nL := 4) (ret := (some (.array (.object "java/lang/Object")))) (lv := [(0, .ref (gA Λ 15 0)), (1, .int (nI (n + 1)))]) (by decide) rfl (Nat.le_of_ble_eq_true rfl) rfl ?_
  intro p e s m below meth c C hr hlk hnm
  have C : Cx p s m ([.ref (gA Λ 15 0), .int (nI (n + 1))] : List Value).toArray c cJx4a65c_grow_92f84 4 RJx4a65c wsJx4a65c_grow_92f84 D cy base := C
  have hts := C.2.2.2.2.1
  have hwJx4a65c : ∀ w ∈ u_ws RJx4a65c TJx4a65c 3, w ∈ wsJx4a65c_grow_92f84 := by decide +kernel
  have hM9 : (Cond.fieldLink RJx4a65c 9 (TJx4a65c 1).1 (TJx4a65c 1).2.1 (TJx4a65c 1).2.2.1).before ([.ref (gA Λ 15 0), .int (nI (n + 1))] : List Value).toArray s = true := hts (.fieldLink RJx4a65c 9 "java/util/ArrayList" "elementData" "[Ljava/lang/Object;") (by decide +kernel)
  have hL9 : FL RJx4a65c 9 (TJx4a65c 1).1 (TJx4a65c 1).2.1 (TJx4a65c 1).2.2.1 ([.ref (gA Λ 15 0), .int (nI (n + 1))] : List Value).toArray s := Or.inl hM9
  have hnc := hA.2.2.1
  have hcb := hA.2.2.2.1
  have h10 := (hA.arr h0).2.2.2
  have hmy : cp + max 1 (cp / 2) ≤ 1000 := by rw [Nat.max_eq_right (by omega)]; omega
  have hmx : cp + max 1 (cp / 2) ≤ 1000000 := by omega
  refine j_aload_n C dJx4a65c_grow_92f84_0 rfl 0 rfl ?_
  refine j_getX C hwJx4a65c 15 0 1 hA.1 rfl rfl (by decide) rfl ar (hA.arr h0).1 hL9 dJx4a65c_grow_92f84_1 ?_
  refine j_alen C 16 ar (hA.arr h0).2.1 rfl (by decide) (nI cp) (by rw [(hA.arr h0).2.2.1]) dJx4a65c_grow_92f84_4 ?_
  refine j_istore_n C [(2, .int (nI cp)), (0, .ref (gA Λ 15 0)), (1, .int (nI (n + 1)))] dJx4a65c_grow_92f84_5 rfl (by decide) rfl ?_
  refine j_iload_n C dJx4a65c_grow_92f84_6 rfl 0 rfl ?_
  refine j_if_gt (tgt := 20) C dJx4a65c_grow_92f84_7 (by decide) (nJ_gt0 (by omega)) (fun h7 => ?_) (fun h7 => ?_)
  · refine j_iload_n C dJx4a65c_grow_92f84_20 rfl 0 rfl ?_
    refine j_iload_n C dJx4a65c_grow_92f84_21 rfl 2 rfl ?_
    refine j_iload_n C dJx4a65c_grow_92f84_22 rfl 0 rfl ?_
    refine j_isub C (nI 1) dJx4a65c_grow_92f84_23 (by rw [hne]; exact (nI_sub2 (by omega) (by omega)).trans (by congr 1; omega)) ?_
    refine j_iload_n C dJx4a65c_grow_92f84_24 rfl 0 rfl ?_
    refine j_iconst C (nI 1) dJx4a65c_grow_92f84_25 (by decide) ?_
    refine j_ishr C (nI (cp / 2)) dJx4a65c_grow_92f84_26 (by have k := pk_shrN (n := cp) (by omega) ((1 : Int32) &&& 31) 1 (by decide); rw [Nat.pow_one] at k; exact k) ?_
    refine c_i0 C (r_S C [.int (nI cp), .int (nI 1), .int (nI (cp / 2))] (c_J8_newLength_cabcc l D cy base Λ σ cp 1 (cp / 2) (by omega) hmx) (va_cwS 3 hts gJx4a65c_grow_92f84_J8_newLength_cabcc rfl rfl rfl (by decide +kernel) ⟨by decide, by decide⟩) rfl rfl (Nat.le_of_ble_eq_true rfl) dJx4a65c_grow_92f84_27 ⟨by decide, by decide⟩) (fun rv uu hp => ?_)
    rw [hp.1, hp.2]
    refine j_istore_n C [(3, .int (nI (cp + max 1 (cp / 2)))), (2, .int (nI cp)), (0, .ref (gA Λ 15 0)), (1, .int (nI (n + 1)))] dJx4a65c_grow_92f84_30 rfl (by decide) rfl ?_
    refine j_aload_n C dJx4a65c_grow_92f84_31 rfl 2 rfl ?_
    refine j_aload_n C dJx4a65c_grow_92f84_32 rfl 2 rfl ?_
    refine j_getX C hwJx4a65c 15 0 1 hA.1 rfl rfl (by decide) rfl ar (hA.arr h0).1 hL9 dJx4a65c_grow_92f84_33 ?_
    refine j_iload_n C dJx4a65c_grow_92f84_36 rfl 0 rfl ?_
    refine c_rx C (r_S C [.ref (gA Λ 16 ar), .int (nI (cp + max 1 (cp / 2)))] (c_J7_copyOf_1904c l D cy base Λ σ ar cp (cp + max 1 (cp / 2)) (hA.arr h0).2.1 (hA.arr h0).2.2.1 (by omega) hmy) (va_cwS 2 hts gJx4a65c_grow_92f84_J7_copyOf_1904c rfl rfl rfl (by decide +kernel) ⟨by decide, by decide⟩) rfl rfl (Nat.le_of_ble_eq_true rfl) dJx4a65c_grow_92f84_37 ⟨by decide, by decide⟩) (fun Λ1 u1 j1 hp => ?_)
    obtain ⟨e1, ⟨q1, e2⟩, e3⟩ := hp
    dsimp only at e1 e2 e3
    subst e1
    have hGx1 : Gw Λ Λ1 := by rw [e2]; exact Gw.nY (by decide)
    have hi15 := hA.1
    have hb_2 : 0 < gC Λ1 15 := Nat.lt_of_lt_of_le hi15 (hGx1.1 15)
    have he_3 : gA Λ1 15 0 = gA Λ 15 0 := (hGx1.2.1 15 0 (by first | assumption | omega)).1
    refine j_eq (lv' := [(3, .int (nI (cp + max 1 (cp / 2)))), (2, .int (nI cp)), (0, .ref (gA Λ1 15 0)), (1, .int (nI (n + 1)))]) (st' := [.ref (gA Λ1 16 (gC Λ 16)), .ref (gA Λ1 15 0)]) (by simp only [he_3]) (by simp only [he_3]) ?_
    have hj16 : gC Λ 16 < gC Λ1 16 := by rw [e2, gC_nL, if_pos rfl]; omega
    refine j_dupx1 C dJx4a65c_grow_92f84_40 rfl rfl ?_
    refine j_putX C hwJx4a65c 15 0 1 hb_2 rfl rfl (by decide) rfl hj16 tyJx4a65c tyJx4a65c_ok nmJx4a65c rfl rfl rfl hL9 dJx4a65c_grow_92f84_41 ?_
    exact j_aretx C (Or.inr ⟨_, rfl⟩) hr hlk (by rw [e3]; exact GrP.more hA h0 hne rfl hmy e2) dJx4a65c_grow_92f84_44
  · omega

set_option maxHeartbeats 4000000 in
set_option maxRecDepth 100000 in
theorem c_grow_first (l : Launch) (D : va_G) (cy : Nat → ClassId) (base : Nat) (Λ : LY) (σ : HS) (n ar cp : Nat) (wf : Nat → Nat) (hA : AL Λ σ n ar cp wf) (hn450 : n ≤ 450) (h0 : cp = 0) : Met l yJx4a65c_grow_92f84 wsJx4a65c_grow_92f84 ({ frames := 16, cells := 1, slots := 1000, locals := 240 }) (va_Pc [.ref (gA Λ 15 0), .int (nI (n + 1))] (Wg D cy base Λ σ)) (va_Qr (fun x => GrP Λ σ n cp wf x) (Wy D cy base 16) (Ab base)) 1 1000 (Ab base) := by
  refine j_startG (cc := cJx4a65c_grow_92f84) (nL := 4) (ret := (some (.array (.object "java/lang/Object")))) (lv := [(0, .ref (gA Λ 15 0)), (1, .int (nI (n + 1)))]) (by decide) rfl (Nat.le_of_ble_eq_true rfl) rfl ?_
  intro p e s m below meth c C hr hlk hnm hZ
  have C : Cx p s m ([.ref (gA Λ 15 0), .int (nI (n + 1))] : List Value).toArray c cJx4a65c_grow_92f84 4 RJx4a65c wsJx4a65c_grow_92f84 D cy base := C
  have hts := C.2.2.2.2.1
  have hwJx4a65c : ∀ w ∈ u_ws RJx4a65c TJx4a65c 3, w ∈ wsJx4a65c_grow_92f84 := by decide +kernel
  have hM9 : (Cond.fieldLink RJx4a65c 9 (TJx4a65c 1).1 (TJx4a65c 1).2.1 (TJx4a65c 1).2.2.1).before ([.ref (gA Λ 15 0), .int (nI (n + 1))] : List Value).toArray s = true := hts (.fieldLink RJx4a65c 9 "java/util/ArrayList" "elementData" "[Ljava/lang/Object;") (by decide +kernel)
  have hL9 : FL RJx4a65c 9 (TJx4a65c 1).1 (TJx4a65c 1).2.1 (TJx4a65c 1).2.2.1 ([.ref (gA Λ 15 0), .int (nI (n + 1))] : List Value).toArray s := Or.inl hM9
  have hnc := hA.2.2.1
  have hcb := hA.2.2.2.1
  have hi15 := hA.1
  refine j_aload_n C dJx4a65c_grow_92f84_0 rfl 0 rfl ?_
  refine j_getXn C hwJx4a65c 15 0 1 hA.1 rfl rfl (by decide) rfl (hA.emp h0) hL9 dJx4a65c_grow_92f84_1 ?_
  refine j_alen0 C hZ dJx4a65c_grow_92f84_4 ?_
  refine j_istore_n C [(2, .int (nI 0)), (0, .ref (gA Λ 15 0)), (1, .int (nI (n + 1)))] dJx4a65c_grow_92f84_5 rfl (by decide) rfl ?_
  refine j_iload_n C dJx4a65c_grow_92f84_6 rfl 0 rfl ?_
  refine j_if_gt (tgt := 20) C (P := False) dJx4a65c_grow_92f84_7 (by decide) (by decide) (fun z => ?_) (fun z => ?_)
  · exact z.elim
  · refine j_aload_n C dJx4a65c_grow_92f84_10 rfl 1 rfl ?_
    refine j_getXn C hwJx4a65c 15 0 1 hA.1 rfl rfl (by decide) rfl (hA.emp h0) hL9 dJx4a65c_grow_92f84_11 ?_
    refine j_gets C hZ.1 (hts (.fieldLink RJx4a65c 39 "java/util/ArrayList" "DEFAULTCAPACITY_EMPTY_ELEMENTDATA" "[Ljava/lang/Object;") (by decide +kernel)) dJx4a65c_grow_92f84_14 ?_
    refine j_acmp0 (tgt := 45) C dJx4a65c_grow_92f84_17 (by decide) ?_
    refine j_aload_n C dJx4a65c_grow_92f84_45 rfl 1 rfl ?_
    refine j_bipush C (nI 10) dJx4a65c_grow_92f84_46 (by decide) ?_
    refine j_iload_n C dJx4a65c_grow_92f84_48 rfl 2 rfl ?_
    refine j_mmax C (nI 10) (by decide +kernel) rfl rfl rfl rfl dJx4a65c_grow_92f84_49 (by rw [show n = 0 by omega]; decide) ?_
    refine j_newV C 16 10 (hts (.classLink RJx4a65c 7 "java/lang/Object") (by decide +kernel)) (Ex.ao C.2.2.2.2.2.2 ao_O) rfl (by decide) (by decide) rfl (by decide) (by decide) (by decide) dJx4a65c_grow_92f84_52 (fun Λ_2 qΛ_2 hyΛ_2 => ?_)
    have hGΛ_2 : Gw Λ Λ_2 := by rw [hyΛ_2]; exact Gw.nY (by decide)
    have hb_3 : 0 < gC Λ_2 15 := Nat.lt_of_lt_of_le hi15 (hGΛ_2.1 15)
    have he_4 : gA Λ_2 15 0 = gA Λ 15 0 := (hGΛ_2.2.1 15 0 (by first | assumption | omega)).1
    refine j_eq (lv' := [(2, .int (nI 0)), (0, .ref (gA Λ_2 15 0)), (1, .int (nI (n + 1)))]) (st' := [.ref (gA Λ_2 16 (gC Λ 16)), .ref (gA Λ_2 15 0)]) (by simp only [he_4]) (by simp only [he_4]) ?_
    have hb_5 : gC Λ 16 < gC Λ_2 16 := by rw [hyΛ_2, gC_nL, if_pos rfl]; omega
    have hn_6 : gN Λ_2 16 (gC Λ 16) = 10 := by rw [hyΛ_2, gN_nL, if_pos ⟨rfl, rfl⟩]
    refine j_dupx1 C dJx4a65c_grow_92f84_55 rfl rfl ?_
    refine j_putX C hwJx4a65c 15 0 1 hb_3 rfl rfl (by decide) rfl hb_5 tyJx4a65c tyJx4a65c_ok nmJx4a65c rfl rfl rfl hL9 dJx4a65c_grow_92f84_56 ?_
    refine j_wide (k := 1) (n := 1000) (by omega) (by omega) ?_
    exact j_aretx C (Or.inr ⟨_, rfl⟩) hr hlk (GrP.first hA h0 hyΛ_2) dJx4a65c_grow_92f84_59
