set_option maxHeartbeats 4000000 in
set_option maxRecDepth 100000 in
theorem c_Jx4a65c_rangeCheckForAdd_d00df (l : Launch) (D : va_G) (cy : Nat → ClassId) (base : Nat) (Λ : LY) (σ : HS) (n ar cp : Nat) (wf : Nat → Nat) (hA : AL Λ σ n ar cp wf) (k : Nat) (hk : k ≤ n) : Met l yJx4a65c_rangeCheckForAdd_d00df wsJx4a65c_rangeCheckForAdd_d00df ({ frames := 4, cells := 0, slots := 0, locals := 60 }) (va_Pc [.ref (gA Λ 15 0), .int (nI k)] (Wd D cy base Λ σ)) (va_Qv (fun u => u = σ) (Wd D cy base Λ) (Ab base)) 0 0 (Ab base) := by
  refine j_start (cc := cJx4a65c_rangeCheckForAdd_d00df) (nL := 2) (ret := none) (lv := [(0, .ref (gA Λ 15 0)), (1, .int (nI k))]) (by decide) rfl (Nat.le_of_ble_eq_true rfl) rfl ?_
  intro p e s m below meth c C hr hlk hnm
  have C : Cx p s m ([.ref (gA Λ 15 0), .int (nI k)] : List Value).toArray c cJx4a65c_rangeCheckForAdd_d00df 2 RJx4a65c wsJx4a65c_rangeCheckForAdd_d00df D cy base := C
  have hts := C.2.2.2.2.1
  have hwJx4a65c : ∀ w ∈ u_ws RJx4a65c TJx4a65c 3, w ∈ wsJx4a65c_rangeCheckForAdd_d00df := by decide +kernel
  have hM48 : (Cond.fieldLink RJx4a65c 48 (TJx4a65c 2).1 (TJx4a65c 2).2.1 (TJx4a65c 2).2.2.1).before ([.ref (gA Λ 15 0), .int (nI k)] : List Value).toArray s = true := hts (.fieldLink RJx4a65c 48 "java/util/ArrayList" "size" "I") (by decide +kernel)
  have hL48 : FL RJx4a65c 48 (TJx4a65c 2).1 (TJx4a65c 2).2.1 (TJx4a65c 2).2.2.1 ([.ref (gA Λ 15 0), .int (nI k)] : List Value).toArray s := Or.inl hM48
  have hnc := hA.2.2.1
  have hcb := hA.2.2.2.1
  refine j_iload_n C dJx4a65c_rangeCheckForAdd_d00df_0 rfl 1 rfl ?_
  refine j_aload_n C dJx4a65c_rangeCheckForAdd_d00df_1 rfl 0 rfl ?_
  refine j_getI C hwJx4a65c 15 0 2 hA.1 rfl rfl (by decide) rfl (nI n) hA.2.1 hL48 dJx4a65c_rangeCheckForAdd_d00df_2 ?_
  refine j_icmp_gt (tgt := 12) C dJx4a65c_rangeCheckForAdd_d00df_5 (by decide) (nI_ltI (by omega) (by omega)) (fun h5 => ?_) (fun h5 => ?_)
  · first | omega | exact absurd trivial h9
  · refine j_iload_n C dJx4a65c_rangeCheckForAdd_d00df_8 rfl 1 rfl ?_
    refine j_if_ge (tgt := 25) C dJx4a65c_rangeCheckForAdd_d00df_9 (by decide) (nJ_ge0 (by omega)) (fun h9 => ?_) (fun h9 => ?_)
    · exact j_vret C hr hlk (rfl) dJx4a65c_rangeCheckForAdd_d00df_25
    · first | omega | exact absurd trivial h9

set_option maxHeartbeats 4000000 in
set_option maxRecDepth 100000 in
theorem c_J8_newLength_cabcc (l : Launch) (D : va_G) (cy : Nat → ClassId) (base : Nat) (Λ : LY) (σ : HS) (a b d : Nat) (h1 : 1 ≤ a + max b d) (h2 : a + max b d ≤ 1000000) : Met l yJ8_newLength_cabcc wsJ8_newLength_cabcc ({ frames := 4, cells := 0, slots := 0, locals := 60 }) (va_Pc [.int (nI a), .int (nI b), .int (nI d)] (Wd D cy base Λ σ)) (va_Qi (fun v u => v = nI (a + max b d) ∧ u = σ) (Wd D cy base Λ) (Ab base)) 0 0 (Ab base) := by
  refine j_start (cc := cJ8_newLength_cabcc) (nL := 4) (ret := (some .int)) (lv := [(0, .int (nI a)), (1, .int (nI b)), (2, .int (nI d))]) (by decide) rfl (Nat.le_of_ble_eq_true rfl) rfl ?_
  intro p e s m below meth c C hr hlk hnm
  have C : Cx p s m ([.int (nI a), .int (nI b), .int (nI d)] : List Value).toArray c cJ8_newLength_cabcc 4 RJ8 wsJ8_newLength_cabcc D cy base := C
  have hts := C.2.2.2.2.1
  have hC200 : (Jvm.Cond.constant RJ8 200 2147483639).before ([.int (nI a), .int (nI b), .int (nI d)] : List Value).toArray s = true := hts _ (by decide +kernel)
  have hb9 := Nat.le_max_left b d
  have hd9 := Nat.le_max_right b d
  refine j_iload_n C dJ8_newLength_cabcc_0 rfl 0 rfl ?_
  refine j_iload_n C dJ8_newLength_cabcc_1 rfl 1 rfl ?_
  refine j_iload_n C dJ8_newLength_cabcc_2 rfl 2 rfl ?_
  refine j_mmax C (nI (max b d)) (by decide +kernel) rfl rfl rfl rfl dJ8_newLength_cabcc_3 (nI_max (by omega) (by omega)) ?_
  refine j_iadd C (nI (a + (max b d))) dJ8_newLength_cabcc_6 (nI_add _ _) ?_
  refine j_istore_n C [(3, .int (nI (a + (max b d)))), (0, .int (nI a)), (1, .int (nI b)), (2, .int (nI d))] dJ8_newLength_cabcc_7 rfl (by decide) rfl ?_
  refine j_iconst C (nI 0) dJ8_newLength_cabcc_8 (by decide) ?_
  refine j_iload_n C dJ8_newLength_cabcc_9 rfl 0 rfl ?_
  refine j_icmp_ge (tgt := 21) C dJ8_newLength_cabcc_10 (by decide) (nI_leI (by omega) (by omega)) (fun h10 => ?_) (fun h10 => ?_)
  · first | omega | (exfalso; omega)
  · refine j_iload_n C dJ8_newLength_cabcc_13 rfl 0 rfl ?_
    refine j_ldc C (nI 2147483639) hC200 dJ8_newLength_cabcc_14 (by decide) ?_
    refine j_icmp_gt (tgt := 21) C dJ8_newLength_cabcc_16 (by decide) (nI_ltI (by omega) (by omega)) (fun h16 => ?_) (fun h16 => ?_)
    · first | omega | (exfalso; omega)
    · refine j_iload_n C dJ8_newLength_cabcc_19 rfl 0 rfl ?_
      exact j_iret C hr hlk (⟨rfl, rfl⟩) dJ8_newLength_cabcc_20

theorem if_pos2 {a b : Nat} (h : a ≤ b) (hb : b < 2 ^ 31) : (if nI b < nI a then nI b else nI a) = nI a := if_neg (fun z => absurd ((nI_ltI hb (by omega)).mp z) (by omega))
set_option maxHeartbeats 1000000 in
set_option maxRecDepth 100000 in
theorem c_J7_copyOf_6403c (l : Launch) (D : va_G) (cy : Nat → ClassId) (base : Nat) (Λ : LY) (σ : HS) (ar cp n2 mi : Nat) (hi : ar < gC Λ 16) (hc : gN Λ 16 ar = cp) (h1 : cp ≤ n2) (h2 : n2 ≤ 1000) : Met l yJ7_copyOf_6403c wsJ7_copyOf_6403c ({ frames := 8, cells := 1, slots := 1000, locals := 120 }) (va_Pc [.ref (gA Λ 16 ar), .int (nI n2), .ref mi] (Wm D cy base Λ σ mi)) (va_Qr (fun x => x.2.2 = gC Λ 16 ∧ (∃ q, x.1 = nY Λ 16 q n2) ∧ x.2.1 = sW (nS Λ σ 16) 16 (gC Λ 16) (va_cpy (gV (nS Λ σ 16) 16 ar) (gV (nS Λ σ 16) 16 (gC Λ 16)) 0 0 cp)) (Wy D cy base 16) (Ab base)) 1 1000 (Ab base) := by
  refine j_startM (cc := cJ7_copyOf_6403c) (nL := 4) (ret := (some (.array (.object "java/lang/Object")))) (lv := [(0, .ref (gA Λ 16 ar)), (1, .int (nI n2)), (2, .ref mi)]) (by decide) rfl (Nat.le_of_ble_eq_true rfl) rfl ?_
  intro p e s m below meth c C hr hlk hnm hMi
  have C : Cx p s m ([.ref (gA Λ 16 ar), .int (nI n2), .ref mi] : List Value).toArray c cJ7_copyOf_6403c 4 RJ7 wsJ7_copyOf_6403c D cy base := C
  have hts := C.2.2.2.2.1
  refine j_aload_n C dJ7_copyOf_6403c_0 rfl 2 rfl ?_
  refine j_ldcM C (hts (.classLink RJ7 110 "[Ljava/lang/Object;") (by decide +kernel)) hMi dJ7_copyOf_6403c_1 ?_
  refine j_acmpn (tgt := 13) C dJ7_copyOf_6403c_3 (by decide) ?_
  refine j_iload_n C dJ7_copyOf_6403c_6 rfl 1 rfl ?_
  refine j_newV C 16 n2 (hts (.classLink RJ7 2 "java/lang/Object") (by decide +kernel)) (Ex.ao C.2.2.2.2.2.2 ao_O) rfl (by decide) (by decide) rfl (by omega) (by decide) (by show 0 + n2 ≤ 1000; omega) dJ7_copyOf_6403c_7 (fun Λ1 q1 hy => ?_)
  have hG : Gw Λ Λ1 := by rw [hy]; exact Gw.nY (by decide)
  have hi1 : ar < gC Λ1 16 := Nat.lt_of_lt_of_le hi (hG.1 16)
  have ha1 : gA Λ1 16 ar = gA Λ 16 ar := (hG.2.1 16 ar hi).1
  have hc1 : gN Λ1 16 ar = cp := (hG.2.1 16 ar hi).2.trans hc
  have hj1 : gC Λ 16 < gC Λ1 16 := by rw [hy, gC_nL, if_pos rfl]; omega
  have hn1 : gN Λ1 16 (gC Λ 16) = n2 := by rw [hy, gN_nL, if_pos ⟨rfl, rfl⟩]
  refine j_goto (tgt := 24) C dJ7_copyOf_6403c_10 (by decide) ?_
  refine j_eq (lv' := [(0, .ref (gA Λ1 16 ar)), (1, .int (nI n2)), (2, .ref mi)]) (st' := [.ref (gA Λ1 16 (gC Λ 16))]) (by simp only [ha1]) rfl ?_
  refine j_astore_n C [(3, .ref (gA Λ1 16 (gC Λ 16))), (0, .ref (gA Λ1 16 ar)), (1, .int (nI n2)), (2, .ref mi)] dJ7_copyOf_6403c_24 rfl (by decide) rfl ?_
  refine j_aload_n C dJ7_copyOf_6403c_25 rfl 1 rfl ?_
  refine j_iconst C (nI 0) dJ7_copyOf_6403c_26 (by decide) ?_
  refine j_aload_n C dJ7_copyOf_6403c_27 rfl 0 rfl ?_
  refine j_iconst C (nI 0) dJ7_copyOf_6403c_28 (by decide) ?_
  refine j_aload_n C dJ7_copyOf_6403c_29 rfl 1 rfl ?_
  refine j_alen C 16 ar hi1 rfl (by decide) (nI cp) (by rw [hc1]) dJ7_copyOf_6403c_30 ?_
  refine j_iload_n C dJ7_copyOf_6403c_31 rfl 2 rfl ?_
  refine j_mmin C (nI cp) (by decide +kernel) rfl rfl (Nat.ble_eq_true_of_le (by decide)) (Nat.ble_eq_true_of_le (by show 0 + n2 ≤ 1000; omega)) dJ7_copyOf_6403c_32 (if_pos2 h1 (by omega)) ?_
  refine j_cpv C ar (gC Λ 16) 0 0 cp cp n2 hi1 hj1 hc1 hn1 (by omega) (by omega) (by omega) (by omega) (by decide +kernel) rfl rfl dJ7_copyOf_6403c_35 ?_
  refine j_aload_n C dJ7_copyOf_6403c_38 rfl 0 rfl ?_
  refine j_wide (k := 1) (n := 1000) (by omega) (by omega) ?_
  exact j_aretx C (Or.inr ⟨_, rfl⟩) hr hlk ⟨rfl, ⟨q1, hy⟩, rfl⟩ dJ7_copyOf_6403c_39
set_option maxHeartbeats 1000000 in
set_option maxRecDepth 100000 in
theorem c_J7_copyOf_1904c (l : Launch) (D : va_G) (cy : Nat → ClassId) (base : Nat) (Λ : LY) (σ : HS) (ar cp n2 : Nat) (hi : ar < gC Λ 16) (hc : gN Λ 16 ar = cp) (h1 : cp ≤ n2) (h2 : n2 ≤ 1000) : Met l yJ7_copyOf_1904c wsJ7_copyOf_1904c ({ frames := 12, cells := 1, slots := 1000, locals := 180 }) (va_Pc [.ref (gA Λ 16 ar), .int (nI n2)] (Wd D cy base Λ σ)) (va_Qr (fun x => x.2.2 = gC Λ 16 ∧ (∃ q, x.1 = nY Λ 16 q n2) ∧ x.2.1 = sW (nS Λ σ 16) 16 (gC Λ 16) (va_cpy (gV (nS Λ σ 16) 16 ar) (gV (nS Λ σ 16) 16 (gC Λ 16)) 0 0 cp)) (Wy D cy base 16) (Ab base)) 1 1000 (Ab base) := by
  refine j_start (cc := cJ7_copyOf_1904c) (nL := 2) (ret := (some (.array (.object "java/lang/Object")))) (lv := [(0, .ref (gA Λ 16 ar)), (1, .int (nI n2))]) (by decide) rfl (Nat.le_of_ble_eq_true rfl) rfl ?_
  intro p e s m below meth c C hr hlk hnm
  have C : Cx p s m ([.ref (gA Λ 16 ar), .int (nI n2)] : List Value).toArray c cJ7_copyOf_1904c 2 RJ7 wsJ7_copyOf_1904c D cy base := C
  have hts := C.2.2.2.2.1
  obtain ⟨mi, hMi⟩ := Ex.mi C.2.2.2.2.2.2
  refine j_aload_n C dJ7_copyOf_1904c_0 rfl 0 rfl ?_
  refine j_iload_n C dJ7_copyOf_1904c_1 rfl 1 rfl ?_
  refine j_aload_n C dJ7_copyOf_1904c_2 rfl 0 rfl ?_
  refine j_getC C (hts (.methodLink RJ7 86 ⟨"java/lang/Object", "getClass", "()Ljava/lang/Class;"⟩) (by decide +kernel)) (hts (.selects "[Ljava/lang/Object;" ⟨"java/lang/Object", "getClass", "()Ljava/lang/Class;"⟩ ⟨"java/lang/Object", "getClass", "()Ljava/lang/Class;"⟩) (by decide +kernel)) (hts (.instanceMethod ⟨"java/lang/Object", "getClass", "()Ljava/lang/Class;"⟩) (by decide +kernel)) (hts (.native ⟨"java/lang/Object", "getClass", "()Ljava/lang/Class;"⟩) (by decide +kernel)) hMi hi (by decide) (Nat.le_of_ble_eq_true rfl) dJ7_copyOf_1904c_3 ?_
  refine c_rx C (r_Sm C hMi [.ref (gA Λ 16 ar), .int (nI n2), .ref mi] (c_J7_copyOf_6403c l D cy base Λ σ ar cp n2 mi hi hc h1 h2) (va_cwS 3 hts gJ7_copyOf_1904c_J7_copyOf_6403c rfl rfl rfl (by decide +kernel) ⟨by decide, by decide⟩) rfl rfl (Nat.le_of_ble_eq_true rfl) dJ7_copyOf_1904c_6 ⟨by decide, by decide⟩) (fun Λ1 u1 j1 hp => ?_)
  refine j_wide (k := 1) (n := 1000) (by omega) (by omega) ?_
  exact j_aretx C (Or.inr ⟨_, rfl⟩) hr hlk hp dJ7_copyOf_1904c_9