set_option maxHeartbeats 4000000 in
set_option maxRecDepth 100000 in
theorem c_grow0_more (l : Launch) (D : va_G) (cy : Nat → ClassId) (base : Nat) (Λ : LY) (σ : HS) (n ar cp : Nat) (wf : Nat → Nat) (hA : AL Λ σ n ar cp wf) (hn450 : n ≤ 450) (h0 : 0 < cp) (hne : n = cp) : Met l yJx4a65c_grow_d5877 wsJx4a65c_grow_d5877 ({ frames := 20, cells := 1, slots := 1000, locals := 300 }) (va_Pc [.ref (gA Λ 15 0)] (Wd D cy base Λ σ)) (va_Qr (fun x => GrP Λ σ n cp wf x) (Wy D cy base 16) (Ab base)) 1 1000 (Ab base) := by
  refine j_start (cc := cJx4a65c_grow_d5877) (nL := 1) (ret := (some (.array (.object "java/lang/Object")))) (lv := [(0, .ref (gA Λ 15 0))]) (by decide) rfl (Nat.le_of_ble_eq_true rfl) rfl ?_
  intro p e s m below meth c C hr hlk hnm
  have C : Cx p s m ([.ref (gA Λ 15 0)] : List Value).toArray c cJx4a65c_grow_d5877 1 RJx4a65c wsJx4a65c_grow_d5877 D cy base := C
  have hts := C.2.2.2.2.1
  have hwJx4a65c : ∀ w ∈ u_ws RJx4a65c TJx4a65c 3, w ∈ wsJx4a65c_grow_d5877 := by decide +kernel
  have hM48 : (Cond.fieldLink RJx4a65c 48 (TJx4a65c 2).1 (TJx4a65c 2).2.1 (TJx4a65c 2).2.2.1).before ([.ref (gA Λ 15 0)] : List Value).toArray s = true := hts (.fieldLink RJx4a65c 48 "java/util/ArrayList" "size" "I") (by decide +kernel)
  have hL48 : FL RJx4a65c 48 (TJx4a65c 2).1 (TJx4a65c 2).2.1 (TJx4a65c 2).2.2.1 ([.ref (gA Λ 15 0)] : List Value).toArray s := Or.inl hM48
  refine j_aload_n C dJx4a65c_grow_d5877_0 rfl 0 rfl ?_
  refine j_aload_n C dJx4a65c_grow_d5877_1 rfl 0 rfl ?_
  refine j_getI C hwJx4a65c 15 0 2 hA.1 rfl rfl (by decide) rfl (nI n) hA.2.1 hL48 dJx4a65c_grow_d5877_2 ?_
  refine j_iconst C (nI 1) dJx4a65c_grow_d5877_5 (by decide) ?_
  refine j_iadd C (nI (n + 1)) dJx4a65c_grow_d5877_6 (nI_add _ _) ?_
  refine c_rx C (r_V C 15 0 [.int (nI (n + 1))] (c_grow_more l D cy base Λ σ n ar cp wf hA hn450 h0 hne) (cwV 1 hts gJx4a65c_grow_d5877_Jx4a65c_grow_92f84 rfl rfl rfl (by decide +kernel) ⟨by decide, by decide⟩) hA.1 rfl rfl rfl rfl (Nat.le_of_ble_eq_true rfl) dJx4a65c_grow_d5877_7 ⟨by decide, by decide⟩) (fun Λ1 u1 j1 hp => ?_)
  exact j_aretx C (Or.inr ⟨_, rfl⟩) hr hlk (hp) dJx4a65c_grow_d5877_10

set_option maxHeartbeats 4000000 in
set_option maxRecDepth 100000 in
theorem c_grow0_first (l : Launch) (D : va_G) (cy : Nat → ClassId) (base : Nat) (Λ : LY) (σ : HS) (n ar cp : Nat) (wf : Nat → Nat) (hA : AL Λ σ n ar cp wf) (hn450 : n ≤ 450) (h0 : cp = 0) : Met l yJx4a65c_grow_d5877 wsJx4a65c_grow_d5877 ({ frames := 20, cells := 1, slots := 1000, locals := 300 }) (va_Pc [.ref (gA Λ 15 0)] (Wg D cy base Λ σ)) (va_Qr (fun x => GrP Λ σ n cp wf x) (Wy D cy base 16) (Ab base)) 1 1000 (Ab base) := by
  refine j_startG (cc := cJx4a65c_grow_d5877) (nL := 1) (ret := (some (.array (.object "java/lang/Object")))) (lv := [(0, .ref (gA Λ 15 0))]) (by decide) rfl (Nat.le_of_ble_eq_true rfl) rfl ?_
  intro p e s m below meth c C hr hlk hnm hZ
  have C : Cx p s m ([.ref (gA Λ 15 0)] : List Value).toArray c cJx4a65c_grow_d5877 1 RJx4a65c wsJx4a65c_grow_d5877 D cy base := C
  have hts := C.2.2.2.2.1
  have hwJx4a65c : ∀ w ∈ u_ws RJx4a65c TJx4a65c 3, w ∈ wsJx4a65c_grow_d5877 := by decide +kernel
  have hM48 : (Cond.fieldLink RJx4a65c 48 (TJx4a65c 2).1 (TJx4a65c 2).2.1 (TJx4a65c 2).2.2.1).before ([.ref (gA Λ 15 0)] : List Value).toArray s = true := hts (.fieldLink RJx4a65c 48 "java/util/ArrayList" "size" "I") (by decide +kernel)
  have hL48 : FL RJx4a65c 48 (TJx4a65c 2).1 (TJx4a65c 2).2.1 (TJx4a65c 2).2.2.1 ([.ref (gA Λ 15 0)] : List Value).toArray s := Or.inl hM48
  refine j_aload_n C dJx4a65c_grow_d5877_0 rfl 0 rfl ?_
  refine j_aload_n C dJx4a65c_grow_d5877_1 rfl 0 rfl ?_
  refine j_getI C hwJx4a65c 15 0 2 hA.1 rfl rfl (by decide) rfl (nI n) hA.2.1 hL48 dJx4a65c_grow_d5877_2 ?_
  refine j_iconst C (nI 1) dJx4a65c_grow_d5877_5 (by decide) ?_
  refine j_iadd C (nI (n + 1)) dJx4a65c_grow_d5877_6 (nI_add _ _) ?_
  refine c_rx C (r_Vg C hZ 15 0 [.int (nI (n + 1))] (c_grow_first l D cy base Λ σ n ar cp wf hA hn450 h0) (cwV 1 hts gJx4a65c_grow_d5877_Jx4a65c_grow_92f84 rfl rfl rfl (by decide +kernel) ⟨by decide, by decide⟩) hA.1 rfl rfl rfl rfl (Nat.le_of_ble_eq_true rfl) dJx4a65c_grow_d5877_7 ⟨by decide, by decide⟩) (fun Λ1 u1 j1 hp => ?_)
  exact j_aretx C (Or.inr ⟨_, rfl⟩) hr hlk (hp) dJx4a65c_grow_d5877_10

/-- w put in at place k -/
def ins (wf : Nat → Nat) (k w : Nat) : Nat → Nat := fun x => if x < k then wf x else if x = k then w else wf (x - 1)
theorem AL.ins {Λ : LY} {u : HS} {n ar cp k w : Nat} {wf : Nat → Nat} (hA : AL Λ u n ar cp wf) (hn : n < cp) (hk : k ≤ n) : AL Λ (sI (sV (sW u 16 ar (va_cpy (gV u 16 ar) (gV u 16 ar) k (k + 1) (n - k))) 16 ar k (some w)) 15 0 2 (nI (n + 1))) (n + 1) ar cp (ins wf k w) ∧ Same (fun t => t ≠ 15 ∧ t ≠ 16) u (sI (sV (sW u 16 ar (va_cpy (gV u 16 ar) (gV u 16 ar) k (k + 1) (n - k))) 16 ar k (some w)) 15 0 2 (nI (n + 1))) := by
  obtain ⟨a1, a2, a3, a4⟩ := hA.arr (by omega)
  obtain ⟨h1, h2, h3, h4, h5, h6⟩ := hA
  refine ⟨⟨h1, gI_same _ _ _ _ _, by omega, h4, Or.inr ⟨⟨?_, ?_⟩, a2, a3, a4⟩, fun x hx => ?_⟩, ?_⟩
  · rw [gI_sI, if_neg (by decide), gI_sV, gI_sW]; exact a1.1
  · rw [gV_sI, gV_ne (Or.inl (by decide)), gV_sWn (Or.inl (by decide))]; exact a1.2
  · rw [gV_sI, gV_sV]
    unfold Jvm.Pilot.CCodeRoomsLaw_law_r8586_86d1b3.ins
    by_cases e : x = k
    · rw [if_pos ⟨rfl, rfl, e⟩, if_neg (by omega), if_pos e]
    · rw [if_neg (fun z => e z.2.2), gV_sW]
      unfold va_cpy
      by_cases q : x < k
      · rw [if_neg (by omega), if_pos q]; exact h6 x (by omega)
      · rw [if_pos ⟨by omega, by omega⟩, if_neg q, if_neg e, show k + (x - (k + 1)) = x - 1 by omega]
        exact h6 (x - 1) (by omega)
  · have hw : Same (fun t => t ≠ 15 ∧ t ≠ 16) u (sW u 16 ar (va_cpy (gV u 16 ar) (gV u 16 ar) k (k + 1) (n - k))) := fun t ht => ⟨rfl, rfl, funext fun i => gV_sWn (Or.inl ht.2)⟩
    exact Same.sI (Same.sV hw (by omega)) (by omega)
def AdP (Λ : LY) (σ : HS) (n k w : Nat) (wf : Nat → Nat) (x : LY × HS) : Prop := ∃ ar2 cp2, AL x.1 x.2 (n + 1) ar2 cp2 (ins wf k w) ∧ cp2 ≤ max 10 (n + n / 2) ∧ Gw Λ x.1 ∧ (∀ t, t ≠ 16 → gC x.1 t = gC Λ t) ∧ Same (fun t => t ≠ 15 ∧ t ≠ 16) σ x.2
set_option maxHeartbeats 4000000 in
set_option maxRecDepth 100000 in
theorem c_ladd_room (l : Launch) (D : va_G) (cy : Nat → ClassId) (base : Nat) (Λ : LY) (σ : HS) (n ar cp : Nat) (wf : Nat → Nat) (hA : AL Λ σ n ar cp wf) (hn450 : n ≤ 450) (k w : Nat) (hk : k ≤ n) (hw : w < gC Λ 17) (hcpb : cp ≤ max 10 (n + n / 2)) (hlt : n < cp) : Met l yJx4a65c_add_7a177 wsJx4a65c_add_7a177 ({ frames := 24, cells := 1, slots := 1000, locals := 360 }) (va_Pc [.ref (gA Λ 15 0), .int (nI k), .ref (gA Λ 17 w)] (Wd D cy base Λ σ)) (va_Qv (fun x => AdP Λ σ n k w wf x) (Wx D cy base) (Ab base)) 1 1000 (Ab base) := by
  refine j_start (cc := cJx4a65c_add_7a177) (nL := 5) (ret := none) (lv := [(0, .ref (gA Λ 15 0)), (1, .int (nI k)), (2, .ref (gA Λ 17 w))]) (by decide) rfl (Nat.le_of_ble_eq_true rfl) rfl ?_
  intro p e s m below meth c C hr hlk hnm
  have C : Cx p s m ([.ref (gA Λ 15 0), .int (nI k), .ref (gA Λ 17 w)] : List Value).toArray c cJx4a65c_add_7a177 5 RJx4a65c wsJx4a65c_add_7a177 D cy base := C
  have hts := C.2.2.2.2.1
  have hwJx4a65c : ∀ w ∈ u_ws RJx4a65c TJx4a65c 3, w ∈ wsJx4a65c_add_7a177 := by decide +kernel
  have hM9 : (Cond.fieldLink RJx4a65c 9 (TJx4a65c 1).1 (TJx4a65c 1).2.1 (TJx4a65c 1).2.2.1).before ([.ref (gA Λ 15 0), .int (nI k), .ref (gA Λ 17 w)] : List Value).toArray s = true := hts (.fieldLink RJx4a65c 9 "java/util/ArrayList" "elementData" "[Ljava/lang/Object;") (by decide +kernel)
  have hL9 : FL RJx4a65c 9 (TJx4a65c 1).1 (TJx4a65c 1).2.1 (TJx4a65c 1).2.2.1 ([.ref (gA Λ 15 0), .int (nI k), .ref (gA Λ 17 w)] : List Value).toArray s := Or.inl hM9
  have hM48 : (Cond.fieldLink RJx4a65c 48 (TJx4a65c 2).1 (TJx4a65c 2).2.1 (TJx4a65c 2).2.2.1).before ([.ref (gA Λ 15 0), .int (nI k), .ref (gA Λ 17 w)] : List Value).toArray s = true := hts (.fieldLink RJx4a65c 48 "java/util/ArrayList" "size" "I") (by decide +kernel)
  have hL48 : FL RJx4a65c 48 (TJx4a65c 2).1 (TJx4a65c 2).2.1 (TJx4a65c 2).2.2.1 ([.ref (gA Λ 15 0), .int (nI k), .ref (gA Λ 17 w)] : List Value).toArray s := Or.inl hM48
  have hnc := hA.2.2.1
  have hcb := hA.2.2.2.1
  have hmx9 : max 10 (n + n / 2) ≤ 700 := by rcases Nat.le_total 10 (n + n / 2) with z | z; rw [Nat.max_eq_right z]; omega; rw [Nat.max_eq_left z]; omega
  refine j_aload_n C dJx4a65c_add_7a177_0 rfl 0 rfl ?_
  refine j_iload_n C dJx4a65c_add_7a177_1 rfl 1 rfl ?_
  refine c_v0 C (r_V C 15 0 [.int (nI k)] (c_Jx4a65c_rangeCheckForAdd_d00df l D cy base Λ σ n ar cp wf hA k hk) (cwV 1 hts gJx4a65c_add_7a177_Jx4a65c_rangeCheckForAdd_d00df rfl rfl rfl (by decide +kernel) ⟨by decide, by decide⟩) hA.1 rfl rfl rfl rfl (Nat.le_of_ble_eq_true rfl) dJx4a65c_add_7a177_2 ⟨by decide, by decide⟩) (fun uu hp => ?_)
  rw [hp]
  refine j_aload_n C dJx4a65c_add_7a177_5 rfl 0 rfl ?_
  refine j_dup C dJx4a65c_add_7a177_6 rfl ?_
  refine j_getIs C hwJx4a65c 15 0 0 hA.1 rfl rfl (by decide) rfl (gI σ 15 0 0) rfl (hts (.fieldLink RJx4a65c 63 "java/util/ArrayList" "modCount" "I") (by decide +kernel)) (hts (.sameField "java/util/ArrayList" "java/util/AbstractList" "modCount" "I") (by decide +kernel)) dJx4a65c_add_7a177_7 ?_
  refine j_iconst C (nI 1) dJx4a65c_add_7a177_10 (by decide) ?_
  refine j_iadd C ((gI σ 15 0 0) + (nI 1)) dJx4a65c_add_7a177_11 rfl ?_
  refine j_putIs C hwJx4a65c 15 0 0 hA.1 rfl rfl (by decide) rfl tyJx4a65c tyJx4a65c_ok nmJx4a65c rfl rfl rfl (hts (.fieldLink RJx4a65c 63 "java/util/ArrayList" "modCount" "I") (by decide +kernel)) (hts (.sameField "java/util/ArrayList" "java/util/AbstractList" "modCount" "I") (by decide +kernel)) dJx4a65c_add_7a177_12 ?_
  have hA1 := AL.w0 (x := gI σ 15 0 0 + nI 1) hA
  refine j_aload_n C dJx4a65c_add_7a177_15 rfl 0 rfl ?_
  refine j_getI C hwJx4a65c 15 0 2 hA1.1 rfl rfl (by decide) rfl (nI n) hA1.2.1 hL48 dJx4a65c_add_7a177_16 ?_
  refine j_dup C dJx4a65c_add_7a177_19 rfl ?_
  refine j_istore_n C [(3, .int (nI n)), (0, .ref (gA Λ 15 0)), (1, .int (nI k)), (2, .ref (gA Λ 17 w))] dJx4a65c_add_7a177_20 rfl (by decide) rfl ?_
  refine j_aload_n C dJx4a65c_add_7a177_21 rfl 1 rfl ?_
  refine j_getX C hwJx4a65c 15 0 1 hA1.1 rfl rfl (by decide) rfl ar (hA1.arr (by omega)).1 hL9 dJx4a65c_add_7a177_22 ?_
  refine j_dup C dJx4a65c_add_7a177_25 rfl ?_
  refine j_astore C [(4, .ref (gA Λ 16 ar)), (3, .int (nI n)), (0, .ref (gA Λ 15 0)), (1, .int (nI k)), (2, .ref (gA Λ 17 w))] dJx4a65c_add_7a177_26 (by decide) rfl ?_
  refine j_alen C 16 ar (hA1.arr (by omega)).2.1 rfl (by decide) (nI cp) (by rw [(hA1.arr (by omega)).2.2.1]) dJx4a65c_add_7a177_28 ?_
  refine j_icmp_ne (tgt := 38) C dJx4a65c_add_7a177_29 (by decide) (nI_eq (by omega) (by omega)) (fun h29 => ?_) (fun h29 => ?_)
  · refine j_aload C dJx4a65c_add_7a177_38 0 rfl ?_
    refine j_iload_n C dJx4a65c_add_7a177_40 rfl 3 rfl ?_
    refine j_aload C dJx4a65c_add_7a177_41 0 rfl ?_
    refine j_iload_n C dJx4a65c_add_7a177_43 rfl 3 rfl ?_
    refine j_iconst C (nI 1) dJx4a65c_add_7a177_44 (by decide) ?_
    refine j_iadd C (nI (k + 1)) dJx4a65c_add_7a177_45 (nI_add _ _) ?_
    refine j_iload_n C dJx4a65c_add_7a177_46 rfl 1 rfl ?_
    refine j_iload_n C dJx4a65c_add_7a177_47 rfl 3 rfl ?_
    refine j_isub C (nI (n - k)) dJx4a65c_add_7a177_48 (nI_sub2 (by omega) (by omega)) ?_
    refine j_cpv C ar ar k (k + 1) (n - k) cp cp (hA1.arr (by omega)).2.1 (hA1.arr (by omega)).2.1 (hA1.arr (by omega)).2.2.1 (hA1.arr (by omega)).2.2.1 (by omega) (by omega) (by omega) (by omega) (by decide +kernel) rfl rfl dJx4a65c_add_7a177_49 ?_
    refine j_aload C dJx4a65c_add_7a177_52 0 rfl ?_
    refine j_iload_n C dJx4a65c_add_7a177_54 rfl 3 rfl ?_
    refine j_aload_n C dJx4a65c_add_7a177_55 rfl 4 rfl ?_
    refine j_aastW C 16 ar k (hA1.arr (by omega)).2.1 rfl rfl cp (hA1.arr (by omega)).2.2.1 (by omega) (by omega) rfl hw dJx4a65c_add_7a177_56 ?_
    refine j_aload_n C dJx4a65c_add_7a177_57 rfl 2 rfl ?_
    refine j_iload_n C dJx4a65c_add_7a177_58 rfl 1 rfl ?_
    refine j_iconst C (nI 1) dJx4a65c_add_7a177_59 (by decide) ?_
    refine j_iadd C (nI (n + 1)) dJx4a65c_add_7a177_60 (nI_add _ _) ?_
    refine j_putI C hwJx4a65c 15 0 2 hA1.1 rfl rfl (by decide) rfl tyJx4a65c tyJx4a65c_ok nmJx4a65c rfl rfl rfl hL48 dJx4a65c_add_7a177_61 ?_
    refine j_wide (k := 1) (n := 1000) (by omega) (by omega) ?_
    exact j_vretx C hr hlk (⟨_, _, (AL.ins hA1 (by omega) hk).1, hcpb, Gw.rf, fun _ _ => rfl, Same.tr (Same.sI Same.rf (by omega)) (AL.ins hA1 (by omega) hk).2⟩) dJx4a65c_add_7a177_64
  · omega

set_option maxHeartbeats 4000000 in
set_option maxRecDepth 100000 in
theorem c_ladd_more (l : Launch) (D : va_G) (cy : Nat → ClassId) (base : Nat) (Λ : LY) (σ : HS) (n ar cp : Nat) (wf : Nat → Nat) (hA : AL Λ σ n ar cp wf) (hn450 : n ≤ 450) (k w : Nat) (hk : k ≤ n) (hw : w < gC Λ 17) (hcpb : cp ≤ max 10 (n + n / 2)) (h0 : 0 < cp) (hne : n = cp) : Met l yJx4a65c_add_7a177 wsJx4a65c_add_7a177 ({ frames := 24, cells := 1, slots := 1000, locals := 360 }) (va_Pc [.ref (gA Λ 15 0), .int (nI k), .ref (gA Λ 17 w)] (Wd D cy base Λ σ)) (va_Qv (fun x => AdP Λ σ n k w wf x) (Wx D cy base) (Ab base)) 1 1000 (Ab base) := by
  refine j_start (cc := cJx4a65c_add_7a177) (nL := 5) (ret := none) (lv := [(0, .ref (gA Λ 15 0)), (1, .int (nI k)), (2, .ref (gA Λ 17 w))]) (by decide) rfl (Nat.le_of_ble_eq_true rfl) rfl ?_
  intro p e s m below meth c C hr hlk hnm
  have C : Cx p s m ([.ref (gA Λ 15 0), .int (nI k), .ref (gA Λ 17 w)] : List Value).toArray c cJx4a65c_add_7a177 5 RJx4a65c wsJx4a65c_add_7a177 D cy base := C
  have hts := C.2.2.2.2.1
  have hwJx4a65c : ∀ w ∈ u_ws RJx4a65c TJx4a65c 3, w ∈ wsJx4a65c_add_7a177 := by decide +kernel
  have hM9 : (Cond.fieldLink RJx4a65c 9 (TJx4a65c 1).1 (TJx4a65c 1).2.1 (TJx4a65c 1).2.2.1).before ([.ref (gA Λ 15 0), .int (nI k), .ref (gA Λ 17 w)] : List Value).toArray s = true := hts (.fieldLink RJx4a65c 9 "java/util/ArrayList" "elementData" "[Ljava/lang/Object;") (by decide +kernel)
  have hL9 : FL RJx4a65c 9 (TJx4a65c 1).1 (TJx4a65c 1).2.1 (TJx4a65c 1).2.2.1 ([.ref (gA Λ 15 0), .int (nI k), .ref (gA Λ 17 w)] : List Value).toArray s := Or.inl hM9
  have hM48 : (Cond.fieldLink RJx4a65c 48 (TJx4a65c 2).1 (TJx4a65c 2).2.1 (TJx4a65c 2).2.2.1).before ([.ref (gA Λ 15 0), .int (nI k), .ref (gA Λ 17 w)] : List Value).toArray s = true := hts (.fieldLink RJx4a65c 48 "java/util/ArrayList" "size" "I") (by decide +kernel)
  have hL48 : FL RJx4a65c 48 (TJx4a65c 2).1 (TJx4a65c 2).2.1 (TJx4a65c 2).2.2.1 ([.ref (gA Λ 15 0), .int (nI k), .ref (gA Λ 17 w)] : List Value).toArray s := Or.inl hM48
  have hnc := hA.2.2.1
  have hcb := hA.2.2.2.1
  have hmx9 : max 10 (n + n / 2) ≤ 700 := by rcases Nat.le_total 10 (n + n / 2) with z | z; rw [Nat.max_eq_right z]; omega; rw [Nat.max_eq_left z]; omega
  refine j_aload_n C dJx4a65c_add_7a177_0 rfl 0 rfl ?_
  refine j_iload_n C dJx4a65c_add_7a177_1 rfl 1 rfl ?_
  refine c_v0 C (r_V C 15 0 [.int (nI k)] (c_Jx4a65c_rangeCheckForAdd_d00df l D cy base Λ σ n ar cp wf hA k hk) (cwV 1 hts gJx4a65c_add_7a177_Jx4a65c_rangeCheckForAdd_d00df rfl rfl rfl (by decide +kernel) ⟨by decide, by decide⟩) hA.1 rfl rfl rfl rfl (Nat.le_of_ble_eq_true rfl) dJx4a65c_add_7a177_2 ⟨by decide, by decide⟩) (fun uu hp => ?_)
  rw [hp]
  refine j_aload_n C dJx4a65c_add_7a177_5 rfl 0 rfl ?_
  refine j_dup C dJx4a65c_add_7a177_6 rfl ?_
  refine j_getIs C hwJx4a65c 15 0 0 hA.1 rfl rfl (by decide) rfl (gI σ 15 0 0) rfl (hts (.fieldLink RJx4a65c 63 "java/util/ArrayList" "modCount" "I") (by decide +kernel)) (hts (.sameField "java/util/ArrayList" "java/util/AbstractList" "modCount" "I") (by decide +kernel)) dJx4a65c_add_7a177_7 ?_
  refine j_iconst C (nI 1) dJx4a65c_add_7a177_10 (by decide) ?_
  refine j_iadd C ((gI σ 15 0 0) + (nI 1)) dJx4a65c_add_7a177_11 rfl ?_
  refine j_putIs C hwJx4a65c 15 0 0 hA.1 rfl rfl (by decide) rfl tyJx4a65c tyJx4a65c_ok nmJx4a65c rfl rfl rfl (hts (.fieldLink RJx4a65c 63 "java/util/ArrayList" "modCount" "I") (by decide +kernel)) (hts (.sameField "java/util/ArrayList" "java/util/AbstractList" "modCount" "I") (by decide +kernel)) dJx4a65c_add_7a177_12 ?_
  have hA1 := AL.w0 (x := gI σ 15 0 0 + nI 1) hA
  refine j_aload_n C dJx4a65c_add_7a177_15 rfl 0 rfl ?_
  refine j_getI C hwJx4a65c 15 0 2 hA1.1 rfl rfl (by decide) rfl (nI n) hA1.2.1 hL48 dJx4a65c_add_7a177_16 ?_
  refine j_dup C dJx4a65c_add_7a177_19 rfl ?_
  refine j_istore_n C [(3, .int (nI n)), (0, .ref (gA Λ 15 0)), (1, .int (nI k)), (2, .ref (gA Λ 17 w))] dJx4a65c_add_7a177_20 rfl (by decide) rfl ?_
  refine j_aload_n C dJx4a65c_add_7a177_21 rfl 1 rfl ?_
  refine j_getX C hwJx4a65c 15 0 1 hA1.1 rfl rfl (by decide) rfl ar (hA1.arr (by omega)).1 hL9 dJx4a65c_add_7a177_22 ?_
  refine j_dup C dJx4a65c_add_7a177_25 rfl ?_
  refine j_astore C [(4, .ref (gA Λ 16 ar)), (3, .int (nI n)), (0, .ref (gA Λ 15 0)), (1, .int (nI k)), (2, .ref (gA Λ 17 w))] dJx4a65c_add_7a177_26 (by decide) rfl ?_
  refine j_alen C 16 ar (hA1.arr (by omega)).2.1 rfl (by decide) (nI cp) (by rw [(hA1.arr (by omega)).2.2.1]) dJx4a65c_add_7a177_28 ?_
  refine j_icmp_ne (tgt := 38) C dJx4a65c_add_7a177_29 (by decide) (nI_eq (by omega) (by omega)) (fun h29 => ?_) (fun h29 => ?_)
  · omega
  · refine j_aload_n C dJx4a65c_add_7a177_32 rfl 2 rfl ?_
    refine c_rx C (r_V C 15 0 [] (c_grow0_more l D cy base Λ (sI σ 15 0 0 ((gI σ 15 0 0) + (nI 1))) n ar cp wf hA1 hn450 h0 hne) (cwV 0 hts gJx4a65c_add_7a177_Jx4a65c_grow_d5877 rfl rfl rfl (by decide +kernel) ⟨by decide, by decide⟩) hA1.1 rfl rfl rfl rfl (Nat.le_of_ble_eq_true rfl) dJx4a65c_add_7a177_33 ⟨by decide, by decide⟩) (fun Λ1 u1 j1 hp => ?_)
    obtain ⟨cp2, hA2, hnc2, hcb2, hG2, hc2, hs2⟩ := hp
    dsimp only at hA2 hG2 hc2 hs2
    have hi15 := hA1.1
    have hw2 : w < gC Λ1 17 := by rw [hc2 17 (by decide)]; exact hw
    have hb2 := hA2.2.2.2.1
    refine j_lv (lv' := [(3, .int (nI n)), (0, .ref (gA Λ 15 0)), (1, .int (nI k)), (2, .ref (gA Λ 17 w))]) [1, 2, 3, 4] rfl ?_
    have hb_2 : 0 < gC Λ1 15 := Nat.lt_of_lt_of_le hi15 (hG2.1 15)
    have hb_3 : w < gC Λ1 17 := Nat.lt_of_lt_of_le hw (hG2.1 17)
    have he_4 : gA Λ1 15 0 = gA Λ 15 0 := (hG2.2.1 15 0 (by first | assumption | omega)).1
    have he_5 : gA Λ1 17 w = gA Λ 17 w := (hG2.2.1 17 w (by first | assumption | omega)).1
    refine j_eq (lv' := [(3, .int (nI n)), (0, .ref (gA Λ1 15 0)), (1, .int (nI k)), (2, .ref (gA Λ1 17 w))]) (st' := [.ref (gA Λ1 16 j1)]) (by simp only [he_4, he_5]) (by simp only [he_4, he_5]) ?_
    refine j_astore C [(4, .ref (gA Λ1 16 j1)), (3, .int (nI n)), (0, .ref (gA Λ1 15 0)), (1, .int (nI k)), (2, .ref (gA Λ1 17 w))] dJx4a65c_add_7a177_36 (by decide) rfl ?_
    refine j_aload C dJx4a65c_add_7a177_38 0 rfl ?_
    refine j_iload_n C dJx4a65c_add_7a177_40 rfl 3 rfl ?_
    refine j_aload C dJx4a65c_add_7a177_41 0 rfl ?_
    refine j_iload_n C dJx4a65c_add_7a177_43 rfl 3 rfl ?_
    refine j_iconst C (nI 1) dJx4a65c_add_7a177_44 (by decide) ?_
    refine j_iadd C (nI (k + 1)) dJx4a65c_add_7a177_45 (nI_add _ _) ?_
    refine j_iload_n C dJx4a65c_add_7a177_46 rfl 1 rfl ?_
    refine j_iload_n C dJx4a65c_add_7a177_47 rfl 3 rfl ?_
    refine j_isub C (nI (n - k)) dJx4a65c_add_7a177_48 (nI_sub2 (by omega) (by omega)) ?_
    refine j_cpv C j1 j1 k (k + 1) (n - k) cp2 cp2 (hA2.arr (by omega)).2.1 (hA2.arr (by omega)).2.1 (hA2.arr (by omega)).2.2.1 (hA2.arr (by omega)).2.2.1 (by omega) (by omega) (by omega) (by omega) (by decide +kernel) rfl rfl dJx4a65c_add_7a177_49 ?_
    refine j_aload C dJx4a65c_add_7a177_52 0 rfl ?_
    refine j_iload_n C dJx4a65c_add_7a177_54 rfl 3 rfl ?_
    refine j_aload_n C dJx4a65c_add_7a177_55 rfl 4 rfl ?_
    refine j_aastW C 16 j1 k (hA2.arr (by omega)).2.1 rfl rfl cp2 (hA2.arr (by omega)).2.2.1 (by omega) (by omega) rfl hw2 dJx4a65c_add_7a177_56 ?_
    refine j_aload_n C dJx4a65c_add_7a177_57 rfl 2 rfl ?_
    refine j_iload_n C dJx4a65c_add_7a177_58 rfl 1 rfl ?_
    refine j_iconst C (nI 1) dJx4a65c_add_7a177_59 (by decide) ?_
    refine j_iadd C (nI (n + 1)) dJx4a65c_add_7a177_60 (nI_add _ _) ?_
    refine j_putI C hwJx4a65c 15 0 2 hA2.1 rfl rfl (by decide) rfl tyJx4a65c tyJx4a65c_ok nmJx4a65c rfl rfl rfl hL48 dJx4a65c_add_7a177_61 ?_
    exact j_vretx C hr hlk (⟨_, _, (AL.ins hA2 (by omega) hk).1, hcb2, hG2, hc2, Same.tr (Same.sI Same.rf (by omega)) (Same.tr hs2 (AL.ins hA2 (by omega) hk).2)⟩) dJx4a65c_add_7a177_64

set_option maxHeartbeats 4000000 in
set_option maxRecDepth 100000 in
theorem c_ladd_first (l : Launch) (D : va_G) (cy : Nat → ClassId) (base : Nat) (Λ : LY) (σ : HS) (n ar cp : Nat) (wf : Nat → Nat) (hA : AL Λ σ n ar cp wf) (hn450 : n ≤ 450) (k w : Nat) (hk : k ≤ n) (hw : w < gC Λ 17) (hcpb : cp ≤ max 10 (n + n / 2)) (h0 : cp = 0) : Met l yJx4a65c_add_7a177 wsJx4a65c_add_7a177 ({ frames := 24, cells := 1, slots := 1000, locals := 360 }) (va_Pc [.ref (gA Λ 15 0), .int (nI k), .ref (gA Λ 17 w)] (Wg D cy base Λ σ)) (va_Qv (fun x => AdP Λ σ n k w wf x) (Wx D cy base) (Ab base)) 1 1000 (Ab base) := by
  refine j_startG (cc := cJx4a65c_add_7a177) (nL := 5) (ret := none) (lv := [(0, .ref (gA Λ 15 0)), (1, .int (nI k)), (2, .ref (gA Λ 17 w))]) (by decide) rfl (Nat.le_of_ble_eq_true rfl) rfl ?_
  intro p e s m below meth c C hr hlk hnm hZ
  have C : Cx p s m ([.ref (gA Λ 15 0), .int (nI k), .ref (gA Λ 17 w)] : List Value).toArray c cJx4a65c_add_7a177 5 RJx4a65c wsJx4a65c_add_7a177 D cy base := C
  have hts := C.2.2.2.2.1
  have hwJx4a65c : ∀ w ∈ u_ws RJx4a65c TJx4a65c 3, w ∈ wsJx4a65c_add_7a177 := by decide +kernel
  have hM9 : (Cond.fieldLink RJx4a65c 9 (TJx4a65c 1).1 (TJx4a65c 1).2.1 (TJx4a65c 1).2.2.1).before ([.ref (gA Λ 15 0), .int (nI k), .ref (gA Λ 17 w)] : List Value).toArray s = true := hts (.fieldLink RJx4a65c 9 "java/util/ArrayList" "elementData" "[Ljava/lang/Object;") (by decide +kernel)
  have hL9 : FL RJx4a65c 9 (TJx4a65c 1).1 (TJx4a65c 1).2.1 (TJx4a65c 1).2.2.1 ([.ref (gA Λ 15 0), .int (nI k), .ref (gA Λ 17 w)] : List Value).toArray s := Or.inl hM9
  have hM48 : (Cond.fieldLink RJx4a65c 48 (TJx4a65c 2).1 (TJx4a65c 2).2.1 (TJx4a65c 2).2.2.1).before ([.ref (gA Λ 15 0), .int (nI k), .ref (gA Λ 17 w)] : List Value).toArray s = true := hts (.fieldLink RJx4a65c 48 "java/util/ArrayList" "size" "I") (by decide +kernel)
  have hL48 : FL RJx4a65c 48 (TJx4a65c 2).1 (TJx4a65c 2).2.1 (TJx4a65c 2).2.2.1 ([.ref (gA Λ 15 0), .int (nI k), .ref (gA Λ 17 w)] : List Value).toArray s := Or.inl hM48
  have hnc := hA.2.2.1
  have hcb := hA.2.2.2.1
  have hmx9 : max 10 (n + n / 2) ≤ 700 := by rcases Nat.le_total 10 (n + n / 2) with z | z; rw [Nat.max_eq_right z]; omega; rw [Nat.max_eq_left z]; omega
  refine j_aload_n C dJx4a65c_add_7a177_0 rfl 0 rfl ?_
  refine j_iload_n C dJx4a65c_add_7a177_1 rfl 1 rfl ?_
  refine c_v0 C (r_V C 15 0 [.int (nI k)] (c_Jx4a65c_rangeCheckForAdd_d00df l D cy base Λ σ n ar cp wf hA k hk) (cwV 1 hts gJx4a65c_add_7a177_Jx4a65c_rangeCheckForAdd_d00df rfl rfl rfl (by decide +kernel) ⟨by decide, by decide⟩) hA.1 rfl rfl rfl rfl (Nat.le_of_ble_eq_true rfl) dJx4a65c_add_7a177_2 ⟨by decide, by decide⟩) (fun uu hp => ?_)
  rw [hp]
  refine j_aload_n C dJx4a65c_add_7a177_5 rfl 0 rfl ?_
  refine j_dup C dJx4a65c_add_7a177_6 rfl ?_
  refine j_getIs C hwJx4a65c 15 0 0 hA.1 rfl rfl (by decide) rfl (gI σ 15 0 0) rfl (hts (.fieldLink RJx4a65c 63 "java/util/ArrayList" "modCount" "I") (by decide +kernel)) (hts (.sameField "java/util/ArrayList" "java/util/AbstractList" "modCount" "I") (by decide +kernel)) dJx4a65c_add_7a177_7 ?_
  refine j_iconst C (nI 1) dJx4a65c_add_7a177_10 (by decide) ?_
  refine j_iadd C ((gI σ 15 0 0) + (nI 1)) dJx4a65c_add_7a177_11 rfl ?_
  refine j_putIs C hwJx4a65c 15 0 0 hA.1 rfl rfl (by decide) rfl tyJx4a65c tyJx4a65c_ok nmJx4a65c rfl rfl rfl (hts (.fieldLink RJx4a65c 63 "java/util/ArrayList" "modCount" "I") (by decide +kernel)) (hts (.sameField "java/util/ArrayList" "java/util/AbstractList" "modCount" "I") (by decide +kernel)) dJx4a65c_add_7a177_12 ?_
  have hA1 := AL.w0 (x := gI σ 15 0 0 + nI 1) hA
  refine j_aload_n C dJx4a65c_add_7a177_15 rfl 0 rfl ?_
  refine j_getI C hwJx4a65c 15 0 2 hA1.1 rfl rfl (by decide) rfl (nI n) hA1.2.1 hL48 dJx4a65c_add_7a177_16 ?_
  refine j_dup C dJx4a65c_add_7a177_19 rfl ?_
  refine j_istore_n C [(3, .int (nI n)), (0, .ref (gA Λ 15 0)), (1, .int (nI k)), (2, .ref (gA Λ 17 w))] dJx4a65c_add_7a177_20 rfl (by decide) rfl ?_
  refine j_aload_n C dJx4a65c_add_7a177_21 rfl 1 rfl ?_
  refine j_getXn C hwJx4a65c 15 0 1 hA1.1 rfl rfl (by decide) rfl (hA1.emp h0) hL9 dJx4a65c_add_7a177_22 ?_
  refine j_dup C dJx4a65c_add_7a177_25 rfl ?_
  refine j_astore C [(4, .ref (gA Λ 50 0)), (3, .int (nI n)), (0, .ref (gA Λ 15 0)), (1, .int (nI k)), (2, .ref (gA Λ 17 w))] dJx4a65c_add_7a177_26 (by decide) rfl ?_
  refine j_alen0 C hZ dJx4a65c_add_7a177_28 ?_
  refine j_icmp_ne (tgt := 38) C dJx4a65c_add_7a177_29 (by decide) (nI_eq (by omega) (by omega)) (fun h29 => ?_) (fun h29 => ?_)
  · omega
  · refine j_aload_n C dJx4a65c_add_7a177_32 rfl 2 rfl ?_
    refine c_rx C (r_Vg C hZ 15 0 [] (c_grow0_first l D cy base Λ (sI σ 15 0 0 ((gI σ 15 0 0) + (nI 1))) n ar cp wf hA1 hn450 h0) (cwV 0 hts gJx4a65c_add_7a177_Jx4a65c_grow_d5877 rfl rfl rfl (by decide +kernel) ⟨by decide, by decide⟩) hA1.1 rfl rfl rfl rfl (Nat.le_of_ble_eq_true rfl) dJx4a65c_add_7a177_33 ⟨by decide, by decide⟩) (fun Λ1 u1 j1 hp => ?_)
    obtain ⟨cp2, hA2, hnc2, hcb2, hG2, hc2, hs2⟩ := hp
    dsimp only at hA2 hG2 hc2 hs2
    have hi15 := hA1.1
    have hw2 : w < gC Λ1 17 := by rw [hc2 17 (by decide)]; exact hw
    have hb2 := hA2.2.2.2.1
    refine j_lv (lv' := [(3, .int (nI n)), (0, .ref (gA Λ 15 0)), (1, .int (nI k)), (2, .ref (gA Λ 17 w))]) [1, 2, 3, 4] rfl ?_
    have hb_2 : 0 < gC Λ1 15 := Nat.lt_of_lt_of_le hi15 (hG2.1 15)
    have hb_3 : w < gC Λ1 17 := Nat.lt_of_lt_of_le hw (hG2.1 17)
    have he_4 : gA Λ1 15 0 = gA Λ 15 0 := (hG2.2.1 15 0 (by first | assumption | omega)).1
    have he_5 : gA Λ1 17 w = gA Λ 17 w := (hG2.2.1 17 w (by first | assumption | omega)).1
    refine j_eq (lv' := [(3, .int (nI n)), (0, .ref (gA Λ1 15 0)), (1, .int (nI k)), (2, .ref (gA Λ1 17 w))]) (st' := [.ref (gA Λ1 16 j1)]) (by simp only [he_4, he_5]) (by simp only [he_4, he_5]) ?_
    refine j_astore C [(4, .ref (gA Λ1 16 j1)), (3, .int (nI n)), (0, .ref (gA Λ1 15 0)), (1, .int (nI k)), (2, .ref (gA Λ1 17 w))] dJx4a65c_add_7a177_36 (by decide) rfl ?_
    refine j_aload C dJx4a65c_add_7a177_38 0 rfl ?_
    refine j_iload_n C dJx4a65c_add_7a177_40 rfl 3 rfl ?_
    refine j_aload C dJx4a65c_add_7a177_41 0 rfl ?_
    refine j_iload_n C dJx4a65c_add_7a177_43 rfl 3 rfl ?_
    refine j_iconst C (nI 1) dJx4a65c_add_7a177_44 (by decide) ?_
    refine j_iadd C (nI (k + 1)) dJx4a65c_add_7a177_45 (nI_add _ _) ?_
    refine j_iload_n C dJx4a65c_add_7a177_46 rfl 1 rfl ?_
    refine j_iload_n C dJx4a65c_add_7a177_47 rfl 3 rfl ?_
    refine j_isub C (nI (n - k)) dJx4a65c_add_7a177_48 (nI_sub2 (by omega) (by omega)) ?_
    refine j_cpv C j1 j1 k (k + 1) (n - k) cp2 cp2 (hA2.arr (by omega)).2.1 (hA2.arr (by omega)).2.1 (hA2.arr (by omega)).2.2.1 (hA2.arr (by omega)).2.2.1 (by omega) (by omega) (by omega) (by omega) (by decide +kernel) rfl rfl dJx4a65c_add_7a177_49 ?_
    refine j_aload C dJx4a65c_add_7a177_52 0 rfl ?_
    refine j_iload_n C dJx4a65c_add_7a177_54 rfl 3 rfl ?_
    refine j_aload_n C dJx4a65c_add_7a177_55 rfl 4 rfl ?_
    refine j_aastW C 16 j1 k (hA2.arr (by omega)).2.1 rfl rfl cp2 (hA2.arr (by omega)).2.2.1 (by omega) (by omega) rfl hw2 dJx4a65c_add_7a177_56 ?_
    refine j_aload_n C dJx4a65c_add_7a177_57 rfl 2 rfl ?_
    refine j_iload_n C dJx4a65c_add_7a177_58 rfl 1 rfl ?_
    refine j_iconst C (nI 1) dJx4a65c_add_7a177_59 (by decide) ?_
    refine j_iadd C (nI (n + 1)) dJx4a65c_add_7a177_60 (nI_add _ _) ?_
    refine j_putI C hwJx4a65c 15 0 2 hA2.1 rfl rfl (by decide) rfl tyJx4a65c tyJx4a65c_ok nmJx4a65c rfl rfl rfl hL48 dJx4a65c_add_7a177_61 ?_
    exact j_vretx C hr hlk (⟨_, _, (AL.ins hA2 (by omega) hk).1, hcb2, hG2, hc2, Same.tr (Same.sI Same.rf (by omega)) (Same.tr hs2 (AL.ins hA2 (by omega) hk).2)⟩) dJx4a65c_add_7a177_64
