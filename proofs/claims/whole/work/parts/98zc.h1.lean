def nmF (M : MM) (r : Nat) : Nat → Nat := fun k => M 33 (20 * r + k)
/-- the labels -/
def LB (Λ : LY) (σ : HS) (M : MM) : Prop := ∀ r, r < M 31 5 → TX Λ σ (M 60 r) (M 34 r) (M 34 r) (nmF M r) ∧ 2 ≤ M 60 r
set_option maxHeartbeats 4000000 in
set_option maxRecDepth 100000 in
theorem c_hasName_y (l : Launch) (D : va_G) (cy : Nat → ClassId) (base : Nat) (Λ : LY) (σ : HS) (M : MM) (hC : CR noEx Λ σ M) (hB : MBd M) (hLb : LB Λ σ M) (j m9 cp9 : Nat) (g : Nat → Nat) (hT : TX Λ σ j m9 cp9 g) (hx : ∃ r, r < M 31 5 ∧ weq (M 34 r) (nmF M r) m9 g) : Met l yX4_hasName wsX4_hasName ({ frames := 12, cells := 0, slots := 0, locals := 180 }) (va_Pc [.ref (gA Λ 3 0), .ref (gA Λ 1 j)] (Wd D cy base Λ σ)) (va_Qi (fun v u => v = bI true ∧ u = σ) (Wd D cy base Λ) (Ab base)) 0 0 (Ab base) := by
  refine j_start (cc := cX4_hasName) (nL := 3) (ret := (some .boolean)) (lv := [(0, .ref (gA Λ 3 0)), (1, .ref (gA Λ 1 j))]) (by decide) rfl (Nat.le_of_ble_eq_true rfl) rfl ?_
  intro p e s m below meth c C hr hlk hnm
  have C : Cx p s m ([.ref (gA Λ 3 0), .ref (gA Λ 1 j)] : List Value).toArray c cX4_hasName 3 RX4 wsX4_hasName D cy base := C
  have hts := C.2.2.2.2.1
  have hwX4 : ∀ w ∈ u_ws RX4 TX4 6, w ∈ wsX4_hasName := by decide +kernel
  have hwX5 : ∀ w ∈ u_ws RX5 TX5 13, w ∈ wsX4_hasName := by decide +kernel
  have hM11 : (Cond.fieldLink RX4 11 (TX4 0).1 (TX4 0).2.1 (TX4 0).2.2.1).before ([.ref (gA Λ 3 0), .ref (gA Λ 1 j)] : List Value).toArray s = true := hts (.fieldLink RX4 11 "CodeRooms$Plan" "routines" "[LCodeRooms$Routine;") (by decide +kernel)
  have hL11 : FL RX4 11 (TX4 0).1 (TX4 0).2.1 (TX4 0).2.2.1 ([.ref (gA Λ 3 0), .ref (gA Λ 1 j)] : List Value).toArray s := Or.inl hM11
  have hM28 : (Cond.fieldLink RX4 28 (TX4 4).1 (TX4 4).2.1 (TX4 4).2.2.1).before ([.ref (gA Λ 3 0), .ref (gA Λ 1 j)] : List Value).toArray s = true := hts (.fieldLink RX4 28 "CodeRooms$Plan" "size" "I") (by decide +kernel)
  have hL28 : FL RX4 28 (TX4 4).1 (TX4 4).2.1 (TX4 4).2.2.1 ([.ref (gA Λ 3 0), .ref (gA Λ 1 j)] : List Value).toArray s := Or.inl hM28
  have hL32 : FL RX4 32 (TX5 2).1 (TX5 2).2.1 (TX5 2).2.2.1 ([.ref (gA Λ 3 0), .ref (gA Λ 1 j)] : List Value).toArray s := Or.inr ⟨_, Ex.nestF C.2.2.2.2.2.2 nf_X4_32⟩
  have hn : M 31 5 ≤ 40 := hB 31 5 rfl
  refine j_iconst C (nI 0) dX4_hasName_0 (by decide) ?_
  refine j_istore_n C [(2, .int (nI 0)), (0, .ref (gA Λ 3 0)), (1, .ref (gA Λ 1 j))] dX4_hasName_1 rfl (by decide) rfl ?_
  have lb2 : ∀ (fu : Nat) (r9 : Nat), (M 31 5 - r9) < fu → (r9 ≤ M 31 5) → (∀ r, r < r9 → ¬ weq (M 34 r) (nmF M r) m9 g) → J p l e ({ frames := 12, cells := 0, slots := 0, locals := 180 }) s m ([.ref (gA Λ 3 0), .ref (gA Λ 1 j)] : List Value).toArray below meth c 3 D cy base (MQ below (va_Qi (fun v u => v = bI true ∧ u = σ) (Wd D cy base Λ) (Ab base)) ([.ref (gA Λ 3 0), .ref (gA Λ 1 j)] : List Value).toArray s 0 0 (Ab base)) 0 0 Λ 2 [(0, .ref (gA Λ 3 0)), (1, .ref (gA Λ 1 j)), (2, .int (nI r9))] [] σ := by
    intro fu
    induction fu with
    | zero => intro r9 hfu; exact absurd hfu (Nat.not_lt_zero _)
    | succ fu ih =>
      intro r9 hfu hr9 hno
      have ih2 := ih
      refine j_iload_n C dX4_hasName_2 rfl 2 rfl ?_
      refine j_aload_n C dX4_hasName_3 rfl 0 rfl ?_
      refine j_getI C hwX4 3 0 4 (CR.n1 hC (by decide)) rfl rfl (by decide) rfl (nI (M 31 5)) (CR.i hC 3 0 4 ⟨rfl, Or.inl rfl⟩ id) hL28 dX4_hasName_4 ?_
      refine j_icmp_ge (tgt := 34) C dX4_hasName_7 (by decide) (nI_leI (by omega) (by omega)) (fun h7 => ?_) (fun h7 => ?_)
      · obtain ⟨r, hr1, hr2⟩ := hx; exact absurd hr2 (hno r (by omega))
      · refine j_aload_n C dX4_hasName_10 rfl 0 rfl ?_
        refine j_getV C hwX4 3 0 0 (CR.n1 hC (by decide)) rfl rfl (by decide) rfl 0 (CR.v hC 3 0 0 ⟨rfl, by decide⟩ id) hL11 dX4_hasName_11 ?_
        refine j_iload_n C dX4_hasName_14 rfl 2 rfl ?_
        refine j_aald C 4 0 r9 (CR.n1 hC (by decide)) rfl (by decide) (by decide) 40 (CR.l1 hC (by decide)) (by omega) (by omega) r9 (CR.v hC 4 0 r9 ⟨rfl, show r9 < M 31 5 by omega⟩ id) dX4_hasName_15 ?_
        refine j_getV C hwX5 8 r9 2 (CR.n8 hC (by decide) (show r9 < M 31 5 by omega)) rfl rfl (by decide) rfl (M 60 r9) (CR.v hC 8 r9 2 ⟨show r9 < M 31 5 by omega, by decide, by decide⟩ id) hL32 dX4_hasName_16 ?_
        refine j_aload_n C dX4_hasName_19 rfl 1 rfl ?_
        refine c_i0 C (r_V C 1 (M 60 r9) [.ref (gA Λ 1 j)] (c_X7_compareWith l D cy base Λ σ (M 60 r9) (M 34 r9) (M 34 r9) (nmF M r9) (hLb r9 (by omega)).1 j m9 cp9 g hT) (cwV 1 hts gX4_hasName_X7_compareWith rfl rfl rfl (by decide +kernel) ⟨by decide, by decide⟩) (hLb r9 (by omega)).1.1 rfl rfl rfl rfl (Nat.le_of_ble_eq_true rfl) dX4_hasName_20 ⟨by decide, by decide⟩) (fun rv uu hq => ?_)
        rw [hq.2]
        refine j_if_ne (tgt := 28) C dX4_hasName_23 (by decide) (cmp_eq0 hq.1) (fun h23 => ?_) (fun h23 => ?_)
        · refine j_iinc C [(2, .int (nI (r9 + 1))), (0, .ref (gA Λ 3 0)), (1, .ref (gA Λ 1 j))] (nI (r9 + 1)) dX4_hasName_28 2 rfl (nI_add _ 1) (by decide) rfl ?_
          refine j_goto (tgt := 2) C dX4_hasName_31 (by decide) ?_
          refine j_lv [1, 2, 0] rfl ?_
          exact ih2 (r9 + 1) (by omega) (by omega) (fun r hr => by rcases Nat.lt_succ_iff_lt_or_eq.mp hr with z | z; exact hno r z; rw [z]; exact h23)
        · refine j_iconst C (nI 1) dX4_hasName_26 (by decide) ?_
          exact j_zret C (by first | rfl | exact nz_b _ | exact nz_n (by omega)) hr hlk (⟨rfl, rfl⟩) dX4_hasName_27
  refine j_lv [1, 2, 0] rfl ?_
  exact lb2 _ 0 (Nat.lt_succ_self _) (by omega) (fun r hr => absurd hr (Nat.not_lt_zero r))

set_option maxHeartbeats 4000000 in
set_option maxRecDepth 100000 in
theorem c_hasName_n (l : Launch) (D : va_G) (cy : Nat → ClassId) (base : Nat) (Λ : LY) (σ : HS) (M : MM) (hC : CR noEx Λ σ M) (hB : MBd M) (hLb : LB Λ σ M) (j m9 cp9 : Nat) (g : Nat → Nat) (hT : TX Λ σ j m9 cp9 g) (hx : ∀ r, r < M 31 5 → ¬ weq (M 34 r) (nmF M r) m9 g) : Met l yX4_hasName wsX4_hasName ({ frames := 12, cells := 0, slots := 0, locals := 180 }) (va_Pc [.ref (gA Λ 3 0), .ref (gA Λ 1 j)] (Wd D cy base Λ σ)) (va_Qi (fun v u => v = bI false ∧ u = σ) (Wd D cy base Λ) (Ab base)) 0 0 (Ab base) := by
  refine j_start (cc := cX4_hasName) (nL := 3) (ret := (some .boolean)) (lv := [(0, .ref (gA Λ 3 0)), (1, .ref (gA Λ 1 j))]) (by decide) rfl (Nat.le_of_ble_eq_true rfl) rfl ?_
  intro p e s m below meth c C hr hlk hnm
  have C : Cx p s m ([.ref (gA Λ 3 0), .ref (gA Λ 1 j)] : List Value).toArray c cX4_hasName 3 RX4 wsX4_hasName D cy base := C
  have hts := C.2.2.2.2.1
  have hwX4 : ∀ w ∈ u_ws RX4 TX4 6, w ∈ wsX4_hasName := by decide +kernel
  have hwX5 : ∀ w ∈ u_ws RX5 TX5 13, w ∈ wsX4_hasName := by decide +kernel
  have hM11 : (Cond.fieldLink RX4 11 (TX4 0).1 (TX4 0).2.1 (TX4 0).2.2.1).before ([.ref (gA Λ 3 0), .ref (gA Λ 1 j)] : List Value).toArray s = true := hts (.fieldLink RX4 11 "CodeRooms$Plan" "routines" "[LCodeRooms$Routine;") (by decide +kernel)
  have hL11 : FL RX4 11 (TX4 0).1 (TX4 0).2.1 (TX4 0).2.2.1 ([.ref (gA Λ 3 0), .ref (gA Λ 1 j)] : List Value).toArray s := Or.inl hM11
  have hM28 : (Cond.fieldLink RX4 28 (TX4 4).1 (TX4 4).2.1 (TX4 4).2.2.1).before ([.ref (gA Λ 3 0), .ref (gA Λ 1 j)] : List Value).toArray s = true := hts (.fieldLink RX4 28 "CodeRooms$Plan" "size" "I") (by decide +kernel)
  have hL28 : FL RX4 28 (TX4 4).1 (TX4 4).2.1 (TX4 4).2.2.1 ([.ref (gA Λ 3 0), .ref (gA Λ 1 j)] : List Value).toArray s := Or.inl hM28
  have hL32 : FL RX4 32 (TX5 2).1 (TX5 2).2.1 (TX5 2).2.2.1 ([.ref (gA Λ 3 0), .ref (gA Λ 1 j)] : List Value).toArray s := Or.inr ⟨_, Ex.nestF C.2.2.2.2.2.2 nf_X4_32⟩
  have hn : M 31 5 ≤ 40 := hB 31 5 rfl
  refine j_iconst C (nI 0) dX4_hasName_0 (by decide) ?_
  refine j_istore_n C [(2, .int (nI 0)), (0, .ref (gA Λ 3 0)), (1, .ref (gA Λ 1 j))] dX4_hasName_1 rfl (by decide) rfl ?_
  have lb2 : ∀ (fu : Nat) (r9 : Nat), (M 31 5 - r9) < fu → (r9 ≤ M 31 5) → (∀ r, r < r9 → ¬ weq (M 34 r) (nmF M r) m9 g) → J p l e ({ frames := 12, cells := 0, slots := 0, locals := 180 }) s m ([.ref (gA Λ 3 0), .ref (gA Λ 1 j)] : List Value).toArray below meth c 3 D cy base (MQ below (va_Qi (fun v u => v = bI false ∧ u = σ) (Wd D cy base Λ) (Ab base)) ([.ref (gA Λ 3 0), .ref (gA Λ 1 j)] : List Value).toArray s 0 0 (Ab base)) 0 0 Λ 2 [(0, .ref (gA Λ 3 0)), (1, .ref (gA Λ 1 j)), (2, .int (nI r9))] [] σ := by
    intro fu
    induction fu with
    | zero => intro r9 hfu; exact absurd hfu (Nat.not_lt_zero _)
    | succ fu ih =>
      intro r9 hfu hr9 hno
      have ih2 := ih
      refine j_iload_n C dX4_hasName_2 rfl 2 rfl ?_
      refine j_aload_n C dX4_hasName_3 rfl 0 rfl ?_
      refine j_getI C hwX4 3 0 4 (CR.n1 hC (by decide)) rfl rfl (by decide) rfl (nI (M 31 5)) (CR.i hC 3 0 4 ⟨rfl, Or.inl rfl⟩ id) hL28 dX4_hasName_4 ?_
      refine j_icmp_ge (tgt := 34) C dX4_hasName_7 (by decide) (nI_leI (by omega) (by omega)) (fun h7 => ?_) (fun h7 => ?_)
      · refine j_iconst C (nI 0) dX4_hasName_34 (by decide) ?_
        exact j_zret C (by first | rfl | exact nz_b _ | exact nz_n (by omega)) hr hlk (⟨rfl, rfl⟩) dX4_hasName_35
      · refine j_aload_n C dX4_hasName_10 rfl 0 rfl ?_
        refine j_getV C hwX4 3 0 0 (CR.n1 hC (by decide)) rfl rfl (by decide) rfl 0 (CR.v hC 3 0 0 ⟨rfl, by decide⟩ id) hL11 dX4_hasName_11 ?_
        refine j_iload_n C dX4_hasName_14 rfl 2 rfl ?_
        refine j_aald C 4 0 r9 (CR.n1 hC (by decide)) rfl (by decide) (by decide) 40 (CR.l1 hC (by decide)) (by omega) (by omega) r9 (CR.v hC 4 0 r9 ⟨rfl, show r9 < M 31 5 by omega⟩ id) dX4_hasName_15 ?_
        refine j_getV C hwX5 8 r9 2 (CR.n8 hC (by decide) (show r9 < M 31 5 by omega)) rfl rfl (by decide) rfl (M 60 r9) (CR.v hC 8 r9 2 ⟨show r9 < M 31 5 by omega, by decide, by decide⟩ id) hL32 dX4_hasName_16 ?_
        refine j_aload_n C dX4_hasName_19 rfl 1 rfl ?_
        refine c_i0 C (r_V C 1 (M 60 r9) [.ref (gA Λ 1 j)] (c_X7_compareWith l D cy base Λ σ (M 60 r9) (M 34 r9) (M 34 r9) (nmF M r9) (hLb r9 (by omega)).1 j m9 cp9 g hT) (cwV 1 hts gX4_hasName_X7_compareWith rfl rfl rfl (by decide +kernel) ⟨by decide, by decide⟩) (hLb r9 (by omega)).1.1 rfl rfl rfl rfl (Nat.le_of_ble_eq_true rfl) dX4_hasName_20 ⟨by decide, by decide⟩) (fun rv uu hq => ?_)
        rw [hq.2]
        refine j_if_ne (tgt := 28) C dX4_hasName_23 (by decide) (cmp_eq0 hq.1) (fun h23 => ?_) (fun h23 => ?_)
        · refine j_iinc C [(2, .int (nI (r9 + 1))), (0, .ref (gA Λ 3 0)), (1, .ref (gA Λ 1 j))] (nI (r9 + 1)) dX4_hasName_28 2 rfl (nI_add _ 1) (by decide) rfl ?_
          refine j_goto (tgt := 2) C dX4_hasName_31 (by decide) ?_
          refine j_lv [1, 2, 0] rfl ?_
          exact ih2 (r9 + 1) (by omega) (by omega) (fun r hr => by rcases Nat.lt_succ_iff_lt_or_eq.mp hr with z | z; exact hno r z; rw [z]; exact h23)
        · exact absurd h23 (hx r9 (by omega))
  refine j_lv [1, 2, 0] rfl ?_
  exact lb2 _ 0 (Nat.lt_succ_self _) (by omega) (fun r hr => absurd hr (Nat.not_lt_zero r))
