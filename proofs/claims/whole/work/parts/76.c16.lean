/-! ===== the search ===== -/
def GS (σ u : HS) : Prop := (∀ t, t ≠ 21 → t ≠ 22 → gI u t = gI σ t) ∧ (∀ t, t ≠ 20 → gJ u t = gJ σ t) ∧ gV u = gV σ
theorem GS.rf {σ : HS} : GS σ σ := ⟨fun _ _ _ => rfl, fun _ _ => rfl, rfl⟩
theorem GS.tr {σ u v : HS} (h : GS σ u) (g : GS u v) : GS σ v := ⟨fun t a b => (g.1 t a b).trans (h.1 t a b), fun t a => (g.2.1 t a).trans (h.2.1 t a), g.2.2.trans h.2.2⟩
theorem GS.i {σ u : HS} {k : Nat} {x : Int32} (h : GS σ u) : GS σ (sI u 21 0 k x) := ⟨fun t a b => by rw [gI_nk a]; exact h.1 t a b, h.2⟩
theorem GS.j {σ u : HS} {k : Nat} {x : Int64} (h : GS σ u) : GS σ (sJ u 20 0 k x) := ⟨h.1, fun t a => by rw [gJ_nk a]; exact h.2.1 t a, h.2.2⟩
theorem GS.r {σ u : HS} {g : Nat → Int32} (h : GS σ u) : GS σ (sR u 22 0 g) := ⟨fun t a b => by rw [gI_sRk b]; exact h.1 t a b, h.2⟩
theorem GS.cr {Λ : LY} {σ u : HS} {M : MM} (h : GS σ u) (hC : CR noEx Λ σ M) : CR noEx Λ u M := by
  refine ⟨hC.1, by rw [h.2.2]; exact hC.2.1, fun t i k ho he => ?_, fun t i k ho he => ?_, by rw [h.2.2]; exact hC.2.2.2.2⟩
  · rw [h.1 t (by intro e; subst e; exact ho.elim) (by intro e; subst e; exact ho.elim)]; exact hC.i t i k ho he
  · rw [h.2.1 t (by intro e; subst e; exact ho.elim)]; exact hC.j t i k ho he
theorem GS.same {σ u : HS} (h : GS σ u) : Same nCo σ u := fun t ht => ⟨h.1 t (by intro e; subst e; exact absurd ht (by decide)) (by intro e; subst e; exact absurd ht (by decide)), h.2.1 t (by intro e; subst e; exact absurd ht (by decide)), by rw [h.2.2]⟩
def fxP (M : MM) (i t : Nat) : Prop := ∃ x, x < i ∧ M 40 (hs M x) = t + 1
theorem fxP_yes {M : MM} {i t : Nat} (h : M 40 (hs M i) ≠ 0) : (fxP M i t ∨ t = M 40 (hs M i) - 1) ↔ fxP M (i + 1) t := by
  unfold fxP
  constructor
  · rintro (⟨x, h1, h2⟩ | e)
    · exact ⟨x, by omega, h2⟩
    · exact ⟨i, by omega, by omega⟩
  · rintro ⟨x, h1, h2⟩
    by_cases e : x = i
    · subst e; exact Or.inr (by omega)
    · exact Or.inl ⟨x, by omega, h2⟩
theorem fxP_no {M : MM} {i t : Nat} (h : M 40 (hs M i) = 0) : fxP M i t ↔ fxP M (i + 1) t := by
  unfold fxP
  constructor
  · rintro ⟨x, h1, h2⟩; exact ⟨x, by omega, h2⟩
  · rintro ⟨x, h1, h2⟩
    by_cases e : x = i
    · subst e; omega
    · exact ⟨x, by omega, h2⟩
set_option maxHeartbeats 4000000 in
set_option maxRecDepth 100000 in
theorem c_X6_fixedRooms (l : Launch) (D : va_G) (cy : Nat → ClassId) (base : Nat) (Λ : LY) (σ : HS) (M : MM) (hC : CR noEx Λ σ M) (hB : MBd M) : Met l yX6_fixedRooms wsX6_fixedRooms ({ frames := 4, cells := 0, slots := 0, locals := 60 }) (va_Pc [.ref (gA Λ 20 0)] (Wd D cy base Λ σ)) (va_Qi (fun v u => (∃ U, U < 64 ∧ v = nI U ∧ ∀ t, U.testBit t = true ↔ fxP M (hcN M) t) ∧ u = σ) (Wd D cy base Λ) (Ab base)) 0 0 (Ab base) := by
  refine j_start (cc := cX6_fixedRooms) (nL := 3) (ret := (some .int)) (lv := [(0, .ref (gA Λ 20 0))]) (by decide) rfl (Nat.le_of_ble_eq_true rfl) rfl ?_
  intro p e s m below meth c C hr hlk hnm
  have C : Cx p s m ([.ref (gA Λ 20 0)] : List Value).toArray c cX6_fixedRooms 3 RX6 wsX6_fixedRooms D cy base := C
  have hts := C.2.2.2.2.1
  have hwX4 : ∀ w ∈ u_ws RX4 TX4 6, w ∈ wsX6_fixedRooms := by decide +kernel
  have hwX5 : ∀ w ∈ u_ws RX5 TX5 13, w ∈ wsX6_fixedRooms := by decide +kernel
  have hwX6 : ∀ w ∈ u_ws RX6 TX6 4, w ∈ wsX6_fixedRooms := by decide +kernel
  have hM18 : (Cond.fieldLink RX6 18 (TX6 0).1 (TX6 0).2.1 (TX6 0).2.2.1).before ([.ref (gA Λ 20 0)] : List Value).toArray s = true := hts (.fieldLink RX6 18 "CodeRooms$Search" "plan" "LCodeRooms$Plan;") (by decide +kernel)
  have hL18 : FL RX6 18 (TX6 0).1 (TX6 0).2.1 (TX6 0).2.2.1 ([.ref (gA Λ 20 0)] : List Value).toArray s := Or.inl hM18
  have hL22 : FL RX6 22 (TX4 5).1 (TX4 5).2.1 (TX4 5).2.2.1 ([.ref (gA Λ 20 0)] : List Value).toArray s := Or.inr ⟨_, Ex.nestF C.2.2.2.2.2.2 nf_X6_22⟩
  have hL47 : FL RX6 47 (TX4 1).1 (TX4 1).2.1 (TX4 1).2.2.1 ([.ref (gA Λ 20 0)] : List Value).toArray s := Or.inr ⟨_, Ex.nestF C.2.2.2.2.2.2 nf_X6_47⟩
  have hL56 : FL RX6 56 (TX5 10).1 (TX5 10).2.1 (TX5 10).2.2.1 ([.ref (gA Λ 20 0)] : List Value).toArray s := Or.inr ⟨_, Ex.nestF C.2.2.2.2.2.2 nf_X6_56⟩
  have hn : M 31 5 ≤ 40 := hB 31 5 rfl
  have hhc0 := hcN_le M
  refine j_iconst C (nI 0) dX6_fixedRooms_0 (by decide) ?_
  refine j_istore_n C [(1, .int (nI 0)), (0, .ref (gA Λ 20 0))] dX6_fixedRooms_1 rfl (by decide) rfl ?_
  refine j_iconst C (nI 0) dX6_fixedRooms_2 (by decide) ?_
  refine j_istore_n C [(2, .int (nI 0)), (1, .int (nI 0)), (0, .ref (gA Λ 20 0))] dX6_fixedRooms_3 rfl (by decide) rfl ?_
  have lb4 : ∀ (fu : Nat) (U i : Nat), (hcN M - i) < fu → (i ≤ hcN M) → (U < 64) → (∀ t, U.testBit t = true ↔ fxP M i t) → J p l e ({ frames := 4, cells := 0, slots := 0, locals := 60 }) s m ([.ref (gA Λ 20 0)] : List Value).toArray below meth c 3 D cy base (MQ below (va_Qi (fun v u => (∃ U, U < 64 ∧ v = nI U ∧ ∀ t, U.testBit t = true ↔ fxP M (hcN M) t) ∧ u = σ) (Wd D cy base Λ) (Ab base)) ([.ref (gA Λ 20 0)] : List Value).toArray s 0 0 (Ab base)) 0 0 Λ 4 [(0, .ref (gA Λ 20 0)), (1, .int (nI U)), (2, .int (nI i))] [] σ := by
    intro fu
    induction fu with
    | zero => intro U i hfu; exact absurd hfu (Nat.not_lt_zero _)
    | succ fu ih =>
      intro U i hfu hi hU bU
      have ih4 := ih
      refine j_iload_n C dX6_fixedRooms_4 rfl 2 rfl ?_
      refine j_aload_n C dX6_fixedRooms_5 rfl 0 rfl ?_
      refine j_getV C hwX6 20 0 0 (CR.n1 hC (by decide)) rfl rfl (by decide) rfl 0 (CR.v hC 20 0 0 ⟨rfl, by decide⟩ id) hL18 dX6_fixedRooms_6 ?_
      have hhc9 := hcN_le M
      refine j_getI C hwX4 3 0 5 (CR.n1 hC (by decide)) rfl rfl (by decide) rfl (nI (hcN M)) (CR.i hC 3 0 5 ⟨rfl, Or.inr rfl⟩ id) hL22 dX6_fixedRooms_9 ?_
      refine j_icmp_ge (tgt := 54) C dX6_fixedRooms_12 (by decide) (nI_leI (by omega) (by omega)) (fun h12 => ?_) (fun h12 => ?_)
      · refine j_iload_n C dX6_fixedRooms_54 rfl 1 rfl ?_
        exact j_iret C hr hlk (⟨⟨U, hU, rfl, by have q := bU; rw [show i = hcN M by omega] at q; exact q⟩, rfl⟩) dX6_fixedRooms_55
      · refine j_aload_n C dX6_fixedRooms_15 rfl 0 rfl ?_
        refine j_getV C hwX6 20 0 0 (CR.n1 hC (by decide)) rfl rfl (by decide) rfl 0 (CR.v hC 20 0 0 ⟨rfl, by decide⟩ id) hL18 dX6_fixedRooms_16 ?_
        refine j_getV C hwX4 3 0 1 (CR.n1 hC (by decide)) rfl rfl (by decide) rfl 0 (CR.v hC 3 0 1 ⟨rfl, by decide⟩ id) hL47 dX6_fixedRooms_19 ?_
        refine j_iload_n C dX6_fixedRooms_22 rfl 2 rfl ?_
        have hhs23 := hs_lt (M := M) (k := i) (by omega)
        have hhn23 := hs_nh (M := M) (k := i) (by omega)
        refine j_aald C 5 0 i (CR.n1 hC (by decide)) rfl (by decide) (by decide) 40 (CR.l1 hC (by decide)) (by omega) (by omega) (hs M i) (CR.v hC 5 0 i ⟨rfl, by omega⟩ id) dX6_fixedRooms_23 ?_
        have hb24 : M 40 (hs M i) ≤ 6 := hB 40 (hs M i) (decide_eq_true (show hs M i < 40 by omega))
        refine j_getI C hwX5 8 (hs M i) 10 (CR.n8 hC (by decide) (show hs M i < M 31 5 by omega)) rfl rfl (by decide) rfl (nI (M 40 (hs M i)) - 1) (CR.i hC 8 (hs M i) 10 ⟨show hs M i < M 31 5 by omega, Or.inr (Or.inl rfl)⟩ id) hL56 dX6_fixedRooms_24 ?_
        refine j_iconst C ((-1)) dX6_fixedRooms_27 (by decide) ?_
        refine j_icmp_eq (tgt := 48) C dX6_fixedRooms_28 (by decide) (m1_eqm (by omega)) (fun h28 => ?_) (fun h28 => ?_)
        · refine j_iinc C [(2, .int (nI (i + 1))), (0, .ref (gA Λ 20 0)), (1, .int (nI U))] (nI (i + 1)) dX6_fixedRooms_48 2 rfl (nI_add _ 1) (by decide) rfl ?_
          refine j_goto (tgt := 4) C dX6_fixedRooms_51 (by decide) ?_
          refine j_lv [1, 2, 0] rfl ?_
          exact ih4 U (i + 1) (by omega) (by omega) hU (fun t => (bU t).trans (fxP_no h28))
        · refine j_iload_n C dX6_fixedRooms_31 rfl 1 rfl ?_
          refine j_iconst C (nI 1) dX6_fixedRooms_32 (by decide) ?_
          refine j_aload_n C dX6_fixedRooms_33 rfl 0 rfl ?_
          refine j_getV C hwX6 20 0 0 (CR.n1 hC (by decide)) rfl rfl (by decide) rfl 0 (CR.v hC 20 0 0 ⟨rfl, by decide⟩ id) hL18 dX6_fixedRooms_34 ?_
          refine j_getV C hwX4 3 0 1 (CR.n1 hC (by decide)) rfl rfl (by decide) rfl 0 (CR.v hC 3 0 1 ⟨rfl, by decide⟩ id) hL47 dX6_fixedRooms_37 ?_
          refine j_iload_n C dX6_fixedRooms_40 rfl 2 rfl ?_
          have hhs41 := hs_lt (M := M) (k := i) (by omega)
          have hhn41 := hs_nh (M := M) (k := i) (by omega)
          refine j_aald C 5 0 i (CR.n1 hC (by decide)) rfl (by decide) (by decide) 40 (CR.l1 hC (by decide)) (by omega) (by omega) (hs M i) (CR.v hC 5 0 i ⟨rfl, by omega⟩ id) dX6_fixedRooms_41 ?_
          have hb42 : M 40 (hs M i) ≤ 6 := hB 40 (hs M i) (decide_eq_true (show hs M i < 40 by omega))
          refine j_getI C hwX5 8 (hs M i) 10 (CR.n8 hC (by decide) (show hs M i < M 31 5 by omega)) rfl rfl (by decide) rfl (nI (M 40 (hs M i)) - 1) (CR.i hC 8 (hs M i) 10 ⟨show hs M i < M 31 5 by omega, Or.inr (Or.inl rfl)⟩ id) hL56 dX6_fixedRooms_42 ?_
          refine j_ishl C (nI (2 ^ (M 40 (hs M i) - 1))) dX6_fixedRooms_45 (by rw [m1_nI h28]; exact shl1 (by omega)) ?_
          refine j_ior C (nI (U ||| 2 ^ (M 40 (hs M i) - 1))) dX6_fixedRooms_46 (fa_or _ _) ?_
          refine j_istore_n C [(1, .int (nI (U ||| 2 ^ (M 40 (hs M i) - 1)))), (0, .ref (gA Λ 20 0)), (2, .int (nI i))] dX6_fixedRooms_47 rfl (by decide) rfl ?_
          refine j_iinc C [(2, .int (nI (i + 1))), (1, .int (nI (U ||| 2 ^ (M 40 (hs M i) - 1)))), (0, .ref (gA Λ 20 0))] (nI (i + 1)) dX6_fixedRooms_48 2 rfl (nI_add _ 1) (by decide) rfl ?_
          refine j_goto (tgt := 4) C dX6_fixedRooms_51 (by decide) ?_
          refine j_lv [2, 1, 0] rfl ?_
          exact ih4 (U ||| 2 ^ (M 40 (hs M i) - 1)) (i + 1) (by omega) (by omega) (or_lt hU (pow6 (by omega))) (fun t => by rw [bit_or_pow, Bool.or_eq_true, decide_eq_true_eq, bU]; exact fxP_yes h28)
  refine j_lv [2, 1, 0] rfl ?_
  exact lb4 _ 0 0 (Nat.lt_succ_self _) (by omega) (by decide) (fun t => by rw [Nat.zero_testBit]; exact ⟨fun z => absurd z (by decide), fun z => by obtain ⟨x, hx, -⟩ := z; omega⟩)

set_option maxHeartbeats 8000000 in
set_option maxRecDepth 100000 in
theorem c_X6_priceOfAdding (l : Launch) (D : va_G) (cy : Nat → ClassId) (base : Nat) (Λ : LY) (σ : HS) (M : MM) (hC : CR noEx Λ σ M) (hB : MBd M) (A : Nat → Nat) (d : Nat) (hd : d < hcN M) (hd9 : d < 9) (hA6 : ∀ i, i ≤ d → A i < 6) (hTr : ∀ i, i < d → gI σ 21 0 i = nI (A i)) : Met l yX6_priceOfAdding wsX6_priceOfAdding ({ frames := 8, cells := 0, slots := 0, locals := 120 }) (va_Pc [.ref (gA Λ 20 0), .int (nI d), .int (nI (A d))] (Wd D cy base Λ σ)) (va_Ql (fun v u => v = zL (padd M A d : Int) ∧ u = σ) (Wd D cy base Λ) (Ab base)) 0 0 (Ab base) := by
  refine j_start (cc := cX6_priceOfAdding) (nL := 10) (ret := (some .long)) (lv := [(0, .ref (gA Λ 20 0)), (1, .int (nI d)), (2, .int (nI (A d)))]) (by decide) rfl (Nat.le_of_ble_eq_true rfl) rfl ?_
  intro p e s m below meth c C hr hlk hnm
  have C : Cx p s m ([.ref (gA Λ 20 0), .int (nI d), .int (nI (A d))] : List Value).toArray c cX6_priceOfAdding 10 RX6 wsX6_priceOfAdding D cy base := C
  have hts := C.2.2.2.2.1
  have hwX4 : ∀ w ∈ u_ws RX4 TX4 6, w ∈ wsX6_priceOfAdding := by decide +kernel
  have hwX5 : ∀ w ∈ u_ws RX5 TX5 13, w ∈ wsX6_priceOfAdding := by decide +kernel
  have hwX6 : ∀ w ∈ u_ws RX6 TX6 4, w ∈ wsX6_priceOfAdding := by decide +kernel
  have hM9 : (Cond.fieldLink RX6 9 (TX6 1).1 (TX6 1).2.1 (TX6 1).2.2.1).before ([.ref (gA Λ 20 0), .int (nI d), .int (nI (A d))] : List Value).toArray s = true := hts (.fieldLink RX6 9 "CodeRooms$Search" "trial" "[I") (by decide +kernel)
  have hL9 : FL RX6 9 (TX6 1).1 (TX6 1).2.1 (TX6 1).2.2.1 ([.ref (gA Λ 20 0), .int (nI d), .int (nI (A d))] : List Value).toArray s := Or.inl hM9
  have hM18 : (Cond.fieldLink RX6 18 (TX6 0).1 (TX6 0).2.1 (TX6 0).2.2.1).before ([.ref (gA Λ 20 0), .int (nI d), .int (nI (A d))] : List Value).toArray s = true := hts (.fieldLink RX6 18 "CodeRooms$Search" "plan" "LCodeRooms$Plan;") (by decide +kernel)
  have hL18 : FL RX6 18 (TX6 0).1 (TX6 0).2.1 (TX6 0).2.2.1 ([.ref (gA Λ 20 0), .int (nI d), .int (nI (A d))] : List Value).toArray s := Or.inl hM18
  have hL47 : FL RX6 47 (TX4 1).1 (TX4 1).2.1 (TX4 1).2.2.1 ([.ref (gA Λ 20 0), .int (nI d), .int (nI (A d))] : List Value).toArray s := Or.inr ⟨_, Ex.nestF C.2.2.2.2.2.2 nf_X6_47⟩
  have hL56 : FL RX6 56 (TX5 10).1 (TX5 10).2.1 (TX5 10).2.2.1 ([.ref (gA Λ 20 0), .int (nI d), .int (nI (A d))] : List Value).toArray s := Or.inr ⟨_, Ex.nestF C.2.2.2.2.2.2 nf_X6_56⟩
  have hL74 : FL RX6 74 (TX5 0).1 (TX5 0).2.1 (TX5 0).2.2.1 ([.ref (gA Λ 20 0), .int (nI d), .int (nI (A d))] : List Value).toArray s := Or.inr ⟨_, Ex.nestF C.2.2.2.2.2.2 nf_X6_74⟩
  have hL77 : FL RX6 77 (TX5 5).1 (TX5 5).2.1 (TX5 5).2.2.1 ([.ref (gA Λ 20 0), .int (nI d), .int (nI (A d))] : List Value).toArray s := Or.inr ⟨_, Ex.nestF C.2.2.2.2.2.2 nf_X6_77⟩
  have hL80 : FL RX6 80 (TX5 4).1 (TX5 4).2.1 (TX5 4).2.2.1 ([.ref (gA Λ 20 0), .int (nI d), .int (nI (A d))] : List Value).toArray s := Or.inr ⟨_, Ex.nestF C.2.2.2.2.2.2 nf_X6_80⟩
  have hC72 : (Jvm.Cond.constantLong RX6 72 1000000).before ([.ref (gA Λ 20 0), .int (nI d), .int (nI (A d))] : List Value).toArray s = true := hts _ (by decide +kernel)
  have hC83 : (Jvm.Cond.constant RX6 83 1000000).before ([.ref (gA Λ 20 0), .int (nI d), .int (nI (A d))] : List Value).toArray s = true := hts _ (by decide +kernel)
  have hn : M 31 5 ≤ 40 := hB 31 5 rfl
  have hhc0 := hcN_le M
  have hAd := hA6 d (Nat.le_refl _)
  have hev : M 31 8 ≤ 100 := hB 31 8 rfl
  refine j_aload_n C dX6_priceOfAdding_0 rfl 0 rfl ?_
  refine j_getV C hwX6 20 0 0 (CR.n1 hC (by decide)) rfl rfl (by decide) rfl 0 (CR.v hC 20 0 0 ⟨rfl, by decide⟩ id) hL18 dX6_priceOfAdding_1 ?_
  refine j_getV C hwX4 3 0 1 (CR.n1 hC (by decide)) rfl rfl (by decide) rfl 0 (CR.v hC 3 0 1 ⟨rfl, by decide⟩ id) hL47 dX6_priceOfAdding_4 ?_
  refine j_iload_n C dX6_priceOfAdding_7 rfl 1 rfl ?_
  have hhs8 := hs_lt (M := M) (k := d) (by omega)
  have hhn8 := hs_nh (M := M) (k := d) (by omega)
  refine j_aald C 5 0 d (CR.n1 hC (by decide)) rfl (by decide) (by decide) 40 (CR.l1 hC (by decide)) (by omega) (by omega) (hs M d) (CR.v hC 5 0 d ⟨rfl, by omega⟩ id) dX6_priceOfAdding_8 ?_
  refine j_astore_n C [(3, .ref (gA Λ 8 (hs M d))), (0, .ref (gA Λ 20 0)), (1, .int (nI d)), (2, .int (nI (A d)))] dX6_priceOfAdding_9 rfl (by decide) rfl ?_
  refine j_aload_n C dX6_priceOfAdding_10 rfl 0 rfl ?_
  have hb11 : M 40 (hs M d) ≤ 6 := hB 40 (hs M d) (decide_eq_true (show hs M d < 40 by omega))
  refine j_getI C hwX5 8 (hs M d) 10 (CR.n8 hC (by decide) (show hs M d < M 31 5 by omega)) rfl rfl (by decide) rfl (nI (M 40 (hs M d)) - 1) (CR.i hC 8 (hs M d) 10 ⟨show hs M d < M 31 5 by omega, Or.inr (Or.inl rfl)⟩ id) hL56 dX6_priceOfAdding_11 ?_
  refine j_iconst C ((-1)) dX6_priceOfAdding_14 (by decide) ?_
  refine j_icmp_eq (tgt := 32) C dX6_priceOfAdding_15 (by decide) (m1_eqm (by omega)) (fun h15 => ?_) (fun h15 => ?_)
  · refine j_lconst C (zL 0) dX6_priceOfAdding_32 (by decide) ?_
    refine j_lstore C [(4, .long (zL 0)), (3, .ref (gA Λ 8 (hs M d))), (0, .ref (gA Λ 20 0)), (1, .int (nI d)), (2, .int (nI (A d)))] dX6_priceOfAdding_33 (by decide) rfl ?_
    refine j_iconst C (nI 0) dX6_priceOfAdding_35 (by decide) ?_
    refine j_istore C [(6, .int (nI 0)), (4, .long (zL 0)), (3, .ref (gA Λ 8 (hs M d))), (0, .ref (gA Λ 20 0)), (1, .int (nI d)), (2, .int (nI (A d)))] dX6_priceOfAdding_36 (by decide) rfl ?_
    refine j_iconst C (nI 0) dX6_priceOfAdding_38 (by decide) ?_
    refine j_istore C [(7, .int (nI 0)), (6, .int (nI 0)), (4, .long (zL 0)), (3, .ref (gA Λ 8 (hs M d))), (0, .ref (gA Λ 20 0)), (1, .int (nI d)), (2, .int (nI (A d)))] dX6_priceOfAdding_39 (by decide) rfl ?_
    have lb41 : ∀ (fu : Nat) (y : Int) (q i : Nat), (d - i) < fu → (i ≤ d) → (y = (((if fxB M (hs M d) (A d) = true then 1000000 else 0) + fb_sm (prI M A d) i : Nat) : Int)) → (q = fb_ct (fun x => decide (A x = A d)) i) → J p l e ({ frames := 8, cells := 0, slots := 0, locals := 120 }) s m ([.ref (gA Λ 20 0), .int (nI d), .int (nI (A d))] : List Value).toArray below meth c 10 D cy base (MQ below (va_Ql (fun v u => v = zL (padd M A d : Int) ∧ u = σ) (Wd D cy base Λ) (Ab base)) ([.ref (gA Λ 20 0), .int (nI d), .int (nI (A d))] : List Value).toArray s 0 0 (Ab base)) 0 0 Λ 41 [(0, .ref (gA Λ 20 0)), (1, .int (nI d)), (2, .int (nI (A d))), (3, .ref (gA Λ 8 (hs M d))), (4, .long (zL y)), (6, .int (nI q)), (7, .int (nI i))] [] σ := by
      intro fu
      induction fu with
      | zero => intro y q i hfu; exact absurd hfu (Nat.not_lt_zero _)
      | succ fu ih =>
        intro y q i hfu hi hy hq
        have hql := fb_ct_le (fun x => decide (A x = A d)) i
        have hhd := hs_lt (M := M) hd
        have ih41 := ih
        refine j_iload C dX6_priceOfAdding_41 6 rfl ?_
        refine j_iload_n C dX6_priceOfAdding_43 rfl 1 rfl ?_
        refine j_icmp_ge (tgt := 138) C dX6_priceOfAdding_44 (by decide) (nI_leI (by omega) (by omega)) (fun h44 => ?_) (fun h44 => ?_)
        · refine j_lload C dX6_priceOfAdding_138 4 rfl ?_
          refine j_aload_n C dX6_priceOfAdding_140 rfl 0 rfl ?_
          refine j_getV C hwX6 20 0 0 (CR.n1 hC (by decide)) rfl rfl (by decide) rfl 0 (CR.v hC 20 0 0 ⟨rfl, by decide⟩ id) hL18 dX6_priceOfAdding_141 ?_
          refine c_i0 C (r_V C 3 0 [] (c_X4_even l D cy base Λ σ M hC hB) (cwV 0 hts gX6_priceOfAdding_X4_even rfl rfl rfl (by decide +kernel) ⟨by decide, by decide⟩) (CR.n1 hC (by decide)) rfl rfl rfl rfl (Nat.le_of_ble_eq_true rfl) dX6_priceOfAdding_144 ⟨by decide, by decide⟩) (fun rv uu hp => ?_)
          rw [hp.1, hp.2]
          refine j_i2l C (zL (M 31 8 : Int)) dX6_priceOfAdding_147 (nI_zL (by omega)) ?_
          refine j_iconst C (nI 2) dX6_priceOfAdding_148 (by decide) ?_
          refine j_iload C dX6_priceOfAdding_149 5 rfl ?_
          refine j_imul C (nI (2 * q)) dX6_priceOfAdding_151 (pk_mul _ _) ?_
          refine j_iconst C (nI 1) dX6_priceOfAdding_152 (by decide) ?_
          refine j_iadd C (nI (2 * q + 1)) dX6_priceOfAdding_153 (nI_add _ _) ?_
          refine j_i2l C (zL (2 * q + 1 : Int)) dX6_priceOfAdding_154 (nI_zL (by omega)) ?_
          refine j_lmul C (zL ((M 31 8 : Int) * (2 * q + 1 : Int))) dX6_priceOfAdding_155 (zL_mul _ _) ?_
          refine j_ladd C (zL (y + ((M 31 8 : Int) * (2 * q + 1 : Int)))) dX6_priceOfAdding_156 (zL_add _ _) ?_
          exact j_lret C hr hlk (⟨by unfold padd alr; rw [hy, hq, show i = d by omega]; congr 1, rfl⟩) dX6_priceOfAdding_157
        · refine j_aload_n C dX6_priceOfAdding_47 rfl 0 rfl ?_
          refine j_getV C hwX6 20 0 0 (CR.n1 hC (by decide)) rfl rfl (by decide) rfl 0 (CR.v hC 20 0 0 ⟨rfl, by decide⟩ id) hL18 dX6_priceOfAdding_48 ?_
          refine j_getV C hwX4 3 0 1 (CR.n1 hC (by decide)) rfl rfl (by decide) rfl 0 (CR.v hC 3 0 1 ⟨rfl, by decide⟩ id) hL47 dX6_priceOfAdding_51 ?_
          refine j_iload C dX6_priceOfAdding_54 6 rfl ?_
          have hhs56 := hs_lt (M := M) (k := i) (by omega)
          have hhn56 := hs_nh (M := M) (k := i) (by omega)
          refine j_aald C 5 0 i (CR.n1 hC (by decide)) rfl (by decide) (by decide) 40 (CR.l1 hC (by decide)) (by omega) (by omega) (hs M i) (CR.v hC 5 0 i ⟨rfl, by omega⟩ id) dX6_priceOfAdding_56 ?_
          refine j_getI C hwX5 8 (hs M i) 0 (CR.n8 hC (by decide) (show hs M i < M 31 5 by omega)) rfl rfl (by decide) rfl (nI (hs M i)) (CR.i hC 8 (hs M i) 0 ⟨show hs M i < M 31 5 by omega, Or.inl rfl⟩ id) hL74 dX6_priceOfAdding_57 ?_
          refine j_istore C [(8, .int (nI (hs M i))), (0, .ref (gA Λ 20 0)), (1, .int (nI d)), (2, .int (nI (A d))), (3, .ref (gA Λ 8 (hs M d))), (4, .long (zL y)), (6, .int (nI q)), (7, .int (nI i))] dX6_priceOfAdding_60 (by decide) rfl ?_
          refine j_aload_n C dX6_priceOfAdding_62 rfl 4 rfl ?_
          refine j_getV C hwX5 8 (hs M d) 5 (CR.n8 hC (by decide) (show hs M d < M 31 5 by omega)) rfl rfl (by decide) rfl (hs M d) (CR.v hC 8 (hs M d) 5 ⟨show hs M d < M 31 5 by omega, by decide, by decide⟩ id) hL77 dX6_priceOfAdding_63 ?_
          refine j_iload C dX6_priceOfAdding_66 0 rfl ?_
          have hb68 : M 39 (40 * (hs M d) + (hs M i)) ≤ 2 := hB 39 _ (decide_eq_true (show 40 * (hs M d) + (hs M i) < 1600 by omega))
          refine j_iald C 12 (hs M d) (hs M i) (CR.n8 hC (by decide) (show hs M d < M 31 5 by omega)) rfl rfl 40 (CR.l8 hC (show hs M d < M 31 5 by omega)).2.2.1 (by omega) (by omega) (nI (M 39 (40 * (hs M d) + (hs M i)))) (CR.i hC 12 (hs M d) (hs M i) ⟨show hs M d < M 31 5 by omega, by omega⟩ id) dX6_priceOfAdding_68 ?_
          refine j_istore C [(9, .int (nI (M 39 (40 * (hs M d) + (hs M i))))), (8, .int (nI (hs M i))), (0, .ref (gA Λ 20 0)), (1, .int (nI d)), (2, .int (nI (A d))), (3, .ref (gA Λ 8 (hs M d))), (4, .long (zL y)), (6, .int (nI q)), (7, .int (nI i))] dX6_priceOfAdding_69 (by decide) rfl ?_
          refine j_aload_n C dX6_priceOfAdding_71 rfl 2 rfl ?_
          refine j_getV C hwX6 20 0 1 (CR.n1 hC (by decide)) rfl rfl (by decide) rfl 0 (CR.v hC 20 0 1 ⟨rfl, by decide⟩ id) hL9 dX6_priceOfAdding_72 ?_
          refine j_iload C dX6_priceOfAdding_75 8 rfl ?_
          have hA77 := hA6 i (by omega)
          refine j_iald C 21 0 i (CR.n1 hC (by decide)) rfl rfl 9 (CR.l1 hC (by decide)) (by omega) (by omega) (nI (A i)) (hTr _ (by omega)) dX6_priceOfAdding_77 ?_
          refine j_iload_n C dX6_priceOfAdding_78 rfl 4 rfl ?_
          refine j_icmp_ne (tgt := 106) C dX6_priceOfAdding_79 (by decide) (nI_eq (by omega) (by omega)) (fun h79 => ?_) (fun h79 => ?_)
          · refine j_lload C dX6_priceOfAdding_106 6 rfl ?_
            refine j_aload_n C dX6_priceOfAdding_108 rfl 5 rfl ?_
            refine j_getV C hwX5 8 (hs M d) 4 (CR.n8 hC (by decide) (show hs M d < M 31 5 by omega)) rfl rfl (by decide) rfl (hs M d) (CR.v hC 8 (hs M d) 4 ⟨show hs M d < M 31 5 by omega, by decide, by decide⟩ id) hL80 dX6_priceOfAdding_109 ?_
            refine j_iload C dX6_priceOfAdding_112 1 rfl ?_
            have hb114 := tieN_le hB (a := (hs M d)) (b := (hs M i)) (by omega) (by omega)
            refine j_iald C 11 (hs M d) (hs M i) (CR.n8 hC (by decide) (show hs M d < M 31 5 by omega)) rfl rfl 40 (CR.l8 hC (show hs M d < M 31 5 by omega)).2.1 (by omega) (by omega) (nI (tieN M (hs M d) (hs M i))) (CR.i hC 11 (hs M d) (hs M i) ⟨show hs M d < M 31 5 by omega, by omega⟩ id) dX6_priceOfAdding_114 ?_
            refine j_iload C dX6_priceOfAdding_115 0 rfl ?_
            refine j_iconst C (nI 1) dX6_priceOfAdding_117 (by decide) ?_
            refine j_icmp_ne (tgt := 126) C dX6_priceOfAdding_118 (by decide) (nI_eq (by omega) (by omega)) (fun h118 => ?_) (fun h118 => ?_)
            · refine j_iconst C (nI 0) dX6_priceOfAdding_126 (by decide) ?_
              refine j_iadd C (nI (tieN M (hs M d) (hs M i) + 0)) dX6_priceOfAdding_127 (nI_add _ _) ?_
              refine j_i2l C (zL ((tieN M (hs M d) (hs M i) + 0 : Nat) : Int)) dX6_priceOfAdding_128 (nI_zL (by omega)) ?_
              refine j_ladd C (zL (y + ((tieN M (hs M d) (hs M i) + 0 : Nat) : Int))) dX6_priceOfAdding_129 (zL_add _ _) ?_
              refine j_lstore C [(4, .long (zL (y + ((tieN M (hs M d) (hs M i) + 0 : Nat) : Int)))), (9, .int (nI (M 39 (40 * (hs M d) + (hs M i))))), (8, .int (nI (hs M i))), (0, .ref (gA Λ 20 0)), (1, .int (nI d)), (2, .int (nI (A d))), (3, .ref (gA Λ 8 (hs M d))), (6, .int (nI q)), (7, .int (nI i))] dX6_priceOfAdding_130 (by decide) rfl ?_
              refine j_iinc C [(7, .int (nI (i + 1))), (4, .long (zL (y + ((tieN M (hs M d) (hs M i) + 0 : Nat) : Int)))), (9, .int (nI (M 39 (40 * (hs M d) + (hs M i))))), (8, .int (nI (hs M i))), (0, .ref (gA Λ 20 0)), (1, .int (nI d)), (2, .int (nI (A d))), (3, .ref (gA Λ 8 (hs M d))), (6, .int (nI q))] (nI (i + 1)) dX6_priceOfAdding_132 8 rfl (nI_add _ 1) (by decide) rfl ?_
              refine j_goto (tgt := 41) C dX6_priceOfAdding_135 (by decide) ?_
              refine j_lv [4, 5, 6, 7, 1, 8, 0] rfl ?_
              exact ih41 (y + ((tieN M (hs M d) (hs M i) + 0 : Nat) : Int)) q (i + 1) (by omega) (by omega) (by have hpr : prI M A d i = tieN M (hs M d) (hs M i) + 0 := (by unfold prI; rw [if_neg (by omega), if_neg h118]); rw [fb_sm_succ, hpr, hy]; omega) (by rw [fb_ct_succ, ← hq, if_neg (fun z => absurd (of_decide_eq_true z) (by omega))]; (show q = q + 0); rw [Nat.add_zero])
            · refine j_ldc C (nI 1000000) hC83 dX6_priceOfAdding_121 (by decide) ?_
              refine j_goto (tgt := 127) C dX6_priceOfAdding_123 (by decide) ?_
              refine j_iadd C (nI (tieN M (hs M d) (hs M i) + 1000000)) dX6_priceOfAdding_127 (nI_add _ _) ?_
              refine j_i2l C (zL ((tieN M (hs M d) (hs M i) + 1000000 : Nat) : Int)) dX6_priceOfAdding_128 (nI_zL (by omega)) ?_
              refine j_ladd C (zL (y + ((tieN M (hs M d) (hs M i) + 1000000 : Nat) : Int))) dX6_priceOfAdding_129 (zL_add _ _) ?_
              refine j_lstore C [(4, .long (zL (y + ((tieN M (hs M d) (hs M i) + 1000000 : Nat) : Int)))), (9, .int (nI (M 39 (40 * (hs M d) + (hs M i))))), (8, .int (nI (hs M i))), (0, .ref (gA Λ 20 0)), (1, .int (nI d)), (2, .int (nI (A d))), (3, .ref (gA Λ 8 (hs M d))), (6, .int (nI q)), (7, .int (nI i))] dX6_priceOfAdding_130 (by decide) rfl ?_
              refine j_iinc C [(7, .int (nI (i + 1))), (4, .long (zL (y + ((tieN M (hs M d) (hs M i) + 1000000 : Nat) : Int)))), (9, .int (nI (M 39 (40 * (hs M d) + (hs M i))))), (8, .int (nI (hs M i))), (0, .ref (gA Λ 20 0)), (1, .int (nI d)), (2, .int (nI (A d))), (3, .ref (gA Λ 8 (hs M d))), (6, .int (nI q))] (nI (i + 1)) dX6_priceOfAdding_132 8 rfl (nI_add _ 1) (by decide) rfl ?_
              refine j_goto (tgt := 41) C dX6_priceOfAdding_135 (by decide) ?_
              refine j_lv [4, 5, 6, 7, 1, 8, 0] rfl ?_
              exact ih41 (y + ((tieN M (hs M d) (hs M i) + 1000000 : Nat) : Int)) q (i + 1) (by omega) (by omega) (by have hpr : prI M A d i = tieN M (hs M d) (hs M i) + 1000000 := (by unfold prI; rw [if_neg (by omega), if_pos h118]); rw [fb_sm_succ, hpr, hy]; omega) (by rw [fb_ct_succ, ← hq, if_neg (fun z => absurd (of_decide_eq_true z) (by omega))]; (show q = q + 0); rw [Nat.add_zero])
          · refine j_iinc C [(6, .int (nI (q + 1))), (9, .int (nI (M 39 (40 * (hs M d) + (hs M i))))), (8, .int (nI (hs M i))), (0, .ref (gA Λ 20 0)), (1, .int (nI d)), (2, .int (nI (A d))), (3, .ref (gA Λ 8 (hs M d))), (4, .long (zL y)), (7, .int (nI i))] (nI (q + 1)) dX6_priceOfAdding_82 7 rfl (nI_add _ 1) (by decide) rfl ?_
            refine j_lload C dX6_priceOfAdding_85 7 rfl ?_
            refine j_iload C dX6_priceOfAdding_87 1 rfl ?_
            refine j_iconst C (nI 2) dX6_priceOfAdding_89 (by decide) ?_
            refine j_icmp_ne (tgt := 99) C dX6_priceOfAdding_90 (by decide) (nI_eq (by omega) (by omega)) (fun h90 => ?_) (fun h90 => ?_)
            · refine j_lconst C (zL 0) dX6_priceOfAdding_99 (by decide) ?_
              refine j_ladd C (zL (y + 0)) dX6_priceOfAdding_100 (zL_add _ _) ?_
              refine j_lstore C [(4, .long (zL (y + 0))), (6, .int (nI (q + 1))), (9, .int (nI (M 39 (40 * (hs M d) + (hs M i))))), (8, .int (nI (hs M i))), (0, .ref (gA Λ 20 0)), (1, .int (nI d)), (2, .int (nI (A d))), (3, .ref (gA Λ 8 (hs M d))), (7, .int (nI i))] dX6_priceOfAdding_101 (by decide) rfl ?_
              refine j_goto (tgt := 132) C dX6_priceOfAdding_103 (by decide) ?_
              refine j_iinc C [(7, .int (nI (i + 1))), (4, .long (zL (y + 0))), (6, .int (nI (q + 1))), (9, .int (nI (M 39 (40 * (hs M d) + (hs M i))))), (8, .int (nI (hs M i))), (0, .ref (gA Λ 20 0)), (1, .int (nI d)), (2, .int (nI (A d))), (3, .ref (gA Λ 8 (hs M d)))] (nI (i + 1)) dX6_priceOfAdding_132 8 rfl (nI_add _ 1) (by decide) rfl ?_
              refine j_goto (tgt := 41) C dX6_priceOfAdding_135 (by decide) ?_
              refine j_lv [5, 6, 7, 8, 1, 2, 0] rfl ?_
              exact ih41 (y + 0) (q + 1) (i + 1) (by omega) (by omega) (by have hpr : prI M A d i = 0 := (by unfold prI; rw [if_pos (by omega), if_neg h90]); rw [fb_sm_succ, hpr, hy]; omega) (by rw [fb_ct_succ, ← hq, if_pos (decide_eq_true (by omega))])
            · refine j_ldc2 C (zL 1000000) hC72 dX6_priceOfAdding_93 (by decide) ?_
              refine j_goto (tgt := 100) C dX6_priceOfAdding_96 (by decide) ?_
              refine j_ladd C (zL (y + 1000000)) dX6_priceOfAdding_100 (zL_add _ _) ?_
              refine j_lstore C [(4, .long (zL (y + 1000000))), (6, .int (nI (q + 1))), (9, .int (nI (M 39 (40 * (hs M d) + (hs M i))))), (8, .int (nI (hs M i))), (0, .ref (gA Λ 20 0)), (1, .int (nI d)), (2, .int (nI (A d))), (3, .ref (gA Λ 8 (hs M d))), (7, .int (nI i))] dX6_priceOfAdding_101 (by decide) rfl ?_
              refine j_goto (tgt := 132) C dX6_priceOfAdding_103 (by decide) ?_
              refine j_iinc C [(7, .int (nI (i + 1))), (4, .long (zL (y + 1000000))), (6, .int (nI (q + 1))), (9, .int (nI (M 39 (40 * (hs M d) + (hs M i))))), (8, .int (nI (hs M i))), (0, .ref (gA Λ 20 0)), (1, .int (nI d)), (2, .int (nI (A d))), (3, .ref (gA Λ 8 (hs M d)))] (nI (i + 1)) dX6_priceOfAdding_132 8 rfl (nI_add _ 1) (by decide) rfl ?_
              refine j_goto (tgt := 41) C dX6_priceOfAdding_135 (by decide) ?_
              refine j_lv [5, 6, 7, 8, 1, 2, 0] rfl ?_
              exact ih41 (y + 1000000) (q + 1) (i + 1) (by omega) (by omega) (by have hpr : prI M A d i = 1000000 := (by unfold prI; rw [if_pos (by omega), if_pos h90]); rw [fb_sm_succ, hpr, hy]; omega) (by rw [fb_ct_succ, ← hq, if_pos (decide_eq_true (by omega))])
    refine j_lv [4, 5, 6, 3, 2, 1, 0] rfl ?_
    exact lb41 _ 0 0 0 (Nat.lt_succ_self _) (by omega) (by show _ = (((if fxB M (hs M d) (A d) = true then 1000000 else 0) + 0 : Nat) : Int); rw [if_neg (by unfold fxB; rw [decide_eq_true_eq]; omega)]; rfl) rfl
  · refine j_aload_n C dX6_priceOfAdding_18 rfl 0 rfl ?_
    have hb19 : M 40 (hs M d) ≤ 6 := hB 40 (hs M d) (decide_eq_true (show hs M d < 40 by omega))
    refine j_getI C hwX5 8 (hs M d) 10 (CR.n8 hC (by decide) (show hs M d < M 31 5 by omega)) rfl rfl (by decide) rfl (nI (M 40 (hs M d)) - 1) (CR.i hC 8 (hs M d) 10 ⟨show hs M d < M 31 5 by omega, Or.inr (Or.inl rfl)⟩ id) hL56 dX6_priceOfAdding_19 ?_
    refine j_iload_n C dX6_priceOfAdding_22 rfl 3 rfl ?_
    refine j_icmp_eq (tgt := 32) C dX6_priceOfAdding_23 (by decide) (m1_eq (by omega) (by omega)) (fun h23 => ?_) (fun h23 => ?_)
    · refine j_lconst C (zL 0) dX6_priceOfAdding_32 (by decide) ?_
      refine j_lstore C [(4, .long (zL 0)), (3, .ref (gA Λ 8 (hs M d))), (0, .ref (gA Λ 20 0)), (1, .int (nI d)), (2, .int (nI (A d)))] dX6_priceOfAdding_33 (by decide) rfl ?_
      refine j_iconst C (nI 0) dX6_priceOfAdding_35 (by decide) ?_
      refine j_istore C [(6, .int (nI 0)), (4, .long (zL 0)), (3, .ref (gA Λ 8 (hs M d))), (0, .ref (gA Λ 20 0)), (1, .int (nI d)), (2, .int (nI (A d)))] dX6_priceOfAdding_36 (by decide) rfl ?_
      refine j_iconst C (nI 0) dX6_priceOfAdding_38 (by decide) ?_
      refine j_istore C [(7, .int (nI 0)), (6, .int (nI 0)), (4, .long (zL 0)), (3, .ref (gA Λ 8 (hs M d))), (0, .ref (gA Λ 20 0)), (1, .int (nI d)), (2, .int (nI (A d)))] dX6_priceOfAdding_39 (by decide) rfl ?_
      have lb41 : ∀ (fu : Nat) (y : Int) (q i : Nat), (d - i) < fu → (i ≤ d) → (y = (((if fxB M (hs M d) (A d) = true then 1000000 else 0) + fb_sm (prI M A d) i : Nat) : Int)) → (q = fb_ct (fun x => decide (A x = A d)) i) → J p l e ({ frames := 8, cells := 0, slots := 0, locals := 120 }) s m ([.ref (gA Λ 20 0), .int (nI d), .int (nI (A d))] : List Value).toArray below meth c 10 D cy base (MQ below (va_Ql (fun v u => v = zL (padd M A d : Int) ∧ u = σ) (Wd D cy base Λ) (Ab base)) ([.ref (gA Λ 20 0), .int (nI d), .int (nI (A d))] : List Value).toArray s 0 0 (Ab base)) 0 0 Λ 41 [(0, .ref (gA Λ 20 0)), (1, .int (nI d)), (2, .int (nI (A d))), (3, .ref (gA Λ 8 (hs M d))), (4, .long (zL y)), (6, .int (nI q)), (7, .int (nI i))] [] σ := by
        intro fu
        induction fu with
        | zero => intro y q i hfu; exact absurd hfu (Nat.not_lt_zero _)
        | succ fu ih =>
          intro y q i hfu hi hy hq
          have hql := fb_ct_le (fun x => decide (A x = A d)) i
          have hhd := hs_lt (M := M) hd
          have ih41 := ih
          refine j_iload C dX6_priceOfAdding_41 6 rfl ?_
          refine j_iload_n C dX6_priceOfAdding_43 rfl 1 rfl ?_
          refine j_icmp_ge (tgt := 138) C dX6_priceOfAdding_44 (by decide) (nI_leI (by omega) (by omega)) (fun h44 => ?_) (fun h44 => ?_)
          · refine j_lload C dX6_priceOfAdding_138 4 rfl ?_
            refine j_aload_n C dX6_priceOfAdding_140 rfl 0 rfl ?_
            refine j_getV C hwX6 20 0 0 (CR.n1 hC (by decide)) rfl rfl (by decide) rfl 0 (CR.v hC 20 0 0 ⟨rfl, by decide⟩ id) hL18 dX6_priceOfAdding_141 ?_
            refine c_i0 C (r_V C 3 0 [] (c_X4_even l D cy base Λ σ M hC hB) (cwV 0 hts gX6_priceOfAdding_X4_even rfl rfl rfl (by decide +kernel) ⟨by decide, by decide⟩) (CR.n1 hC (by decide)) rfl rfl rfl rfl (Nat.le_of_ble_eq_true rfl) dX6_priceOfAdding_144 ⟨by decide, by decide⟩) (fun rv uu hp => ?_)
            rw [hp.1, hp.2]
            refine j_i2l C (zL (M 31 8 : Int)) dX6_priceOfAdding_147 (nI_zL (by omega)) ?_
            refine j_iconst C (nI 2) dX6_priceOfAdding_148 (by decide) ?_
            refine j_iload C dX6_priceOfAdding_149 5 rfl ?_
            refine j_imul C (nI (2 * q)) dX6_priceOfAdding_151 (pk_mul _ _) ?_
            refine j_iconst C (nI 1) dX6_priceOfAdding_152 (by decide) ?_
            refine j_iadd C (nI (2 * q + 1)) dX6_priceOfAdding_153 (nI_add _ _) ?_
            refine j_i2l C (zL (2 * q + 1 : Int)) dX6_priceOfAdding_154 (nI_zL (by omega)) ?_
            refine j_lmul C (zL ((M 31 8 : Int) * (2 * q + 1 : Int))) dX6_priceOfAdding_155 (zL_mul _ _) ?_
            refine j_ladd C (zL (y + ((M 31 8 : Int) * (2 * q + 1 : Int)))) dX6_priceOfAdding_156 (zL_add _ _) ?_
            exact j_lret C hr hlk (⟨by unfold padd alr; rw [hy, hq, show i = d by omega]; congr 1, rfl⟩) dX6_priceOfAdding_157
          · refine j_aload_n C dX6_priceOfAdding_47 rfl 0 rfl ?_
            refine j_getV C hwX6 20 0 0 (CR.n1 hC (by decide)) rfl rfl (by decide) rfl 0 (CR.v hC 20 0 0 ⟨rfl, by decide⟩ id) hL18 dX6_priceOfAdding_48 ?_
            refine j_getV C hwX4 3 0 1 (CR.n1 hC (by decide)) rfl rfl (by decide) rfl 0 (CR.v hC 3 0 1 ⟨rfl, by decide⟩ id) hL47 dX6_priceOfAdding_51 ?_
            refine j_iload C dX6_priceOfAdding_54 6 rfl ?_
            have hhs56 := hs_lt (M := M) (k := i) (by omega)
            have hhn56 := hs_nh (M := M) (k := i) (by omega)
            refine j_aald C 5 0 i (CR.n1 hC (by decide)) rfl (by decide) (by decide) 40 (CR.l1 hC (by decide)) (by omega) (by omega) (hs M i) (CR.v hC 5 0 i ⟨rfl, by omega⟩ id) dX6_priceOfAdding_56 ?_
            refine j_getI C hwX5 8 (hs M i) 0 (CR.n8 hC (by decide) (show hs M i < M 31 5 by omega)) rfl rfl (by decide) rfl (nI (hs M i)) (CR.i hC 8 (hs M i) 0 ⟨show hs M i < M 31 5 by omega, Or.inl rfl⟩ id) hL74 dX6_priceOfAdding_57 ?_
            refine j_istore C [(8, .int (nI (hs M i))), (0, .ref (gA Λ 20 0)), (1, .int (nI d)), (2, .int (nI (A d))), (3, .ref (gA Λ 8 (hs M d))), (4, .long (zL y)), (6, .int (nI q)), (7, .int (nI i))] dX6_priceOfAdding_60 (by decide) rfl ?_
            refine j_aload_n C dX6_priceOfAdding_62 rfl 4 rfl ?_
            refine j_getV C hwX5 8 (hs M d) 5 (CR.n8 hC (by decide) (show hs M d < M 31 5 by omega)) rfl rfl (by decide) rfl (hs M d) (CR.v hC 8 (hs M d) 5 ⟨show hs M d < M 31 5 by omega, by decide, by decide⟩ id) hL77 dX6_priceOfAdding_63 ?_
            refine j_iload C dX6_priceOfAdding_66 0 rfl ?_
            have hb68 : M 39 (40 * (hs M d) + (hs M i)) ≤ 2 := hB 39 _ (decide_eq_true (show 40 * (hs M d) + (hs M i) < 1600 by omega))
            refine j_iald C 12 (hs M d) (hs M i) (CR.n8 hC (by decide) (show hs M d < M 31 5 by omega)) rfl rfl 40 (CR.l8 hC (show hs M d < M 31 5 by omega)).2.2.1 (by omega) (by omega) (nI (M 39 (40 * (hs M d) + (hs M i)))) (CR.i hC 12 (hs M d) (hs M i) ⟨show hs M d < M 31 5 by omega, by omega⟩ id) dX6_priceOfAdding_68 ?_
            refine j_istore C [(9, .int (nI (M 39 (40 * (hs M d) + (hs M i))))), (8, .int (nI (hs M i))), (0, .ref (gA Λ 20 0)), (1, .int (nI d)), (2, .int (nI (A d))), (3, .ref (gA Λ 8 (hs M d))), (4, .long (zL y)), (6, .int (nI q)), (7, .int (nI i))] dX6_priceOfAdding_69 (by decide) rfl ?_
            refine j_aload_n C dX6_priceOfAdding_71 rfl 2 rfl ?_
            refine j_getV C hwX6 20 0 1 (CR.n1 hC (by decide)) rfl rfl (by decide) rfl 0 (CR.v hC 20 0 1 ⟨rfl, by decide⟩ id) hL9 dX6_priceOfAdding_72 ?_
            refine j_iload C dX6_priceOfAdding_75 8 rfl ?_
            have hA77 := hA6 i (by omega)
            refine j_iald C 21 0 i (CR.n1 hC (by decide)) rfl rfl 9 (CR.l1 hC (by decide)) (by omega) (by omega) (nI (A i)) (hTr _ (by omega)) dX6_priceOfAdding_77 ?_
            refine j_iload_n C dX6_priceOfAdding_78 rfl 4 rfl ?_
            refine j_icmp_ne (tgt := 106) C dX6_priceOfAdding_79 (by decide) (nI_eq (by omega) (by omega)) (fun h79 => ?_) (fun h79 => ?_)
            · refine j_lload C dX6_priceOfAdding_106 6 rfl ?_
              refine j_aload_n C dX6_priceOfAdding_108 rfl 5 rfl ?_
              refine j_getV C hwX5 8 (hs M d) 4 (CR.n8 hC (by decide) (show hs M d < M 31 5 by omega)) rfl rfl (by decide) rfl (hs M d) (CR.v hC 8 (hs M d) 4 ⟨show hs M d < M 31 5 by omega, by decide, by decide⟩ id) hL80 dX6_priceOfAdding_109 ?_
              refine j_iload C dX6_priceOfAdding_112 1 rfl ?_
              have hb114 := tieN_le hB (a := (hs M d)) (b := (hs M i)) (by omega) (by omega)
              refine j_iald C 11 (hs M d) (hs M i) (CR.n8 hC (by decide) (show hs M d < M 31 5 by omega)) rfl rfl 40 (CR.l8 hC (show hs M d < M 31 5 by omega)).2.1 (by omega) (by omega) (nI (tieN M (hs M d) (hs M i))) (CR.i hC 11 (hs M d) (hs M i) ⟨show hs M d < M 31 5 by omega, by omega⟩ id) dX6_priceOfAdding_114 ?_
              refine j_iload C dX6_priceOfAdding_115 0 rfl ?_
              refine j_iconst C (nI 1) dX6_priceOfAdding_117 (by decide) ?_
              refine j_icmp_ne (tgt := 126) C dX6_priceOfAdding_118 (by decide) (nI_eq (by omega) (by omega)) (fun h118 => ?_) (fun h118 => ?_)
              · refine j_iconst C (nI 0) dX6_priceOfAdding_126 (by decide) ?_
                refine j_iadd C (nI (tieN M (hs M d) (hs M i) + 0)) dX6_priceOfAdding_127 (nI_add _ _) ?_
                refine j_i2l C (zL ((tieN M (hs M d) (hs M i) + 0 : Nat) : Int)) dX6_priceOfAdding_128 (nI_zL (by omega)) ?_
                refine j_ladd C (zL (y + ((tieN M (hs M d) (hs M i) + 0 : Nat) : Int))) dX6_priceOfAdding_129 (zL_add _ _) ?_
                refine j_lstore C [(4, .long (zL (y + ((tieN M (hs M d) (hs M i) + 0 : Nat) : Int)))), (9, .int (nI (M 39 (40 * (hs M d) + (hs M i))))), (8, .int (nI (hs M i))), (0, .ref (gA Λ 20 0)), (1, .int (nI d)), (2, .int (nI (A d))), (3, .ref (gA Λ 8 (hs M d))), (6, .int (nI q)), (7, .int (nI i))] dX6_priceOfAdding_130 (by decide) rfl ?_
                refine j_iinc C [(7, .int (nI (i + 1))), (4, .long (zL (y + ((tieN M (hs M d) (hs M i) + 0 : Nat) : Int)))), (9, .int (nI (M 39 (40 * (hs M d) + (hs M i))))), (8, .int (nI (hs M i))), (0, .ref (gA Λ 20 0)), (1, .int (nI d)), (2, .int (nI (A d))), (3, .ref (gA Λ 8 (hs M d))), (6, .int (nI q))] (nI (i + 1)) dX6_priceOfAdding_132 8 rfl (nI_add _ 1) (by decide) rfl ?_
                refine j_goto (tgt := 41) C dX6_priceOfAdding_135 (by decide) ?_
                refine j_lv [4, 5, 6, 7, 1, 8, 0] rfl ?_
                exact ih41 (y + ((tieN M (hs M d) (hs M i) + 0 : Nat) : Int)) q (i + 1) (by omega) (by omega) (by have hpr : prI M A d i = tieN M (hs M d) (hs M i) + 0 := (by unfold prI; rw [if_neg (by omega), if_neg h118]); rw [fb_sm_succ, hpr, hy]; omega) (by rw [fb_ct_succ, ← hq, if_neg (fun z => absurd (of_decide_eq_true z) (by omega))]; (show q = q + 0); rw [Nat.add_zero])
              · refine j_ldc C (nI 1000000) hC83 dX6_priceOfAdding_121 (by decide) ?_
                refine j_goto (tgt := 127) C dX6_priceOfAdding_123 (by decide) ?_
                refine j_iadd C (nI (tieN M (hs M d) (hs M i) + 1000000)) dX6_priceOfAdding_127 (nI_add _ _) ?_
                refine j_i2l C (zL ((tieN M (hs M d) (hs M i) + 1000000 : Nat) : Int)) dX6_priceOfAdding_128 (nI_zL (by omega)) ?_
                refine j_ladd C (zL (y + ((tieN M (hs M d) (hs M i) + 1000000 : Nat) : Int))) dX6_priceOfAdding_129 (zL_add _ _) ?_
                refine j_lstore C [(4, .long (zL (y + ((tieN M (hs M d) (hs M i) + 1000000 : Nat) : Int)))), (9, .int (nI (M 39 (40 * (hs M d) + (hs M i))))), (8, .int (nI (hs M i))), (0, .ref (gA Λ 20 0)), (1, .int (nI d)), (2, .int (nI (A d))), (3, .ref (gA Λ 8 (hs M d))), (6, .int (nI q)), (7, .int (nI i))] dX6_priceOfAdding_130 (by decide) rfl ?_
                refine j_iinc C [(7, .int (nI (i + 1))), (4, .long (zL (y + ((tieN M (hs M d) (hs M i) + 1000000 : Nat) : Int)))), (9, .int (nI (M 39 (40 * (hs M d) + (hs M i))))), (8, .int (nI (hs M i))), (0, .ref (gA Λ 20 0)), (1, .int (nI d)), (2, .int (nI (A d))), (3, .ref (gA Λ 8 (hs M d))), (6, .int (nI q))] (nI (i + 1)) dX6_priceOfAdding_132 8 rfl (nI_add _ 1) (by decide) rfl ?_
                refine j_goto (tgt := 41) C dX6_priceOfAdding_135 (by decide) ?_
                refine j_lv [4, 5, 6, 7, 1, 8, 0] rfl ?_
                exact ih41 (y + ((tieN M (hs M d) (hs M i) + 1000000 : Nat) : Int)) q (i + 1) (by omega) (by omega) (by have hpr : prI M A d i = tieN M (hs M d) (hs M i) + 1000000 := (by unfold prI; rw [if_neg (by omega), if_pos h118]); rw [fb_sm_succ, hpr, hy]; omega) (by rw [fb_ct_succ, ← hq, if_neg (fun z => absurd (of_decide_eq_true z) (by omega))]; (show q = q + 0); rw [Nat.add_zero])
            · refine j_iinc C [(6, .int (nI (q + 1))), (9, .int (nI (M 39 (40 * (hs M d) + (hs M i))))), (8, .int (nI (hs M i))), (0, .ref (gA Λ 20 0)), (1, .int (nI d)), (2, .int (nI (A d))), (3, .ref (gA Λ 8 (hs M d))), (4, .long (zL y)), (7, .int (nI i))] (nI (q + 1)) dX6_priceOfAdding_82 7 rfl (nI_add _ 1) (by decide) rfl ?_
              refine j_lload C dX6_priceOfAdding_85 7 rfl ?_
              refine j_iload C dX6_priceOfAdding_87 1 rfl ?_
              refine j_iconst C (nI 2) dX6_priceOfAdding_89 (by decide) ?_
              refine j_icmp_ne (tgt := 99) C dX6_priceOfAdding_90 (by decide) (nI_eq (by omega) (by omega)) (fun h90 => ?_) (fun h90 => ?_)
              · refine j_lconst C (zL 0) dX6_priceOfAdding_99 (by decide) ?_
                refine j_ladd C (zL (y + 0)) dX6_priceOfAdding_100 (zL_add _ _) ?_
                refine j_lstore C [(4, .long (zL (y + 0))), (6, .int (nI (q + 1))), (9, .int (nI (M 39 (40 * (hs M d) + (hs M i))))), (8, .int (nI (hs M i))), (0, .ref (gA Λ 20 0)), (1, .int (nI d)), (2, .int (nI (A d))), (3, .ref (gA Λ 8 (hs M d))), (7, .int (nI i))] dX6_priceOfAdding_101 (by decide) rfl ?_
                refine j_goto (tgt := 132) C dX6_priceOfAdding_103 (by decide) ?_
                refine j_iinc C [(7, .int (nI (i + 1))), (4, .long (zL (y + 0))), (6, .int (nI (q + 1))), (9, .int (nI (M 39 (40 * (hs M d) + (hs M i))))), (8, .int (nI (hs M i))), (0, .ref (gA Λ 20 0)), (1, .int (nI d)), (2, .int (nI (A d))), (3, .ref (gA Λ 8 (hs M d)))] (nI (i + 1)) dX6_priceOfAdding_132 8 rfl (nI_add _ 1) (by decide) rfl ?_
                refine j_goto (tgt := 41) C dX6_priceOfAdding_135 (by decide) ?_
                refine j_lv [5, 6, 7, 8, 1, 2, 0] rfl ?_
                exact ih41 (y + 0) (q + 1) (i + 1) (by omega) (by omega) (by have hpr : prI M A d i = 0 := (by unfold prI; rw [if_pos (by omega), if_neg h90]); rw [fb_sm_succ, hpr, hy]; omega) (by rw [fb_ct_succ, ← hq, if_pos (decide_eq_true (by omega))])
              · refine j_ldc2 C (zL 1000000) hC72 dX6_priceOfAdding_93 (by decide) ?_
                refine j_goto (tgt := 100) C dX6_priceOfAdding_96 (by decide) ?_
                refine j_ladd C (zL (y + 1000000)) dX6_priceOfAdding_100 (zL_add _ _) ?_
                refine j_lstore C [(4, .long (zL (y + 1000000))), (6, .int (nI (q + 1))), (9, .int (nI (M 39 (40 * (hs M d) + (hs M i))))), (8, .int (nI (hs M i))), (0, .ref (gA Λ 20 0)), (1, .int (nI d)), (2, .int (nI (A d))), (3, .ref (gA Λ 8 (hs M d))), (7, .int (nI i))] dX6_priceOfAdding_101 (by decide) rfl ?_
                refine j_goto (tgt := 132) C dX6_priceOfAdding_103 (by decide) ?_
                refine j_iinc C [(7, .int (nI (i + 1))), (4, .long (zL (y + 1000000))), (6, .int (nI (q + 1))), (9, .int (nI (M 39 (40 * (hs M d) + (hs M i))))), (8, .int (nI (hs M i))), (0, .ref (gA Λ 20 0)), (1, .int (nI d)), (2, .int (nI (A d))), (3, .ref (gA Λ 8 (hs M d)))] (nI (i + 1)) dX6_priceOfAdding_132 8 rfl (nI_add _ 1) (by decide) rfl ?_
                refine j_goto (tgt := 41) C dX6_priceOfAdding_135 (by decide) ?_
                refine j_lv [5, 6, 7, 8, 1, 2, 0] rfl ?_
                exact ih41 (y + 1000000) (q + 1) (i + 1) (by omega) (by omega) (by have hpr : prI M A d i = 1000000 := (by unfold prI; rw [if_pos (by omega), if_pos h90]); rw [fb_sm_succ, hpr, hy]; omega) (by rw [fb_ct_succ, ← hq, if_pos (decide_eq_true (by omega))])
      refine j_lv [4, 5, 6, 3, 2, 1, 0] rfl ?_
      exact lb41 _ 0 0 0 (Nat.lt_succ_self _) (by omega) (by show _ = (((if fxB M (hs M d) (A d) = true then 1000000 else 0) + 0 : Nat) : Int); rw [if_neg (by unfold fxB; rw [decide_eq_true_eq]; omega)]; rfl) rfl
    · refine j_ldc2 C (zL 1000000) hC72 dX6_priceOfAdding_26 (by decide) ?_
      refine j_goto (tgt := 33) C dX6_priceOfAdding_29 (by decide) ?_
      refine j_lstore C [(4, .long (zL 1000000)), (3, .ref (gA Λ 8 (hs M d))), (0, .ref (gA Λ 20 0)), (1, .int (nI d)), (2, .int (nI (A d)))] dX6_priceOfAdding_33 (by decide) rfl ?_
      refine j_iconst C (nI 0) dX6_priceOfAdding_35 (by decide) ?_
      refine j_istore C [(6, .int (nI 0)), (4, .long (zL 1000000)), (3, .ref (gA Λ 8 (hs M d))), (0, .ref (gA Λ 20 0)), (1, .int (nI d)), (2, .int (nI (A d)))] dX6_priceOfAdding_36 (by decide) rfl ?_
      refine j_iconst C (nI 0) dX6_priceOfAdding_38 (by decide) ?_
      refine j_istore C [(7, .int (nI 0)), (6, .int (nI 0)), (4, .long (zL 1000000)), (3, .ref (gA Λ 8 (hs M d))), (0, .ref (gA Λ 20 0)), (1, .int (nI d)), (2, .int (nI (A d)))] dX6_priceOfAdding_39 (by decide) rfl ?_
      have lb41 : ∀ (fu : Nat) (y : Int) (q i : Nat), (d - i) < fu → (i ≤ d) → (y = (((if fxB M (hs M d) (A d) = true then 1000000 else 0) + fb_sm (prI M A d) i : Nat) : Int)) → (q = fb_ct (fun x => decide (A x = A d)) i) → J p l e ({ frames := 8, cells := 0, slots := 0, locals := 120 }) s m ([.ref (gA Λ 20 0), .int (nI d), .int (nI (A d))] : List Value).toArray below meth c 10 D cy base (MQ below (va_Ql (fun v u => v = zL (padd M A d : Int) ∧ u = σ) (Wd D cy base Λ) (Ab base)) ([.ref (gA Λ 20 0), .int (nI d), .int (nI (A d))] : List Value).toArray s 0 0 (Ab base)) 0 0 Λ 41 [(0, .ref (gA Λ 20 0)), (1, .int (nI d)), (2, .int (nI (A d))), (3, .ref (gA Λ 8 (hs M d))), (4, .long (zL y)), (6, .int (nI q)), (7, .int (nI i))] [] σ := by
        intro fu
        induction fu with
        | zero => intro y q i hfu; exact absurd hfu (Nat.not_lt_zero _)
        | succ fu ih =>
          intro y q i hfu hi hy hq
          have hql := fb_ct_le (fun x => decide (A x = A d)) i
          have hhd := hs_lt (M := M) hd
          have ih41 := ih
          refine j_iload C dX6_priceOfAdding_41 6 rfl ?_
          refine j_iload_n C dX6_priceOfAdding_43 rfl 1 rfl ?_
          refine j_icmp_ge (tgt := 138) C dX6_priceOfAdding_44 (by decide) (nI_leI (by omega) (by omega)) (fun h44 => ?_) (fun h44 => ?_)
          · refine j_lload C dX6_priceOfAdding_138 4 rfl ?_
            refine j_aload_n C dX6_priceOfAdding_140 rfl 0 rfl ?_
            refine j_getV C hwX6 20 0 0 (CR.n1 hC (by decide)) rfl rfl (by decide) rfl 0 (CR.v hC 20 0 0 ⟨rfl, by decide⟩ id) hL18 dX6_priceOfAdding_141 ?_
            refine c_i0 C (r_V C 3 0 [] (c_X4_even l D cy base Λ σ M hC hB) (cwV 0 hts gX6_priceOfAdding_X4_even rfl rfl rfl (by decide +kernel) ⟨by decide, by decide⟩) (CR.n1 hC (by decide)) rfl rfl rfl rfl (Nat.le_of_ble_eq_true rfl) dX6_priceOfAdding_144 ⟨by decide, by decide⟩) (fun rv uu hp => ?_)
            rw [hp.1, hp.2]
            refine j_i2l C (zL (M 31 8 : Int)) dX6_priceOfAdding_147 (nI_zL (by omega)) ?_
            refine j_iconst C (nI 2) dX6_priceOfAdding_148 (by decide) ?_
            refine j_iload C dX6_priceOfAdding_149 5 rfl ?_
            refine j_imul C (nI (2 * q)) dX6_priceOfAdding_151 (pk_mul _ _) ?_
            refine j_iconst C (nI 1) dX6_priceOfAdding_152 (by decide) ?_
            refine j_iadd C (nI (2 * q + 1)) dX6_priceOfAdding_153 (nI_add _ _) ?_
            refine j_i2l C (zL (2 * q + 1 : Int)) dX6_priceOfAdding_154 (nI_zL (by omega)) ?_
            refine j_lmul C (zL ((M 31 8 : Int) * (2 * q + 1 : Int))) dX6_priceOfAdding_155 (zL_mul _ _) ?_
            refine j_ladd C (zL (y + ((M 31 8 : Int) * (2 * q + 1 : Int)))) dX6_priceOfAdding_156 (zL_add _ _) ?_
            exact j_lret C hr hlk (⟨by unfold padd alr; rw [hy, hq, show i = d by omega]; congr 1, rfl⟩) dX6_priceOfAdding_157
          · refine j_aload_n C dX6_priceOfAdding_47 rfl 0 rfl ?_
            refine j_getV C hwX6 20 0 0 (CR.n1 hC (by decide)) rfl rfl (by decide) rfl 0 (CR.v hC 20 0 0 ⟨rfl, by decide⟩ id) hL18 dX6_priceOfAdding_48 ?_
            refine j_getV C hwX4 3 0 1 (CR.n1 hC (by decide)) rfl rfl (by decide) rfl 0 (CR.v hC 3 0 1 ⟨rfl, by decide⟩ id) hL47 dX6_priceOfAdding_51 ?_
            refine j_iload C dX6_priceOfAdding_54 6 rfl ?_
            have hhs56 := hs_lt (M := M) (k := i) (by omega)
            have hhn56 := hs_nh (M := M) (k := i) (by omega)
            refine j_aald C 5 0 i (CR.n1 hC (by decide)) rfl (by decide) (by decide) 40 (CR.l1 hC (by decide)) (by omega) (by omega) (hs M i) (CR.v hC 5 0 i ⟨rfl, by omega⟩ id) dX6_priceOfAdding_56 ?_
            refine j_getI C hwX5 8 (hs M i) 0 (CR.n8 hC (by decide) (show hs M i < M 31 5 by omega)) rfl rfl (by decide) rfl (nI (hs M i)) (CR.i hC 8 (hs M i) 0 ⟨show hs M i < M 31 5 by omega, Or.inl rfl⟩ id) hL74 dX6_priceOfAdding_57 ?_
            refine j_istore C [(8, .int (nI (hs M i))), (0, .ref (gA Λ 20 0)), (1, .int (nI d)), (2, .int (nI (A d))), (3, .ref (gA Λ 8 (hs M d))), (4, .long (zL y)), (6, .int (nI q)), (7, .int (nI i))] dX6_priceOfAdding_60 (by decide) rfl ?_
            refine j_aload_n C dX6_priceOfAdding_62 rfl 4 rfl ?_
            refine j_getV C hwX5 8 (hs M d) 5 (CR.n8 hC (by decide) (show hs M d < M 31 5 by omega)) rfl rfl (by decide) rfl (hs M d) (CR.v hC 8 (hs M d) 5 ⟨show hs M d < M 31 5 by omega, by decide, by decide⟩ id) hL77 dX6_priceOfAdding_63 ?_
            refine j_iload C dX6_priceOfAdding_66 0 rfl ?_
            have hb68 : M 39 (40 * (hs M d) + (hs M i)) ≤ 2 := hB 39 _ (decide_eq_true (show 40 * (hs M d) + (hs M i) < 1600 by omega))
            refine j_iald C 12 (hs M d) (hs M i) (CR.n8 hC (by decide) (show hs M d < M 31 5 by omega)) rfl rfl 40 (CR.l8 hC (show hs M d < M 31 5 by omega)).2.2.1 (by omega) (by omega) (nI (M 39 (40 * (hs M d) + (hs M i)))) (CR.i hC 12 (hs M d) (hs M i) ⟨show hs M d < M 31 5 by omega, by omega⟩ id) dX6_priceOfAdding_68 ?_
            refine j_istore C [(9, .int (nI (M 39 (40 * (hs M d) + (hs M i))))), (8, .int (nI (hs M i))), (0, .ref (gA Λ 20 0)), (1, .int (nI d)), (2, .int (nI (A d))), (3, .ref (gA Λ 8 (hs M d))), (4, .long (zL y)), (6, .int (nI q)), (7, .int (nI i))] dX6_priceOfAdding_69 (by decide) rfl ?_
            refine j_aload_n C dX6_priceOfAdding_71 rfl 2 rfl ?_
            refine j_getV C hwX6 20 0 1 (CR.n1 hC (by decide)) rfl rfl (by decide) rfl 0 (CR.v hC 20 0 1 ⟨rfl, by decide⟩ id) hL9 dX6_priceOfAdding_72 ?_
            refine j_iload C dX6_priceOfAdding_75 8 rfl ?_
            have hA77 := hA6 i (by omega)
            refine j_iald C 21 0 i (CR.n1 hC (by decide)) rfl rfl 9 (CR.l1 hC (by decide)) (by omega) (by omega) (nI (A i)) (hTr _ (by omega)) dX6_priceOfAdding_77 ?_
            refine j_iload_n C dX6_priceOfAdding_78 rfl 4 rfl ?_
            refine j_icmp_ne (tgt := 106) C dX6_priceOfAdding_79 (by decide) (nI_eq (by omega) (by omega)) (fun h79 => ?_) (fun h79 => ?_)
            · refine j_lload C dX6_priceOfAdding_106 6 rfl ?_
              refine j_aload_n C dX6_priceOfAdding_108 rfl 5 rfl ?_
              refine j_getV C hwX5 8 (hs M d) 4 (CR.n8 hC (by decide) (show hs M d < M 31 5 by omega)) rfl rfl (by decide) rfl (hs M d) (CR.v hC 8 (hs M d) 4 ⟨show hs M d < M 31 5 by omega, by decide, by decide⟩ id) hL80 dX6_priceOfAdding_109 ?_
              refine j_iload C dX6_priceOfAdding_112 1 rfl ?_
              have hb114 := tieN_le hB (a := (hs M d)) (b := (hs M i)) (by omega) (by omega)
              refine j_iald C 11 (hs M d) (hs M i) (CR.n8 hC (by decide) (show hs M d < M 31 5 by omega)) rfl rfl 40 (CR.l8 hC (show hs M d < M 31 5 by omega)).2.1 (by omega) (by omega) (nI (tieN M (hs M d) (hs M i))) (CR.i hC 11 (hs M d) (hs M i) ⟨show hs M d < M 31 5 by omega, by omega⟩ id) dX6_priceOfAdding_114 ?_
              refine j_iload C dX6_priceOfAdding_115 0 rfl ?_
              refine j_iconst C (nI 1) dX6_priceOfAdding_117 (by decide) ?_
              refine j_icmp_ne (tgt := 126) C dX6_priceOfAdding_118 (by decide) (nI_eq (by omega) (by omega)) (fun h118 => ?_) (fun h118 => ?_)
              · refine j_iconst C (nI 0) dX6_priceOfAdding_126 (by decide) ?_
                refine j_iadd C (nI (tieN M (hs M d) (hs M i) + 0)) dX6_priceOfAdding_127 (nI_add _ _) ?_
                refine j_i2l C (zL ((tieN M (hs M d) (hs M i) + 0 : Nat) : Int)) dX6_priceOfAdding_128 (nI_zL (by omega)) ?_
                refine j_ladd C (zL (y + ((tieN M (hs M d) (hs M i) + 0 : Nat) : Int))) dX6_priceOfAdding_129 (zL_add _ _) ?_
                refine j_lstore C [(4, .long (zL (y + ((tieN M (hs M d) (hs M i) + 0 : Nat) : Int)))), (9, .int (nI (M 39 (40 * (hs M d) + (hs M i))))), (8, .int (nI (hs M i))), (0, .ref (gA Λ 20 0)), (1, .int (nI d)), (2, .int (nI (A d))), (3, .ref (gA Λ 8 (hs M d))), (6, .int (nI q)), (7, .int (nI i))] dX6_priceOfAdding_130 (by decide) rfl ?_
                refine j_iinc C [(7, .int (nI (i + 1))), (4, .long (zL (y + ((tieN M (hs M d) (hs M i) + 0 : Nat) : Int)))), (9, .int (nI (M 39 (40 * (hs M d) + (hs M i))))), (8, .int (nI (hs M i))), (0, .ref (gA Λ 20 0)), (1, .int (nI d)), (2, .int (nI (A d))), (3, .ref (gA Λ 8 (hs M d))), (6, .int (nI q))] (nI (i + 1)) dX6_priceOfAdding_132 8 rfl (nI_add _ 1) (by decide) rfl ?_
                refine j_goto (tgt := 41) C dX6_priceOfAdding_135 (by decide) ?_
                refine j_lv [4, 5, 6, 7, 1, 8, 0] rfl ?_
                exact ih41 (y + ((tieN M (hs M d) (hs M i) + 0 : Nat) : Int)) q (i + 1) (by omega) (by omega) (by have hpr : prI M A d i = tieN M (hs M d) (hs M i) + 0 := (by unfold prI; rw [if_neg (by omega), if_neg h118]); rw [fb_sm_succ, hpr, hy]; omega) (by rw [fb_ct_succ, ← hq, if_neg (fun z => absurd (of_decide_eq_true z) (by omega))]; (show q = q + 0); rw [Nat.add_zero])
              · refine j_ldc C (nI 1000000) hC83 dX6_priceOfAdding_121 (by decide) ?_
                refine j_goto (tgt := 127) C dX6_priceOfAdding_123 (by decide) ?_
                refine j_iadd C (nI (tieN M (hs M d) (hs M i) + 1000000)) dX6_priceOfAdding_127 (nI_add _ _) ?_
                refine j_i2l C (zL ((tieN M (hs M d) (hs M i) + 1000000 : Nat) : Int)) dX6_priceOfAdding_128 (nI_zL (by omega)) ?_
                refine j_ladd C (zL (y + ((tieN M (hs M d) (hs M i) + 1000000 : Nat) : Int))) dX6_priceOfAdding_129 (zL_add _ _) ?_
                refine j_lstore C [(4, .long (zL (y + ((tieN M (hs M d) (hs M i) + 1000000 : Nat) : Int)))), (9, .int (nI (M 39 (40 * (hs M d) + (hs M i))))), (8, .int (nI (hs M i))), (0, .ref (gA Λ 20 0)), (1, .int (nI d)), (2, .int (nI (A d))), (3, .ref (gA Λ 8 (hs M d))), (6, .int (nI q)), (7, .int (nI i))] dX6_priceOfAdding_130 (by decide) rfl ?_
                refine j_iinc C [(7, .int (nI (i + 1))), (4, .long (zL (y + ((tieN M (hs M d) (hs M i) + 1000000 : Nat) : Int)))), (9, .int (nI (M 39 (40 * (hs M d) + (hs M i))))), (8, .int (nI (hs M i))), (0, .ref (gA Λ 20 0)), (1, .int (nI d)), (2, .int (nI (A d))), (3, .ref (gA Λ 8 (hs M d))), (6, .int (nI q))] (nI (i + 1)) dX6_priceOfAdding_132 8 rfl (nI_add _ 1) (by decide) rfl ?_
                refine j_goto (tgt := 41) C dX6_priceOfAdding_135 (by decide) ?_
                refine j_lv [4, 5, 6, 7, 1, 8, 0] rfl ?_
                exact ih41 (y + ((tieN M (hs M d) (hs M i) + 1000000 : Nat) : Int)) q (i + 1) (by omega) (by omega) (by have hpr : prI M A d i = tieN M (hs M d) (hs M i) + 1000000 := (by unfold prI; rw [if_neg (by omega), if_pos h118]); rw [fb_sm_succ, hpr, hy]; omega) (by rw [fb_ct_succ, ← hq, if_neg (fun z => absurd (of_decide_eq_true z) (by omega))]; (show q = q + 0); rw [Nat.add_zero])
            · refine j_iinc C [(6, .int (nI (q + 1))), (9, .int (nI (M 39 (40 * (hs M d) + (hs M i))))), (8, .int (nI (hs M i))), (0, .ref (gA Λ 20 0)), (1, .int (nI d)), (2, .int (nI (A d))), (3, .ref (gA Λ 8 (hs M d))), (4, .long (zL y)), (7, .int (nI i))] (nI (q + 1)) dX6_priceOfAdding_82 7 rfl (nI_add _ 1) (by decide) rfl ?_
              refine j_lload C dX6_priceOfAdding_85 7 rfl ?_
              refine j_iload C dX6_priceOfAdding_87 1 rfl ?_
              refine j_iconst C (nI 2) dX6_priceOfAdding_89 (by decide) ?_
              refine j_icmp_ne (tgt := 99) C dX6_priceOfAdding_90 (by decide) (nI_eq (by omega) (by omega)) (fun h90 => ?_) (fun h90 => ?_)
              · refine j_lconst C (zL 0) dX6_priceOfAdding_99 (by decide) ?_
                refine j_ladd C (zL (y + 0)) dX6_priceOfAdding_100 (zL_add _ _) ?_
                refine j_lstore C [(4, .long (zL (y + 0))), (6, .int (nI (q + 1))), (9, .int (nI (M 39 (40 * (hs M d) + (hs M i))))), (8, .int (nI (hs M i))), (0, .ref (gA Λ 20 0)), (1, .int (nI d)), (2, .int (nI (A d))), (3, .ref (gA Λ 8 (hs M d))), (7, .int (nI i))] dX6_priceOfAdding_101 (by decide) rfl ?_
                refine j_goto (tgt := 132) C dX6_priceOfAdding_103 (by decide) ?_
                refine j_iinc C [(7, .int (nI (i + 1))), (4, .long (zL (y + 0))), (6, .int (nI (q + 1))), (9, .int (nI (M 39 (40 * (hs M d) + (hs M i))))), (8, .int (nI (hs M i))), (0, .ref (gA Λ 20 0)), (1, .int (nI d)), (2, .int (nI (A d))), (3, .ref (gA Λ 8 (hs M d)))] (nI (i + 1)) dX6_priceOfAdding_132 8 rfl (nI_add _ 1) (by decide) rfl ?_
                refine j_goto (tgt := 41) C dX6_priceOfAdding_135 (by decide) ?_
                refine j_lv [5, 6, 7, 8, 1, 2, 0] rfl ?_
                exact ih41 (y + 0) (q + 1) (i + 1) (by omega) (by omega) (by have hpr : prI M A d i = 0 := (by unfold prI; rw [if_pos (by omega), if_neg h90]); rw [fb_sm_succ, hpr, hy]; omega) (by rw [fb_ct_succ, ← hq, if_pos (decide_eq_true (by omega))])
              · refine j_ldc2 C (zL 1000000) hC72 dX6_priceOfAdding_93 (by decide) ?_
                refine j_goto (tgt := 100) C dX6_priceOfAdding_96 (by decide) ?_
                refine j_ladd C (zL (y + 1000000)) dX6_priceOfAdding_100 (zL_add _ _) ?_
                refine j_lstore C [(4, .long (zL (y + 1000000))), (6, .int (nI (q + 1))), (9, .int (nI (M 39 (40 * (hs M d) + (hs M i))))), (8, .int (nI (hs M i))), (0, .ref (gA Λ 20 0)), (1, .int (nI d)), (2, .int (nI (A d))), (3, .ref (gA Λ 8 (hs M d))), (7, .int (nI i))] dX6_priceOfAdding_101 (by decide) rfl ?_
                refine j_goto (tgt := 132) C dX6_priceOfAdding_103 (by decide) ?_
                refine j_iinc C [(7, .int (nI (i + 1))), (4, .long (zL (y + 1000000))), (6, .int (nI (q + 1))), (9, .int (nI (M 39 (40 * (hs M d) + (hs M i))))), (8, .int (nI (hs M i))), (0, .ref (gA Λ 20 0)), (1, .int (nI d)), (2, .int (nI (A d))), (3, .ref (gA Λ 8 (hs M d)))] (nI (i + 1)) dX6_priceOfAdding_132 8 rfl (nI_add _ 1) (by decide) rfl ?_
                refine j_goto (tgt := 41) C dX6_priceOfAdding_135 (by decide) ?_
                refine j_lv [5, 6, 7, 8, 1, 2, 0] rfl ?_
                exact ih41 (y + 1000000) (q + 1) (i + 1) (by omega) (by omega) (by have hpr : prI M A d i = 1000000 := (by unfold prI; rw [if_pos (by omega), if_pos h90]); rw [fb_sm_succ, hpr, hy]; omega) (by rw [fb_ct_succ, ← hq, if_pos (decide_eq_true (by omega))])
      refine j_lv [4, 5, 6, 3, 2, 1, 0] rfl ?_
      exact lb41 _ 1000000 0 0 (Nat.lt_succ_self _) (by omega) (by show _ = (((if fxB M (hs M d) (A d) = true then 1000000 else 0) + 0 : Nat) : Int); rw [if_pos (by unfold fxB; rw [decide_eq_true_eq]; omega)]; rfl) rfl
