theorem fx_a : ∀ x : Nat, x ≤ 6 → ¬ (nI x - 1 < (-1 : Int32)) := by decide +kernel
theorem fx_b : ∀ x : Nat, x ≤ 6 → nI x - 1 < nI 6 := by decide +kernel
theorem CR.must {ex : Nat → Nat → Nat → Prop} {Λ : LY} {σ : HS} {M : MM} (h : CR ex Λ σ M) {a b x : Nat} (ha : a < 40) (hb : b < 40) (hab : a ≠ b) : CR ex Λ (sI (sI σ 12 a b (nI x)) 12 b a (nI x)) (mS (mS M 39 (40 * a + b) x) 39 (40 * b + a) x) := by
  refine ⟨h.1, h.2.1, fun t i k ho he => ?_, fun t i k ho he => ?_, fun t i k ho he => ?_⟩
  · rcases okI_dom ho with rfl | rfl | rfl | rfl | rfl | rfl | rfl | rfl | rfl | rfl | rfl
    · exact CR.i h 1 i k ho he
    · exact CR.i h 2 i k ho he
    · exact CR.i h 3 i k ho he
    · exact CR.i h 6 i k ho he
    · exact CR.i h 8 i k ho he
    · exact CR.i h 10 i k ho he
    · exact CR.i h 11 i k ho he
    · rw [gI_sI, gI_sI]
      show _ = nI (mS (mS M 39 (40 * a + b) x) 39 (40 * b + a) x 39 (40 * i + k))
      have hk : k < 40 := ho.2
      by_cases h1 : i = b ∧ k = a
      · rw [if_pos ⟨rfl, h1⟩, h1.1, h1.2, mS_same]
      · rw [if_neg (fun z => h1 z.2), mS_ne (Or.inr (fun z => h1 (by constructor <;> omega)))]
        by_cases h2 : i = a ∧ k = b
        · rw [if_pos ⟨rfl, h2⟩, h2.1, h2.2, mS_same]
        · rw [if_neg (fun z => h2 z.2), mS_ne (Or.inr (fun z => h2 (by constructor <;> omega)))]
          exact CR.i h 12 i k ho he
    · exact CR.i h 25 i k ho he
    · exact CR.i h 27 i k ho he
    · exact CR.i h 28 i k ho he
  · rcases okJ_dom ho with rfl | rfl
    · exact CR.j h 8 i k ho he
    · exact CR.j h 26 i k ho he
  · rcases okV_dom ho with rfl | rfl | rfl | rfl | rfl | rfl | rfl | rfl | rfl | rfl | rfl | rfl | rfl
    · exact CR.v h 0 i k ho he
    · exact CR.v h 3 i k ho he
    · exact CR.v h 4 i k ho he
    · have e1 := hcN_congr (M := M) (M2 := mS (mS M 39 (40 * a + b) x) 39 (40 * b + a) x) rfl rfl
      have e2 : hs _ k = hs M k := hs_congr (M := M) (M2 := mS (mS M 39 (40 * a + b) x) 39 (40 * b + a) x) rfl rfl
      refine (CR.v h 5 i k ⟨ho.1, by rw [← e1]; exact ho.2⟩ he).trans ?_
      show some (hs M k) = some (hs _ k)
      rw [e2]
    · exact CR.v h 8 i k ho he
    · exact CR.v h 9 i k ho he
    · exact CR.v h 14 i k ho he
    · exact CR.v h 18 i k ho he
    · exact CR.v h 20 i k ho he
    · exact CR.v h 23 i k ho he
    · exact CR.v h 25 i k ho he
    · exact CR.v h 27 i k ho he
    · exact CR.v h 29 i k ho he
set_option maxHeartbeats 4000000 in
set_option maxRecDepth 100000 in
theorem c_put_hub (l : Launch) (D : va_G) (cy : Nat → ClassId) (base : Nat) (Λ : LY) (σ : HS) (M : MM) (hC : CR noEx Λ σ M) (hB : MBd M) (j rm : Nat) (hj : j < M 31 5) (hrm : rm < M 31 10) (hh : M 37 j ≠ 0) : Met l yX10_put wsX10_put ({ frames := 12, cells := 0, slots := 0, locals := 180 }) (va_Pc [.ref (gA Λ 0 0), .int (nI j), .int (nI rm)] (Wd D cy base Λ σ)) (va_Qi (fun v u => v = -1 ∧ u = σ) (Wd D cy base Λ) (Ab base)) 0 0 (Ab base) := by
  refine j_start (cc := cX10_put) (nL := 5) (ret := (some .int)) (lv := [(0, .ref (gA Λ 0 0)), (1, .int (nI j)), (2, .int (nI rm))]) (by decide) rfl (Nat.le_of_ble_eq_true rfl) rfl ?_
  intro p e s m below meth c C hr hlk hnm
  have C : Cx p s m ([.ref (gA Λ 0 0), .int (nI j), .int (nI rm)] : List Value).toArray c cX10_put 5 RX10 wsX10_put D cy base := C
  have hts := C.2.2.2.2.1
  have hwX5 : ∀ w ∈ u_ws RX5 TX5 13, w ∈ wsX10_put := by decide +kernel
  have hL162 : FL RX10 162 (TX5 12).1 (TX5 12).2.1 (TX5 12).2.2.1 ([.ref (gA Λ 0 0), .int (nI j), .int (nI rm)] : List Value).toArray s := Or.inr ⟨_, Ex.nestF C.2.2.2.2.2.2 nf_X10_162⟩
  have hn : M 31 5 ≤ 40 := hB 31 5 rfl
  refine j_aload_n C dX10_put_0 rfl 0 rfl ?_
  refine j_iload_n C dX10_put_1 rfl 1 rfl ?_
  refine c_r0 C (r_V C 0 0 [.int (nI j)] (c_X10_known l D cy base Λ σ M hC hB j (by omega)) (cwV 1 hts gX10_put_X10_known rfl rfl rfl (by decide +kernel) ⟨by decide, by decide⟩) (CR.n1 hC (by decide)) rfl rfl rfl rfl (Nat.le_of_ble_eq_true rfl) dX10_put_2 ⟨by decide, by decide⟩) (fun uu jj hp => ?_)
  obtain ⟨hk1, hk2⟩ := Prod.mk.inj hp
  rw [hk1, hk2]
  refine j_astore_n C [(3, .ref (gA Λ 8 j)), (0, .ref (gA Λ 0 0)), (1, .int (nI j)), (2, .int (nI rm))] dX10_put_5 rfl (by decide) rfl ?_
  refine j_aload_n C dX10_put_6 rfl 1 rfl ?_
  refine j_iload_n C dX10_put_7 rfl 3 rfl ?_
  refine c_v0 C (r_V C 0 0 [.int (nI rm)] (c_X10_needRoom l D cy base Λ σ M hC hB rm (by omega)) (cwV 1 hts gX10_put_X10_needRoom rfl rfl rfl (by decide +kernel) ⟨by decide, by decide⟩) (CR.n1 hC (by decide)) rfl rfl rfl rfl (Nat.le_of_ble_eq_true rfl) dX10_put_8 ⟨by decide, by decide⟩) (fun uu hp => ?_)
  rw [hp]
  refine j_aload_n C dX10_put_11 rfl 0 rfl ?_
  have hb12 : M 37 j ≤ 1 := hB 37 j (decide_eq_true (show j < 40 by omega))
  refine j_getI C hwX5 8 j 12 (CR.n8 hC (by decide) (show j < M 31 5 by omega)) rfl rfl (by decide) rfl (nI (M 37 j)) (CR.i hC 8 j 12 ⟨show j < M 31 5 by omega, Or.inr (Or.inr (Or.inr rfl))⟩ id) hL162 dX10_put_12 ?_
  refine j_if_eq (tgt := 20) C dX10_put_15 (by decide) (nJ_eq0 (by omega)) (fun h15 => ?_) (fun h15 => ?_)
  · exact absurd h15 hh
  · refine j_iconst C ((-1)) dX10_put_18 (by decide) ?_
    exact j_iret C hr hlk (⟨rfl, rfl⟩) dX10_put_19

set_option maxHeartbeats 4000000 in
set_option maxRecDepth 100000 in
theorem c_put_ok (l : Launch) (D : va_G) (cy : Nat → ClassId) (base : Nat) (Λ : LY) (σ : HS) (M : MM) (hC : CR noEx Λ σ M) (hB : MBd M) (j rm : Nat) (hj : j < M 31 5) (hrm : rm < M 31 10) (hh : M 37 j = 0) : Met l yX10_put wsX10_put ({ frames := 12, cells := 0, slots := 0, locals := 180 }) (va_Pc [.ref (gA Λ 0 0), .int (nI j), .int (nI rm)] (Wd D cy base Λ σ)) (va_Qi (fun v u => v = nI (M 38 j) ∧ CR noEx Λ u (mS M 38 j rm) ∧ u = sI σ 8 j 11 (nI rm)) (Wd D cy base Λ) (Ab base)) 0 0 (Ab base) := by
  refine j_start (cc := cX10_put) (nL := 5) (ret := (some .int)) (lv := [(0, .ref (gA Λ 0 0)), (1, .int (nI j)), (2, .int (nI rm))]) (by decide) rfl (Nat.le_of_ble_eq_true rfl) rfl ?_
  intro p e s m below meth c C hr hlk hnm
  have C : Cx p s m ([.ref (gA Λ 0 0), .int (nI j), .int (nI rm)] : List Value).toArray c cX10_put 5 RX10 wsX10_put D cy base := C
  have hts := C.2.2.2.2.1
  have hwX5 : ∀ w ∈ u_ws RX5 TX5 13, w ∈ wsX10_put := by decide +kernel
  have hL162 : FL RX10 162 (TX5 12).1 (TX5 12).2.1 (TX5 12).2.2.1 ([.ref (gA Λ 0 0), .int (nI j), .int (nI rm)] : List Value).toArray s := Or.inr ⟨_, Ex.nestF C.2.2.2.2.2.2 nf_X10_162⟩
  have hL166 : FL RX10 166 (TX5 11).1 (TX5 11).2.1 (TX5 11).2.2.1 ([.ref (gA Λ 0 0), .int (nI j), .int (nI rm)] : List Value).toArray s := Or.inr ⟨_, Ex.nestF C.2.2.2.2.2.2 nf_X10_166⟩
  have hn : M 31 5 ≤ 40 := hB 31 5 rfl
  refine j_aload_n C dX10_put_0 rfl 0 rfl ?_
  refine j_iload_n C dX10_put_1 rfl 1 rfl ?_
  refine c_r0 C (r_V C 0 0 [.int (nI j)] (c_X10_known l D cy base Λ σ M hC hB j (by omega)) (cwV 1 hts gX10_put_X10_known rfl rfl rfl (by decide +kernel) ⟨by decide, by decide⟩) (CR.n1 hC (by decide)) rfl rfl rfl rfl (Nat.le_of_ble_eq_true rfl) dX10_put_2 ⟨by decide, by decide⟩) (fun uu jj hp => ?_)
  obtain ⟨hk1, hk2⟩ := Prod.mk.inj hp
  rw [hk1, hk2]
  refine j_astore_n C [(3, .ref (gA Λ 8 j)), (0, .ref (gA Λ 0 0)), (1, .int (nI j)), (2, .int (nI rm))] dX10_put_5 rfl (by decide) rfl ?_
  refine j_aload_n C dX10_put_6 rfl 1 rfl ?_
  refine j_iload_n C dX10_put_7 rfl 3 rfl ?_
  refine c_v0 C (r_V C 0 0 [.int (nI rm)] (c_X10_needRoom l D cy base Λ σ M hC hB rm (by omega)) (cwV 1 hts gX10_put_X10_needRoom rfl rfl rfl (by decide +kernel) ⟨by decide, by decide⟩) (CR.n1 hC (by decide)) rfl rfl rfl rfl (Nat.le_of_ble_eq_true rfl) dX10_put_8 ⟨by decide, by decide⟩) (fun uu hp => ?_)
  rw [hp]
  refine j_aload_n C dX10_put_11 rfl 0 rfl ?_
  have hb12 : M 37 j ≤ 1 := hB 37 j (decide_eq_true (show j < 40 by omega))
  refine j_getI C hwX5 8 j 12 (CR.n8 hC (by decide) (show j < M 31 5 by omega)) rfl rfl (by decide) rfl (nI (M 37 j)) (CR.i hC 8 j 12 ⟨show j < M 31 5 by omega, Or.inr (Or.inr (Or.inr rfl))⟩ id) hL162 dX10_put_12 ?_
  refine j_if_eq (tgt := 20) C dX10_put_15 (by decide) (nJ_eq0 (by omega)) (fun h15 => ?_) (fun h15 => ?_)
  · refine j_aload_n C dX10_put_20 rfl 0 rfl ?_
    have hb21 : M 38 j ≤ 5 := hB 38 j (decide_eq_true (show j < 40 by omega))
    refine j_getI C hwX5 8 j 11 (CR.n8 hC (by decide) (show j < M 31 5 by omega)) rfl rfl (by decide) rfl (nI (M 38 j)) (CR.i hC 8 j 11 ⟨show j < M 31 5 by omega, Or.inr (Or.inr (Or.inl rfl))⟩ id) hL166 dX10_put_21 ?_
    refine j_istore C [(4, .int (nI (M 38 j))), (3, .ref (gA Λ 8 j)), (0, .ref (gA Λ 0 0)), (1, .int (nI j)), (2, .int (nI rm))] dX10_put_24 (by decide) rfl ?_
    refine j_aload_n C dX10_put_26 rfl 1 rfl ?_
    refine j_iload_n C dX10_put_27 rfl 4 rfl ?_
    refine j_putI C hwX5 8 j 11 (CR.n8 hC (by decide) (show j < M 31 5 by omega)) rfl rfl (by decide) rfl tyX5 tyX5_ok nmX5 rfl rfl rfl hL166 dX10_put_28 ?_
    refine j_iload C dX10_put_31 0 rfl ?_
    exact j_iret C hr hlk (⟨rfl, CR.place hC rfl, rfl⟩) dX10_put_33
  · exact absurd hh h15

set_option maxHeartbeats 4000000 in
set_option maxRecDepth 100000 in
theorem c_fix_ok (l : Launch) (D : va_G) (cy : Nat → ClassId) (base : Nat) (Λ : LY) (σ : HS) (M : MM) (hC : CR noEx Λ σ M) (hB : MBd M) (j x : Nat) (hj : j < M 31 5) (hx : x ≤ 6) : Met l yX10_fix wsX10_fix ({ frames := 12, cells := 0, slots := 0, locals := 180 }) (va_Pc [.ref (gA Λ 0 0), .int (nI j), .int (nI x - 1)] (Wd D cy base Λ σ)) (va_Qi (fun v u => v = nI (M 40 j) - 1 ∧ CR noEx Λ u (mS M 40 j x) ∧ u = sI σ 8 j 10 (nI x - 1)) (Wd D cy base Λ) (Ab base)) 0 0 (Ab base) := by
  refine j_start (cc := cX10_fix) (nL := 5) (ret := (some .int)) (lv := [(0, .ref (gA Λ 0 0)), (1, .int (nI j)), (2, .int (nI x - 1))]) (by decide) rfl (Nat.le_of_ble_eq_true rfl) rfl ?_
  intro p e s m below meth c C hr hlk hnm
  have C : Cx p s m ([.ref (gA Λ 0 0), .int (nI j), .int (nI x - 1)] : List Value).toArray c cX10_fix 5 RX10 wsX10_fix D cy base := C
  have hts := C.2.2.2.2.1
  have hwX5 : ∀ w ∈ u_ws RX5 TX5 13, w ∈ wsX10_fix := by decide +kernel
  have hL159 : FL RX10 159 (TX5 10).1 (TX5 10).2.1 (TX5 10).2.2.1 ([.ref (gA Λ 0 0), .int (nI j), .int (nI x - 1)] : List Value).toArray s := Or.inr ⟨_, Ex.nestF C.2.2.2.2.2.2 nf_X10_159⟩
  have hn : M 31 5 ≤ 40 := hB 31 5 rfl
  refine j_aload_n C dX10_fix_0 rfl 0 rfl ?_
  refine j_iload_n C dX10_fix_1 rfl 1 rfl ?_
  refine c_r0 C (r_V C 0 0 [.int (nI j)] (c_X10_known l D cy base Λ σ M hC hB j (by omega)) (cwV 1 hts gX10_fix_X10_known rfl rfl rfl (by decide +kernel) ⟨by decide, by decide⟩) (CR.n1 hC (by decide)) rfl rfl rfl rfl (Nat.le_of_ble_eq_true rfl) dX10_fix_2 ⟨by decide, by decide⟩) (fun uu jj hp => ?_)
  obtain ⟨hk1, hk2⟩ := Prod.mk.inj hp
  rw [hk1, hk2]
  refine j_astore_n C [(3, .ref (gA Λ 8 j)), (0, .ref (gA Λ 0 0)), (1, .int (nI j)), (2, .int (nI x - 1))] dX10_fix_5 rfl (by decide) rfl ?_
  refine j_iload_n C dX10_fix_6 rfl 3 rfl ?_
  refine j_iconst C ((-1)) dX10_fix_7 (by decide) ?_
  refine j_icmp_lt (tgt := 17) C dX10_fix_8 (by decide) Iff.rfl (fun h8 => ?_) (fun h8 => ?_)
  · first | exact absurd h8 (fx_a x hx) | exact absurd (fx_b x hx) h14
  · refine j_iload_n C dX10_fix_11 rfl 3 rfl ?_
    refine j_bipush C (nI 6) dX10_fix_12 (by decide) ?_
    refine j_icmp_lt (tgt := 27) C dX10_fix_14 (by decide) Iff.rfl (fun h14 => ?_) (fun h14 => ?_)
    · refine j_aload_n C dX10_fix_27 rfl 0 rfl ?_
      have hb28 : M 40 j ≤ 6 := hB 40 j (decide_eq_true (show j < 40 by omega))
      refine j_getI C hwX5 8 j 10 (CR.n8 hC (by decide) (show j < M 31 5 by omega)) rfl rfl (by decide) rfl (nI (M 40 j) - 1) (CR.i hC 8 j 10 ⟨show j < M 31 5 by omega, Or.inr (Or.inl rfl)⟩ id) hL159 dX10_fix_28 ?_
      refine j_istore C [(4, .int (nI (M 40 j) - 1)), (3, .ref (gA Λ 8 j)), (0, .ref (gA Λ 0 0)), (1, .int (nI j)), (2, .int (nI x - 1))] dX10_fix_31 (by decide) rfl ?_
      refine j_aload_n C dX10_fix_33 rfl 1 rfl ?_
      refine j_iload_n C dX10_fix_34 rfl 4 rfl ?_
      refine j_putI C hwX5 8 j 10 (CR.n8 hC (by decide) (show j < M 31 5 by omega)) rfl rfl (by decide) rfl tyX5 tyX5_ok nmX5 rfl rfl rfl hL159 dX10_fix_35 ?_
      refine j_iload C dX10_fix_38 0 rfl ?_
      exact j_iret C hr hlk (⟨rfl, CR.fix hC rfl, rfl⟩) dX10_fix_40
    · first | exact absurd h8 (fx_a x hx) | exact absurd (fx_b x hx) h14

set_option maxHeartbeats 4000000 in
set_option maxRecDepth 100000 in
theorem c_must_ok (l : Launch) (D : va_G) (cy : Nat → ClassId) (base : Nat) (Λ : LY) (σ : HS) (M : MM) (hC : CR noEx Λ σ M) (hB : MBd M) (i j : Nat) (hi : i < M 31 5) (hj : j < M 31 5) (k : Nat) (hij : i ≠ j) (hk : k ≤ 2) : Met l yX10_must wsX10_must ({ frames := 12, cells := 0, slots := 0, locals := 180 }) (va_Pc [.ref (gA Λ 0 0), .int (nI i), .int (nI j), .int (nI k)] (Wd D cy base Λ σ)) (va_Qi (fun v u => v = nI (M 39 (40 * i + j)) ∧ CR noEx Λ u (mS (mS M 39 (40 * i + j) k) 39 (40 * j + i) k) ∧ u = sI (sI σ 12 i j (nI k)) 12 j i (nI k)) (Wd D cy base Λ) (Ab base)) 0 0 (Ab base) := by
  refine j_start (cc := cX10_must) (nL := 7) (ret := (some .int)) (lv := [(0, .ref (gA Λ 0 0)), (1, .int (nI i)), (2, .int (nI j)), (3, .int (nI k))]) (by decide) rfl (Nat.le_of_ble_eq_true rfl) rfl ?_
  intro p e s m below meth c C hr hlk hnm
  have C : Cx p s m ([.ref (gA Λ 0 0), .int (nI i), .int (nI j), .int (nI k)] : List Value).toArray c cX10_must 7 RX10 wsX10_must D cy base := C
  have hts := C.2.2.2.2.1
  have hwX5 : ∀ w ∈ u_ws RX5 TX5 13, w ∈ wsX10_must := by decide +kernel
  have hL121 : FL RX10 121 (TX5 0).1 (TX5 0).2.1 (TX5 0).2.2.1 ([.ref (gA Λ 0 0), .int (nI i), .int (nI j), .int (nI k)] : List Value).toArray s := Or.inr ⟨_, Ex.nestF C.2.2.2.2.2.2 nf_X10_121⟩
  have hL154 : FL RX10 154 (TX5 5).1 (TX5 5).2.1 (TX5 5).2.2.1 ([.ref (gA Λ 0 0), .int (nI i), .int (nI j), .int (nI k)] : List Value).toArray s := Or.inr ⟨_, Ex.nestF C.2.2.2.2.2.2 nf_X10_154⟩
  have hn : M 31 5 ≤ 40 := hB 31 5 rfl
  refine j_aload_n C dX10_must_0 rfl 0 rfl ?_
  refine j_iload_n C dX10_must_1 rfl 1 rfl ?_
  refine c_r0 C (r_V C 0 0 [.int (nI i)] (c_X10_known l D cy base Λ σ M hC hB i (by omega)) (cwV 1 hts gX10_must_X10_known rfl rfl rfl (by decide +kernel) ⟨by decide, by decide⟩) (CR.n1 hC (by decide)) rfl rfl rfl rfl (Nat.le_of_ble_eq_true rfl) dX10_must_2 ⟨by decide, by decide⟩) (fun uu jj hp => ?_)
  obtain ⟨hk1, hk2⟩ := Prod.mk.inj hp
  rw [hk1, hk2]
  refine j_astore C [(4, .ref (gA Λ 8 i)), (0, .ref (gA Λ 0 0)), (1, .int (nI i)), (2, .int (nI j)), (3, .int (nI k))] dX10_must_5 (by decide) rfl ?_
  refine j_aload_n C dX10_must_7 rfl 1 rfl ?_
  refine j_iload_n C dX10_must_8 rfl 3 rfl ?_
  refine c_r0 C (r_V C 0 0 [.int (nI j)] (c_X10_known l D cy base Λ σ M hC hB j (by omega)) (cwV 1 hts gX10_must_X10_known rfl rfl rfl (by decide +kernel) ⟨by decide, by decide⟩) (CR.n1 hC (by decide)) rfl rfl rfl rfl (Nat.le_of_ble_eq_true rfl) dX10_must_9 ⟨by decide, by decide⟩) (fun uu jj hp => ?_)
  obtain ⟨hk1, hk2⟩ := Prod.mk.inj hp
  rw [hk1, hk2]
  refine j_astore C [(5, .ref (gA Λ 8 j)), (4, .ref (gA Λ 8 i)), (0, .ref (gA Λ 0 0)), (1, .int (nI i)), (2, .int (nI j)), (3, .int (nI k))] dX10_must_12 (by decide) rfl ?_
  refine j_iload_n C dX10_must_14 rfl 3 rfl ?_
  refine j_iload_n C dX10_must_15 rfl 4 rfl ?_
  refine j_icmp_eq (tgt := 28) C dX10_must_16 (by decide) (nI_eq (by omega) (by omega)) (fun h16 => ?_) (fun h16 => ?_)
  · first | omega | exact (nI_pos (by omega) h20).elim | exact h20.elim
  · refine j_iload_n C dX10_must_19 rfl 5 rfl ?_
    refine j_if_lt (tgt := 28) C dX10_must_20 (by decide) (nJ_lt0 (by omega)) (fun h20 => ?_) (fun h20 => ?_)
    · first | omega | exact (nI_pos (by omega) h20).elim | exact h20.elim
    · refine j_iload_n C dX10_must_23 rfl 5 rfl ?_
      refine j_iconst C (nI 2) dX10_must_24 (by decide) ?_
      refine j_icmp_le (tgt := 38) C dX10_must_25 (by decide) (nI_leI (by omega) (by omega)) (fun h25 => ?_) (fun h25 => ?_)
      · refine j_aload C dX10_must_38 1 rfl ?_
        refine j_getV C hwX5 8 i 5 (CR.n8 hC (by decide) (show i < M 31 5 by omega)) rfl rfl (by decide) rfl i (CR.v hC 8 i 5 ⟨show i < M 31 5 by omega, by decide, by decide⟩ id) hL154 dX10_must_40 ?_
        refine j_aload C dX10_must_43 0 rfl ?_
        refine j_getI C hwX5 8 j 0 (CR.n8 hC (by decide) (show j < M 31 5 by omega)) rfl rfl (by decide) rfl (nI j) (CR.i hC 8 j 0 ⟨show j < M 31 5 by omega, Or.inl rfl⟩ id) hL121 dX10_must_45 ?_
        have hb48 : M 39 (40 * i + j) ≤ 2 := hB 39 _ (decide_eq_true (show 40 * i + j < 1600 by omega))
        refine j_iald C 12 i j (CR.n8 hC (by decide) (show i < M 31 5 by omega)) rfl rfl 40 (CR.l8 hC (show i < M 31 5 by omega)).2.2.1 (by omega) (by omega) (nI (M 39 (40 * i + j))) (CR.i hC 12 i j ⟨show i < M 31 5 by omega, by omega⟩ id) dX10_must_48 ?_
        refine j_istore C [(6, .int (nI (M 39 (40 * i + j)))), (5, .ref (gA Λ 8 j)), (4, .ref (gA Λ 8 i)), (0, .ref (gA Λ 0 0)), (1, .int (nI i)), (2, .int (nI j)), (3, .int (nI k))] dX10_must_49 (by decide) rfl ?_
        refine j_aload C dX10_must_51 2 rfl ?_
        refine j_getV C hwX5 8 i 5 (CR.n8 hC (by decide) (show i < M 31 5 by omega)) rfl rfl (by decide) rfl i (CR.v hC 8 i 5 ⟨show i < M 31 5 by omega, by decide, by decide⟩ id) hL154 dX10_must_53 ?_
        refine j_aload C dX10_must_56 1 rfl ?_
        refine j_getI C hwX5 8 j 0 (CR.n8 hC (by decide) (show j < M 31 5 by omega)) rfl rfl (by decide) rfl (nI j) (CR.i hC 8 j 0 ⟨show j < M 31 5 by omega, Or.inl rfl⟩ id) hL121 dX10_must_58 ?_
        refine j_iload_n C dX10_must_61 rfl 6 rfl ?_
        refine j_iast C 12 i j (CR.n8 hC (by decide) (show i < M 31 5 by omega)) rfl rfl 40 (CR.l8 hC (show i < M 31 5 by omega)).2.2.1 (by omega) (by omega) (nI k) rfl dX10_must_62 ?_
        refine j_aload C dX10_must_63 1 rfl ?_
        refine j_getV C hwX5 8 j 5 (CR.n8 hC (by decide) (show j < M 31 5 by omega)) rfl rfl (by decide) rfl j (CR.v hC 8 j 5 ⟨show j < M 31 5 by omega, by decide, by decide⟩ id) hL154 dX10_must_65 ?_
        refine j_aload C dX10_must_68 2 rfl ?_
        refine j_getI C hwX5 8 i 0 (CR.n8 hC (by decide) (show i < M 31 5 by omega)) rfl rfl (by decide) rfl (nI i) (CR.i hC 8 i 0 ⟨show i < M 31 5 by omega, Or.inl rfl⟩ id) hL121 dX10_must_70 ?_
        refine j_iload_n C dX10_must_73 rfl 6 rfl ?_
        refine j_iast C 12 j i (CR.n8 hC (by decide) (show j < M 31 5 by omega)) rfl rfl 40 (CR.l8 hC (show j < M 31 5 by omega)).2.2.1 (by omega) (by omega) (nI k) rfl dX10_must_74 ?_
        refine j_iload C dX10_must_75 0 rfl ?_
        exact j_iret C hr hlk (⟨rfl, CR.must hC (by omega) (by omega) hij, rfl⟩) dX10_must_77
      · first | omega | exact (nI_pos (by omega) h20).elim | exact h20.elim

set_option maxHeartbeats 4000000 in
set_option maxRecDepth 100000 in
theorem c_tie_0 (l : Launch) (D : va_G) (cy : Nat → ClassId) (base : Nat) (Λ : LY) (σ : HS) (M : MM) (hC : CR noEx Λ σ M) (hB : MBd M) (i j : Nat) (hi : i < M 31 5) (hj : j < M 31 5) (hij : i ≠ j) (x : Nat) (hx : 1 ≤ x) (hx2 : x ≤ 1000) (hW : WT M) : Met l yX10_tie wsX10_tie ({ frames := 16, cells := 0, slots := 0, locals := 240 }) (va_Pc [.ref (gA Λ 0 0), .int (nI i), .int (nI j), .int (nI 0), .int (nI x)] (Wd D cy base Λ σ)) (va_Qi (fun v u => v = nI (tieV M i j 0 x) ∧ CR noEx Λ u (settle (tieM M i j 0 x)) ∧ Same nTe σ u) (Wd D cy base Λ) (Ab base)) 0 0 (Ab base) := by
  refine j_start (cc := cX10_tie) (nL := 7) (ret := (some .int)) (lv := [(0, .ref (gA Λ 0 0)), (1, .int (nI i)), (2, .int (nI j)), (3, .int (nI 0)), (4, .int (nI x))]) (by decide) rfl (Nat.le_of_ble_eq_true rfl) rfl ?_
  intro p e s m below meth c C hr hlk hnm
  have C : Cx p s m ([.ref (gA Λ 0 0), .int (nI i), .int (nI j), .int (nI 0), .int (nI x)] : List Value).toArray c cX10_tie 7 RX10 wsX10_tie D cy base := C
  have hts := C.2.2.2.2.1
  have hwX10 : ∀ w ∈ u_ws RX10 TX10 9, w ∈ wsX10_tie := by decide +kernel
  have hM24 : (Cond.fieldLink RX10 24 (TX10 2).1 (TX10 2).2.1 (TX10 2).2.2.1).before ([.ref (gA Λ 0 0), .int (nI i), .int (nI j), .int (nI 0), .int (nI x)] : List Value).toArray s = true := hts (.fieldLink RX10 24 "CodeRooms" "plan" "LCodeRooms$Plan;") (by decide +kernel)
  have hL24 : FL RX10 24 (TX10 2).1 (TX10 2).2.1 (TX10 2).2.2.1 ([.ref (gA Λ 0 0), .int (nI i), .int (nI j), .int (nI 0), .int (nI x)] : List Value).toArray s := Or.inl hM24
  have hn : M 31 5 ≤ 40 := hB 31 5 rfl
  refine j_aload_n C dX10_tie_0 rfl 0 rfl ?_
  refine j_iload_n C dX10_tie_1 rfl 1 rfl ?_
  refine c_r0 C (r_V C 0 0 [.int (nI i)] (c_X10_known l D cy base Λ σ M hC hB i (by omega)) (cwV 1 hts gX10_tie_X10_known rfl rfl rfl (by decide +kernel) ⟨by decide, by decide⟩) (CR.n1 hC (by decide)) rfl rfl rfl rfl (Nat.le_of_ble_eq_true rfl) dX10_tie_2 ⟨by decide, by decide⟩) (fun uu jj hp => ?_)
  obtain ⟨hk1, hk2⟩ := Prod.mk.inj hp
  rw [hk1, hk2]
  refine j_astore C [(5, .ref (gA Λ 8 i)), (0, .ref (gA Λ 0 0)), (1, .int (nI i)), (2, .int (nI j)), (3, .int (nI 0)), (4, .int (nI x))] dX10_tie_5 (by decide) rfl ?_
  refine j_aload_n C dX10_tie_7 rfl 1 rfl ?_
  refine j_iload_n C dX10_tie_8 rfl 3 rfl ?_
  refine c_r0 C (r_V C 0 0 [.int (nI j)] (c_X10_known l D cy base Λ σ M hC hB j (by omega)) (cwV 1 hts gX10_tie_X10_known rfl rfl rfl (by decide +kernel) ⟨by decide, by decide⟩) (CR.n1 hC (by decide)) rfl rfl rfl rfl (Nat.le_of_ble_eq_true rfl) dX10_tie_9 ⟨by decide, by decide⟩) (fun uu jj hp => ?_)
  obtain ⟨hk1, hk2⟩ := Prod.mk.inj hp
  rw [hk1, hk2]
  refine j_astore C [(6, .ref (gA Λ 8 j)), (5, .ref (gA Λ 8 i)), (0, .ref (gA Λ 0 0)), (1, .int (nI i)), (2, .int (nI j)), (3, .int (nI 0)), (4, .int (nI x))] dX10_tie_12 (by decide) rfl ?_
  refine j_iload_n C dX10_tie_14 rfl 3 rfl ?_
  refine j_iload_n C dX10_tie_15 rfl 4 rfl ?_
  refine j_icmp_eq (tgt := 42) C dX10_tie_16 (by decide) (nI_eq (by omega) (by omega)) (fun h16 => ?_) (fun h16 => ?_)
  · first | omega | exact h20.elim
  · refine j_iload_n C dX10_tie_19 rfl 5 rfl ?_
    refine j_if_lt (tgt := 42) C (P := False) dX10_tie_20 (by decide) (by decide) (fun z => ?_) (fun z => ?_)
    · exact z.elim
    · refine j_iload_n C dX10_tie_23 rfl 5 rfl ?_
      refine j_iconst C (nI 3) dX10_tie_24 (by decide) ?_
      refine j_icmp_ge (tgt := 42) C (P := False) dX10_tie_25 (by decide) (by decide) (fun z => ?_) (fun z => ?_)
      · exact z.elim
      · refine j_iload C dX10_tie_28 6 rfl ?_
        refine j_iconst C (nI 1) dX10_tie_30 (by decide) ?_
        refine j_icmp_lt (tgt := 42) C dX10_tie_31 (by decide) (nI_ltI (by omega) (by omega)) (fun h31 => ?_) (fun h31 => ?_)
        · first | omega | exact h20.elim
        · refine j_iload C dX10_tie_34 6 rfl ?_
          refine j_sipush C (nI 1000) dX10_tie_36 (by decide) ?_
          refine j_icmp_le (tgt := 52) C dX10_tie_39 (by decide) (nI_leI (by omega) (by omega)) (fun h39 => ?_) (fun h39 => ?_)
          · refine j_aload_n C dX10_tie_52 rfl 2 rfl ?_
            refine j_getV C hwX10 0 0 2 (CR.n1 hC (by decide)) rfl rfl (by decide) rfl 0 (CR.v hC 0 0 2 ⟨rfl, by decide⟩ id) hL24 dX10_tie_53 ?_
            refine j_aload C dX10_tie_56 1 rfl ?_
            refine j_aload C dX10_tie_58 0 rfl ?_
            refine j_iload_n C dX10_tie_60 rfl 5 rfl ?_
            refine j_iload C dX10_tie_61 6 rfl ?_
            refine c_i0 C (r_V C 3 0 [.ref (gA Λ 8 i), .ref (gA Λ 8 j), .int (nI 0), .int (nI x)] (c_tell0 l D cy base Λ σ M hC hB hW i j hi hj hij x hx hx2) (cwV 4 hts gX10_tie_X4_tell rfl rfl rfl (by decide +kernel) ⟨by decide, by decide⟩) (CR.n1 hC (by decide)) rfl rfl rfl rfl (Nat.le_of_ble_eq_true rfl) dX10_tie_63 ⟨by decide, by decide⟩) (fun rv u1 hp => ?_)
            exact j_iret C hr hlk (hp) dX10_tie_66
          · first | omega | exact h20.elim

set_option maxHeartbeats 4000000 in
set_option maxRecDepth 100000 in
theorem c_tie_12 (l : Launch) (D : va_G) (cy : Nat → ClassId) (base : Nat) (Λ : LY) (σ : HS) (M : MM) (hC : CR noEx Λ σ M) (hB : MBd M) (i j : Nat) (hi : i < M 31 5) (hj : j < M 31 5) (hij : i ≠ j) (k : Nat) (hk : k = 1 ∨ k = 2) (x : Nat) (hx : 1 ≤ x) (hx2 : x ≤ 1000) (hW : WT M) : Met l yX10_tie wsX10_tie ({ frames := 16, cells := 0, slots := 0, locals := 240 }) (va_Pc [.ref (gA Λ 0 0), .int (nI i), .int (nI j), .int (nI k), .int (nI x)] (Wd D cy base Λ σ)) (va_Qi (fun v u => v = nI (tieV M i j k x) ∧ CR noEx Λ u (settle (tieM M i j k x)) ∧ Same nTe σ u) (Wd D cy base Λ) (Ab base)) 0 0 (Ab base) := by
  refine j_start (cc := cX10_tie) (nL := 7) (ret := (some .int)) (lv := [(0, .ref (gA Λ 0 0)), (1, .int (nI i)), (2, .int (nI j)), (3, .int (nI k)), (4, .int (nI x))]) (by decide) rfl (Nat.le_of_ble_eq_true rfl) rfl ?_
  intro p e s m below meth c C hr hlk hnm
  have C : Cx p s m ([.ref (gA Λ 0 0), .int (nI i), .int (nI j), .int (nI k), .int (nI x)] : List Value).toArray c cX10_tie 7 RX10 wsX10_tie D cy base := C
  have hts := C.2.2.2.2.1
  have hwX10 : ∀ w ∈ u_ws RX10 TX10 9, w ∈ wsX10_tie := by decide +kernel
  have hM24 : (Cond.fieldLink RX10 24 (TX10 2).1 (TX10 2).2.1 (TX10 2).2.2.1).before ([.ref (gA Λ 0 0), .int (nI i), .int (nI j), .int (nI k), .int (nI x)] : List Value).toArray s = true := hts (.fieldLink RX10 24 "CodeRooms" "plan" "LCodeRooms$Plan;") (by decide +kernel)
  have hL24 : FL RX10 24 (TX10 2).1 (TX10 2).2.1 (TX10 2).2.2.1 ([.ref (gA Λ 0 0), .int (nI i), .int (nI j), .int (nI k), .int (nI x)] : List Value).toArray s := Or.inl hM24
  have hn : M 31 5 ≤ 40 := hB 31 5 rfl
  refine j_aload_n C dX10_tie_0 rfl 0 rfl ?_
  refine j_iload_n C dX10_tie_1 rfl 1 rfl ?_
  refine c_r0 C (r_V C 0 0 [.int (nI i)] (c_X10_known l D cy base Λ σ M hC hB i (by omega)) (cwV 1 hts gX10_tie_X10_known rfl rfl rfl (by decide +kernel) ⟨by decide, by decide⟩) (CR.n1 hC (by decide)) rfl rfl rfl rfl (Nat.le_of_ble_eq_true rfl) dX10_tie_2 ⟨by decide, by decide⟩) (fun uu jj hp => ?_)
  obtain ⟨hk1, hk2⟩ := Prod.mk.inj hp
  rw [hk1, hk2]
  refine j_astore C [(5, .ref (gA Λ 8 i)), (0, .ref (gA Λ 0 0)), (1, .int (nI i)), (2, .int (nI j)), (3, .int (nI k)), (4, .int (nI x))] dX10_tie_5 (by decide) rfl ?_
  refine j_aload_n C dX10_tie_7 rfl 1 rfl ?_
  refine j_iload_n C dX10_tie_8 rfl 3 rfl ?_
  refine c_r0 C (r_V C 0 0 [.int (nI j)] (c_X10_known l D cy base Λ σ M hC hB j (by omega)) (cwV 1 hts gX10_tie_X10_known rfl rfl rfl (by decide +kernel) ⟨by decide, by decide⟩) (CR.n1 hC (by decide)) rfl rfl rfl rfl (Nat.le_of_ble_eq_true rfl) dX10_tie_9 ⟨by decide, by decide⟩) (fun uu jj hp => ?_)
  obtain ⟨hk1, hk2⟩ := Prod.mk.inj hp
  rw [hk1, hk2]
  refine j_astore C [(6, .ref (gA Λ 8 j)), (5, .ref (gA Λ 8 i)), (0, .ref (gA Λ 0 0)), (1, .int (nI i)), (2, .int (nI j)), (3, .int (nI k)), (4, .int (nI x))] dX10_tie_12 (by decide) rfl ?_
  refine j_iload_n C dX10_tie_14 rfl 3 rfl ?_
  refine j_iload_n C dX10_tie_15 rfl 4 rfl ?_
  refine j_icmp_eq (tgt := 42) C dX10_tie_16 (by decide) (nI_eq (by omega) (by omega)) (fun h16 => ?_) (fun h16 => ?_)
  · first | omega | exact h20.elim
  · refine j_iload_n C dX10_tie_19 rfl 5 rfl ?_
    refine j_if_lt (tgt := 42) C dX10_tie_20 (by decide) (nJ_lt0 (by omega)) (fun h20 => ?_) (fun h20 => ?_)
    · first | omega | exact h20.elim
    · refine j_iload_n C dX10_tie_23 rfl 5 rfl ?_
      refine j_iconst C (nI 3) dX10_tie_24 (by decide) ?_
      refine j_icmp_ge (tgt := 42) C dX10_tie_25 (by decide) (nI_leI (by omega) (by omega)) (fun h25 => ?_) (fun h25 => ?_)
      · first | omega | exact h20.elim
      · refine j_iload C dX10_tie_28 6 rfl ?_
        refine j_iconst C (nI 1) dX10_tie_30 (by decide) ?_
        refine j_icmp_lt (tgt := 42) C dX10_tie_31 (by decide) (nI_ltI (by omega) (by omega)) (fun h31 => ?_) (fun h31 => ?_)
        · first | omega | exact h20.elim
        · refine j_iload C dX10_tie_34 6 rfl ?_
          refine j_sipush C (nI 1000) dX10_tie_36 (by decide) ?_
          refine j_icmp_le (tgt := 52) C dX10_tie_39 (by decide) (nI_leI (by omega) (by omega)) (fun h39 => ?_) (fun h39 => ?_)
          · refine j_aload_n C dX10_tie_52 rfl 2 rfl ?_
            refine j_getV C hwX10 0 0 2 (CR.n1 hC (by decide)) rfl rfl (by decide) rfl 0 (CR.v hC 0 0 2 ⟨rfl, by decide⟩ id) hL24 dX10_tie_53 ?_
            refine j_aload C dX10_tie_56 1 rfl ?_
            refine j_aload C dX10_tie_58 0 rfl ?_
            refine j_iload_n C dX10_tie_60 rfl 5 rfl ?_
            refine j_iload C dX10_tie_61 6 rfl ?_
            refine c_i0 C (r_V C 3 0 [.ref (gA Λ 8 i), .ref (gA Λ 8 j), .int (nI k), .int (nI x)] (c_tell12 l D cy base Λ σ M hC hB hW i j hi hj hij k hk x hx hx2) (cwV 4 hts gX10_tie_X4_tell rfl rfl rfl (by decide +kernel) ⟨by decide, by decide⟩) (CR.n1 hC (by decide)) rfl rfl rfl rfl (Nat.le_of_ble_eq_true rfl) dX10_tie_63 ⟨by decide, by decide⟩) (fun rv u1 hp => ?_)
            exact j_iret C hr hlk (hp) dX10_tie_66
          · first | omega | exact h20.elim
