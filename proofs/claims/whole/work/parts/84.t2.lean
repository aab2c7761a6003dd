theorem sb0 {a b : Nat} (ha : a ≤ 255) (hb : b ≤ 255) : nI a - nI b = 0 ↔ a = b := by
  rw [← Int32.toInt_inj, pk_sub_toInt (by omega) (by omega)]
  have e : (0 : Int32).toInt = 0 := by decide
  rw [e]
  omega
set_option maxHeartbeats 4000000 in
set_option maxRecDepth 100000 in
theorem c_X7_compareWith (l : Launch) (D : va_G) (cy : Nat → ClassId) (base : Nat) (Λ : LY) (σ : HS) (i n cp : Nat) (f : Nat → Nat) (hT : TX Λ σ i n cp f) (i2 n2 cp2 : Nat) (g : Nat → Nat) (hT2 : TX Λ σ i2 n2 cp2 g) : Met l yX7_compareWith wsX7_compareWith ({ frames := 8, cells := 0, slots := 0, locals := 120 }) (va_Pc [.ref (gA Λ 1 i), .ref (gA Λ 1 i2)] (Wd D cy base Λ σ)) (va_Qi (fun v u => cmpOk v n f n2 g ∧ u = σ) (Wd D cy base Λ) (Ab base)) 0 0 (Ab base) := by
  refine j_start (cc := cX7_compareWith) (nL := 5) (ret := (some .int)) (lv := [(0, .ref (gA Λ 1 i)), (1, .ref (gA Λ 1 i2))]) (by decide) rfl (Nat.le_of_ble_eq_true rfl) rfl ?_
  intro p e s m below meth c C hr hlk hnm
  have C : Cx p s m ([.ref (gA Λ 1 i), .ref (gA Λ 1 i2)] : List Value).toArray c cX7_compareWith 5 RX7 wsX7_compareWith D cy base := C
  have hts := C.2.2.2.2.1
  have hwX7 : ∀ w ∈ u_ws RX7 TX7 2, w ∈ wsX7_compareWith := by decide +kernel
  have hM21 : (Cond.fieldLink RX7 21 (TX7 1).1 (TX7 1).2.1 (TX7 1).2.2.1).before ([.ref (gA Λ 1 i), .ref (gA Λ 1 i2)] : List Value).toArray s = true := hts (.fieldLink RX7 21 "CodeRooms$Text" "size" "I") (by decide +kernel)
  have hL21 : FL RX7 21 (TX7 1).1 (TX7 1).2.1 (TX7 1).2.2.1 ([.ref (gA Λ 1 i), .ref (gA Λ 1 i2)] : List Value).toArray s := Or.inl hM21
  have htn := hT.2.2.2.2.1
  have htc := hT.2.2.2.2.2.2.1
  have htn2 := hT2.2.2.2.2.1
  have htc2 := hT2.2.2.2.2.2.2.1
  refine j_aload_n C dX7_compareWith_0 rfl 0 rfl ?_
  have htn1 := hT.2.2.2.2.1
  have htc1 := hT.2.2.2.2.2.2.1
  refine j_getI C hwX7 1 i 1 (hT.1) rfl rfl (by decide) rfl (nI n) (hT.2.2.2.1) hL21 dX7_compareWith_1 ?_
  refine j_aload_n C dX7_compareWith_4 rfl 1 rfl ?_
  have htn5 := hT2.2.2.2.2.1
  have htc5 := hT2.2.2.2.2.2.2.1
  refine j_getI C hwX7 1 i2 1 (hT2.1) rfl rfl (by decide) rfl (nI n2) (hT2.2.2.2.1) hL21 dX7_compareWith_5 ?_
  refine j_mmin C (nI (min n n2)) (by decide +kernel) rfl rfl rfl rfl dX7_compareWith_8 (nI_min (by omega) (by omega)) ?_
  refine j_istore_n C [(2, .int (nI (min n n2))), (0, .ref (gA Λ 1 i)), (1, .ref (gA Λ 1 i2))] dX7_compareWith_11 rfl (by decide) rfl ?_
  refine j_iconst C (nI 0) dX7_compareWith_12 (by decide) ?_
  refine j_istore_n C [(3, .int (nI 0)), (2, .int (nI (min n n2))), (0, .ref (gA Λ 1 i)), (1, .ref (gA Λ 1 i2))] dX7_compareWith_13 rfl (by decide) rfl ?_
  have lb14 : ∀ (fu : Nat) (k : Nat), (min n n2 - k) < fu → (k ≤ min n n2) → (∀ j, j < k → f j = g j) → J p l e ({ frames := 8, cells := 0, slots := 0, locals := 120 }) s m ([.ref (gA Λ 1 i), .ref (gA Λ 1 i2)] : List Value).toArray below meth c 5 D cy base (MQ below (va_Qi (fun v u => cmpOk v n f n2 g ∧ u = σ) (Wd D cy base Λ) (Ab base)) ([.ref (gA Λ 1 i), .ref (gA Λ 1 i2)] : List Value).toArray s 0 0 (Ab base)) 0 0 Λ 14 [(0, .ref (gA Λ 1 i)), (1, .ref (gA Λ 1 i2)), (2, .int (nI (min n n2))), (3, .int (nI k))] [] σ := by
    intro fu
    induction fu with
    | zero => intro k hfu; exact absurd hfu (Nat.not_lt_zero _)
    | succ fu ih =>
      intro k hfu hk he
      have ih14 := ih
      refine j_iload_n C dX7_compareWith_14 rfl 3 rfl ?_
      refine j_iload_n C dX7_compareWith_15 rfl 2 rfl ?_
      refine j_icmp_ge (tgt := 46) C dX7_compareWith_16 (by decide) (nI_leI (by omega) (by omega)) (fun h16 => ?_) (fun h16 => ?_)
      · refine j_aload_n C dX7_compareWith_46 rfl 0 rfl ?_
        have htn47 := hT.2.2.2.2.1
        have htc47 := hT.2.2.2.2.2.2.1
        refine j_getI C hwX7 1 i 1 (hT.1) rfl rfl (by decide) rfl (nI n) (hT.2.2.2.1) hL21 dX7_compareWith_47 ?_
        refine j_aload_n C dX7_compareWith_50 rfl 1 rfl ?_
        have htn51 := hT2.2.2.2.2.1
        have htc51 := hT2.2.2.2.2.2.2.1
        refine j_getI C hwX7 1 i2 1 (hT2.1) rfl rfl (by decide) rfl (nI n2) (hT2.2.2.2.1) hL21 dX7_compareWith_51 ?_
        refine j_isub C ((nI n) - (nI n2)) dX7_compareWith_54 rfl ?_
        exact j_iret C hr hlk (⟨cmp_pre he (by omega) (by omega) (by omega) (by omega) (by omega), rfl⟩) dX7_compareWith_55
      · refine j_aload_n C dX7_compareWith_19 rfl 0 rfl ?_
        refine j_iload_n C dX7_compareWith_20 rfl 3 rfl ?_
        refine c_i0 C (r_V C 1 i [.int (nI k)] (c_at_in l D cy base Λ σ i n cp f hT k (by omega)) (cwV 1 hts gX7_compareWith_X7_at rfl rfl rfl (by decide +kernel) ⟨by decide, by decide⟩) (hT.1) rfl rfl rfl rfl (Nat.le_of_ble_eq_true rfl) dX7_compareWith_21 ⟨by decide, by decide⟩) (fun rv uu hp => ?_)
        rw [hp.1, hp.2]
        have hat21 := hT.2.2.2.2.2.2.2.2 k (by omega)
        refine j_aload_n C dX7_compareWith_24 rfl 1 rfl ?_
        refine j_iload_n C dX7_compareWith_25 rfl 3 rfl ?_
        refine c_i0 C (r_V C 1 i2 [.int (nI k)] (c_at_in l D cy base Λ σ i2 n2 cp2 g hT2 k (by omega)) (cwV 1 hts gX7_compareWith_X7_at rfl rfl rfl (by decide +kernel) ⟨by decide, by decide⟩) (hT2.1) rfl rfl rfl rfl (Nat.le_of_ble_eq_true rfl) dX7_compareWith_26 ⟨by decide, by decide⟩) (fun rv uu hp => ?_)
        rw [hp.1, hp.2]
        have hat26 := hT2.2.2.2.2.2.2.2.2 k (by omega)
        refine j_isub C ((nI (f k)) - (nI (g k))) dX7_compareWith_29 rfl ?_
        refine j_istore C [(4, .int ((nI (f k)) - (nI (g k)))), (0, .ref (gA Λ 1 i)), (1, .ref (gA Λ 1 i2)), (2, .int (nI (min n n2))), (3, .int (nI k))] dX7_compareWith_30 (by decide) rfl ?_
        refine j_iload C dX7_compareWith_32 0 rfl ?_
        refine j_if_eq (tgt := 40) C dX7_compareWith_34 (by decide) (sb0 (by omega) (by omega)) (fun h34 => ?_) (fun h34 => ?_)
        · refine j_iinc C [(3, .int (nI (k + 1))), (4, .int ((nI (f k)) - (nI (g k)))), (0, .ref (gA Λ 1 i)), (1, .ref (gA Λ 1 i2)), (2, .int (nI (min n n2)))] (nI (k + 1)) dX7_compareWith_40 4 rfl (nI_add _ 1) (by decide) rfl ?_
          refine j_goto (tgt := 14) C dX7_compareWith_43 (by decide) ?_
          refine j_lv [2, 3, 4, 0] rfl ?_
          exact ih14 (k + 1) (by omega) (by omega) (fun j hj => by by_cases e9 : j = k; rw [e9]; exact h34; exact he j (by omega))
        · refine j_iload C dX7_compareWith_37 0 rfl ?_
          exact j_iret C hr hlk (⟨cmp_diff he (by omega) (by omega) h34 (by omega) (by omega), rfl⟩) dX7_compareWith_39
  refine j_lv [2, 3, 1, 0] rfl ?_
  exact lb14 _ 0 (Nat.lt_succ_self _) (by omega) (fun j hj => absurd hj (Nat.not_lt_zero _))

/-- only text i changed -/
def GX (σ u : HS) (i : Nat) : Prop := gJ u = gJ σ ∧ gV u = gV σ ∧ ∀ t j, (t ≠ 1 ∧ t ≠ 2) ∨ j ≠ i → gI u t j = gI σ t j
theorem GX.rf {σ : HS} {i : Nat} : GX σ σ i := ⟨rfl, rfl, fun _ _ _ => rfl⟩
theorem GX.s {σ u : HS} {i t k : Nat} {x : Int32} (h : GX σ u i) (ht : t = 1 ∨ t = 2) : GX σ (sI u t i k x) i := ⟨h.1, h.2.1, fun t' j hj => by rw [gI_ne (by omega)]; exact h.2.2 t' j hj⟩
theorem GX.tr {σ u v : HS} {i : Nat} (h : GX σ u i) (g : GX u v i) : GX σ v i := ⟨g.1.trans h.1, g.2.1.trans h.2.1, fun t j q => (g.2.2 t j q).trans (h.2.2 t j q)⟩
theorem GX.tx {Λ : LY} {σ u : HS} {i j n cp : Nat} {f : Nat → Nat} (h : GX σ u i) (hj : j ≠ i) (g : TX Λ σ j n cp f) : TX Λ u j n cp f := by
  obtain ⟨h1, h2, h3, h4, h5, h6, h7, h8, h9⟩ := g
  exact ⟨h1, h2, by rw [h.2.1]; exact h3, by rw [h.2.2 1 j (Or.inr hj)]; exact h4, h5, h6, h7, fun k hk => by rw [h.2.2 2 j (Or.inr hj)]; exact h8 k hk, h9⟩
theorem TX.ext {Λ : LY} {σ : HS} {i n cp : Nat} {f g : Nat → Nat} (h : TX Λ σ i n cp f) (e : ∀ k, k < n → f k = g k) : TX Λ σ i n cp g := by
  obtain ⟨h1, h2, h3, h4, h5, h6, h7, h8, h9⟩ := h
  exact ⟨h1, h2, h3, h4, h5, h6, h7, fun k hk => by rw [h8 k hk, e k hk], fun k hk => by rw [← e k hk]; exact h9 k hk⟩