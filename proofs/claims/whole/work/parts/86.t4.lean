theorem t8 (x : Int32) : x.toInt8.toInt32.toInt8.toInt32 = x.toInt8.toInt32 := by
  have h : x.toInt8.toInt32.toInt8 = x.toInt8 := by simp
  rw [h]
/-- n bytes, then those of another row -/
def apT (f : Nat → Nat) (n : Nat) (g : Nat → Nat) : Nat → Nat := fun k => if k < n then f k else g (k - n)
set_option maxHeartbeats 4000000 in
set_option maxRecDepth 100000 in
theorem c_X7_addAll (l : Launch) (D : va_G) (cy : Nat → ClassId) (base : Nat) (Λ : LY) (σ : HS) (i n cp : Nat) (f : Nat → Nat) (hT : TX Λ σ i n cp f) (i2 n2 cp2 : Nat) (g : Nat → Nat) (hT2 : TX Λ σ i2 n2 cp2 g) (hne : i2 ≠ i) (hn : n + n2 ≤ cp) : Met l yX7_addAll wsX7_addAll ({ frames := 8, cells := 0, slots := 0, locals := 120 }) (va_Pc [.ref (gA Λ 1 i), .ref (gA Λ 1 i2)] (Wd D cy base Λ σ)) (va_Qv (fun u => TX Λ u i (n + n2) cp (apT f n g) ∧ GX σ u i) (Wd D cy base Λ) (Ab base)) 0 0 (Ab base) := by
  refine j_start (cc := cX7_addAll) (nL := 3) (ret := none) (lv := [(0, .ref (gA Λ 1 i)), (1, .ref (gA Λ 1 i2))]) (by decide) rfl (Nat.le_of_ble_eq_true rfl) rfl ?_
  intro p e s m below meth c C hr hlk hnm
  have C : Cx p s m ([.ref (gA Λ 1 i), .ref (gA Λ 1 i2)] : List Value).toArray c cX7_addAll 3 RX7 wsX7_addAll D cy base := C
  have hts := C.2.2.2.2.1
  have hwX7 : ∀ w ∈ u_ws RX7 TX7 2, w ∈ wsX7_addAll := by decide +kernel
  have hM15 : (Cond.fieldLink RX7 15 (TX7 0).1 (TX7 0).2.1 (TX7 0).2.2.1).before ([.ref (gA Λ 1 i), .ref (gA Λ 1 i2)] : List Value).toArray s = true := hts (.fieldLink RX7 15 "CodeRooms$Text" "bytes" "[B") (by decide +kernel)
  have hL15 : FL RX7 15 (TX7 0).1 (TX7 0).2.1 (TX7 0).2.2.1 ([.ref (gA Λ 1 i), .ref (gA Λ 1 i2)] : List Value).toArray s := Or.inl hM15
  have hM21 : (Cond.fieldLink RX7 21 (TX7 1).1 (TX7 1).2.1 (TX7 1).2.2.1).before ([.ref (gA Λ 1 i), .ref (gA Λ 1 i2)] : List Value).toArray s = true := hts (.fieldLink RX7 21 "CodeRooms$Text" "size" "I") (by decide +kernel)
  have hL21 : FL RX7 21 (TX7 1).1 (TX7 1).2.1 (TX7 1).2.2.1 ([.ref (gA Λ 1 i), .ref (gA Λ 1 i2)] : List Value).toArray s := Or.inl hM21
  have htn := hT.2.2.2.2.1
  have htc := hT.2.2.2.2.2.2.1
  have htn2 := hT2.2.2.2.2.1
  have htc2 := hT2.2.2.2.2.2.2.1
  refine j_iconst C (nI 0) dX7_addAll_0 (by decide) ?_
  refine j_istore_n C [(2, .int (nI 0)), (0, .ref (gA Λ 1 i)), (1, .ref (gA Λ 1 i2))] dX7_addAll_1 rfl (by decide) rfl ?_
  have lb2 : ∀ (fu : Nat) (σ1 : HS) (k : Nat), (n2 - k) < fu → (k ≤ n2) → (TX Λ σ1 i (n + k) cp (apT f n g)) → (GX σ σ1 i) → J p l e ({ frames := 8, cells := 0, slots := 0, locals := 120 }) s m ([.ref (gA Λ 1 i), .ref (gA Λ 1 i2)] : List Value).toArray below meth c 3 D cy base (MQ below (va_Qv (fun u => TX Λ u i (n + n2) cp (apT f n g) ∧ GX σ u i) (Wd D cy base Λ) (Ab base)) ([.ref (gA Λ 1 i), .ref (gA Λ 1 i2)] : List Value).toArray s 0 0 (Ab base)) 0 0 Λ 2 [(0, .ref (gA Λ 1 i)), (1, .ref (gA Λ 1 i2)), (2, .int (nI k))] [] σ1 := by
    intro fu
    induction fu with
    | zero => intro σ1 k hfu; exact absurd hfu (Nat.not_lt_zero _)
    | succ fu ih =>
      intro σ1 k hfu hk hT1 hG1
      have ih2 := ih
      refine j_iload_n C dX7_addAll_2 rfl 2 rfl ?_
      refine j_aload_n C dX7_addAll_3 rfl 1 rfl ?_
      have htn4 := (GX.tx hG1 hne hT2).2.2.2.2.1
      have htc4 := (GX.tx hG1 hne hT2).2.2.2.2.2.2.1
      refine j_getI C hwX7 1 i2 1 ((GX.tx hG1 hne hT2).1) rfl rfl (by decide) rfl (nI n2) ((GX.tx hG1 hne hT2).2.2.2.1) hL21 dX7_addAll_4 ?_
      refine j_icmp_ge (tgt := 26) C dX7_addAll_7 (by decide) (nI_leI (by omega) (by omega)) (fun h7 => ?_) (fun h7 => ?_)
      · exact j_vret C hr hlk (⟨by have q9 := hT1; rw [show k = n2 by omega] at q9; exact q9, hG1⟩) dX7_addAll_26
      · refine j_aload_n C dX7_addAll_10 rfl 0 rfl ?_
        refine j_aload_n C dX7_addAll_11 rfl 1 rfl ?_
        refine j_getV C hwX7 1 i2 0 ((GX.tx hG1 hne hT2).1) rfl rfl (by decide) rfl i2 ((GX.tx hG1 hne hT2).2.2.1) hL15 dX7_addAll_12 ?_
        refine j_iload_n C dX7_addAll_15 rfl 2 rfl ?_
        have htb16 := (GX.tx hG1 hne hT2).2.2.2.2.2.2.2.2 k (by omega)
        refine j_bald C 2 i2 k ((GX.tx hG1 hne hT2).2.1) rfl rfl cp2 ((GX.tx hG1 hne hT2).2.2.2.2.2.1) (by omega) (by omega) ((nI (g k)).toInt8.toInt32) ((GX.tx hG1 hne hT2).2.2.2.2.2.2.2.1 k (by omega)) dX7_addAll_16 ?_
        refine c_v0 C (r_V C 1 i [.int ((nI (g k)).toInt8.toInt32)] (c_add_in l D cy base Λ σ1 i (n + k) cp (apT f n g) hT1 ((nI (g k)).toInt8.toInt32) (by omega)) (cwV 1 hts gX7_addAll_X7_add rfl rfl rfl (by decide +kernel) ⟨by decide, by decide⟩) (hT1.1) rfl rfl rfl rfl (Nat.le_of_ble_eq_true rfl) dX7_addAll_17 ⟨by decide, by decide⟩) (fun v1 hp => ?_)
        have hT3 : TX Λ v1 i (n + k + 1) cp (fun j => if j = n + k then g k else apT f n g j) := by rw [hp]; exact TX.add hT1 (by omega) (by omega) (t8 _)
        have hG3 : GX σ v1 i := by rw [hp]; exact GX.s (GX.s hG1 (Or.inr rfl)) (Or.inl rfl)
        refine j_iinc C [(2, .int (nI (k + 1))), (0, .ref (gA Λ 1 i)), (1, .ref (gA Λ 1 i2))] (nI (k + 1)) dX7_addAll_20 2 rfl (nI_add _ 1) (by decide) rfl ?_
        refine j_goto (tgt := 2) C dX7_addAll_23 (by decide) ?_
        refine j_lv [1, 2, 0] rfl ?_
        exact ih2 v1 (k + 1) (by omega) (by omega) (hT3.ext (fun j hj => by by_cases q9 : j = n + k; rw [if_pos q9]; unfold apT; rw [if_neg (by omega), show j - n = k by omega]; rw [if_neg q9])) hG3
  refine j_lv [1, 2, 0] rfl ?_
  exact lb2 _ σ 0 (Nat.lt_succ_self _) (by omega) (hT.ext (fun j hj => by unfold apT; rw [if_pos hj])) GX.rf
