theorem ushr_nat (v : Int32) {s : Nat} (hs : s < 32) : ((v.toUInt32 >>> ((nI s).toUInt32 &&& Int32.toUInt32 31)).toInt32).toBitVec.toNat = v.toBitVec.toNat / 2 ^ s := by
  apply Nat.eq_of_testBit_eq
  intro j
  have h := b_ushr s hs v j
  unfold bt at h
  rw [← BitVec.getLsbD, h, BitVec.getLsbD, Nat.testBit_div_two_pow, Nat.add_comm]
theorem ush_byte (v : Int32) {j : Nat} (hj : j < 4) : ((v.toUInt32 >>> ((nI (24 - 8 * j)).toUInt32 &&& Int32.toUInt32 31)).toInt32).toInt8.toInt32 = (nI (bytN v j)).toInt8.toInt32 := by
  rw [by8, ushr_nat v (by omega)]
  rfl
theorem low_byte (v : Int32) : v.toInt8.toInt32 = (nI (bytN v 3)).toInt8.toInt32 := by
  rw [by8]
  unfold bytN
  rw [show 24 - 8 * 3 = 0 from rfl, Nat.pow_zero, Nat.div_one]
/-- n bytes, then those of a number -/
def apN (f : Nat → Nat) (n : Nat) (v : Int32) : Nat → Nat := fun k => if k < n then f k else bytN v (k - n)
set_option maxHeartbeats 4000000 in
set_option maxRecDepth 100000 in
theorem c_X7_addNumber (l : Launch) (D : va_G) (cy : Nat → ClassId) (base : Nat) (Λ : LY) (σ : HS) (i n cp : Nat) (f : Nat → Nat) (hT : TX Λ σ i n cp f) (v : Int32) (hn : n + 4 ≤ cp) : Met l yX7_addNumber wsX7_addNumber ({ frames := 8, cells := 0, slots := 0, locals := 120 }) (va_Pc [.ref (gA Λ 1 i), .int (v)] (Wd D cy base Λ σ)) (va_Qv (fun u => TX Λ u i (n + 4) cp (apN f n v) ∧ GX σ u i) (Wd D cy base Λ) (Ab base)) 0 0 (Ab base) := by
  refine j_start (cc := cX7_addNumber) (nL := 2) (ret := none) (lv := [(0, .ref (gA Λ 1 i)), (1, .int (v))]) (by decide) rfl (Nat.le_of_ble_eq_true rfl) rfl ?_
  intro p e s m below meth c C hr hlk hnm
  have C : Cx p s m ([.ref (gA Λ 1 i), .int (v)] : List Value).toArray c cX7_addNumber 2 RX7 wsX7_addNumber D cy base := C
  have hts := C.2.2.2.2.1
  refine j_aload_n C dX7_addNumber_0 rfl 0 rfl ?_
  refine j_iload_n C dX7_addNumber_1 rfl 1 rfl ?_
  refine j_bipush C (nI 24) dX7_addNumber_2 (by decide) ?_
  refine j_iushr C (((v).toUInt32 >>> ((nI 24).toUInt32 &&& Int32.toUInt32 31)).toInt32) dX7_addNumber_4 rfl ?_
  refine c_v0 C (r_V C 1 i [.int (((v).toUInt32 >>> ((nI 24).toUInt32 &&& Int32.toUInt32 31)).toInt32)] (c_add_in l D cy base Λ σ i (n + 0) cp f hT (((v).toUInt32 >>> ((nI 24).toUInt32 &&& Int32.toUInt32 31)).toInt32) (by omega)) (cwV 1 hts gX7_addNumber_X7_add rfl rfl rfl (by decide +kernel) ⟨by decide, by decide⟩) (hT.1) rfl rfl rfl rfl (Nat.le_of_ble_eq_true rfl) dX7_addNumber_5 ⟨by decide, by decide⟩) (fun v0 hp => ?_)
  have hT1 : TX Λ v0 i (n + 0 + 1) cp (fun k => if k = n + 0 then bytN v 0 else f k) := by rw [hp]; exact TX.add hT (show n + 0 < cp by omega) (Nat.le_of_lt_succ (bytN_lt v 0)) (ush_byte v (j := 0) (by decide))
  have hG1 : GX σ v0 i := by rw [hp]; exact GX.s (GX.s GX.rf (Or.inr rfl)) (Or.inl rfl)
  refine j_aload_n C dX7_addNumber_8 rfl 0 rfl ?_
  refine j_iload_n C dX7_addNumber_9 rfl 1 rfl ?_
  refine j_bipush C (nI 16) dX7_addNumber_10 (by decide) ?_
  refine j_iushr C (((v).toUInt32 >>> ((nI 16).toUInt32 &&& Int32.toUInt32 31)).toInt32) dX7_addNumber_12 rfl ?_
  refine c_v0 C (r_V C 1 i [.int (((v).toUInt32 >>> ((nI 16).toUInt32 &&& Int32.toUInt32 31)).toInt32)] (c_add_in l D cy base Λ v0 i (n + 1) cp (fun k => if k = n + 0 then bytN v 0 else f k) hT1 (((v).toUInt32 >>> ((nI 16).toUInt32 &&& Int32.toUInt32 31)).toInt32) (by omega)) (cwV 1 hts gX7_addNumber_X7_add rfl rfl rfl (by decide +kernel) ⟨by decide, by decide⟩) (hT1.1) rfl rfl rfl rfl (Nat.le_of_ble_eq_true rfl) dX7_addNumber_13 ⟨by decide, by decide⟩) (fun v1 hp => ?_)
  have hT2 : TX Λ v1 i (n + 1 + 1) cp (fun k => if k = n + 1 then bytN v 1 else (fun k => if k = n + 0 then bytN v 0 else f k) k) := by rw [hp]; exact TX.add hT1 (show n + 1 < cp by omega) (Nat.le_of_lt_succ (bytN_lt v 1)) (ush_byte v (j := 1) (by decide))
  have hG2 : GX σ v1 i := by rw [hp]; exact GX.s (GX.s hG1 (Or.inr rfl)) (Or.inl rfl)
  refine j_aload_n C dX7_addNumber_16 rfl 0 rfl ?_
  refine j_iload_n C dX7_addNumber_17 rfl 1 rfl ?_
  refine j_bipush C (nI 8) dX7_addNumber_18 (by decide) ?_
  refine j_iushr C (((v).toUInt32 >>> ((nI 8).toUInt32 &&& Int32.toUInt32 31)).toInt32) dX7_addNumber_20 rfl ?_
  refine c_v0 C (r_V C 1 i [.int (((v).toUInt32 >>> ((nI 8).toUInt32 &&& Int32.toUInt32 31)).toInt32)] (c_add_in l D cy base Λ v1 i (n + 2) cp (fun k => if k = n + 1 then bytN v 1 else (fun k => if k = n + 0 then bytN v 0 else f k) k) hT2 (((v).toUInt32 >>> ((nI 8).toUInt32 &&& Int32.toUInt32 31)).toInt32) (by omega)) (cwV 1 hts gX7_addNumber_X7_add rfl rfl rfl (by decide +kernel) ⟨by decide, by decide⟩) (hT2.1) rfl rfl rfl rfl (Nat.le_of_ble_eq_true rfl) dX7_addNumber_21 ⟨by decide, by decide⟩) (fun v2 hp => ?_)
  have hT3 : TX Λ v2 i (n + 2 + 1) cp (fun k => if k = n + 2 then bytN v 2 else (fun k => if k = n + 1 then bytN v 1 else (fun k => if k = n + 0 then bytN v 0 else f k) k) k) := by rw [hp]; exact TX.add hT2 (show n + 2 < cp by omega) (Nat.le_of_lt_succ (bytN_lt v 2)) (ush_byte v (j := 2) (by decide))
  have hG3 : GX σ v2 i := by rw [hp]; exact GX.s (GX.s hG2 (Or.inr rfl)) (Or.inl rfl)
  refine j_aload_n C dX7_addNumber_24 rfl 0 rfl ?_
  refine j_iload_n C dX7_addNumber_25 rfl 1 rfl ?_
  refine c_v0 C (r_V C 1 i [.int (v)] (c_add_in l D cy base Λ v2 i (n + 3) cp (fun k => if k = n + 2 then bytN v 2 else (fun k => if k = n + 1 then bytN v 1 else (fun k => if k = n + 0 then bytN v 0 else f k) k) k) hT3 (v) (by omega)) (cwV 1 hts gX7_addNumber_X7_add rfl rfl rfl (by decide +kernel) ⟨by decide, by decide⟩) (hT3.1) rfl rfl rfl rfl (Nat.le_of_ble_eq_true rfl) dX7_addNumber_26 ⟨by decide, by decide⟩) (fun v3 hp => ?_)
  have hT4 : TX Λ v3 i (n + 3 + 1) cp (fun k => if k = n + 3 then bytN v 3 else (fun k => if k = n + 2 then bytN v 2 else (fun k => if k = n + 1 then bytN v 1 else (fun k => if k = n + 0 then bytN v 0 else f k) k) k) k) := by rw [hp]; exact TX.add hT3 (show n + 3 < cp by omega) (Nat.le_of_lt_succ (bytN_lt v 3)) (low_byte v)
  have hG4 : GX σ v3 i := by rw [hp]; exact GX.s (GX.s hG3 (Or.inr rfl)) (Or.inl rfl)
  exact j_vret C hr hlk (⟨hT4.ext (fun k hk => by unfold apN; dsimp only; by_cases q3 : k = n + 3; rw [if_pos q3, if_neg (by omega), show k - n = 3 by omega]; rw [if_neg q3]; by_cases q2 : k = n + 2; rw [if_pos q2, if_neg (by omega), show k - n = 2 by omega]; rw [if_neg q2]; by_cases q1 : k = n + 1; rw [if_pos q1, if_neg (by omega), show k - n = 1 by omega]; rw [if_neg q1]; by_cases q0 : k = n + 0; rw [if_pos q0, if_neg (by omega), show k - n = 0 by omega]; rw [if_neg q0, if_pos (by omega)]), hG4⟩) dX7_addNumber_29
