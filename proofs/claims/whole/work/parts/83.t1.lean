/-! ===== texts ===== -/
/-- text i has n bytes f in a row with room for cp -/
def TX (Λ : LY) (σ : HS) (i n cp : Nat) (f : Nat → Nat) : Prop := i < gC Λ 1 ∧ i < gC Λ 2 ∧ gV σ 1 i 0 = some i ∧ gI σ 1 i 1 = nI n ∧ n ≤ cp ∧ gN Λ 2 i = cp ∧ cp ≤ 40 ∧ (∀ k, k < n → gI σ 2 i k = (nI (f k)).toInt8.toInt32) ∧ ∀ k, k < n → f k ≤ 255
theorem b255 {x : Nat} (h : x ≤ 255) : (nI x).toInt8.toInt32 &&& nI 255 = nI x := by
  have e : (nI x).toInt8.toInt32 &&& 255 = nI x &&& 255 := bp_b _
  refine e.trans ?_
  show nI x &&& nI (2 ^ 8 - 1) = _
  rw [fa_mask, Nat.mod_eq_of_lt (by omega)]
/-- what add leaves -/
theorem TX.add {Λ : LY} {σ : HS} {i n cp : Nat} {f : Nat → Nat} {x : Int32} {y : Nat} (h : TX Λ σ i n cp f) (hn : n < cp) (hy : y ≤ 255) (hx : x = (nI y).toInt8.toInt32) : TX Λ (sI (sI σ 2 i n x) 1 i 1 (nI (n + 1))) i (n + 1) cp (fun k => if k = n then y else f k) := by
  obtain ⟨h1, h2, h3, h4, h5, h6, h7, h8, h9⟩ := h
  refine ⟨h1, h2, h3, gI_same _ _ _ _ _, by omega, h6, h7, fun k hk => ?_, fun k hk => ?_⟩
  · rw [gI_sI, if_neg (by omega), gI_sI]
    by_cases e : k = n
    · rw [if_pos ⟨rfl, rfl, e⟩, hx]
      show _ = (nI (if k = n then y else f k)).toInt8.toInt32
      rw [if_pos e]
    · rw [if_neg (fun z => e z.2.2)]
      show _ = (nI (if k = n then y else f k)).toInt8.toInt32
      rw [if_neg e]
      exact h8 k (by omega)
  · show (if k = n then y else f k) ≤ 255
    by_cases e : k = n
    · rw [if_pos e]; exact hy
    · rw [if_neg e]; exact h9 k (by omega)
theorem TX.keep {Λ : LY} {σ : HS} {i j n cp k : Nat} {f : Nat → Nat} {x : Int32} {t : Nat} (h : TX Λ σ i n cp f) (hne : j ≠ i ∨ (t ≠ 1 ∧ t ≠ 2)) : TX Λ (sI σ t j k x) i n cp f := by
  obtain ⟨h1, h2, h3, h4, h5, h6, h7, h8, h9⟩ := h
  exact ⟨h1, h2, h3, by rw [gI_sI, if_neg (by omega)]; exact h4, h5, h6, h7, fun k' hk => by rw [gI_sI, if_neg (by omega)]; exact h8 k' hk, h9⟩
set_option maxHeartbeats 4000000 in
set_option maxRecDepth 100000 in
theorem c_at_in (l : Launch) (D : va_G) (cy : Nat → ClassId) (base : Nat) (Λ : LY) (σ : HS) (i n cp : Nat) (f : Nat → Nat) (hT : TX Λ σ i n cp f) (k : Nat) (hk : k < n) : Met l yX7_at wsX7_at ({ frames := 4, cells := 0, slots := 0, locals := 60 }) (va_Pc [.ref (gA Λ 1 i), .int (nI k)] (Wd D cy base Λ σ)) (va_Qi (fun v u => v = nI (f k) ∧ u = σ) (Wd D cy base Λ) (Ab base)) 0 0 (Ab base) := by
  refine j_start (cc := cX7_at) (nL := 2) (ret := (some .int)) (lv := [(0, .ref (gA Λ 1 i)), (1, .int (nI k))]) (by decide) rfl (Nat.le_of_ble_eq_true rfl) rfl ?_
  intro p e s m below meth c C hr hlk hnm
  have C : Cx p s m ([.ref (gA Λ 1 i), .int (nI k)] : List Value).toArray c cX7_at 2 RX7 wsX7_at D cy base := C
  have hts := C.2.2.2.2.1
  have hwX7 : ∀ w ∈ u_ws RX7 TX7 2, w ∈ wsX7_at := by decide +kernel
  have hM15 : (Cond.fieldLink RX7 15 (TX7 0).1 (TX7 0).2.1 (TX7 0).2.2.1).before ([.ref (gA Λ 1 i), .int (nI k)] : List Value).toArray s = true := hts (.fieldLink RX7 15 "CodeRooms$Text" "bytes" "[B") (by decide +kernel)
  have hL15 : FL RX7 15 (TX7 0).1 (TX7 0).2.1 (TX7 0).2.2.1 ([.ref (gA Λ 1 i), .int (nI k)] : List Value).toArray s := Or.inl hM15
  have hM21 : (Cond.fieldLink RX7 21 (TX7 1).1 (TX7 1).2.1 (TX7 1).2.2.1).before ([.ref (gA Λ 1 i), .int (nI k)] : List Value).toArray s = true := hts (.fieldLink RX7 21 "CodeRooms$Text" "size" "I") (by decide +kernel)
  have hL21 : FL RX7 21 (TX7 1).1 (TX7 1).2.1 (TX7 1).2.2.1 ([.ref (gA Λ 1 i), .int (nI k)] : List Value).toArray s := Or.inl hM21
  have htn := hT.2.2.2.2.1
  have htc := hT.2.2.2.2.2.2.1
  refine j_iload_n C dX7_at_0 rfl 1 rfl ?_
  refine j_if_lt (tgt := 12) C dX7_at_1 (by decide) (nJ_lt0 (by omega)) (fun h1 => ?_) (fun h1 => ?_)
  · first | omega | exact h1.elim
  · refine j_iload_n C dX7_at_4 rfl 1 rfl ?_
    refine j_aload_n C dX7_at_5 rfl 0 rfl ?_
    have htn6 := hT.2.2.2.2.1
    have htc6 := hT.2.2.2.2.2.2.1
    refine j_getI C hwX7 1 i 1 (hT.1) rfl rfl (by decide) rfl (nI n) (hT.2.2.2.1) hL21 dX7_at_6 ?_
    refine j_icmp_lt (tgt := 16) C dX7_at_9 (by decide) (nI_ltI (by omega) (by omega)) (fun h9 => ?_) (fun h9 => ?_)
    · refine j_aload_n C dX7_at_16 rfl 0 rfl ?_
      refine j_getV C hwX7 1 i 0 (hT.1) rfl rfl (by decide) rfl i (hT.2.2.1) hL15 dX7_at_17 ?_
      refine j_iload_n C dX7_at_20 rfl 1 rfl ?_
      have htb21 := hT.2.2.2.2.2.2.2.2 k (by omega)
      refine j_bald C 2 i k (hT.2.1) rfl rfl cp (hT.2.2.2.2.2.1) (by omega) (by omega) ((nI (f k)).toInt8.toInt32) (hT.2.2.2.2.2.2.2.1 k (by omega)) dX7_at_21 ?_
      refine j_sipush C (nI 255) dX7_at_22 (by decide) ?_
      refine j_iand C (nI (f k)) dX7_at_25 (b255 (by omega)) ?_
      exact j_iret C hr hlk (⟨rfl, rfl⟩) dX7_at_26
    · first | omega | exact h1.elim

set_option maxHeartbeats 4000000 in
set_option maxRecDepth 100000 in
theorem c_at_out (l : Launch) (D : va_G) (cy : Nat → ClassId) (base : Nat) (Λ : LY) (σ : HS) (i n cp : Nat) (f : Nat → Nat) (hT : TX Λ σ i n cp f) (k : Int32) (hk : k.toInt < 0 ∨ (n : Int) ≤ k.toInt) : Met l yX7_at wsX7_at ({ frames := 4, cells := 0, slots := 0, locals := 60 }) (va_Pc [.ref (gA Λ 1 i), .int (k)] (Wd D cy base Λ σ)) (va_Qi (fun v u => v = -1 ∧ u = σ) (Wd D cy base Λ) (Ab base)) 0 0 (Ab base) := by
  refine j_start (cc := cX7_at) (nL := 2) (ret := (some .int)) (lv := [(0, .ref (gA Λ 1 i)), (1, .int (k))]) (by decide) rfl (Nat.le_of_ble_eq_true rfl) rfl ?_
  intro p e s m below meth c C hr hlk hnm
  have C : Cx p s m ([.ref (gA Λ 1 i), .int (k)] : List Value).toArray c cX7_at 2 RX7 wsX7_at D cy base := C
  have hts := C.2.2.2.2.1
  have hwX7 : ∀ w ∈ u_ws RX7 TX7 2, w ∈ wsX7_at := by decide +kernel
  have hM21 : (Cond.fieldLink RX7 21 (TX7 1).1 (TX7 1).2.1 (TX7 1).2.2.1).before ([.ref (gA Λ 1 i), .int (k)] : List Value).toArray s = true := hts (.fieldLink RX7 21 "CodeRooms$Text" "size" "I") (by decide +kernel)
  have hL21 : FL RX7 21 (TX7 1).1 (TX7 1).2.1 (TX7 1).2.2.1 ([.ref (gA Λ 1 i), .int (k)] : List Value).toArray s := Or.inl hM21
  have htn := hT.2.2.2.2.1
  have htc := hT.2.2.2.2.2.2.1
  refine j_iload_n C dX7_at_0 rfl 1 rfl ?_
  refine j_if_lt (tgt := 12) C dX7_at_1 (by decide) (show k < 0 ↔ k.toInt < 0 by rw [Int32.lt_iff_toInt_lt]; rfl) (fun h1 => ?_) (fun h1 => ?_)
  · refine j_iconst C ((-1)) dX7_at_12 (by decide) ?_
    refine j_goto (tgt := 26) C dX7_at_13 (by decide) ?_
    exact j_iret C hr hlk (⟨rfl, rfl⟩) dX7_at_26
  · refine j_iload_n C dX7_at_4 rfl 1 rfl ?_
    refine j_aload_n C dX7_at_5 rfl 0 rfl ?_
    have htn6 := hT.2.2.2.2.1
    have htc6 := hT.2.2.2.2.2.2.1
    refine j_getI C hwX7 1 i 1 (hT.1) rfl rfl (by decide) rfl (nI n) (hT.2.2.2.1) hL21 dX7_at_6 ?_
    refine j_icmp_lt (tgt := 16) C dX7_at_9 (by decide) (show k < nI n ↔ k.toInt < (n : Int) by rw [Int32.lt_iff_toInt_lt, nI_toInt (by omega)]) (fun h9 => ?_) (fun h9 => ?_)
    · omega
    · refine j_iconst C ((-1)) dX7_at_12 (by decide) ?_
      refine j_goto (tgt := 26) C dX7_at_13 (by decide) ?_
      exact j_iret C hr hlk (⟨rfl, rfl⟩) dX7_at_26


set_option maxHeartbeats 4000000 in
set_option maxRecDepth 100000 in
theorem c_add_in (l : Launch) (D : va_G) (cy : Nat → ClassId) (base : Nat) (Λ : LY) (σ : HS) (i n cp : Nat) (f : Nat → Nat) (hT : TX Λ σ i n cp f) (x : Int32) (hn : n < cp) : Met l yX7_add wsX7_add ({ frames := 4, cells := 0, slots := 0, locals := 60 }) (va_Pc [.ref (gA Λ 1 i), .int (x)] (Wd D cy base Λ σ)) (va_Qv (fun u => u = sI (sI σ 2 i n x.toInt8.toInt32) 1 i 1 (nI (n + 1))) (Wd D cy base Λ) (Ab base)) 0 0 (Ab base) := by
  refine j_start (cc := cX7_add) (nL := 2) (ret := none) (lv := [(0, .ref (gA Λ 1 i)), (1, .int (x))]) (by decide) rfl (Nat.le_of_ble_eq_true rfl) rfl ?_
  intro p e s m below meth c C hr hlk hnm
  have C : Cx p s m ([.ref (gA Λ 1 i), .int (x)] : List Value).toArray c cX7_add 2 RX7 wsX7_add D cy base := C
  have hts := C.2.2.2.2.1
  have hwX7 : ∀ w ∈ u_ws RX7 TX7 2, w ∈ wsX7_add := by decide +kernel
  have hM15 : (Cond.fieldLink RX7 15 (TX7 0).1 (TX7 0).2.1 (TX7 0).2.2.1).before ([.ref (gA Λ 1 i), .int (x)] : List Value).toArray s = true := hts (.fieldLink RX7 15 "CodeRooms$Text" "bytes" "[B") (by decide +kernel)
  have hL15 : FL RX7 15 (TX7 0).1 (TX7 0).2.1 (TX7 0).2.2.1 ([.ref (gA Λ 1 i), .int (x)] : List Value).toArray s := Or.inl hM15
  have hM21 : (Cond.fieldLink RX7 21 (TX7 1).1 (TX7 1).2.1 (TX7 1).2.2.1).before ([.ref (gA Λ 1 i), .int (x)] : List Value).toArray s = true := hts (.fieldLink RX7 21 "CodeRooms$Text" "size" "I") (by decide +kernel)
  have hL21 : FL RX7 21 (TX7 1).1 (TX7 1).2.1 (TX7 1).2.2.1 ([.ref (gA Λ 1 i), .int (x)] : List Value).toArray s := Or.inl hM21
  have htc := hT.2.2.2.2.2.2.1
  refine j_aload_n C dX7_add_0 rfl 0 rfl ?_
  have htn1 := hT.2.2.2.2.1
  have htc1 := hT.2.2.2.2.2.2.1
  refine j_getI C hwX7 1 i 1 (hT.1) rfl rfl (by decide) rfl (nI n) (hT.2.2.2.1) hL21 dX7_add_1 ?_
  refine j_aload_n C dX7_add_4 rfl 0 rfl ?_
  refine j_getV C hwX7 1 i 0 (hT.1) rfl rfl (by decide) rfl i (hT.2.2.1) hL15 dX7_add_5 ?_
  refine j_alen C 2 i (hT.2.1) rfl (by decide) (nI cp) (by rw [(hT.2.2.2.2.2.1)]) dX7_add_8 ?_
  refine j_icmp_ge (tgt := 33) C dX7_add_9 (by decide) (nI_leI (by omega) (by omega)) (fun h9 => ?_) (fun h9 => ?_)
  · omega
  · refine j_aload_n C dX7_add_12 rfl 0 rfl ?_
    refine j_getV C hwX7 1 i 0 (hT.1) rfl rfl (by decide) rfl i (hT.2.2.1) hL15 dX7_add_13 ?_
    refine j_aload_n C dX7_add_16 rfl 0 rfl ?_
    have htn17 := hT.2.2.2.2.1
    have htc17 := hT.2.2.2.2.2.2.1
    refine j_getI C hwX7 1 i 1 (hT.1) rfl rfl (by decide) rfl (nI n) (hT.2.2.2.1) hL21 dX7_add_17 ?_
    refine j_iload_n C dX7_add_20 rfl 1 rfl ?_
    refine j_i2b C ((x).toInt8.toInt32) dX7_add_21 rfl ?_
    refine j_bast C 2 i n (hT.2.1) rfl rfl cp (hT.2.2.2.2.2.1) (by omega) (by omega) (x.toInt8.toInt32) (pk_vb _) dX7_add_22 ?_
    refine j_aload_n C dX7_add_23 rfl 0 rfl ?_
    refine j_dup C dX7_add_24 rfl ?_
    refine j_getI C hwX7 1 i 1 (hT.1) rfl rfl (by decide) rfl (nI n) (by rw [gI_sI, if_neg (by omega)]; exact hT.2.2.2.1) hL21 dX7_add_25 ?_
    refine j_iconst C (nI 1) dX7_add_28 (by decide) ?_
    refine j_iadd C (nI (n + 1)) dX7_add_29 (nI_add _ _) ?_
    refine j_putI C hwX7 1 i 1 (hT.1) rfl rfl (by decide) rfl tyX7 tyX7_ok nmX7 rfl rfl rfl hL21 dX7_add_30 ?_
    exact j_vret C hr hlk (rfl) dX7_add_33

set_option maxHeartbeats 4000000 in
set_option maxRecDepth 100000 in
theorem c_add_full (l : Launch) (D : va_G) (cy : Nat → ClassId) (base : Nat) (Λ : LY) (σ : HS) (i n cp : Nat) (f : Nat → Nat) (hT : TX Λ σ i n cp f) (x : Int32) (hn : n = cp) : Met l yX7_add wsX7_add ({ frames := 4, cells := 0, slots := 0, locals := 60 }) (va_Pc [.ref (gA Λ 1 i), .int (x)] (Wd D cy base Λ σ)) (va_Qv (fun u => u = σ) (Wd D cy base Λ) (Ab base)) 0 0 (Ab base) := by
  refine j_start (cc := cX7_add) (nL := 2) (ret := none) (lv := [(0, .ref (gA Λ 1 i)), (1, .int (x))]) (by decide) rfl (Nat.le_of_ble_eq_true rfl) rfl ?_
  intro p e s m below meth c C hr hlk hnm
  have C : Cx p s m ([.ref (gA Λ 1 i), .int (x)] : List Value).toArray c cX7_add 2 RX7 wsX7_add D cy base := C
  have hts := C.2.2.2.2.1
  have hwX7 : ∀ w ∈ u_ws RX7 TX7 2, w ∈ wsX7_add := by decide +kernel
  have hM15 : (Cond.fieldLink RX7 15 (TX7 0).1 (TX7 0).2.1 (TX7 0).2.2.1).before ([.ref (gA Λ 1 i), .int (x)] : List Value).toArray s = true := hts (.fieldLink RX7 15 "CodeRooms$Text" "bytes" "[B") (by decide +kernel)
  have hL15 : FL RX7 15 (TX7 0).1 (TX7 0).2.1 (TX7 0).2.2.1 ([.ref (gA Λ 1 i), .int (x)] : List Value).toArray s := Or.inl hM15
  have hM21 : (Cond.fieldLink RX7 21 (TX7 1).1 (TX7 1).2.1 (TX7 1).2.2.1).before ([.ref (gA Λ 1 i), .int (x)] : List Value).toArray s = true := hts (.fieldLink RX7 21 "CodeRooms$Text" "size" "I") (by decide +kernel)
  have hL21 : FL RX7 21 (TX7 1).1 (TX7 1).2.1 (TX7 1).2.2.1 ([.ref (gA Λ 1 i), .int (x)] : List Value).toArray s := Or.inl hM21
  have htc := hT.2.2.2.2.2.2.1
  refine j_aload_n C dX7_add_0 rfl 0 rfl ?_
  have htn1 := hT.2.2.2.2.1
  have htc1 := hT.2.2.2.2.2.2.1
  refine j_getI C hwX7 1 i 1 (hT.1) rfl rfl (by decide) rfl (nI n) (hT.2.2.2.1) hL21 dX7_add_1 ?_
  refine j_aload_n C dX7_add_4 rfl 0 rfl ?_
  refine j_getV C hwX7 1 i 0 (hT.1) rfl rfl (by decide) rfl i (hT.2.2.1) hL15 dX7_add_5 ?_
  refine j_alen C 2 i (hT.2.1) rfl (by decide) (nI cp) (by rw [(hT.2.2.2.2.2.1)]) dX7_add_8 ?_
  refine j_icmp_ge (tgt := 33) C dX7_add_9 (by decide) (nI_leI (by omega) (by omega)) (fun h9 => ?_) (fun h9 => ?_)
  · exact j_vret C hr hlk (rfl) dX7_add_33
  · omega

set_option maxHeartbeats 4000000 in
set_option maxRecDepth 100000 in
theorem c_clear (l : Launch) (D : va_G) (cy : Nat → ClassId) (base : Nat) (Λ : LY) (σ : HS) (i : Nat) (hi : i < gC Λ 1) : Met l yX7_clear wsX7_clear ({ frames := 4, cells := 0, slots := 0, locals := 60 }) (va_Pc [.ref (gA Λ 1 i)] (Wd D cy base Λ σ)) (va_Qv (fun u => u = sI σ 1 i 1 (nI 0)) (Wd D cy base Λ) (Ab base)) 0 0 (Ab base) := by
  refine j_start (cc := cX7_clear) (nL := 1) (ret := none) (lv := [(0, .ref (gA Λ 1 i))]) (by decide) rfl (Nat.le_of_ble_eq_true rfl) rfl ?_
  intro p e s m below meth c C hr hlk hnm
  have C : Cx p s m ([.ref (gA Λ 1 i)] : List Value).toArray c cX7_clear 1 RX7 wsX7_clear D cy base := C
  have hts := C.2.2.2.2.1
  have hwX7 : ∀ w ∈ u_ws RX7 TX7 2, w ∈ wsX7_clear := by decide +kernel
  have hM21 : (Cond.fieldLink RX7 21 (TX7 1).1 (TX7 1).2.1 (TX7 1).2.2.1).before ([.ref (gA Λ 1 i)] : List Value).toArray s = true := hts (.fieldLink RX7 21 "CodeRooms$Text" "size" "I") (by decide +kernel)
  have hL21 : FL RX7 21 (TX7 1).1 (TX7 1).2.1 (TX7 1).2.2.1 ([.ref (gA Λ 1 i)] : List Value).toArray s := Or.inl hM21
  refine j_aload_n C dX7_clear_0 rfl 0 rfl ?_
  refine j_iconst C (nI 0) dX7_clear_1 (by decide) ?_
  refine j_putI C hwX7 1 i 1 hi rfl rfl (by decide) rfl tyX7 tyX7_ok nmX7 rfl rfl rfl hL21 dX7_clear_2 ?_
  exact j_vret C hr hlk (rfl) dX7_clear_5

def lets (f : Nat → Nat) : Nat → Bool
  | 0 => true
  | k + 1 => lets f k && isLet (f k)
theorem lets_no {f : Nat → Nat} {k : Nat} (h : isLet (f k) = false) : ∀ {n : Nat}, k < n → lets f n = false
  | 0, hk => absurd hk (Nat.not_lt_zero _)
  | n + 1, hk => by
    show (lets f n && isLet (f n)) = false
    by_cases e : k = n
    · rw [← e, h, Bool.and_false]
    · rw [lets_no h (by omega), Bool.false_and]
set_option maxHeartbeats 4000000 in
set_option maxRecDepth 100000 in
theorem c_X7_isName (l : Launch) (D : va_G) (cy : Nat → ClassId) (base : Nat) (Λ : LY) (σ : HS) (i n cp : Nat) (f : Nat → Nat) (hT : TX Λ σ i n cp f) : Met l yX7_isName wsX7_isName ({ frames := 8, cells := 0, slots := 0, locals := 120 }) (va_Pc [.ref (gA Λ 1 i)] (Wd D cy base Λ σ)) (va_Qi (fun v u => v = bI (decide (1 ≤ n ∧ n ≤ 20) && lets f n) ∧ u = σ) (Wd D cy base Λ) (Ab base)) 0 0 (Ab base) := by
  refine j_start (cc := cX7_isName) (nL := 3) (ret := (some .boolean)) (lv := [(0, .ref (gA Λ 1 i))]) (by decide) rfl (Nat.le_of_ble_eq_true rfl) rfl ?_
  intro p e s m below meth c C hr hlk hnm
  have C : Cx p s m ([.ref (gA Λ 1 i)] : List Value).toArray c cX7_isName 3 RX7 wsX7_isName D cy base := C
  have hts := C.2.2.2.2.1
  have hwX7 : ∀ w ∈ u_ws RX7 TX7 2, w ∈ wsX7_isName := by decide +kernel
  have hM21 : (Cond.fieldLink RX7 21 (TX7 1).1 (TX7 1).2.1 (TX7 1).2.2.1).before ([.ref (gA Λ 1 i)] : List Value).toArray s = true := hts (.fieldLink RX7 21 "CodeRooms$Text" "size" "I") (by decide +kernel)
  have hL21 : FL RX7 21 (TX7 1).1 (TX7 1).2.1 (TX7 1).2.2.1 ([.ref (gA Λ 1 i)] : List Value).toArray s := Or.inl hM21
  have htn := hT.2.2.2.2.1
  have htc := hT.2.2.2.2.2.2.1
  refine j_aload_n C dX7_isName_0 rfl 0 rfl ?_
  have htn1 := hT.2.2.2.2.1
  have htc1 := hT.2.2.2.2.2.2.1
  refine j_getI C hwX7 1 i 1 (hT.1) rfl rfl (by decide) rfl (nI n) (hT.2.2.2.1) hL21 dX7_isName_1 ?_
  refine j_iconst C (nI 1) dX7_isName_4 (by decide) ?_
  refine j_icmp_lt (tgt := 17) C dX7_isName_5 (by decide) (nI_ltI (by omega) (by omega)) (fun h5 => ?_) (fun h5 => ?_)
  · refine j_iconst C (nI 0) dX7_isName_17 (by decide) ?_
    exact j_zret C (by first | rfl | exact nz_b _ | exact nz_n (by omega)) hr hlk (⟨rt0 (by rw [decide_eq_false (by omega), Bool.false_and]), rfl⟩) dX7_isName_18
  · refine j_aload_n C dX7_isName_8 rfl 0 rfl ?_
    have htn9 := hT.2.2.2.2.1
    have htc9 := hT.2.2.2.2.2.2.1
    refine j_getI C hwX7 1 i 1 (hT.1) rfl rfl (by decide) rfl (nI n) (hT.2.2.2.1) hL21 dX7_isName_9 ?_
    refine j_bipush C (nI 20) dX7_isName_12 (by decide) ?_
    refine j_icmp_le (tgt := 19) C dX7_isName_14 (by decide) (nI_leI (by omega) (by omega)) (fun h14 => ?_) (fun h14 => ?_)
    · refine j_iconst C (nI 0) dX7_isName_19 (by decide) ?_
      refine j_istore_n C [(1, .int (nI 0)), (0, .ref (gA Λ 1 i))] dX7_isName_20 rfl (by decide) rfl ?_
      have lb21 : ∀ (fu : Nat) (k : Nat), (n - k) < fu → (k ≤ n) → (lets f k = true) → J p l e ({ frames := 8, cells := 0, slots := 0, locals := 120 }) s m ([.ref (gA Λ 1 i)] : List Value).toArray below meth c 3 D cy base (MQ below (va_Qi (fun v u => v = bI (decide (1 ≤ n ∧ n ≤ 20) && lets f n) ∧ u = σ) (Wd D cy base Λ) (Ab base)) ([.ref (gA Λ 1 i)] : List Value).toArray s 0 0 (Ab base)) 0 0 Λ 21 [(0, .ref (gA Λ 1 i)), (1, .int (nI k))] [] σ := by
        intro fu
        induction fu with
        | zero => intro k hfu; exact absurd hfu (Nat.not_lt_zero _)
        | succ fu ih =>
          intro k hfu hk hl
          have ih21 := ih
          refine j_iload_n C dX7_isName_21 rfl 1 rfl ?_
          refine j_aload_n C dX7_isName_22 rfl 0 rfl ?_
          have htn23 := hT.2.2.2.2.1
          have htc23 := hT.2.2.2.2.2.2.1
          refine j_getI C hwX7 1 i 1 (hT.1) rfl rfl (by decide) rfl (nI n) (hT.2.2.2.1) hL21 dX7_isName_23 ?_
          refine j_icmp_ge (tgt := 61) C dX7_isName_26 (by decide) (nI_leI (by omega) (by omega)) (fun h26 => ?_) (fun h26 => ?_)
          · refine j_iconst C (nI 1) dX7_isName_61 (by decide) ?_
            exact j_zret C (by first | rfl | exact nz_b _ | exact nz_n (by omega)) hr hlk (⟨rt1 (by rw [show n = k by omega, hl, Bool.and_true]; exact decide_eq_true (by omega)), rfl⟩) dX7_isName_62
          · refine j_aload_n C dX7_isName_29 rfl 0 rfl ?_
            refine j_iload_n C dX7_isName_30 rfl 1 rfl ?_
            refine c_i0 C (r_V C 1 i [.int (nI k)] (c_at_in l D cy base Λ σ i n cp f hT k (by omega)) (cwV 1 hts gX7_isName_X7_at rfl rfl rfl (by decide +kernel) ⟨by decide, by decide⟩) (hT.1) rfl rfl rfl rfl (Nat.le_of_ble_eq_true rfl) dX7_isName_31 ⟨by decide, by decide⟩) (fun rv uu hp => ?_)
            rw [hp.1, hp.2]
            have hat31 := hT.2.2.2.2.2.2.2.2 k (by omega)
            refine j_istore_n C [(2, .int (nI (f k))), (0, .ref (gA Λ 1 i)), (1, .int (nI k))] dX7_isName_34 rfl (by decide) rfl ?_
            refine j_iload_n C dX7_isName_35 rfl 0 rfl ?_
            refine j_bipush C (nI 95) dX7_isName_36 (by decide) ?_
            refine j_icmp_eq (tgt := 55) C dX7_isName_38 (by decide) (nI_eq (by omega) (by omega)) (fun h38 => ?_) (fun h38 => ?_)
            · refine j_iinc C [(1, .int (nI (k + 1))), (2, .int (nI (f k))), (0, .ref (gA Λ 1 i))] (nI (k + 1)) dX7_isName_55 2 rfl (nI_add _ 1) (by decide) rfl ?_
              refine j_goto (tgt := 21) C dX7_isName_58 (by decide) ?_
              refine j_lv [2, 0] rfl ?_
              exact ih21 (k + 1) (by omega) (by omega) (by show (lets f k && isLet (f k)) = true; rw [hl, show isLet (f k) = true from decide_eq_true (by omega)]; rfl)
            · refine j_iload_n C dX7_isName_41 rfl 0 rfl ?_
              refine j_bipush C (nI 97) dX7_isName_42 (by decide) ?_
              refine j_icmp_lt (tgt := 53) C dX7_isName_44 (by decide) (nI_ltI (by omega) (by omega)) (fun h44 => ?_) (fun h44 => ?_)
              · refine j_iconst C (nI 0) dX7_isName_53 (by decide) ?_
                exact j_zret C (by first | rfl | exact nz_b _ | exact nz_n (by omega)) hr hlk (⟨rt0 (by rw [lets_no (k := k) (show isLet (f k) = false from decide_eq_false (by omega)) (by omega), Bool.and_false]), rfl⟩) dX7_isName_54
              · refine j_iload_n C dX7_isName_47 rfl 0 rfl ?_
                refine j_bipush C (nI 122) dX7_isName_48 (by decide) ?_
                refine j_icmp_le (tgt := 55) C dX7_isName_50 (by decide) (nI_leI (by omega) (by omega)) (fun h50 => ?_) (fun h50 => ?_)
                · refine j_iinc C [(1, .int (nI (k + 1))), (2, .int (nI (f k))), (0, .ref (gA Λ 1 i))] (nI (k + 1)) dX7_isName_55 2 rfl (nI_add _ 1) (by decide) rfl ?_
                  refine j_goto (tgt := 21) C dX7_isName_58 (by decide) ?_
                  refine j_lv [2, 0] rfl ?_
                  exact ih21 (k + 1) (by omega) (by omega) (by show (lets f k && isLet (f k)) = true; rw [hl, show isLet (f k) = true from decide_eq_true (by omega)]; rfl)
                · refine j_iconst C (nI 0) dX7_isName_53 (by decide) ?_
                  exact j_zret C (by first | rfl | exact nz_b _ | exact nz_n (by omega)) hr hlk (⟨rt0 (by rw [lets_no (k := k) (show isLet (f k) = false from decide_eq_false (by omega)) (by omega), Bool.and_false]), rfl⟩) dX7_isName_54
      refine j_lv [1, 0] rfl ?_
      exact lb21 _ 0 (Nat.lt_succ_self _) (by omega) rfl
    · refine j_iconst C (nI 0) dX7_isName_17 (by decide) ?_
      exact j_zret C (by first | rfl | exact nz_b _ | exact nz_n (by omega)) hr hlk (⟨rt0 (by rw [decide_eq_false (by omega), Bool.false_and]), rfl⟩) dX7_isName_18
