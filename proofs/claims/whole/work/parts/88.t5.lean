/-- the list of words: n of them, the Word numbers w, in array ar with room for cp; before the first one none -/
def AL (Λ : LY) (σ : HS) (n ar cp : Nat) (w : Nat → Nat) : Prop := 0 < gC Λ 15 ∧ gI σ 15 0 2 = nI n ∧ n ≤ cp ∧ cp < 2147483648 ∧ ((gI σ 15 0 1 = 1 ∧ cp = 0) ∨ ((gI σ 15 0 1 ≠ 1 ∧ gV σ 15 0 1 = some ar) ∧ ar < gC Λ 16 ∧ gN Λ 16 ar = cp ∧ 10 ≤ cp)) ∧ ∀ k, k < n → gV σ 16 ar k = some (w k)
theorem AL.arr {Λ : LY} {σ : HS} {n ar cp : Nat} {w : Nat → Nat} (h : AL Λ σ n ar cp w) (h0 : 0 < cp) : (gI σ 15 0 1 ≠ 1 ∧ gV σ 15 0 1 = some ar) ∧ ar < gC Λ 16 ∧ gN Λ 16 ar = cp ∧ 10 ≤ cp := by
  obtain ⟨-, -, -, -, h1, -⟩ := h
  rcases h1 with h1 | h1
  · omega
  · exact h1
theorem AL.emp {Λ : LY} {σ : HS} {n ar cp : Nat} {w : Nat → Nat} (h : AL Λ σ n ar cp w) (h0 : cp = 0) : gI σ 15 0 1 = 1 := by
  obtain ⟨-, -, -, -, h1, -⟩ := h
  rcases h1 with h1 | h1
  · exact h1.1
  · omega
set_option maxHeartbeats 4000000 in
set_option maxRecDepth 100000 in
theorem c_Jx4a65c_size_8abf5 (l : Launch) (D : va_G) (cy : Nat → ClassId) (base : Nat) (Λ : LY) (σ : HS) (n ar cp : Nat) (wf : Nat → Nat) (hA : AL Λ σ n ar cp wf) : Met l yJx4a65c_size_8abf5 wsJx4a65c_size_8abf5 ({ frames := 4, cells := 0, slots := 0, locals := 60 }) (va_Pc [.ref (gA Λ 15 0)] (Wd D cy base Λ σ)) (va_Qi (fun v u => v = nI n ∧ u = σ) (Wd D cy base Λ) (Ab base)) 0 0 (Ab base) := by
  refine j_start (cc := cJx4a65c_size_8abf5) (nL := 1) (ret := (some .int)) (lv := [(0, .ref (gA Λ 15 0))]) (by decide) rfl (Nat.le_of_ble_eq_true rfl) rfl ?_
  intro p e s m below meth c C hr hlk hnm
  have C : Cx p s m ([.ref (gA Λ 15 0)] : List Value).toArray c cJx4a65c_size_8abf5 1 RJx4a65c wsJx4a65c_size_8abf5 D cy base := C
  have hts := C.2.2.2.2.1
  have hwJx4a65c : ∀ w ∈ u_ws RJx4a65c TJx4a65c 3, w ∈ wsJx4a65c_size_8abf5 := by decide +kernel
  have hM48 : (Cond.fieldLink RJx4a65c 48 (TJx4a65c 2).1 (TJx4a65c 2).2.1 (TJx4a65c 2).2.2.1).before ([.ref (gA Λ 15 0)] : List Value).toArray s = true := hts (.fieldLink RJx4a65c 48 "java/util/ArrayList" "size" "I") (by decide +kernel)
  have hL48 : FL RJx4a65c 48 (TJx4a65c 2).1 (TJx4a65c 2).2.1 (TJx4a65c 2).2.2.1 ([.ref (gA Λ 15 0)] : List Value).toArray s := Or.inl hM48
  refine j_aload_n C dJx4a65c_size_8abf5_0 rfl 0 rfl ?_
  refine j_getI C hwJx4a65c 15 0 2 hA.1 rfl rfl (by decide) rfl (nI n) hA.2.1 hL48 dJx4a65c_size_8abf5_1 ?_
  exact j_iret C hr hlk (⟨rfl, rfl⟩) dJx4a65c_size_8abf5_4

set_option maxHeartbeats 4000000 in
set_option maxRecDepth 100000 in
theorem c_J3_checkIndex_8e157 (l : Launch) (D : va_G) (cy : Nat → ClassId) (base : Nat) (Λ : LY) (σ : HS) (k n : Nat) (hk : k < n) (hn : n < 2147483648) : Met l yJ3_checkIndex_8e157 wsJ3_checkIndex_8e157 ({ frames := 4, cells := 0, slots := 0, locals := 60 }) (va_Pc [.int (nI k), .int (nI n), .null] (Wd D cy base Λ σ)) (va_Qi (fun v u => v = nI k ∧ u = σ) (Wd D cy base Λ) (Ab base)) 0 0 (Ab base) := by
  refine j_start (cc := cJ3_checkIndex_8e157) (nL := 3) (ret := (some .int)) (lv := [(0, .int (nI k)), (1, .int (nI n)), (2, .null)]) (by decide) rfl (Nat.le_of_ble_eq_true rfl) rfl ?_
  intro p e s m below meth c C hr hlk hnm
  have C : Cx p s m ([.int (nI k), .int (nI n), .null] : List Value).toArray c cJ3_checkIndex_8e157 3 RJ3 wsJ3_checkIndex_8e157 D cy base := C
  have hts := C.2.2.2.2.1
  refine j_iload_n C dJ3_checkIndex_8e157_0 rfl 0 rfl ?_
  refine j_if_lt (tgt := 9) C dJ3_checkIndex_8e157_1 (by decide) (nJ_lt0 (by omega)) (fun h1 => ?_) (fun h1 => ?_)
  · first | omega | exact h1.elim
  · refine j_iload_n C dJ3_checkIndex_8e157_4 rfl 0 rfl ?_
    refine j_iload_n C dJ3_checkIndex_8e157_5 rfl 1 rfl ?_
    refine j_icmp_lt (tgt := 16) C dJ3_checkIndex_8e157_6 (by decide) (nI_ltI (by omega) (by omega)) (fun h6 => ?_) (fun h6 => ?_)
    · refine j_iload_n C dJ3_checkIndex_8e157_16 rfl 0 rfl ?_
      exact j_iret C hr hlk (⟨rfl, rfl⟩) dJ3_checkIndex_8e157_17
    · first | omega | exact h1.elim

set_option maxHeartbeats 4000000 in
set_option maxRecDepth 100000 in
theorem c_J15_checkIndex_7cf53 (l : Launch) (D : va_G) (cy : Nat → ClassId) (base : Nat) (Λ : LY) (σ : HS) (k n : Nat) (hk : k < n) (hn : n < 2147483648) : Met l yJ15_checkIndex_7cf53 wsJ15_checkIndex_7cf53 ({ frames := 8, cells := 0, slots := 0, locals := 120 }) (va_Pc [.int (nI k), .int (nI n)] (Wd D cy base Λ σ)) (va_Qi (fun v u => v = nI k ∧ u = σ) (Wd D cy base Λ) (Ab base)) 0 0 (Ab base) := by
  refine j_start (cc := cJ15_checkIndex_7cf53) (nL := 2) (ret := (some .int)) (lv := [(0, .int (nI k)), (1, .int (nI n))]) (by decide) rfl (Nat.le_of_ble_eq_true rfl) rfl ?_
  intro p e s m below meth c C hr hlk hnm
  have C : Cx p s m ([.int (nI k), .int (nI n)] : List Value).toArray c cJ15_checkIndex_7cf53 2 RJ15 wsJ15_checkIndex_7cf53 D cy base := C
  have hts := C.2.2.2.2.1
  refine j_iload_n C dJ15_checkIndex_7cf53_0 rfl 0 rfl ?_
  refine j_iload_n C dJ15_checkIndex_7cf53_1 rfl 1 rfl ?_
  refine j_null C dJ15_checkIndex_7cf53_2 ?_
  refine c_i0 C (r_S C [.int (nI k), .int (nI n), .null] (c_J3_checkIndex_8e157 l D cy base Λ σ k n hk hn) (va_cwS 3 hts gJ15_checkIndex_7cf53_J3_checkIndex_8e157 rfl rfl rfl (by decide +kernel) ⟨by decide, by decide⟩) rfl rfl (Nat.le_of_ble_eq_true rfl) dJ15_checkIndex_7cf53_3 ⟨by decide, by decide⟩) (fun rv uu hp => ?_)
  rw [hp.1, hp.2]
  exact j_iret C hr hlk (⟨rfl, rfl⟩) dJ15_checkIndex_7cf53_6
