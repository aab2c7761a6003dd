/-! ===== bits ===== -/
theorem m1L : zL (-1) = lN (2 ^ 64 - 1) := by decide
theorem lN_ext {x y : Nat} (h : ∀ j, x.testBit j = y.testBit j) : lN x = lN y := by rw [Nat.eq_of_testBit_eq h]
theorem bs_set {p q : Nat → Bool} {n o : Nat} (ho : o < n) (h : ∀ j, j < n → q j = (p j || decide (j = o))) : lN (bitS p n) ||| lN (2 ^ o) = lN (bitS q n) := by
  rw [fb_orL]
  refine lN_ext (fun j => ?_)
  rw [Nat.testBit_or, bitS_bit, bitS_bit, Nat.testBit_two_pow]
  by_cases hj : j < n
  · rw [h j hj]
    simp [hj, eq_comm]
  · have : ¬ o = j := by omega
    simp [hj, this]
theorem bs_andn {p q r : Nat → Bool} {n : Nat} (hn : n ≤ 40) {x : Nat} (hx : ∀ j, j < n → x.testBit j = q j) (h : ∀ j, j < n → r j = (p j && !q j)) : lN (bitS p n) &&& (lN x ^^^ zL (-1)) = lN (bitS r n) := by
  rw [m1L, fb_xorL, fb_andL]
  refine lN_ext (fun j => ?_)
  rw [Nat.testBit_and, Nat.testBit_xor, bitS_bit, bitS_bit, Nat.testBit_two_pow_sub_one]
  by_cases hj : j < n
  · rw [h j hj, hx j hj]
    have : j < 64 := by omega
    simp [hj, this]
  · simp [hj]
theorem bs_clr {p q : Nat → Bool} {n o : Nat} (hn : n ≤ 40) (h : ∀ j, j < n → q j = (p j && !decide (j = o))) : lN (bitS p n) &&& (lN (2 ^ o) ^^^ zL (-1)) = lN (bitS q n) :=
  bs_andn hn (q := fun j => decide (j = o)) (fun j _ => by rw [Nat.testBit_two_pow]; simp [eq_comm]) h
theorem bs_and {p q r : Nat → Bool} {n : Nat} (h : ∀ j, j < n → r j = (p j && q j)) : lN (bitS p n) &&& lN (bitS q n) = lN (bitS r n) := by
  rw [fb_andL]
  refine lN_ext (fun j => ?_)
  rw [Nat.testBit_and, bitS_bit, bitS_bit, bitS_bit]
  by_cases hj : j < n
  · rw [h j hj]
    simp [hj]
  · simp [hj]
theorem bitS_cong {p q : Nat → Bool} {n : Nat} (h : ∀ j, j < n → p j = q j) : bitS p n = bitS q n := by
  apply Nat.eq_of_testBit_eq
  intro j
  rw [bitS_bit, bitS_bit]
  by_cases hj : j < n
  · rw [h j hj]
  · simp [hj]
theorem bs_zero {p : Nat → Bool} {n : Nat} (hn : n ≤ 40) : lN (bitS p n) = lN 0 ↔ ∀ j, j < n → p j = false := by
  have hl : bitS p n < 2 ^ 40 := Nat.lt_of_lt_of_le bitS_lt (Nat.pow_le_pow_right (by decide) hn)
  constructor
  · intro h j hj
    have h1 : (lN (bitS p n)).toBitVec.toNat = (lN 0).toBitVec.toNat := by rw [h]
    rw [wb_tn (by omega), wb_tn (by decide)] at h1
    have h2 := bitS_bit (p := p) (n := n) (j := j)
    rw [h1, Nat.zero_testBit] at h2
    simp [hj] at h2
    exact h2
  · intro h
    have : bitS p n = 0 := by
      apply Nat.eq_of_testBit_eq
      intro j
      rw [bitS_bit, Nat.zero_testBit]
      by_cases hj : j < n
      · rw [h j hj]; simp
      · simp [hj]
    rw [this]
/-! ===== ties ===== -/
abbrev exT : Nat → Nat → Nat → Prop := fun t _ k => t = 11 ∨ (t = 8 ∧ k = 7)
theorem exT_no {t i k : Nat} (h1 : t ≠ 11) (h2 : ¬ (t = 8 ∧ k = 7)) : ¬ exT t i k := fun z => z.elim h1 h2
abbrev nTi : Nat → Prop := fun t => t ≠ 8 ∧ t ≠ 11
def TT (σ : HS) (n : Nat) (T : Nat → Nat → Nat) : Prop := (∀ i k, i < n → k < 40 → gI σ 11 i k = nI (T i k)) ∧ (∀ i, i < n → gJ σ 8 i 7 = lN (bitS (fun o => decide (o ≠ i) && decide (0 < T i o)) n))
def upT (T : Nat → Nat → Nat) (a b x : Nat) : Nat → Nat → Nat := fun i k => if i = a ∧ k = b then x else T i k
theorem TT.cong {σ : HS} {n : Nat} {T T2 : Nat → Nat → Nat} (hn : n ≤ 40) (h : TT σ n T) (e : ∀ a b, a < n → b < 40 → T a b = T2 a b) : TT σ n T2 :=
  ⟨fun i k hi hk => by rw [h.1 i k hi hk, e i k hi hk], fun i hi => by rw [h.2 i hi, bitS_cong (fun j hj => by rw [e i j hi (by omega)])]⟩
theorem CR.toT {Λ : LY} {σ : HS} {M : MM} (h : CR noEx Λ σ M) : CR exT Λ σ M ∧ TT σ (M 31 5) (tieN M) :=
  ⟨CR.weak h (fun _ _ _ z => z.elim), fun i k hi hk => h.i 11 i k ⟨hi, hk⟩ id, fun i hi => h.j 8 i 7 ⟨hi, Or.inr (Or.inl rfl)⟩ id⟩
theorem CR.ofT {Λ : LY} {σ : HS} {M : MM} {T : Nat → Nat → Nat} (hn : M 31 5 ≤ 40) (h : CR exT Λ σ M) (hT : TT σ (M 31 5) T) (e : ∀ a b, a < M 31 5 → b < 40 → T a b = tieN M a b) : CR noEx Λ σ M := by
  have hT := TT.cong hn hT e
  refine ⟨h.1, h.2.1, fun t i k ho _ => ?_, fun t i k ho _ => ?_, fun t i k ho _ => ?_⟩
  · by_cases e1 : t = 11
    · subst e1; exact hT.1 i k ho.1 ho.2
    · by_cases e2 : t = 8 ∧ k = 7
      · obtain ⟨rfl, rfl⟩ := e2
        rcases ho.2 with q | q | q | q <;> exact absurd q (by decide)
      · exact h.i t i k ho (exT_no e1 e2)
  · by_cases e1 : t = 11
    · subst e1; exact ho.elim
    · by_cases e2 : t = 8 ∧ k = 7
      · obtain ⟨rfl, rfl⟩ := e2
        exact hT.2 i ho.1
      · exact h.j t i k ho (exT_no e1 e2)
  · by_cases e1 : t = 11
    · subst e1; exact ho.elim
    · by_cases e2 : t = 8 ∧ k = 7
      · obtain ⟨rfl, rfl⟩ := e2
        exact absurd ho.2.2 (by decide)
      · exact h.v t i k ho (exT_no e1 e2)
theorem TT.set {σ : HS} {n a b x : Nat} {T : Nat → Nat → Nat} {y : Int64} (h : TT σ n T) (hy : y = lN (bitS (fun o => decide (o ≠ a) && decide (0 < upT T a b x a o)) n)) : TT (sJ (sI σ 11 a b (nI x)) 8 a 7 y) n (upT T a b x) := by
  refine ⟨fun i k hi hk => ?_, fun i hi => ?_⟩
  · rw [gI_sJ, gI_sI]
    unfold upT
    by_cases e : i = a ∧ k = b
    · rw [if_pos ⟨rfl, e⟩, if_pos e]
    · rw [if_neg (fun z => e z.2), if_neg e]
      exact h.1 i k hi hk
  · rw [gJ_sJ]
    by_cases e : i = a
    · rw [if_pos ⟨rfl, e, rfl⟩, hy, e]
    · rw [if_neg (fun z => e z.2.1), gJ_sI, h.2 i hi]
      congr 2
      funext o
      unfold upT
      rw [if_neg (fun z => e z.1)]
def TD (M : MM) (T : Nat → Nat → Nat) (i j : Nat) : Nat → Nat → Nat := fun a b => if a ≠ b ∧ b < M 31 5 ∧ (a < i ∨ b < i ∨ (a = i ∧ b < j) ∨ (b = i ∧ a < j)) then tieN M a b else T a b
/-- ties of two, of the same and of none -/
def WT (M : MM) : Prop := (∀ k a b, k < 3 → a < 40 → b < 40 → (a = b ∨ M 31 5 ≤ a ∨ M 31 5 ≤ b) → M 35 ((40 * k + a) * 40 + b) = 0) ∧ (∀ k a b, k = 1 ∨ k = 2 → a < 40 → b < 40 → M 35 ((40 * k + a) * 40 + b) = M 35 ((40 * k + b) * 40 + a))
theorem WT.sy {M : MM} (h : WT M) {a b : Nat} (ha : a < 40) (hb : b < 40) : tieN M a b = tieN M b a := by
  unfold tieN
  rw [h.2 1 a b (Or.inl rfl) ha hb, h.2 2 a b (Or.inr rfl) ha hb, Nat.add_comm (M 35 ((40 * 0 + a) * 40 + b))]
theorem WT.z {M : MM} (h : WT M) {a b : Nat} (ha : a < 40) (hb : b < 40) (e : a = b ∨ M 31 5 ≤ a ∨ M 31 5 ≤ b) : tieN M a b = 0 := by
  unfold tieN
  rw [h.1 0 a b (by decide) ha hb e, h.1 0 b a (by decide) hb ha (by omega), h.1 1 a b (by decide) ha hb e, h.1 2 a b (by decide) ha hb e]
  rfl
theorem TD_0 {M : MM} {T : Nat → Nat → Nat} : ∀ a b, T a b = TD M T 0 0 a b := fun a b => by
  unfold TD
  rw [if_neg (by omega)]
theorem TD_s {M : MM} {T : Nat → Nat → Nat} {i j : Nat} (hW : WT M) (hn : M 31 5 ≤ 40) (hi : i < M 31 5) (hj : j < M 31 5) (hij : i < j) : ∀ a b, a < M 31 5 → b < 40 → upT (upT (TD M T i j) i j (tieN M i j)) j i (tieN M i j) a b = TD M T i (j + 1) a b := by
  intro a b ha hb
  unfold upT
  by_cases e1 : a = j ∧ b = i
  · rw [if_pos e1, e1.1, e1.2]
    unfold TD
    rw [if_pos (by omega)]
    exact WT.sy hW (by omega) (by omega)
  · rw [if_neg e1]
    by_cases e2 : a = i ∧ b = j
    · rw [if_pos e2, e2.1, e2.2]
      unfold TD
      rw [if_pos (by omega)]
    · rw [if_neg e2]
      unfold TD
      by_cases e3 : a ≠ b ∧ b < M 31 5 ∧ (a < i ∨ b < i ∨ (a = i ∧ b < j) ∨ (b = i ∧ a < j))
      · rw [if_pos e3, if_pos (by omega)]
      · rw [if_neg e3, if_neg (by omega)]
theorem TD_r {M : MM} {T : Nat → Nat → Nat} {i j : Nat} (hj : j = M 31 5) : ∀ a b, a < M 31 5 → b < 40 → TD M T i j a b = TD M T (i + 1) 0 a b := by
  intro a b ha hb
  unfold TD
  by_cases e3 : a ≠ b ∧ b < M 31 5 ∧ (a < i ∨ b < i ∨ (a = i ∧ b < j) ∨ (b = i ∧ a < j))
  · rw [if_pos e3, if_pos (by omega)]
  · rw [if_neg e3, if_neg (by omega)]
theorem TD_b {M : MM} {T : Nat → Nat → Nat} {i : Nat} : ∀ a b, TD M T i 0 a b = TD M T i (i + 1) a b := by
  intro a b
  unfold TD
  by_cases e3 : a ≠ b ∧ b < M 31 5 ∧ (a < i ∨ b < i ∨ (a = i ∧ b < i + 1) ∨ (b = i ∧ a < i + 1))
  · rw [if_pos e3, if_pos (by omega)]
  · rw [if_neg e3, if_neg (by omega)]
theorem TD_e {M : MM} {T : Nat → Nat → Nat} (hW : WT M) (hn : M 31 5 ≤ 40) (hT : ∀ a b, a < M 31 5 → b < 40 → (a = b ∨ M 31 5 ≤ b) → T a b = 0) : ∀ a b, a < M 31 5 → b < 40 → TD M T (M 31 5) 0 a b = tieN M a b := by
  intro a b ha hb
  unfold TD
  by_cases e3 : a ≠ b ∧ b < M 31 5 ∧ (a < M 31 5 ∨ b < M 31 5 ∨ (a = M 31 5 ∧ b < 0) ∨ (b = M 31 5 ∧ a < 0))
  · rw [if_pos e3]
  · rw [if_neg e3, hT a b ha hb (by omega), WT.z hW (by omega) hb (by omega)]
