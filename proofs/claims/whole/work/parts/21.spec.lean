/-! ===== WHAT THE REFERENCE ANSWERS, as functions of its state ===== -/
def mB : Nat → Nat → Nat
  | 31, 8 => 100 | 31, 22 => 60 | 31, _ => 40
  | 32, _ => 255 | 33, _ => 255 | 34, _ => 40 | 35, _ => 999999 | 36, _ => 9 | 37, _ => 1 | 38, _ => 5 | 39, _ => 2 | 40, _ => 6 | 41, _ => 39 | 42, _ => 5 | 43, _ => 255 | 44, _ => 63 | 45, _ => 1048575 | 46, _ => 1048575 | 47, _ => 6 | 48, _ => 40
  | _, _ => 0
/-- every number is in its range -/
def MBd (M : MM) : Prop := ∀ t k, mok t k = true → M t k ≤ mB t k
def tieN (M : MM) (a b : Nat) : Nat := M 36 0 * (M 35 ((40 * 0 + a) * 40 + b) + M 35 ((40 * 0 + b) * 40 + a)) + M 36 1 * M 35 ((40 * 1 + a) * 40 + b) + M 36 2 * M 35 ((40 * 2 + a) * 40 + b)
theorem tieN_le {M : MM} (hB : MBd M) {a b : Nat} (ha : a < 40) (hb : b < 40) : tieN M a b ≤ 36000000 := by
  have w0 : M 36 0 ≤ 9 := hB 36 0 rfl
  have w1 : M 36 1 ≤ 9 := hB 36 1 rfl
  have w2 : M 36 2 ≤ 9 := hB 36 2 rfl
  have c0 : M 35 ((40 * 0 + a) * 40 + b) ≤ 999999 := hB 35 _ (decide_eq_true (show _ < 4800 by omega))
  have c1 : M 35 ((40 * 0 + b) * 40 + a) ≤ 999999 := hB 35 _ (decide_eq_true (show _ < 4800 by omega))
  have c2 : M 35 ((40 * 1 + a) * 40 + b) ≤ 999999 := hB 35 _ (decide_eq_true (show _ < 4800 by omega))
  have c3 : M 35 ((40 * 2 + a) * 40 + b) ≤ 999999 := hB 35 _ (decide_eq_true (show _ < 4800 by omega))
  have e1 := Nat.mul_le_mul w0 (Nat.add_le_add c0 c1)
  have e2 := Nat.mul_le_mul w1 c2
  have e3 := Nat.mul_le_mul w2 c3
  unfold tieN
  omega
def inR (M : MM) (r : Int32) : Bool := decide (0 ≤ r ∧ r < nI (M 31 5))
def inRm (M : MM) (r : Int32) : Bool := decide (0 ≤ r ∧ r < nI (M 31 10))
def deg (M : MM) (r : Nat) : Nat := fb_ct (fun o => decide (o ≠ r) && decide (0 < tieN M r o)) (M 31 5)
def hubN (M : MM) (r : Nat) : Nat := if M 31 9 < deg M r then 1 else 0
def stR (M : MM) (r : Nat) : Nat := if M 31 9 < deg M r ∨ M 31 10 ≤ M 38 r then 0 else M 38 r
def settleTo (M : MM) (i : Nat) : MM := fun t k => if t = 37 ∧ k < i then hubN M k else if t = 38 ∧ k < i then stR M k else M t k
def settle (M : MM) : MM := settleTo M (M 31 5)
theorem settleTo_nk {M : MM} {i t : Nat} (h1 : t ≠ 37) (h2 : t ≠ 38) : settleTo M i t = M t := by
  funext k
  unfold settleTo
  rw [if_neg (fun z => h1 z.1), if_neg (fun z => h2 z.1)]
theorem settleTo_37 {M : MM} {i k : Nat} (h : i ≤ k) : settleTo M i 37 k = M 37 k := by
  unfold settleTo
  rw [if_neg (fun z => Nat.not_le.mpr z.2 h), if_neg (fun z => absurd z.1 (by decide))]
theorem settleTo_38 {M : MM} {i k : Nat} (h : i ≤ k) : settleTo M i 38 k = M 38 k := by
  unfold settleTo
  rw [if_neg (fun z => absurd z.1 (by decide)), if_neg (fun z => Nat.not_le.mpr z.2 h)]
theorem settleTo_0 (M : MM) : settleTo M 0 = M := by
  funext t k
  unfold settleTo
  simp
theorem settleTo_succ (M : MM) (i : Nat) : mS (mS (settleTo M i) 37 i (hubN M i)) 38 i (stR M i) = settleTo M (i + 1) := by
  funext t k
  unfold mS settleTo
  by_cases h1 : t = 37
  · subst h1
    by_cases h2 : k = i
    · simp [h2]
    · by_cases h3 : k < i
      · simp [h2, h3, Nat.lt_succ_of_lt h3]
      · simp [h2, h3, show ¬ k < i + 1 by omega]
  · by_cases h1' : t = 38
    · subst h1'
      by_cases h2 : k = i
      · simp [h2]
      · by_cases h3 : k < i
        · simp [h2, h3, Nat.lt_succ_of_lt h3]
        · simp [h2, h3, show ¬ k < i + 1 by omega]
    · simp [h1, h1']
theorem settleTo_B {M : MM} (hB : MBd M) (i : Nat) : MBd (settleTo M i) := by
  intro t k hk
  unfold settleTo
  by_cases h1 : t = 37 ∧ k < i
  · rw [if_pos h1, h1.1]
    show hubN M k ≤ 1
    unfold hubN
    split <;> omega
  · rw [if_neg h1]
    by_cases h2 : t = 38 ∧ k < i
    · rw [if_pos h2]
      have h := hB t k hk
      unfold stR
      split
      · omega
      · rw [h2.1] at h ⊢
        exact h
    · rw [if_neg h2]
      exact hB t k hk
/-- how many routines that are no hubs are in a room -/
def szN (M : MM) (room : Nat) : Nat := fb_ct (fun r => decide (M 37 r = 0) && decide (M 38 r = room)) (M 31 5)
def brk (must a b : Nat) : Bool := decide (must = 1 ∧ a ≠ b ∨ must = 2 ∧ a = b)
def fxB (M : MM) (a : Nat) (room : Nat) : Bool := decide (0 < M 40 a ∧ M 40 a ≠ room + 1)
/-- the musts of a with those behind it that don't hold -/
def brkP (M : MM) (a b : Nat) : Bool := decide (a < b) && (decide (M 37 b = 0) && brk (M 39 (40 * a + b)) (M 38 a) (M 38 b))
def brkRow (M : MM) (a : Nat) : Nat := if M 37 a = 0 then (if fxB M a (M 38 a) then 1 else 0) + fb_ct (brkP M a) (M 31 5) else 0
def brkN (M : MM) : Nat := fb_sm (brkRow M) (M 31 5)
def cutT (M : MM) (a b : Nat) : Nat := if a < b ∧ M 37 a = 0 ∧ M 37 b = 0 ∧ M 38 a ≠ M 38 b then tieN M a b else 0
def costN (M : MM) : Nat := 1000000 * brkN M + fb_sm (fun room => M 31 8 * szN M room * szN M room) (M 31 10) + fb_sm (fun a => fb_sm (cutT M a) (M 31 5)) (M 31 5)
theorem fb_ct_skip {p : Nat → Bool} {n : Nat} (h : ∀ k, k < n → p k = false) : fb_ct p n = 0 := fb_ct_zero.mpr h
theorem fb_sm_skip {f : Nat → Nat} : ∀ {n : Nat}, (∀ k, k < n → f k = 0) → fb_sm f n = 0
  | 0, _ => rfl
  | n + 1, h => by rw [fb_sm_succ, fb_sm_skip (fun k hk => h k (by omega)), h n (by omega)]
