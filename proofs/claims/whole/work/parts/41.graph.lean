/-! ===== faces and rings ===== -/
def anyB (p : Nat → Bool) : Nat → Bool
  | 0 => false
  | n + 1 => anyB p n || p n
theorem anyB_t {p : Nat → Bool} : ∀ {n : Nat}, anyB p n = true ↔ ∃ k, k < n ∧ p k = true
  | 0 => ⟨fun h => absurd (show false = true from h) (by decide), fun h => h.elim (fun k q => absurd q.1 (Nat.not_lt_zero k))⟩
  | n + 1 => by
    show (anyB p n || p n) = true ↔ _
    rw [Bool.or_eq_true, anyB_t]
    constructor
    · rintro (⟨k, h1, h2⟩ | h)
      · exact ⟨k, by omega, h2⟩
      · exact ⟨n, by omega, h⟩
    · rintro ⟨k, h1, h2⟩
      by_cases e : k = n
      · subst e; exact Or.inr h2
      · exact Or.inl ⟨k, by omega, h2⟩
theorem anyB_f {p : Nat → Bool} {n : Nat} : anyB p n = false ↔ ∀ k, k < n → p k = false := by
  constructor
  · intro h k hk
    cases e : p k with
    | false => rfl
    | true => exact absurd (h.symm.trans (anyB_t.mpr ⟨k, hk, e⟩)) (by decide)
  · intro h
    cases e : anyB p n with
    | false => rfl
    | true =>
      obtain ⟨k, h1, h2⟩ := anyB_t.mp e
      exact absurd ((h k h1).symm.trans h2) (by decide)
/-- a call from outside the room -/
def cldP (M : MM) (room r o : Nat) : Bool := decide (o ≠ r ∧ (M 37 o ≠ 0 ∨ M 38 o ≠ room) ∧ 0 < M 35 ((40 * 0 + o) * 40 + r))
def fcB (M : MM) (room r : Nat) : Bool := decide (M 37 r = 0 ∧ M 38 r = room) && anyB (cldP M room r) (M 31 5)
/-- what face answers to k -/
def fcV (M : MM) (room : Nat) (k : Int) (v : Int32) : Prop := (∃ r, r < M 31 5 ∧ fcB M room r = true ∧ (fb_ct (fcB M room) r : Int) = k ∧ v = nI r) ∨ (v = -1 ∧ (k < 0 ∨ (fb_ct (fcB M room) (M 31 5) : Int) ≤ k))
def ldP (M : MM) (a b r o : Nat) : Bool := decide (M 37 r = 0 ∧ M 37 o = 0 ∧ M 38 r = a ∧ M 38 o = b ∧ 0 < M 35 ((40 * 0 + r) * 40 + o))
/-- calls lead from a room to a room -/
def ldB (M : MM) (a b : Nat) : Bool := anyB (fun r => anyB (ldP M a b r) (M 31 5)) (M 31 5)
/-- what can be reached over the rows nx of rooms below R -/
def Rch (nx : Nat → Nat) (R s b : Nat) : Prop := ∀ S : Nat → Prop, S s → (∀ a c, S a → a < R → (nx a).testBit c = true → S c) → S b
/-- .. over the calls of the routines -/
def RchG (M : MM) (s b : Nat) : Prop := ∀ S : Nat → Prop, S s → (∀ a c, S a → a < M 31 10 → c < M 31 10 → ldB M a c = true → S c) → S b
theorem bit_or_pow (n j i : Nat) : (n ||| 2 ^ j).testBit i = (n.testBit i || decide (i = j)) := by
  rw [Nat.testBit_or, Nat.testBit_two_pow]
  congr 1
  by_cases h : j = i
  · simp [h]
  · simp [h, Ne.symm h]
theorem shrB {n a : Nat} (hn : n < 64) (ha : a < 32) : nI n >>> (nI a &&& 31) = nI (n / 2 ^ a) := pk_shrN (by omega) _ a (s_l a ha)
theorem and1 (n : Nat) : nI n &&& nI 1 = nI (n % 2) := fa_mask n 1
theorem bitI {n a : Nat} (hn : n < 64) (ha : a < 32) : nI (n / 2 ^ a % 2) = nI 1 ↔ n.testBit a = true := by
  rw [nI_eq (by omega) (by decide), Nat.testBit_eq_decide_div_mod_eq]
  simp
theorem shl1 {a : Nat} (ha : a < 31) : nI 1 <<< (nI a &&& 31) = nI (2 ^ a) := by
  have h : (1 : Nat) * 2 ^ a < 2 ^ 32 := by rw [Nat.one_mul]; exact Nat.pow_lt_pow_right (by decide) (by omega)
  rw [pk_shlN _ a (s_l a (by omega)) h, Nat.one_mul]
/-- bits that are on in b stay on -/
theorem or_ge (b x : Nat) : b ≤ b ||| x := Nat.left_le_or
theorem or_lt {a b : Nat} (ha : a < 64) (hb : b < 64) : a ||| b < 64 := Nat.or_lt_two_pow (n := 6) ha hb
theorem pow6 {a : Nat} (h : a < 6) : 2 ^ a < 64 := by
  have : 2 ^ a < 2 ^ 6 := Nat.pow_lt_pow_right (by decide) h
  exact this
/-- the row of a room, up to b -/
def nxTo (M : MM) (a : Nat) : Nat → Nat
  | 0 => 0
  | b + 1 => nxTo M a b ||| (if a ≠ b ∧ ldB M a b = true then 2 ^ b else 0)
theorem nxTo_bit {M : MM} {a c : Nat} : ∀ {b : Nat}, (nxTo M a b).testBit c = true ↔ c < b ∧ a ≠ c ∧ ldB M a c = true
  | 0 => by
    show Nat.testBit 0 c = true ↔ _
    simp
  | b + 1 => by
    show (nxTo M a b ||| _).testBit c = true ↔ _
    rw [Nat.testBit_or, Bool.or_eq_true, nxTo_bit]
    by_cases h : a ≠ b ∧ ldB M a b = true
    · rw [if_pos h, Nat.testBit_two_pow]
      simp only [decide_eq_true_eq]
      constructor
      · rintro (⟨h1, h2⟩ | h1)
        · exact ⟨by omega, h2⟩
        · subst h1; exact ⟨by omega, h⟩
      · rintro ⟨h1, h2⟩
        by_cases e : b = c
        · exact Or.inr e
        · exact Or.inl ⟨by omega, h2⟩
    · rw [if_neg h]
      simp only [Nat.zero_testBit, Bool.false_eq_true, or_false]
      constructor
      · rintro ⟨h1, h2⟩; exact ⟨by omega, h2⟩
      · rintro ⟨h1, h2⟩
        refine ⟨?_, h2⟩
        rcases Nat.lt_or_ge c b with q | q
        · exact q
        · have e : c = b := by omega
          subst e; exact absurd h2 h
theorem nxTo_lt {M : MM} {a : Nat} : ∀ {b : Nat}, b ≤ 6 → nxTo M a b < 64
  | 0, _ => (by decide : (0 : Nat) < 64)
  | b + 1, h => by
    show nxTo M a b ||| _ < 64
    refine or_lt (nxTo_lt (by omega)) ?_
    split
    · exact pow6 (by omega)
    · decide
def nextM (M : MM) (i : Nat) : MM := fun t k => if t = 44 ∧ k < i then nxTo M k (M 31 10) else M t k
theorem Rch_G {M : MM} {nx : Nat → Nat} (h : ∀ a, a < M 31 10 → nx a = nxTo M a (M 31 10)) {s b : Nat} : Rch nx (M 31 10) s b ↔ RchG M s b := by
  constructor
  · intro hr S h0 h1
    refine hr S h0 (fun a c ha hR hb => ?_)
    rw [h a hR] at hb
    obtain ⟨x, -, y⟩ := nxTo_bit.mp hb
    exact h1 a c ha hR x y
  · intro hr S h0 h1
    refine hr S h0 (fun a c ha hR hc hb => ?_)
    by_cases e : a = c
    · subst e; exact ha
    · exact h1 a c ha hR (by rw [h a hR]; exact nxTo_bit.mpr ⟨hc, e, hb⟩)
theorem any1 {b : Bool} {y : Nat} (h : y = if b = true then 1 else 0) (h2 : ¬ y = 0) : b = true := by
  cases b with
  | true => rfl
  | false => exact absurd h h2
theorem any0 {b : Bool} {y : Nat} (h : y = if b = true then 1 else 0) (h2 : y = 0) : b = false := by
  cases b with
  | false => rfl
  | true => rw [h2] at h; exact absurd h (by decide)
/-- one round of reached: what the rows of the rooms below a that are in had add to bits -/
def rcTo (nx : Nat → Nat) (had : Nat) : Nat → Nat
  | 0 => had
  | a + 1 => if had.testBit a = true then rcTo nx had a ||| nx a else rcTo nx had a
theorem rcTo_ge {nx : Nat → Nat} {had c : Nat} (h : had.testBit c = true) : ∀ a, (rcTo nx had a).testBit c = true
  | 0 => h
  | a + 1 => by
    show (if _ then _ else _ : Nat).testBit c = true
    split
    · rw [Nat.testBit_or, rcTo_ge h a]; rfl
    · exact rcTo_ge h a
theorem rcTo_lt {nx : Nat → Nat} {had : Nat} (h : had < 64) (hx : ∀ a, a < 6 → nx a < 64) : ∀ a, a ≤ 6 → rcTo nx had a < 64
  | 0, _ => h
  | a + 1, ha => by
    show (if _ then _ else _ : Nat) < 64
    split
    · exact or_lt (rcTo_lt h hx a (by omega)) (hx a (by omega))
    · exact rcTo_lt h hx a (by omega)
theorem rcTo_in {nx : Nat → Nat} {had c : Nat} : ∀ R, ∀ a, a < R → had.testBit a = true → (nx a).testBit c = true → (rcTo nx had R).testBit c = true
  | 0, a, h, _, _ => absurd h (Nat.not_lt_zero a)
  | R + 1, a, h, h1, h2 => by
    show (if _ then _ else _ : Nat).testBit c = true
    by_cases e : a = R
    · subst e
      rw [if_pos h1, Nat.testBit_or, h2, Bool.or_true]
    · have ih := rcTo_in (nx := nx) (had := had) (c := c) R a (by omega) h1 h2
      split
      · rw [Nat.testBit_or, ih]; rfl
      · exact ih
theorem rcTo_of {nx : Nat → Nat} {had c : Nat} : ∀ R, (rcTo nx had R).testBit c = true → had.testBit c = true ∨ ∃ a, a < R ∧ had.testBit a = true ∧ (nx a).testBit c = true
  | 0, h => Or.inl h
  | R + 1, h => by
    have h2 : (if had.testBit R = true then rcTo nx had R ||| nx R else rcTo nx had R).testBit c = true := h
    by_cases e : had.testBit R = true
    · rw [if_pos e, Nat.testBit_or, Bool.or_eq_true] at h2
      rcases h2 with q | q
      · rcases rcTo_of R q with z | ⟨a, z1, z2⟩
        · exact Or.inl z
        · exact Or.inr ⟨a, by omega, z2⟩
      · exact Or.inr ⟨R, by omega, e, q⟩
    · rw [if_neg e] at h2
      rcases rcTo_of R h2 with z | ⟨a, z1, z2⟩
      · exact Or.inl z
      · exact Or.inr ⟨a, by omega, z2⟩
theorem rcTo_le {nx : Nat → Nat} {had : Nat} : ∀ a, had ≤ rcTo nx had a
  | 0 => Nat.le_refl _
  | a + 1 => by
    show had ≤ (if _ then _ else _ : Nat)
    have := rcTo_le (nx := nx) (had := had) a
    split
    · exact Nat.le_trans this (or_ge _ _)
    · exact this
/-- the set that reached answers -/
def rcOk (nx : Nat → Nat) (R s B : Nat) : Prop := B < 64 ∧ ∀ b, B.testBit b = true ↔ Rch nx R s b
theorem rc_end {nx : Nat → Nat} {R s B : Nat} (hB : B < 64) (hs : B.testBit s = true) (hr : ∀ b, B.testBit b = true → Rch nx R s b) (hc : rcTo nx B R = B) : rcOk nx R s B := by
  refine ⟨hB, fun b => ⟨hr b, fun h => ?_⟩⟩
  refine h (fun x => B.testBit x = true) hs (fun a c ha hR hb => ?_)
  have := rcTo_in (nx := nx) (had := B) (c := c) R a hR ha hb
  rw [hc] at this
  exact this
theorem rc_step {nx : Nat → Nat} {R s B : Nat} (hr : ∀ b, B.testBit b = true → Rch nx R s b) : ∀ b, (rcTo nx B R).testBit b = true → Rch nx R s b := by
  intro b hb
  rcases rcTo_of R hb with h | ⟨a, h1, h2, h3⟩
  · exact hr b h
  · intro S h0 hS
    exact hS a b (hr a h2 S h0 hS) h1 h3
theorem nextM_nk {M : MM} {i t : Nat} (h : t ≠ 44) : nextM M i t = M t := by
  funext k
  unfold nextM
  rw [if_neg (fun z => h z.1)]
theorem nextM_0 {M : MM} : nextM M 0 = M := by
  funext t k
  unfold nextM
  rw [if_neg (fun z => absurd z.2 (by omega))]
theorem nextM_succ {M : MM} {i : Nat} : mS (nextM M i) 44 i (nxTo M i (M 31 10)) = nextM M (i + 1) := by
  funext t k
  unfold mS nextM
  by_cases h2 : t = 44 ∧ k = i
  · rw [if_pos h2, if_pos ⟨h2.1, by omega⟩, h2.2]
  · rw [if_neg h2]
    by_cases h3 : t = 44 ∧ k < i
    · rw [if_pos h3, if_pos ⟨h3.1, by omega⟩]
    · rw [if_neg h3, if_neg (fun z => h3 ⟨z.1, by
          have : k ≠ i := fun e => h2 ⟨z.1, e⟩
          omega⟩)]
theorem ldB_congr {M M' : MM} (h5 : M' 35 = M 35) (h7 : M' 37 = M 37) (h8 : M' 38 = M 38) (hn : M' 31 5 = M 31 5) {a b : Nat} : ldB M' a b = ldB M a b := by
  unfold ldB
  have e : ∀ r, ldP M' a b r = ldP M a b r := fun r => by funext o; unfold ldP; rw [h5, h7, h8]
  rw [hn]
  simp only [e]
theorem nextM_B {M : MM} (hB : MBd M) (hR : M 31 10 ≤ 6) (i : Nat) : MBd (nextM M i) := by
  intro t k hk
  unfold nextM
  by_cases h : t = 44 ∧ k < i
  · rw [if_pos h, h.1]
    show _ ≤ 63
    have := nxTo_lt (M := M) (a := k) hR
    omega
  · rw [if_neg h]
    exact hB t k hk
/-- what ring answers -/
def rgTo (M : MM) (room : Nat) (X i : Nat) : Prop := X < 64 ∧ ∀ a, X.testBit a = true ↔ a < i ∧ RchG M room a ∧ RchG M a room
theorem rg_yes {M : MM} {room a c : Nat} (h1 : RchG M room a) (h2 : RchG M a room) : ((c < a ∧ RchG M room c ∧ RchG M c room) ∨ c = a) ↔ c < a + 1 ∧ RchG M room c ∧ RchG M c room := by
  constructor
  · rintro (⟨q1, q2⟩ | q)
    · exact ⟨by omega, q2⟩
    · subst q; exact ⟨by omega, h1, h2⟩
  · rintro ⟨q1, q2⟩
    by_cases e : c = a
    · exact Or.inr e
    · exact Or.inl ⟨by omega, q2⟩
theorem rg_no {M : MM} {room a c : Nat} (h : ¬ (RchG M room a ∧ RchG M a room)) : (c < a ∧ RchG M room c ∧ RchG M c room) ↔ c < a + 1 ∧ RchG M room c ∧ RchG M c room := by
  constructor
  · rintro ⟨q1, q2⟩; exact ⟨by omega, q2⟩
  · rintro ⟨q1, q2⟩
    refine ⟨?_, q2⟩
    rcases Nat.lt_or_ge c a with z | z
    · exact z
    · have e : c = a := by omega
      subst e; exact absurd q2 h
