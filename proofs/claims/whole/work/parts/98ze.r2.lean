theorem bitS_0 {p : Nat → Bool} : ∀ {n : Nat}, (∀ j, j < n → p j = false) → bitS p n = 0
  | 0, _ => rfl
  | n + 1, h => by
    show bitS p n + (if p n = true then 2 ^ n else 0) = 0
    rw [bitS_0 (fun j hj => h j (by omega)), h n (by omega)]
    rfl
theorem bitS_s {p q : Nat → Bool} {n : Nat} (h : ∀ j, j < n → q j = p j) (hn : q n = false) : bitS q (n + 1) = bitS p n := by
  show bitS q n + (if q n = true then 2 ^ n else 0) = _
  rw [hn]
  show bitS q n + 0 = _
  rw [Nat.add_zero]
  have k : ∀ m, m ≤ n → bitS q m = bitS p m := by
    intro m
    induction m with
    | zero => intro _; rfl
    | succ m ih =>
      intro hm
      show bitS q m + (if q m = true then 2 ^ m else 0) = bitS p m + (if p m = true then 2 ^ m else 0)
      rw [ih (by omega), h m (by omega)]
  exact k n (Nat.le_refl _)
/-- beyond the last routine all is empty -/
def WZ (M : MM) : Prop := ∀ r, M 31 5 ≤ r → r < 40 → M 37 r = 0 ∧ M 38 r = 0 ∧ (∀ k, k < 40 → M 39 (40 * r + k) = 0)
section NR
variable {M : MM} {lb nl : Nat}
theorem nr_t {t k : Nat} (h1 : t ≠ 31) (h2 : t ≠ 33) (h3 : t ≠ 34) (h4 : t ≠ 40) (h5 : t ≠ 60) : (newM (mS M 60 (M 31 5) lb) nl) t k = M t k := by
  unfold newM
  rw [mS_ne (Or.inl h1), mS_ne (Or.inl h4), mS_ne (Or.inl h3)]
  unfold cpyN
  rw [if_neg (fun z => h2 z.1), mS_ne (Or.inl h5)]
theorem nr_31 {k : Nat} (h : k ≠ 5) : (newM (mS M 60 (M 31 5) lb) nl) 31 k = M 31 k := by
  unfold newM
  rw [mS_ne (Or.inr h), mS_ne (Or.inl (by decide)), mS_ne (Or.inl (by decide))]
  unfold cpyN
  rw [if_neg (fun z => absurd z.1 (by decide)), mS_ne (Or.inl (by decide))]
theorem nr_5 : (newM (mS M 60 (M 31 5) lb) nl) 31 5 = M 31 5 + 1 := by
  unfold newM
  rw [mS_same]
  rfl
theorem nr_40 {k : Nat} : (newM (mS M 60 (M 31 5) lb) nl) 40 k = if k = M 31 5 then 0 else M 40 k := by
  unfold newM
  rw [show mS M 60 (M 31 5) lb 31 5 = M 31 5 from mS_ne (Or.inl (by decide)), mS_ne (Or.inl (by decide))]
  by_cases h : k = M 31 5
  · rw [if_pos h, h]
    exact mS_same _ _ _ _
  · rw [if_neg h, mS_ne (Or.inr h), mS_ne (Or.inl (by decide))]
    unfold cpyN
    rw [if_neg (fun z => absurd z.1 (by decide)), mS_ne (Or.inl (by decide))]
theorem nr_60 {k : Nat} : (newM (mS M 60 (M 31 5) lb) nl) 60 k = if k = M 31 5 then lb else M 60 k := by
  unfold newM
  rw [mS_ne (Or.inl (by decide)), mS_ne (Or.inl (by decide)), mS_ne (Or.inl (by decide))]
  unfold cpyN
  rw [if_neg (fun z => absurd z.1 (by decide))]
  by_cases h : k = M 31 5
  · rw [if_pos h, h, mS_same]
  · rw [if_neg h, mS_ne (Or.inr h)]
theorem nr_tie {a b : Nat} : tieN (newM (mS M 60 (M 31 5) lb) nl) a b = tieN M a b := by
  unfold tieN
  simp only [nr_t (M := M) (lb := lb) (nl := nl) (t := 35) (by decide) (by decide) (by decide) (by decide) (by decide), nr_t (M := M) (lb := lb) (nl := nl) (t := 36) (by decide) (by decide) (by decide) (by decide) (by decide)]
theorem tie_z (hW : WT M) {a b : Nat} (ha : a < 40) (hb : b < 40) (h : M 31 5 ≤ a ∨ M 31 5 ≤ b) : tieN M a b = 0 := by
  unfold tieN
  rw [hW.1 0 a b (by decide) ha hb (Or.inr h), hW.1 0 b a (by decide) hb ha (Or.inr h.symm), hW.1 1 a b (by decide) ha hb (Or.inr h), hW.1 2 a b (by decide) ha hb (Or.inr h)]
  simp
end NR