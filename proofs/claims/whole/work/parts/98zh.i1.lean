/-! ===== WHAT HOLDS BETWEEN TWO CALLS, and what part and learn do to it ===== -/
def GG (Λ : LY) (σ : HS) (M : MM) : Prop := ∃ (n ar cp : Nat) (wf tx ln hd : Nat → Nat) (lt : Nat → Nat → Nat), GL Λ σ n ar cp wf tx ln hd lt ∧ GW (PW M) n ln hd lt ∧ n ≤ 10 * M 31 5
def INV (Λ : LY) (σ : HS) (M : MM) : Prop := CR noEx Λ σ M ∧ LB Λ σ M ∧ GG Λ σ M
theorem lets_all {M : MM} {f : Nat → Nat} : ∀ {n : Nat}, (∀ k, k < n → f k = M 32 k) → lets f n = allL M n
  | 0, _ => rfl
  | n + 1, h => by
    show (lets f n && isLet (f n)) = (allL M n && isLet (M 32 n))
    rw [lets_all (fun k hk => h k (by omega)), h n (by omega)]
theorem eqN_iff {M : MM} {r : Nat} : ∀ {n : Nat}, eqN M r n = true ↔ ∀ k, k < n → M 33 (20 * r + k) = M 32 k
  | 0 => ⟨fun _ k hk => absurd hk (Nat.not_lt_zero k), fun _ => rfl⟩
  | n + 1 => by
    show (eqN M r n && decide (M 33 (20 * r + n) = M 32 n)) = true ↔ _
    rw [Bool.and_eq_true, eqN_iff, decide_eq_true_iff]
    constructor
    · rintro ⟨a, b⟩ k hk
      by_cases e : k = n
      · rw [e]; exact b
      · exact a k (by omega)
    · intro a
      exact ⟨fun k hk => a k (by omega), a n (by omega)⟩
theorem hasN_weq {M : MM} {r n : Nat} : hasN M r n = true ↔ weq (M 34 r) (nmF M r) n (M 32) := by
  unfold hasN weq nmF
  rw [Bool.and_eq_true, decide_eq_true_iff, eqN_iff]
  constructor
  · rintro ⟨a, b⟩
    exact ⟨a, fun j hj => b j (by omega)⟩
  · rintro ⟨a, b⟩
    exact ⟨a, fun k hk => b k (by omega)⟩
theorem tp0 (M : MM) : tpM M 0 (M 32) = mS M 31 2 0 := by
  funext t k
  unfold tpM mS
  by_cases h : t = 32
  · subst h
    rw [if_pos rfl, if_neg (fun z => absurd z.1 (by decide))]
  · rw [if_neg h]
theorem LnI.part {Λ L2 : LY} {σ u : HS} {n cp : Nat} {f : Nat → Nat} (h2 : gC Λ 2 = gC Λ 1) (h3 : ∀ i, i < gC Λ 1 → gV σ 1 i 0 = some i) (hG : Gw Λ L2) (hK : Kp Λ σ u) (c1 : gC L2 1 = gC Λ 1 + 1) (c2 : gC L2 2 = gC Λ 2 + 1) (c3 : ∀ t, t ≠ 1 → t ≠ 2 → gC L2 t = gC Λ t) (hs : Same (fun t => t ≠ 1 ∧ t ≠ 2) σ u) (hT : TX L2 u (gC Λ 1) n cp f) : LnI Λ σ L2 u := by
  refine ⟨hG, fun t a b _ _ => c3 t a b, fun t ht => hs t ⟨ht.1, ht.2.1⟩, fun t i _ hi => hK t i hi, by omega, fun i hi => ?_⟩
  by_cases q : i < gC Λ 1
  · rw [(hK 1 i q).2.2]; exact h3 i q
  · have e : i = gC Λ 1 := by omega
    rw [e]; exact hT.2.2.1
theorem CR.ln {Λ L2 : LY} {σ u : HS} {M : MM} (h : CR noEx Λ σ M) (hI : LnI Λ σ L2 u) : CR noEx L2 u M := by
  obtain ⟨i1, i2, i3, i4, i5, i6⟩ := hI
  obtain ⟨b1, b2, b3, b4, b5, b6, b7, b8, b9, b10, b11, b12⟩ := h.1
  have ge : ∀ t i, i < gC Λ t → gN L2 t i = gN Λ t i := fun t i hi => (i1.2.1 t i hi).2
  have cc : ∀ t, t ≠ 1 → t ≠ 2 → t ≠ 16 → t ≠ 17 → gC L2 t = gC Λ t := i2
  have sm : ∀ t, t ≠ 1 → t ≠ 2 → t ≠ 15 → t ≠ 16 → t ≠ 17 → gI u t = gI σ t ∧ gJ u t = gJ σ t ∧ gV u t = gV σ t := fun t a b c d e => i3 t ⟨a, b, c, d, e⟩
  refine ⟨⟨fun t ht => ?_, ?_, fun t ht => ?_, ?_, ?_, i5, fun q hq => ?_, fun i hi => ?_, fun i hi => ?_, fun i hi => ?_, ?_, ?_⟩, i6, fun t i k ho he => ?_, fun t i k ho he => ?_, fun t i k ho he => ?_⟩
  · rw [cc t (by intro e; subst e; revert ht; decide) (by intro e; subst e; revert ht; decide) (by intro e; subst e; revert ht; decide) (by intro e; subst e; revert ht; decide)]; exact b1 t ht
  · rw [cc 30 (by decide) (by decide) (by decide) (by decide)]; exact b2
  · rw [cc t (by intro e; subst e; revert ht; decide) (by intro e; subst e; revert ht; decide) (by intro e; subst e; revert ht; decide) (by intro e; subst e; revert ht; decide)]; exact b3 t ht
  · rw [cc 10 (by decide) (by decide) (by decide) (by decide)]; exact b4
  · exact Nat.le_trans b5 (i1.1 1)
  · rw [ge q.1 0 (by rw [b1 q.1 (by revert hq; revert q; decide)]; decide)]; exact b7 q hq
  · rw [ge 30 i (by omega)]; exact b8 i hi
  · have c9 := b3 9 (by decide); have c11 := b3 11 (by decide); have c12 := b3 12 (by decide); have c13 := b3 13 (by decide)
    rw [ge 9 i (by omega), ge 11 i (by omega), ge 12 i (by omega), ge 13 i (by omega)]; exact b9 i hi
  · rw [ge 10 i (by omega)]; exact b10 i hi
  · rw [ge 2 0 (by omega)]; exact b11
  · rw [ge 2 1 (by omega)]; exact b12
  · by_cases t1 : t = 1
    · subst t1
      rw [(i4 1 i (Or.inl rfl) (CR.n2 h ho.1).1).1]; exact CR.i h 1 i k ho he
    · by_cases t2 : t = 2
      · subst t2
        have hi2 : i < gC Λ 2 := (CR.n2 h (by rcases ho with y | y <;> (have := y.1; omega))).2
        rw [(i4 2 i (Or.inr rfl) hi2).1]; exact CR.i h 2 i k ho he
      · have hd := okI_dom ho
        rw [(sm t t1 t2 (by omega) (by omega) (by omega)).1]; exact CR.i h t i k ho he
  · have hd := okJ_dom ho
    rw [(sm t (by omega) (by omega) (by omega) (by omega) (by omega)).2.1]; exact CR.j h t i k ho he
  · have hd := okV_dom ho
    rw [(sm t (by omega) (by omega) (by omega) (by omega) (by omega)).2.2]; exact CR.v h t i k ho he
/-! names of other routines -/
theorem endN_loc {M M' : MM} {r : Nat} (h4 : M' 34 r = M 34 r) (h3 : ∀ k, k < M 34 r → M' 33 (20 * r + k) = M 33 (20 * r + k)) : ∀ (f k : Nat), endN M' r f k = endN M r f k
  | 0, _ => rfl
  | f + 1, k => by
    show (if k < M' 34 r ∧ M' 33 (20 * r + k) ≠ 95 then endN M' r f (k + 1) else k) = (if k < M 34 r ∧ M 33 (20 * r + k) ≠ 95 then endN M r f (k + 1) else k)
    rw [h4]
    by_cases e : k < M 34 r
    · rw [h3 k e, endN_loc h4 h3 f (k + 1)]
    · rw [if_neg (fun z => e z.1), if_neg (fun z => e z.1)]
theorem hasW_loc {M M' : MM} {r m : Nat} {g : Nat → Nat} (h4 : M' 34 r = M 34 r) (h3 : ∀ k, k < M 34 r → M' 33 (20 * r + k) = M 33 (20 * r + k)) : hasW M' r m g ↔ hasW M r m g := by
  have eL : ∀ k, lnW M' r k = lnW M r k := fun k => by
    unfold lnW endK
    rw [h4, endN_loc h4 h3]
  have eS : ∀ k, isSt M' r k ↔ isSt M r k := fun k => by
    unfold isSt
    rw [h4]
    constructor
    · rintro ⟨a, b⟩
      exact ⟨a, b.elim Or.inl (fun z => Or.inr (by rw [← h3 (k - 1) (by omega)]; exact z))⟩
    · rintro ⟨a, b⟩
      exact ⟨a, b.elim Or.inl (fun z => Or.inr (by rw [h3 (k - 1) (by omega)]; exact z))⟩
  have eF : ∀ k, isSt M r k → lnW M r k = m → ∀ j, j < m → M' 33 (20 * r + k + j) = M 33 (20 * r + k + j) := fun k hs hl j hj => by
    have h1 : endK M r k ≤ M 34 r := endK_le (Nat.le_of_lt hs.1)
    unfold lnW at hl
    rw [Nat.add_assoc]
    exact h3 (k + j) (by omega)
  unfold hasW
  constructor
  · rintro ⟨k, a, b, c⟩
    have a2 := (eS k).mp a
    rw [eL] at b
    exact ⟨k, a2, b, fun j hj => by rw [← eF k a2 b j hj]; exact c j hj⟩
  · rintro ⟨k, a, b, c⟩
    exact ⟨k, (eS k).mpr a, by rw [eL]; exact b, fun j hj => by rw [eF k a b j hj]; exact c j hj⟩
section NR2
variable {M : MM} {lb nl : Nat}
theorem nr_34 {k : Nat} : (newM (mS M 60 (M 31 5) lb) nl) 34 k = if k = M 31 5 then nl else M 34 k := by
  unfold newM
  rw [show mS M 60 (M 31 5) lb 31 5 = M 31 5 from mS_ne (Or.inl (by decide)), mS_ne (Or.inl (by decide)), mS_ne (Or.inl (by decide))]
  by_cases h : k = M 31 5
  · rw [if_pos h, h, mS_same]
  · rw [if_neg h, mS_ne (Or.inr h)]
    unfold cpyN
    rw [if_neg (fun z => absurd z.1 (by decide)), mS_ne (Or.inl (by decide))]
theorem nr_33 {k : Nat} : (newM (mS M 60 (M 31 5) lb) nl) 33 k = if 20 * M 31 5 ≤ k ∧ k < 20 * M 31 5 + nl then M 32 (k - 20 * M 31 5) else M 33 k := by
  unfold newM
  rw [show mS M 60 (M 31 5) lb 31 5 = M 31 5 from mS_ne (Or.inl (by decide)), mS_ne (Or.inl (by decide)), mS_ne (Or.inl (by decide)), mS_ne (Or.inl (by decide))]
  unfold cpyN
  by_cases h : 20 * M 31 5 ≤ k ∧ k < 20 * M 31 5 + nl
  · rw [if_pos ⟨rfl, h⟩, if_pos h, mS_ne (Or.inl (by decide))]
  · rw [if_neg (fun z => h z.2), if_neg h, mS_ne (Or.inl (by decide))]
end NR2
