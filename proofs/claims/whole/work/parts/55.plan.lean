/-! ===== the plan: rooms as bits, its price ===== -/
def orH (M : MM) (p : Nat → Bool) : Nat → Nat
  | 0 => 0
  | k + 1 => orH M p k ||| (if p (hs M k) = true then 2 ^ hs M k else 0)
theorem orH_bit {M : MM} {p : Nat → Bool} {j : Nat} : ∀ {k : Nat}, (orH M p k).testBit j = true ↔ ∃ x, x < k ∧ hs M x = j ∧ p j = true
  | 0 => by
    show Nat.testBit 0 j = true ↔ _
    simp
  | k + 1 => by
    show (orH M p k ||| _).testBit j = true ↔ _
    rw [Nat.testBit_or, Bool.or_eq_true, orH_bit]
    by_cases hp : p (hs M k) = true
    · rw [if_pos hp, Nat.testBit_two_pow, decide_eq_true_eq]
      constructor
      · rintro (⟨x, h1, h2⟩ | h)
        · exact ⟨x, by omega, h2⟩
        · exact ⟨k, by omega, h, by rw [← h]; exact hp⟩
      · rintro ⟨x, h1, h2, h3⟩
        by_cases e : x = k
        · subst e; exact Or.inr h2
        · exact Or.inl ⟨x, by omega, h2, h3⟩
    · rw [if_neg hp]
      simp only [Nat.zero_testBit, Bool.false_eq_true, or_false]
      constructor
      · rintro ⟨x, h1, h2⟩; exact ⟨x, by omega, h2⟩
      · rintro ⟨x, h1, h2, h3⟩
        by_cases e : x = k
        · subst e; subst h2; exact absurd h3 hp
        · exact ⟨x, by omega, h2, h3⟩
theorem orH_all {M : MM} {p : Nat → Bool} : orH M p (hcN M) = bitS (fun r => decide (M 37 r = 0) && p r) (M 31 5) := by
  apply Nat.eq_of_testBit_eq
  intro j
  rw [bitS_bit]
  rw [Bool.eq_iff_iff, orH_bit]
  simp only [Bool.and_eq_true, decide_eq_true_eq]
  constructor
  · rintro ⟨x, h1, h2, h3⟩
    subst h2
    exact ⟨hs_lt h1, hs_nh h1, h3⟩
  · rintro ⟨h1, h2, h3⟩
    exact ⟨rkN M j, rk_lt h1 h2, hs_of h1 h2, h3⟩
/-- a room's routines, all routines in rooms, as bits -/
def memS (M : MM) (room : Nat) : Nat := bitS (fun r => decide (M 37 r = 0) && decide (M 38 r = room)) (M 31 5)
def hbS (M : MM) : Nat := bitS (fun r => decide (M 37 r = 0) && true) (M 31 5)
/-- what gather changes -/
def G7 (σ u : HS) : Prop := gI u = gI σ ∧ gV u = gV σ ∧ ∀ t, t ≠ 7 → gJ u t = gJ σ t
theorem G7.rf {σ : HS} : G7 σ σ := ⟨rfl, rfl, fun _ _ => rfl⟩
theorem G7.s {σ u : HS} {k : Nat} {x : Int64} (h : G7 σ u) : G7 σ (sJ u 7 0 k x) := ⟨h.1, h.2.1, fun t ht => by rw [gJ_nk ht]; exact h.2.2 t ht⟩
theorem G7.tr {σ u v : HS} (h : G7 σ u) (g : G7 u v) : G7 σ v := ⟨g.1.trans h.1, g.2.1.trans h.2.1, fun t ht => (g.2.2 t ht).trans (h.2.2 t ht)⟩
theorem G7.cr {ex : Nat → Nat → Nat → Prop} {Λ : LY} {σ u : HS} {M : MM} (h : G7 σ u) (hC : CR ex Λ σ M) : CR ex Λ u M := by
  refine ⟨hC.1, by rw [h.2.1]; exact hC.2.1, by rw [h.1]; exact hC.2.2.1, fun t i k ho he => ?_, by rw [h.2.1]; exact hC.2.2.2.2⟩
  by_cases ht : t = 7
  · subst ht; exact ho.elim
  · rw [h.2.2 t ht]; exact hC.j t i k ho he
theorem G7.same {σ u : HS} (h : G7 σ u) : Same nCo σ u := fun t ht => ⟨by rw [h.1], h.2.2 t (by intro e; subst e; exact absurd ht (by decide)), by rw [h.2.1]⟩
def brkH (M : MM) (k : Nat) : Nat := (if fxB M (hs M k) (M 38 (hs M k)) = true then 1 else 0) + fb_ct (fun j => decide (k < j) && brk (M 39 (40 * hs M k + hs M j)) (M 38 (hs M k)) (M 38 (hs M j))) (hcN M)
theorem brkH_all {M : MM} : fb_sm (brkH M) (hcN M) = brkN M := by
  have h1 := sm_hs (M := M) (fun a => (if fxB M a (M 38 a) = true then 1 else 0) + fb_ct (brkP M a) (M 31 5)) (n := M 31 5) (Nat.le_refl _)
  have h2 : brkN M = fb_sm (fun r => if M 37 r = 0 then (if fxB M r (M 38 r) = true then 1 else 0) + fb_ct (brkP M r) (M 31 5) else 0) (M 31 5) := rfl
  rw [h2, h1]
  refine fb_sm_cong (fun k hk => ?_)
  unfold brkH
  congr 1
  have h3 := ct_hs (M := M) (fun b => decide (hs M k < b) && brk (M 39 (40 * hs M k + b)) (M 38 (hs M k)) (M 38 b)) (n := M 31 5) (Nat.le_refl _)
  have h4 : fb_ct (brkP M (hs M k)) (M 31 5) = fb_ct (fun r => decide (M 37 r = 0) && (decide (hs M k < r) && brk (M 39 (40 * hs M k + r)) (M 38 (hs M k)) (M 38 r))) (M 31 5) := by
    refine fb_ct_cong (fun b _ => ?_)
    unfold brkP
    cases decide (hs M k < b) <;> cases decide (M 37 b = 0) <;> rfl
  rw [h4, h3]
  refine fb_ct_cong (fun j hj => ?_)
  have e : (hs M k < hs M j) ↔ (k < j) := by
    constructor
    · intro q
      rcases Nat.lt_trichotomy k j with z | z | z
      · exact z
      · subst z; omega
      · have := hs_mono hk z; omega
    · exact fun q => hs_mono hj q
  simp only [e]
def cutH (M : MM) (k j : Nat) : Nat := if k < j ∧ M 38 (hs M k) ≠ M 38 (hs M j) then tieN M (hs M k) (hs M j) else 0
theorem cutH_all {M : MM} : fb_sm (fun k => fb_sm (cutH M k) (hcN M)) (hcN M) = fb_sm (fun a => fb_sm (cutT M a) (M 31 5)) (M 31 5) := by
  have h1 : fb_sm (fun a => fb_sm (cutT M a) (M 31 5)) (M 31 5) = fb_sm (fun a => if M 37 a = 0 then fb_sm (cutT M a) (M 31 5) else 0) (M 31 5) := by
    refine fb_sm_cong (fun a _ => ?_)
    by_cases h : M 37 a = 0
    · rw [if_pos h]
    · rw [if_neg h]
      exact fb_sm_skip (fun b _ => by unfold cutT; rw [if_neg (fun z => h z.2.1)])
  rw [h1, sm_hs (M := M) (fun a => fb_sm (cutT M a) (M 31 5)) (Nat.le_refl _)]
  refine fb_sm_cong (fun k hk => ?_)
  have hk' : k < hcN M := hk
  have h2 : fb_sm (cutT M (hs M k)) (M 31 5) = fb_sm (fun b => if M 37 b = 0 then (if hs M k < b ∧ M 38 (hs M k) ≠ M 38 b then tieN M (hs M k) b else 0) else 0) (M 31 5) := by
    refine fb_sm_cong (fun b _ => ?_)
    unfold cutT
    by_cases h : M 37 b = 0
    · rw [if_pos h]
      simp only [hs_nh hk', h, true_and]
    · rw [if_neg h, if_neg (fun z => h z.2.2.1)]
  show fb_sm (cutH M k) (hcN M) = _
  rw [h2, sm_hs (M := M) (fun b => if hs M k < b ∧ M 38 (hs M k) ≠ M 38 b then tieN M (hs M k) b else 0) (Nat.le_refl _)]
  refine fb_sm_cong (fun j hj => ?_)
  have hj' : j < hcN M := hj
  unfold cutH
  have e : (hs M k < hs M j) ↔ (k < j) := by
    constructor
    · intro q
      rcases Nat.lt_trichotomy k j with z | z | z
      · exact z
      · subst z; omega
      · have := hs_mono hk' z; omega
    · exact fun q => hs_mono hj' q
  simp only [e]
theorem szN_mem {M : MM} (hn : M 31 5 ≤ 40) {room : Nat} : popN (memS M room) = szN M room := pop_bitS hn
theorem sq_all {M : MM} (hR : M 31 10 ≤ 6) (hW : ∀ r, r < M 31 5 → M 37 r = 0 → M 38 r < M 31 10) : M 31 8 * fb_sm (fun room => szN M room * szN M room) 6 = fb_sm (fun room => M 31 8 * szN M room * szN M room) (M 31 10) := by
  have z : ∀ room, M 31 10 ≤ room → szN M room = 0 := by
    intro room hr
    refine fb_ct_skip (fun r hr2 => ?_)
    by_cases h : M 37 r = 0
    · have := hW r hr2 h
      simp [h]; omega
    · simp [h]
  have h1 : fb_sm (fun room => szN M room * szN M room) 6 = fb_sm (fun room => szN M room * szN M room) (M 31 10) := by
    rw [show 6 = M 31 10 + (6 - M 31 10) by omega, fb_sm_split, fb_sm_skip (n := 6 - M 31 10) (fun k _ => by show szN M _ * szN M _ = 0; rw [z _ (by omega)]), Nat.add_zero]
  rw [h1]
  generalize M 31 10 = R
  induction R with
  | zero => rfl
  | succ R ih => rw [fb_sm_succ, fb_sm_succ, Nat.mul_add, ih, Nat.mul_assoc]
theorem sq_le {M : MM} (hn : M 31 5 ≤ 40) : fb_sm (fun room => szN M room * szN M room) 6 ≤ 9600 := by
  have := fb_sm_bound (f := fun room => szN M room * szN M room) (n := 6) (c := 1600) (fun k _ => by
    have h := szN_le M k
    have := Nat.mul_le_mul (show szN M k ≤ 40 by omega) (show szN M k ≤ 40 by omega)
    exact this)
  omega
