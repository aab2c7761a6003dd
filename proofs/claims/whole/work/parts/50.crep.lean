/-! ===== THE COMPONENT'S CELLS, told by the reference's state M ===== -/
/-- how many of the routines below r are no hubs -/
def rkN (M : MM) (r : Nat) : Nat := fb_ct (fun x => decide (M 37 x = 0)) r
def hcN (M : MM) : Nat := rkN M (M 31 5)
/-- the k-th routine that is no hub -/
def hsF (M : MM) : Nat → Nat → Nat
  | 0, _ => 0
  | n + 1, k => if M 37 n = 0 ∧ rkN M n = k then n else hsF M n k
def hs (M : MM) (k : Nat) : Nat := hsF M (M 31 5) k
theorem rkN_succ (M : MM) (r : Nat) : rkN M (r + 1) = rkN M r + (if M 37 r = 0 then 1 else 0) := by
  unfold rkN
  rw [fb_ct_succ]
  simp
theorem rkN_le (M : MM) (r : Nat) : rkN M r ≤ r := fb_ct_le _ _
theorem rkN_mono (M : MM) {a b : Nat} (h : a ≤ b) : rkN M a ≤ rkN M b := fb_ct_mono _ h
theorem hsF_ok {M : MM} : ∀ {n k : Nat}, k < rkN M n → hsF M n k < n ∧ M 37 (hsF M n k) = 0 ∧ rkN M (hsF M n k) = k
  | 0, k, h => absurd h (Nat.not_lt_zero k)
  | n + 1, k, h => by
    rw [rkN_succ] at h
    show (if _ then _ else _) < _ ∧ _
    by_cases hc : M 37 n = 0 ∧ rkN M n = k
    · have e : hsF M (n + 1) k = n := by show (if _ then _ else _) = _; rw [if_pos hc]
      rw [if_pos hc, e]
      exact ⟨by omega, hc⟩
    · have e : hsF M (n + 1) k = hsF M n k := by show (if _ then _ else _) = _; rw [if_neg hc]
      rw [if_neg hc, e]
      have hk : k < rkN M n := by
        by_cases z : M 37 n = 0
        · rw [if_pos z] at h
          have : rkN M n ≠ k := fun q => hc ⟨z, q⟩
          omega
        · rw [if_neg z] at h
          omega
      obtain ⟨h1, h2⟩ := hsF_ok hk
      exact ⟨by omega, h2⟩
theorem hs_lt {M : MM} {k : Nat} (h : k < hcN M) : hs M k < M 31 5 := (hsF_ok h).1
theorem hs_nh {M : MM} {k : Nat} (h : k < hcN M) : M 37 (hs M k) = 0 := (hsF_ok h).2.1
theorem hs_rk {M : MM} {k : Nat} (h : k < hcN M) : rkN M (hs M k) = k := (hsF_ok h).2.2
theorem rk_inj {M : MM} {a b : Nat} (ha : M 37 a = 0) (hb : M 37 b = 0) (h : rkN M a = rkN M b) : a = b := by
  rcases Nat.lt_trichotomy a b with q | q | q
  · have h1 := rkN_mono M (show a + 1 ≤ b from q)
    rw [rkN_succ, if_pos ha] at h1
    omega
  · exact q
  · have h1 := rkN_mono M (show b + 1 ≤ a from q)
    rw [rkN_succ, if_pos hb] at h1
    omega
theorem rk_lt {M : MM} {r : Nat} (hr : r < M 31 5) (h : M 37 r = 0) : rkN M r < hcN M := by
  have h1 := rkN_mono M (show r + 1 ≤ M 31 5 from hr)
  rw [rkN_succ, if_pos h] at h1
  unfold hcN
  omega
theorem hs_of {M : MM} {r : Nat} (hr : r < M 31 5) (h : M 37 r = 0) : hs M (rkN M r) = r := rk_inj (hs_nh (rk_lt hr h)) h (hs_rk (rk_lt hr h))
theorem hs_mono {M : MM} {a b : Nat} (hb : b < hcN M) (h : a < b) : hs M a < hs M b := by
  have ha : a < hcN M := by omega
  rcases Nat.lt_or_ge (hs M a) (hs M b) with q | q
  · exact q
  · have h1 := rkN_mono M q
    rw [hs_rk ha, hs_rk hb] at h1
    omega
theorem hs_inj {M : MM} {a b : Nat} (ha : a < hcN M) (hb : b < hcN M) (h : hs M a = hs M b) : a = b := by rw [← hs_rk ha, ← hs_rk hb, h]
theorem hcN_le (M : MM) : hcN M ≤ M 31 5 := rkN_le _ _
/-- a sum over those that are no hubs, over the list of them -/
theorem sm_hs {M : MM} (f : Nat → Nat) : ∀ {n : Nat}, n ≤ M 31 5 → fb_sm (fun r => if M 37 r = 0 then f r else 0) n = fb_sm (fun k => f (hs M k)) (rkN M n)
  | 0, _ => rfl
  | n + 1, h => by
    rw [fb_sm_succ, sm_hs f (by omega), rkN_succ]
    by_cases z : M 37 n = 0
    · rw [if_pos z, if_pos z, fb_sm_succ, hs_of (by omega) z]
    · rw [if_neg z, if_neg z]; rfl
theorem ct_hs {M : MM} (p : Nat → Bool) : ∀ {n : Nat}, n ≤ M 31 5 → fb_ct (fun r => decide (M 37 r = 0) && p r) n = fb_ct (fun k => p (hs M k)) (rkN M n)
  | 0, _ => rfl
  | n + 1, h => by
    rw [fb_ct_succ, ct_hs p (by omega), rkN_succ]
    by_cases z : M 37 n = 0
    · rw [if_pos z, fb_ct_succ, hs_of (by omega) z]
      simp [z]
    · rw [if_neg z]
      simp [z]
/-- the settings -/
def stg (M : MM) (k : Nat) : Nat := if k < 3 then M 36 k else M 31 (k + 5)
/-- sets of routines as bits -/
def bitS (p : Nat → Bool) : Nat → Nat
  | 0 => 0
  | n + 1 => bitS p n + (if p n = true then 2 ^ n else 0)
theorem bitS_lt {p : Nat → Bool} : ∀ {n : Nat}, bitS p n < 2 ^ n
  | 0 => (by decide : (0 : Nat) < 1)
  | n + 1 => by
    have := bitS_lt (p := p) (n := n)
    show bitS p n + _ < 2 ^ (n + 1)
    rw [Nat.pow_succ]
    split <;> omega
theorem bitS_bit {p : Nat → Bool} {j : Nat} : ∀ {n : Nat}, (bitS p n).testBit j = (decide (j < n) && p j)
  | 0 => by
    show Nat.testBit 0 j = _
    simp
  | n + 1 => by
    have hl := bitS_lt (p := p) (n := n)
    have e : bitS p (n + 1) = bitS p n ||| (if p n = true then 2 ^ n else 0) := by
      show bitS p n + _ = _
      split
      · have := Nat.two_pow_add_eq_or_of_lt hl 1
        rw [Nat.mul_one] at this
        rw [Nat.add_comm, this, Nat.or_comm]
      · rw [Nat.or_zero]; rfl
    rw [e, Nat.testBit_or, bitS_bit]
    by_cases hp : p n = true
    · rw [if_pos hp, Nat.testBit_two_pow]
      by_cases hj : j = n
      · subst hj; simp [hp]
      · have h1 : (decide (j < n + 1)) = decide (j < n) := by simp; omega
        rw [h1]
        simp [Ne.symm hj]
    · rw [if_neg hp, Nat.zero_testBit, Bool.or_false]
      by_cases hj : j = n
      · subst hj
        simp at hp
        simp [hp]
      · have h1 : (decide (j < n + 1)) = decide (j < n) := by simp; omega
        rw [h1]
def tdB (M : MM) (r o : Nat) : Bool := decide (o ≠ r) && decide (0 < tieN M r o)
/-- what an int of the component is -/
def okI (M : MM) : Nat → Nat → Nat → Prop
  | 1, i, k => i < 2 ∧ k = 1
  | 2, i, k => (i = 0 ∧ k < M 31 2) ∨ (i = 1 ∧ k < M 31 18)
  | 3, i, k => i = 0 ∧ (k = 4 ∨ k = 5)
  | 6, i, k => i = 0 ∧ k < 6
  | 8, i, k => i < M 31 5 ∧ (k = 0 ∨ k = 10 ∨ k = 11 ∨ k = 12)
  | 10, i, k => i < 3 * M 31 5 ∧ k < 40
  | 11, i, k => i < M 31 5 ∧ k < 40
  | 12, i, k => i < M 31 5 ∧ k < 40
  | 25, i, k => i = 0 ∧ k = 1
  | 27, i, k => i = 0 ∧ k = 2
  | 28, i, k => i = 0 ∧ k < 40
  | _, _, _ => False
def cI (M : MM) : Nat → Nat → Nat → Int32
  | 1, i, _ => if i = 0 then nI (M 31 2) else nI (M 31 18)
  | 2, i, k => if i = 0 then (nI (M 32 k)).toInt8.toInt32 else nI (M 43 k)
  | 3, _, k => if k = 4 then nI (M 31 5) else nI (hcN M)
  | 6, _, k => nI (stg M k)
  | 8, i, k => if k = 0 then nI i else if k = 10 then nI (M 40 i) - 1 else if k = 11 then nI (M 38 i) else nI (M 37 i)
  | 10, i, k => nI (M 35 ((40 * (i % 3) + i / 3) * 40 + k))
  | 11, i, k => nI (tieN M i k)
  | 12, i, k => nI (M 39 (40 * i + k))
  | 25, _, _ => nI (M 31 22)
  | 27, _, _ => nI (M 31 23)
  | 28, _, k => nI (M 47 k) - 1
  | _, _, _ => 0
def okJ (M : MM) : Nat → Nat → Nat → Prop
  | 8, i, k => i < M 31 5 ∧ (k = 1 ∨ k = 7 ∨ k = 8 ∨ k = 9)
  | 26, i, k => i = 0 ∧ k < M 31 22
  | _, _, _ => False
def cJ (M : MM) : Nat → Nat → Nat → Int64
  | 8, i, k => if k = 1 then lN (2 ^ i) else if k = 7 then lN (bitS (tdB M i) (M 31 5)) else if k = 8 then lN (bitS (fun o => decide (0 < M 35 ((40 * 0 + o) * 40 + i))) (M 31 5)) else lN (bitS (fun o => decide (0 < M 35 ((40 * 0 + i) * 40 + o))) (M 31 5))
  | 26, _, k => lN (M 45 k + 2 ^ 20 * M 46 k)
  | _, _, _ => 0
def okV (M : MM) : Nat → Nat → Nat → Prop
  | 0, i, k => i = 0 ∧ k < 9
  | 3, i, k => i = 0 ∧ k < 4
  | 4, i, k => i = 0 ∧ k < M 31 5
  | 5, i, k => i = 0 ∧ k < hcN M
  | 8, i, k => i < M 31 5 ∧ 2 ≤ k ∧ k < 7
  | 9, i, k => i < M 31 5 ∧ k < 3
  | 14, i, k => i = 0 ∧ k = 0
  | 18, i, k => i = 0 ∧ k < 2
  | 20, i, k => i = 0 ∧ k < 3
  | 23, i, k => i = 0 ∧ k < 2
  | 25, i, k => i = 0 ∧ k = 0
  | 27, i, k => i = 0 ∧ k < 2
  | 29, i, k => i = 0 ∧ k < 6
  | _, _, _ => False
def cV (M : MM) : Nat → Nat → Nat → Option Nat
  | 0, _, k => if k = 1 then some 1 else some 0
  | 4, _, k => some k
  | 5, _, k => some (hs M k)
  | 8, i, k => if k = 2 then some (M 60 i) else some i
  | 9, i, k => some (3 * i + k)
  | 29, _, k => some k
  | _, _, _ => some 0
/-- how many there are, how long the arrays are -/
def cLy (Λ : LY) (n : Nat) : Prop := (∀ t ∈ [0, 3, 4, 5, 6, 7, 14, 15, 18, 19, 20, 21, 22, 23, 24, 25, 26, 27, 28, 29], gC Λ t = 1) ∧ gC Λ 30 = 6 ∧ (∀ t ∈ [8, 9, 11, 12, 13], gC Λ t = n) ∧ gC Λ 10 = 3 * n ∧ 2 ≤ gC Λ 1 ∧ gC Λ 2 = gC Λ 1 ∧
  (∀ q ∈ [(4, 40), (5, 40), (6, 6), (7, 6), (19, 6), (21, 9), (22, 9), (24, 6), (26, 60), (28, 40), (29, 6)], gN Λ q.1 0 = q.2) ∧ (∀ i, i < 6 → gN Λ 30 i = 6) ∧ (∀ i, i < n → gN Λ 9 i = 3 ∧ gN Λ 11 i = 40 ∧ gN Λ 12 i = 40 ∧ gN Λ 13 i = 6) ∧ (∀ i, i < 3 * n → gN Λ 10 i = 40) ∧ gN Λ 2 0 = 40 ∧ gN Λ 2 1 = 20
def CR (ex : Nat → Nat → Nat → Prop) (Λ : LY) (σ : HS) (M : MM) : Prop := cLy Λ (M 31 5) ∧ (∀ i, i < gC Λ 1 → gV σ 1 i 0 = some i) ∧ (∀ t i k, okI M t i k → ¬ ex t i k → gI σ t i k = cI M t i k) ∧ (∀ t i k, okJ M t i k → ¬ ex t i k → gJ σ t i k = cJ M t i k) ∧ (∀ t i k, okV M t i k → ¬ ex t i k → gV σ t i k = cV M t i k)
abbrev noEx : Nat → Nat → Nat → Prop := fun _ _ _ => False
theorem CR.n1 {ex : Nat → Nat → Nat → Prop} {Λ : LY} {σ : HS} {M : MM} (h : CR ex Λ σ M) {t : Nat} (ht : t ∈ [0, 3, 4, 5, 6, 7, 14, 15, 18, 19, 20, 21, 22, 23, 24, 25, 26, 27, 28, 29]) : 0 < gC Λ t := by rw [h.1.1 t ht]; decide
theorem CR.n8 {ex : Nat → Nat → Nat → Prop} {Λ : LY} {σ : HS} {M : MM} (h : CR ex Λ σ M) {t r : Nat} (ht : t ∈ [8, 9, 11, 12, 13]) (hr : r < M 31 5) : r < gC Λ t := by rw [h.1.2.2.1 t ht]; exact hr
theorem CR.n10 {ex : Nat → Nat → Nat → Prop} {Λ : LY} {σ : HS} {M : MM} (h : CR ex Λ σ M) {r : Nat} (hr : r < 3 * M 31 5) : r < gC Λ 10 := by rw [h.1.2.2.2.1]; exact hr
theorem CR.n30 {ex : Nat → Nat → Nat → Prop} {Λ : LY} {σ : HS} {M : MM} (h : CR ex Λ σ M) {r : Nat} (hr : r < 6) : r < gC Λ 30 := by rw [h.1.2.1]; exact hr
theorem CR.n2 {ex : Nat → Nat → Nat → Prop} {Λ : LY} {σ : HS} {M : MM} (h : CR ex Λ σ M) {i : Nat} (hi : i < 2) : i < gC Λ 1 ∧ i < gC Λ 2 := by
  have h1 := h.1.2.2.2.2.1
  have h2 := h.1.2.2.2.2.2.1
  omega
theorem CR.l1 {ex : Nat → Nat → Nat → Prop} {Λ : LY} {σ : HS} {M : MM} (h : CR ex Λ σ M) {t x : Nat} (ht : (t, x) ∈ [(4, 40), (5, 40), (6, 6), (7, 6), (19, 6), (21, 9), (22, 9), (24, 6), (26, 60), (28, 40), (29, 6)]) : gN Λ t 0 = x := h.1.2.2.2.2.2.2.1 (t, x) ht
theorem CR.l30 {ex : Nat → Nat → Nat → Prop} {Λ : LY} {σ : HS} {M : MM} (h : CR ex Λ σ M) {i : Nat} (hi : i < 6) : gN Λ 30 i = 6 := h.1.2.2.2.2.2.2.2.1 i hi
theorem CR.l8 {ex : Nat → Nat → Nat → Prop} {Λ : LY} {σ : HS} {M : MM} (h : CR ex Λ σ M) {i : Nat} (hi : i < M 31 5) : gN Λ 9 i = 3 ∧ gN Λ 11 i = 40 ∧ gN Λ 12 i = 40 ∧ gN Λ 13 i = 6 := h.1.2.2.2.2.2.2.2.2.1 i hi
theorem CR.l10 {ex : Nat → Nat → Nat → Prop} {Λ : LY} {σ : HS} {M : MM} (h : CR ex Λ σ M) {i : Nat} (hi : i < 3 * M 31 5) : gN Λ 10 i = 40 := h.1.2.2.2.2.2.2.2.2.2.1 i hi
theorem CR.i {ex : Nat → Nat → Nat → Prop} {Λ : LY} {σ : HS} {M : MM} (h : CR ex Λ σ M) (t i k : Nat) (ho : okI M t i k) (hx : ¬ ex t i k) : gI σ t i k = cI M t i k := h.2.2.1 t i k ho hx
theorem CR.j {ex : Nat → Nat → Nat → Prop} {Λ : LY} {σ : HS} {M : MM} (h : CR ex Λ σ M) (t i k : Nat) (ho : okJ M t i k) (hx : ¬ ex t i k) : gJ σ t i k = cJ M t i k := h.2.2.2.1 t i k ho hx
theorem CR.v {ex : Nat → Nat → Nat → Prop} {Λ : LY} {σ : HS} {M : MM} (h : CR ex Λ σ M) (t i k : Nat) (ho : okV M t i k) (hx : ¬ ex t i k) : gV σ t i k = cV M t i k := h.2.2.2.2 t i k ho hx
/-- a write that ex lets be -/
theorem CR.wI {ex : Nat → Nat → Nat → Prop} {Λ : LY} {σ : HS} {M : MM} (h : CR ex Λ σ M) {t i k : Nat} {x : Int32} (hx : ex t i k ∨ ¬ okI M t i k) : CR ex Λ (sI σ t i k x) M := by
  refine ⟨h.1, h.2.1, fun t' i' k' ho he => ?_, h.2.2.2⟩
  rw [gI_sI, if_neg]
  · exact h.i t' i' k' ho he
  · rintro ⟨rfl, rfl, rfl⟩
    exact hx.elim he (fun z => z ho)
theorem CR.wJ {ex : Nat → Nat → Nat → Prop} {Λ : LY} {σ : HS} {M : MM} (h : CR ex Λ σ M) {t i k : Nat} {x : Int64} (hx : ex t i k ∨ ¬ okJ M t i k) : CR ex Λ (sJ σ t i k x) M := by
  refine ⟨h.1, h.2.1, h.2.2.1, fun t' i' k' ho he => ?_, h.2.2.2.2⟩
  rw [gJ_sJ, if_neg]
  · exact h.j t' i' k' ho he
  · rintro ⟨rfl, rfl, rfl⟩
    exact hx.elim he (fun z => z ho)
theorem CR.wV {ex : Nat → Nat → Nat → Prop} {Λ : LY} {σ : HS} {M : MM} (h : CR ex Λ σ M) {t i k : Nat} {x : Option Nat} (ht : t ≠ 1) (hx : ex t i k ∨ ¬ okV M t i k) : CR ex Λ (sV σ t i k x) M := by
  refine ⟨h.1, fun i' hi' => ?_, h.2.2.1, h.2.2.2.1, fun t' i' k' ho he => ?_⟩
  · rw [gV_ne (Or.inl (Ne.symm ht))]
    exact h.2.1 i' hi'
  · rw [gV_sV, if_neg]
    · exact h.v t' i' k' ho he
    · rintro ⟨rfl, rfl, rfl⟩
      exact hx.elim he (fun z => z ho)
