/-! ===== a room's name out of the glossary ===== -/
theorem and_bitS {a n : Nat} {q : Nat → Bool} : a &&& bitS q n = bitS (fun r => a.testBit r && q r) n := by
  apply Nat.eq_of_testBit_eq
  intro j
  rw [Nat.testBit_and, bitS_bit, bitS_bit]
  cases a.testBit j <;> cases decide (j < n) <;> cases q j <;> rfl
theorem ct_eq {p q : Nat → Bool} : ∀ {n : Nat}, (∀ j, j < n → p j = q j) → fb_ct p n = fb_ct q n
  | 0, _ => rfl
  | n + 1, h => by rw [fb_ct_succ, fb_ct_succ, ct_eq (fun j hj => h j (by omega)), h n (by omega)]
theorem ct_some {p : Nat → Bool} : ∀ {n : Nat}, 0 < fb_ct p n → ∃ j, j < n ∧ p j = true
  | 0, h => absurd h (Nat.lt_irrefl 0)
  | n + 1, h => by
    rw [fb_ct_succ] at h
    by_cases e : p n = true
    · exact ⟨n, by omega, e⟩
    · rw [if_neg e] at h
      obtain ⟨j, h1, h2⟩ := ct_some (p := p) (n := n) (by omega)
      exact ⟨j, by omega, h2⟩
theorem ct_pos {p : Nat → Bool} {j : Nat} : ∀ {n : Nat}, j < n → p j = true → 0 < fb_ct p n
  | 0, h, _ => absurd h (Nat.not_lt_zero j)
  | n + 1, h, e => by
    rw [fb_ct_succ]
    by_cases q : j = n
    · subst q; rw [if_pos e]; omega
    · have := ct_pos (p := p) (n := n) (j := j) (by omega) e; omega
theorem hasW_eq {M : MM} {o n m : Nat} {f g : Nat → Nat} (h : weq n f m g) : hasW M o n f ↔ hasW M o m g := by
  obtain ⟨h1, h2⟩ := h
  subst h1
  exact ⟨fun ⟨k, a, b, c⟩ => ⟨k, a, b, fun j hj => (c j hj).trans (h2 j hj)⟩, fun ⟨k, a, b, c⟩ => ⟨k, a, b, fun j hj => (c j hj).trans (h2 j hj).symm⟩⟩
theorem hasWB_eq {M : MM} {o n m : Nat} {f g : Nat → Nat} (h : weq n f m g) : hasWB M o n f = hasWB M o m g := by
  cases e : hasWB M o m g with
  | true => exact hasWB_t.mpr ((hasW_eq h).mpr (hasWB_t.mp e))
  | false => exact hasWB_f (fun z => by have := hasWB_t.mpr ((hasW_eq h).mp z); rw [e] at this; cases this)
theorem scZ_eq {M : MM} {room n m : Nat} {f g : Nat → Nat} (h : weq n f m g) : scZ M room n f = scZ M room m g := by
  have e : ∀ a b, scP M room n f a b = scP M room m g a b := fun a b => by
    funext o
    unfold scP
    rw [hasWB_eq h]
  unfold scZ
  rw [e, e, e, e]
/-- which routine has which word, in the reference's terms -/
def PW (M : MM) : Nat → Nat → (Nat → Nat) → Prop := fun r m g => r < M 31 5 ∧ m ≠ 0 ∧ hasW M r m g
def outS (M : MM) (room : Nat) : Nat := bitS (fun r => decide (M 37 r = 0) && !decide (M 38 r = room)) (M 31 5)
theorem gw_bit {M : MM} {n k r : Nat} {ln hd : Nat → Nat} {lt : Nat → Nat → Nat} (h : GW (PW M) n ln hd lt) (hk : k < n) (hr : r < M 31 5) (h0 : ln k ≠ 0) : (hd k).testBit r = hasWB M r (ln k) (lt k) := by
  have e := h.2.2.1 k hk r
  cases q : hasWB M r (ln k) (lt k) with
  | true => exact e.mpr ⟨hr, h0, hasWB_t.mp q⟩
  | false =>
    cases z : (hd k).testBit r with
    | false => rfl
    | true => have := hasWB_t.mpr (e.mp z).2.2; rw [q] at this; cases this
theorem pop_in {M : MM} {n k room : Nat} {ln hd : Nat → Nat} {lt : Nat → Nat → Nat} (h : GW (PW M) n ln hd lt) (hm : M 31 5 ≤ 40) (hk : k < n) (h0 : ln k ≠ 0) : popN (hd k &&& memS M room) = fb_ct (scP M room (ln k) (lt k) true true) (M 31 5) := by
  unfold memS
  rw [and_bitS, pop_bitS hm]
  refine ct_eq (fun r hr => ?_)
  unfold scP
  rw [gw_bit h hk hr h0]
  cases hasWB M r (ln k) (lt k) <;> cases decide (M 37 r = 0) <;> cases decide (M 38 r = room) <;> rfl
theorem pop_ou {M : MM} {n k room : Nat} {ln hd : Nat → Nat} {lt : Nat → Nat → Nat} (h : GW (PW M) n ln hd lt) (hm : M 31 5 ≤ 40) (hk : k < n) (h0 : ln k ≠ 0) : popN (hd k &&& outS M room) = fb_ct (scP M room (ln k) (lt k) false true) (M 31 5) := by
  unfold outS
  rw [and_bitS, pop_bitS hm]
  refine ct_eq (fun r hr => ?_)
  unfold scP
  rw [gw_bit h hk hr h0]
  cases hasWB M r (ln k) (lt k) <;> cases decide (M 37 r = 0) <;> cases decide (M 38 r = room) <;> rfl
theorem pop_mi {M : MM} {room m : Nat} {g : Nat → Nat} (hm : M 31 5 ≤ 40) : popN (memS M room) = fb_ct (scP M room m g true false) (M 31 5) := by
  unfold memS
  rw [pop_bitS hm]
  refine ct_eq (fun r hr => ?_)
  unfold scP
  cases hasWB M r m g <;> cases decide (M 37 r = 0) <;> cases decide (M 38 r = room) <;> rfl
theorem pop_mo {M : MM} {room m : Nat} {g : Nat → Nat} (hm : M 31 5 ≤ 40) : popN (outS M room) = fb_ct (scP M room m g false false) (M 31 5) := by
  unfold outS
  rw [pop_bitS hm]
  refine ct_eq (fun r hr => ?_)
  unfold scP
  cases hasWB M r m g <;> cases decide (M 37 r = 0) <;> cases decide (M 38 r = room) <;> rfl
theorem sc_scZ {M : MM} {n k room : Nat} {ln hd : Nat → Nat} {lt : Nat → Nat → Nat} (h : GW (PW M) n ln hd lt) (hm : M 31 5 ≤ 40) (hk : k < n) (h0 : ln k ≠ 0) : ((popN (hd k &&& memS M room) * popN (outS M room) : Nat) : Int) - ((popN (hd k &&& outS M room) * popN (memS M room) : Nat) : Int) = scZ M room (ln k) (lt k) := by
  unfold scZ
  rw [pop_in h hm hk h0, pop_ou h hm hk h0, pop_mi (m := ln k) (g := lt k) hm, pop_mo (m := ln k) (g := lt k) hm]
  push_cast
  rfl
theorem cand_word {M : MM} {n room r k : Nat} {ln hd : Nat → Nat} {lt : Nat → Nat → Nat} (h : GW (PW M) n ln hd lt) (hm : M 31 5 ≤ 40) (hln : ∀ k, k < n → ln k ≠ 0) (hc : cand M room r k) : ∃ q, q < n ∧ weq (ln q) (lt q) (lnW M r k) (wdF M r k) ∧ 0 < popN (hd q &&& memS M room) ∧ scZ M room (ln q) (lt q) = scW M room r k := by
  obtain ⟨c1, c2, c3, c4, c5⟩ := hc
  have hp : PW M r (lnW M r k) (wdF M r k) := ⟨c1, c5, k, c4, rfl, fun _ _ => rfl⟩
  obtain ⟨q, hq, hw⟩ := h.2.1 r _ _ hp
  refine ⟨q, hq, hw, ?_, scZ_eq hw⟩
  rw [pop_in h hm hq (hln q hq)]
  refine ct_pos c1 ?_
  unfold scP
  rw [hasWB_t.mpr ((hasW_eq hw).mpr hp.2.2)]
  simp [c2, c3]
/-- what wordFor finds is a best word -/
theorem chw_best {M : MM} {n b room : Nat} {ln hd : Nat → Nat} {lt : Nat → Nat → Nat} (h : GW (PW M) n ln hd lt) (hm : M 31 5 ≤ 40) (hln : ∀ k, k < n → ln k ≠ 0) (hc : ChW n (fun q => popN (hd q &&& memS M room)) (fun q => ((popN (hd q &&& memS M room) * popN (outS M room) : Nat) : Int) - ((popN (hd q &&& outS M room) * popN (memS M room) : Nat) : Int)) (some b)) : ∃ r k, BestW M room r k ∧ weq (ln b) (lt b) (lnW M r k) (wdF M r k) := by
  obtain ⟨hb, hpos, hall⟩ := hc
  have hpos2 : 0 < popN (hd b &&& memS M room) := hpos
  rw [pop_in h hm hb (hln b hb)] at hpos2
  obtain ⟨r, hr, hs⟩ := ct_some hpos2
  unfold scP at hs
  simp only [Bool.and_eq_true, decide_eq_true_eq, beq_iff_eq, Bool.not_true, Bool.false_or] at hs
  obtain ⟨s1, s2, s3⟩ := hs
  obtain ⟨k, k1, k2, k3⟩ := hasWB_t.mp s3
  have hw : weq (ln b) (lt b) (lnW M r k) (wdF M r k) := ⟨k2.symm, fun j hj => (k3 j hj).symm⟩
  have hcd : cand M room r k := ⟨hr, s1, s2, k1, by rw [k2]; exact hln b hb⟩
  refine ⟨r, k, ⟨hcd, fun r' k' hc' => ?_⟩, hw⟩
  obtain ⟨q, hq, hwq, hpq, hsq⟩ := cand_word h hm hln hc'
  obtain ⟨a1, a2⟩ := hall q hq hpq
  have e1 := sc_scZ (room := room) h hm hq (hln q hq)
  have e2 := sc_scZ (room := room) h hm hb (hln b hb)
  have e3 : scZ M room (ln b) (lt b) = scW M room r k := scZ_eq hw
  unfold bwW
  by_cases hz : scW M room r' k' < scW M room r k
  · exact Or.inl hz
  · have heq : scW M room r' k' = scW M room r k := by
      have a3 : scZ M room (ln q) (lt q) ≤ scZ M room (ln b) (lt b) := by rw [← e1, ← e2]; exact a1
      rw [hsq, e3] at a3
      omega
    refine Or.inr ⟨heq, fun hl => ?_⟩
    have hbq : b ≤ q := a2 (by show ((popN (hd q &&& memS M room) * popN (outS M room) : Nat) : Int) - ((popN (hd q &&& outS M room) * popN (memS M room) : Nat) : Int) = ((popN (hd b &&& memS M room) * popN (outS M room) : Nat) : Int) - ((popN (hd b &&& outS M room) * popN (memS M room) : Nat) : Int); rw [e1, e2, hsq, e3]; exact heq)
    rcases Nat.eq_or_lt_of_le hbq with z | z
    · subst z
      exact wlt_irr (weq_tr (weq_sy hwq) hw) hl
    · have h1 := h.1 b q z hq
      have h2 : wlt (lnW M r k) (wdF M r k) (lnW M r' k') (wdF M r' k') := by
        have h3 := wlt_eq h1 hwq
        rcases wtri (lnW M r k) (wdF M r k) (lnW M r' k') (wdF M r' k') with y | y | y
        · exact y
        · exact absurd h3 (wlt_irr (weq_tr hw y))
        · exact absurd (wlt_tr h3 y) (wlt_irr hw)
      exact wlt_asym hl h2
theorem chw_none {M : MM} {n room : Nat} {ln hd : Nat → Nat} {lt : Nat → Nat → Nat} (h : GW (PW M) n ln hd lt) (hm : M 31 5 ≤ 40) (hln : ∀ k, k < n → ln k ≠ 0) (hc : ∀ k, k < n → popN (hd k &&& memS M room) = 0) : ∀ r k, ¬ cand M room r k := by
  intro r k hcd
  obtain ⟨q, hq, -, hp, -⟩ := cand_word h hm hln hcd
  have := hc q hq
  omega
