/-! ===== the best of all divisions ===== -/
def asg (M : MM) (A : Nat → Nat) : MM := fun t k => if t = 38 ∧ k < M 31 5 ∧ M 37 k = 0 then A (rkN M k) else M t k
theorem asg_nk {M : MM} {A : Nat → Nat} {t : Nat} (h : t ≠ 38) : asg M A t = M t := by
  funext k
  unfold asg
  rw [if_neg (fun z => h z.1)]
theorem hs_asg {M : MM} {A : Nat → Nat} {k : Nat} : hs (asg M A) k = hs M k := hs_congr (asg_nk (by decide)) (by rw [asg_nk (by decide)])
theorem hcN_asg {M : MM} {A : Nat → Nat} : hcN (asg M A) = hcN M := hcN_congr (asg_nk (by decide)) (by rw [asg_nk (by decide)])
theorem asg_hs {M : MM} {A : Nat → Nat} {i : Nat} (hi : i < hcN M) : asg M A 38 (hs M i) = A i := by
  unfold asg
  rw [if_pos ⟨rfl, hs_lt hi, hs_nh hi⟩, hs_rk hi]
def prI (M : MM) (A : Nat → Nat) (k i : Nat) : Nat := if A i = A k then (if M 39 (40 * hs M k + hs M i) = 2 then 1000000 else 0) else tieN M (hs M k) (hs M i) + (if M 39 (40 * hs M k + hs M i) = 1 then 1000000 else 0)
def alr (A : Nat → Nat) (k : Nat) : Nat := fb_ct (fun i => decide (A i = A k)) k
def padd (M : MM) (A : Nat → Nat) (k : Nat) : Nat := (if fxB M (hs M k) (A k) = true then 1000000 else 0) + fb_sm (prI M A k) k + M 31 8 * (2 * alr A k + 1)
theorem sm_add {f g : Nat → Nat} : ∀ {n : Nat}, fb_sm (fun i => f i + g i) n = fb_sm f n + fb_sm g n
  | 0 => rfl
  | n + 1 => by
    rw [fb_sm_succ, fb_sm_succ, fb_sm_succ, sm_add]
    omega
theorem sm_mul {f : Nat → Nat} {q : Nat} : ∀ {n : Nat}, fb_sm (fun i => q * f i) n = q * fb_sm f n
  | 0 => rfl
  | n + 1 => by
    rw [fb_sm_succ, fb_sm_succ, sm_mul, Nat.mul_add]
theorem ct_sm {p : Nat → Bool} : ∀ {n : Nat}, fb_ct p n = fb_sm (fun i => if p i = true then 1 else 0) n
  | 0 => rfl
  | n + 1 => by rw [fb_ct_succ, fb_sm_succ, ct_sm]
theorem tri {f : Nat → Nat → Nat} : ∀ {n : Nat}, fb_sm (fun k => fb_sm (fun j => if k < j then f k j else 0) n) n = fb_sm (fun j => fb_sm (fun k => f k j) j) n
  | 0 => rfl
  | n + 1 => by
    have ih := tri (f := f) (n := n)
    have h1 : fb_sm (fun k => fb_sm (fun j => if k < j then f k j else 0) (n + 1)) n = fb_sm (fun k => fb_sm (fun j => if k < j then f k j else 0) n) n + fb_sm (fun k => f k n) n := by
      rw [← sm_add]
      refine fb_sm_cong (fun k hk => ?_)
      rw [fb_sm_succ, if_pos hk]
    have h2 : fb_sm (fun j => if n < j then f n j else 0) (n + 1) = 0 := fb_sm_skip (fun j hj => if_neg (by omega))
    show fb_sm (fun k => fb_sm (fun j => if k < j then f k j else 0) (n + 1)) n + fb_sm (fun j => if n < j then f n j else 0) (n + 1) = fb_sm (fun j => fb_sm (fun k => f k j) j) n + fb_sm (fun k => f k n) n
    rw [h1, h2, ih, Nat.add_zero]
theorem sq_tri {A : Nat → Nat} : ∀ {n : Nat}, (∀ k, k < n → A k < 6) → fb_sm (fun room => fb_ct (fun i => decide (A i = room)) n * fb_ct (fun i => decide (A i = room)) n) 6 = fb_sm (fun k => 2 * alr A k + 1) n
  | 0, _ => rfl
  | n + 1, h => by
    have ih := sq_tri (A := A) (n := n) (fun k hk => h k (by omega))
    show _ = fb_sm (fun k => 2 * alr A k + 1) n + (2 * alr A n + 1)
    rw [← ih]
    have hn := h n (by omega)
    have e := sm_one (f := fun room => fb_ct (fun i => decide (A i = room)) (n + 1) * fb_ct (fun i => decide (A i = room)) (n + 1)) (g := fun room => fb_ct (fun i => decide (A i = room)) n * fb_ct (fun i => decide (A i = room)) n) (r := A n) hn (fun i hi hne => by
      show fb_ct _ (n + 1) * fb_ct _ (n + 1) = _
      rw [fb_ct_succ, if_neg (fun z => hne (of_decide_eq_true z).symm), Nat.add_zero])
    have e2 : fb_ct (fun i => decide (A i = A n)) (n + 1) = alr A n + 1 := by
      rw [fb_ct_succ, if_pos (decide_eq_true rfl)]
      rfl
    have e3 : fb_ct (fun i => decide (A i = A n)) n = alr A n := rfl
    simp only [e2, e3] at e
    have e4 : (alr A n + 1) * (alr A n + 1) = alr A n * alr A n + 2 * alr A n + 1 := by
      rw [Nat.add_mul, Nat.mul_add]
      omega
    omega
def WMu (M : MM) : Prop := ∀ a b, a < 40 → b < 40 → M 39 (40 * a + b) = M 39 (40 * b + a)
theorem cost_padd {M : MM} {A : Nat → Nat} (hn : M 31 5 ≤ 40) (hR : M 31 10 ≤ 6) (hT : WT M) (hU : WMu M) (hA : ∀ k, k < hcN M → A k < M 31 10) : costN (asg M A) = fb_sm (padd M A) (hcN M) := by
  have e10 : asg M A 31 = M 31 := asg_nk (by decide)
  have e39 : asg M A 39 = M 39 := asg_nk (by decide)
  have e40 : asg M A 40 = M 40 := asg_nk (by decide)
  have et : ∀ a b, tieN (asg M A) a b = tieN M a b := fun a b => by unfold tieN; rw [asg_nk (t := 35) (by decide), asg_nk (t := 36) (by decide)]
  have hW : ∀ r, r < asg M A 31 5 → asg M A 37 r = 0 → asg M A 38 r < asg M A 31 10 := by
    intro r h1 h2
    rw [e10] at h1 ⊢
    rw [asg_nk (t := 37) (by decide)] at h2
    have := hA (rkN M r) (rk_lt h1 h2)
    unfold asg
    rw [if_pos ⟨rfl, h1, h2⟩]
    exact this
  unfold costN
  rw [← sq_all (by rw [e10]; exact hR) hW, ← brkH_all, ← cutH_all, hcN_asg]
  have hsz : ∀ room, szN (asg M A) room = fb_ct (fun i => decide (A i = room)) (hcN M) := by
    intro room
    have h := ct_hs (M := asg M A) (fun r => decide (asg M A 38 r = room)) (n := asg M A 31 5) (Nat.le_refl _)
    unfold szN
    rw [h]
    show fb_ct _ (hcN (asg M A)) = _
    rw [hcN_asg]
    refine fb_ct_cong (fun i hi => ?_)
    rw [hs_asg, asg_hs hi]
  have h1 : fb_sm (fun room => szN (asg M A) room * szN (asg M A) room) 6 = fb_sm (fun k => 2 * alr A k + 1) (hcN M) := by
    simp only [hsz]
    exact sq_tri (fun k hk => Nat.lt_of_lt_of_le (hA k hk) hR)
  have h2 : fb_sm (brkH (asg M A)) (hcN M) = fb_sm (fun k => if fxB M (hs M k) (A k) = true then 1 else 0) (hcN M) + fb_sm (fun j => fb_sm (fun k => if brk (M 39 (40 * hs M k + hs M j)) (A k) (A j) = true then 1 else 0) j) (hcN M) := by
    rw [← tri (f := fun k j => if brk (M 39 (40 * hs M k + hs M j)) (A k) (A j) = true then 1 else 0), ← sm_add]
    refine fb_sm_cong (fun k hk => ?_)
    unfold brkH
    rw [hs_asg, asg_hs hk, hcN_asg, ct_sm]
    congr 1
    refine fb_sm_cong (fun j hj => ?_)
    rw [hs_asg, asg_hs hj, e39]
    by_cases e : k < j <;> simp [e]
  have h3 : fb_sm (fun k => fb_sm (cutH (asg M A) k) (hcN M)) (hcN M) = fb_sm (fun j => fb_sm (fun k => if A k ≠ A j then tieN M (hs M k) (hs M j) else 0) j) (hcN M) := by
    rw [← tri (f := fun k j => if A k ≠ A j then tieN M (hs M k) (hs M j) else 0)]
    refine fb_sm_cong (fun k hk => fb_sm_cong (fun j hj => ?_))
    unfold cutH
    rw [hs_asg, hs_asg, asg_hs hk, asg_hs hj, et]
    by_cases e : k < j <;> simp [e]
  rw [h1, h2, h3, e10]
  have h4 : fb_sm (padd M A) (hcN M) = fb_sm (fun k => (if fxB M (hs M k) (A k) = true then 1000000 else 0) + fb_sm (prI M A k) k) (hcN M) + fb_sm (fun k => M 31 8 * (2 * alr A k + 1)) (hcN M) := by
    rw [← sm_add]
    rfl
  have h5 : ∀ k, k < hcN M → fb_sm (prI M A k) k = 1000000 * fb_sm (fun i => if brk (M 39 (40 * hs M i + hs M k)) (A i) (A k) = true then 1 else 0) k + fb_sm (fun i => if A i ≠ A k then tieN M (hs M i) (hs M k) else 0) k := by
    intro k hk
    rw [← sm_mul, ← sm_add]
    refine fb_sm_cong (fun i hi => ?_)
    have l1 := hs_lt hk
    have l2 := hs_lt (M := M) (k := i) (by omega)
    unfold prI brk
    rw [hU (hs M k) (hs M i) (by omega) (by omega), WT.sy hT (a := hs M k) (b := hs M i) (by omega) (by omega)]
    generalize M 39 (40 * hs M i + hs M k) = u
    generalize tieN M (hs M i) (hs M k) = t
    by_cases e : A i = A k
    · by_cases e2 : u = 2 <;> simp [e, e2]
    · by_cases e1 : u = 1
      · simp [e, e1]; omega
      · simp [e, e1]
  have h6 : fb_sm (fun k => (if fxB M (hs M k) (A k) = true then 1000000 else 0) + fb_sm (prI M A k) k) (hcN M) = 1000000 * fb_sm (fun k => if fxB M (hs M k) (A k) = true then 1 else 0) (hcN M) + (1000000 * fb_sm (fun j => fb_sm (fun k => if brk (M 39 (40 * hs M k + hs M j)) (A k) (A j) = true then 1 else 0) j) (hcN M) + fb_sm (fun j => fb_sm (fun k => if A k ≠ A j then tieN M (hs M k) (hs M j) else 0) j) (hcN M)) := by
    rw [← sm_mul, ← sm_mul, ← sm_add, ← sm_add]
    refine fb_sm_cong (fun k hk => ?_)
    rw [h5 k hk]
    by_cases e : fxB M (hs M k) (A k) = true <;> simp [e]
  rw [h4, h6, sm_mul]
  rw [Nat.mul_add]
  omega
theorem alr_inj {A B : Nat → Nat} {k : Nat} (h : ∀ i, i ≤ k → ∀ j, j ≤ k → (A i = A j ↔ B i = B j)) : alr A k = alr B k := fb_ct_cong (fun i hi => by rw [Bool.eq_iff_iff, decide_eq_true_eq, decide_eq_true_eq]; exact h i (by omega) k (by omega))
theorem padd_inj {M : MM} {A B : Nat → Nat} {k : Nat} (h : ∀ i, i ≤ k → ∀ j, j ≤ k → (A i = A j ↔ B i = B j)) (hf : fxB M (hs M k) (A k) = fxB M (hs M k) (B k)) : padd M A k = padd M B k := by
  unfold padd
  rw [alr_inj h, hf, fb_sm_cong (f := prI M A k) (g := prI M B k) (fun i hi => ?_)]
  unfold prI
  have := h i (by omega) k (by omega)
  by_cases e : A i = A k
  · rw [if_pos e, if_pos (this.mp e)]
  · rw [if_neg e, if_neg (fun z => e (this.mpr z))]
