/-! ===== the reference's public calls: its state, whatever 'thrown' holds ===== -/
def MR0 (Λ : LY) (σ : HS) (M : MM) : Prop := ∃ x, MR Λ σ (mS M 31 0 x)
theorem mS_twice (M : MM) (t k x y : Nat) : mS (mS M t k x) t k y = mS M t k y := by
  funext t' k'
  unfold mS
  by_cases h : t' = t ∧ k' = k
  · rw [if_pos h, if_pos h]
  · rw [if_neg h, if_neg h, if_neg h]
theorem mS_self {M : MM} {t k x : Nat} (h : M t k = x) : mS M t k x = M := by
  funext t' k'
  unfold mS
  by_cases hz : t' = t ∧ k' = k
  · rw [if_pos hz, hz.1, hz.2, h]
  · rw [if_neg hz]
theorem MR0.start {Λ : LY} {σ : HS} {M : MM} (h : MR0 Λ σ M) (h0 : M 31 0 = 0) : MR Λ (sI σ 31 0 0 (nI 0)) M := by
  obtain ⟨x, hx⟩ := h
  have q := MR.set (t := 31) (k := 0) (x := 0) (v := nI 0) hx rfl
  rw [mS_twice, mS_self h0] at q
  exact q
theorem MR0.in0 {Λ : LY} {σ : HS} {M : MM} (h : MR0 Λ σ M) : 0 < gC Λ 31 := by
  obtain ⟨x, hx⟩ := h
  exact hx.in0 (by decide) (by decide)
theorem MBd.set {M : MM} {t k x : Nat} (h : MBd M) (hx : x ≤ mB t k) : MBd (mS M t k x) := by
  intro t' k' hk
  unfold mS
  by_cases hz : t' = t ∧ k' = k
  · rw [if_pos hz, hz.1, hz.2]
    exact hx
  · rw [if_neg hz]
    exact h t' k' hk
theorem inR_nI {M : MM} {j : Nat} (hB : MBd M) (h : j < M 31 5) : inR M (nI j) = true := by
  have hn : M 31 5 ≤ 40 := hB 31 5 rfl
  exact decide_eq_true ⟨nI_pos' (by omega), nI_lt h (by omega)⟩
theorem inR_of {M : MM} {r : Int32} (hB : MBd M) (h : inR M r = true) : ∃ j, j < M 31 5 ∧ r = nI j := by
  have hn : M 31 5 ≤ 40 := hB 31 5 rfl
  obtain ⟨h1, h2⟩ := of_decide_eq_true h
  obtain ⟨j, hj, e⟩ := nI_of (x := r) (Int32.not_lt.mpr h1)
  subst e
  exact ⟨j, (nI_ltI hj (by omega)).mp h2, rfl⟩
theorem inRm_nI {M : MM} {j : Nat} (hB : MBd M) (h : j < M 31 10) : inRm M (nI j) = true := by
  have hn : M 31 10 ≤ 40 := hB 31 10 rfl
  exact decide_eq_true ⟨nI_pos' (by omega), nI_lt h (by omega)⟩
theorem inRm_of {M : MM} {r : Int32} (hB : MBd M) (h : inRm M r = true) : ∃ j, j < M 31 10 ∧ r = nI j := by
  have hn : M 31 10 ≤ 40 := hB 31 10 rfl
  obtain ⟨h1, h2⟩ := of_decide_eq_true h
  obtain ⟨j, hj, e⟩ := nI_of (x := r) (Int32.not_lt.mpr h1)
  subst e
  exact ⟨j, (nI_ltI hj (by omega)).mp h2, rfl⟩
/-- better: so many steps at most -/
def btr : Nat → MM → Nat × MM
  | 0, M => (0, M)
  | f + 1, M => if betB M = true then ((btr f (betM M)).1 + 1, (btr f (betM M)).2) else (0, M)
theorem betM_nk {M : MM} {t : Nat} (h : t ≠ 38) : betM M t = M t := by
  unfold betM
  split
  · rfl
  · split
    · exact mS_nk h
    · rw [mS_nk h, mS_nk h]
theorem betM_B {M : MM} (hB : MBd M) (hR : M 31 10 ≤ 6) : MBd (betM M) := by
  have hn : M 31 5 ≤ 40 := hB 31 5 rfl
  have hok : bsOk (M 31 5) (M 31 10) (bstS M) := swAll_ok hB hn _ (Nat.le_refl _)
  obtain ⟨h1, h2, h3, h4, h5, h6, h7⟩ := hok
  unfold betM
  split
  · exact hB
  · rename_i q1
    split
    · refine hB.set ?_
      show _ ≤ 5
      omega
    · rename_i q2
      refine MBd.set (hB.set ?_) ?_
      · exact hB 38 _ (decide_eq_true (show _ < 40 by omega))
      · exact hB 38 _ (decide_eq_true (show _ < 40 by omega))
/-- border: the least of the moves to other rooms -/
def bdrZ (M : MM) (r : Nat) : Nat → Option Int
  | 0 => none
  | k + 1 => if k = M 38 r then bdrZ M r k else match bdrZ M r k with
    | none => some (movZ M r k)
    | some z => some (if movZ M r k < z then movZ M r k else z)
theorem m1_toInt {x : Nat} (h : x ≤ 1000) : (nI x - 1).toInt = (x : Int) - 1 := pk_sub_toInt (a := x) (b := 1) (by omega) (by decide)
theorem m1_lt1 {x : Nat} (h : x ≤ 6) : nI x - 1 < -1 ↔ False := by
  rw [Int32.lt_iff_toInt_lt, m1_toInt (by omega)]
  show (x : Int) - 1 < -1 ↔ _
  exact ⟨fun h => absurd h (by omega), fun h => h.elim⟩
theorem m1_lt6 {x : Nat} (h : x ≤ 6) : nI x - 1 < nI 6 ↔ True := by
  rw [Int32.lt_iff_toInt_lt, m1_toInt (by omega), nI_toInt (by decide)]
  exact ⟨fun _ => trivial, fun _ => by omega⟩
