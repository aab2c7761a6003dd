/-! ===== the reference's public calls: its state, whatever 'thrown' holds ===== -/
def MR0 (Λ : LY) (σ : HS) (M : MM) : Prop := ∃ x, MR Λ σ (mS M 31 0 x)
theorem mS_twice (M : MM) (t k x y : Nat) : mS (mS M t k x) t k y = mS M t k y := by
  funext t' k'
  unfold mS
  by_cases h : t' = t ∧ k' = k
  · rw [if_pos h, if_pos h]
  · rw [if_neg h, if_neg h, if_neg h]
theorem mS_self {M : MM} {t k x : Nat} (h : M t k = x) : mS M t k x = M := by
  funext t' k'
  unfold mS
  by_cases hz : t' = t ∧ k' = k
  · rw [if_pos hz, hz.1, hz.2, h]
  · rw [if_neg hz]
theorem MR0.start {Λ : LY} {σ : HS} {M : MM} (h : MR0 Λ σ M) (h0 : M 31 0 = 0) : MR Λ (sI σ 31 0 0 (nI 0)) M := by
  obtain ⟨x, hx⟩ := h
  have q := MR.set (t := 31) (k := 0) (x := 0) (v := nI 0) hx rfl
  rw [mS_twice, mS_self h0] at q
  exact q
theorem MR0.in0 {Λ : LY} {σ : HS} {M : MM} (h : MR0 Λ σ M) : 0 < gC Λ 31 := by
  obtain ⟨x, hx⟩ := h
  exact hx.in0 (by decide) (by decide)
theorem MBd.set {M : MM} {t k x : Nat} (h : MBd M) (hx : x ≤ mB t k) : MBd (mS M t k x) := by
  intro t' k' hk
  unfold mS
  by_cases hz : t' = t ∧ k' = k
  · rw [if_pos hz, hz.1, hz.2]
    exact hx
  · rw [if_neg hz]
    exact h t' k' hk
theorem inR_nI {M : MM} {j : Nat} (hB : MBd M) (h : j < M 31 5) : inR M (nI j) = true := by
  have hn : M 31 5 ≤ 40 := hB 31 5 rfl
  exact decide_eq_true ⟨nI_pos' (by omega), nI_lt h (by omega)⟩
theorem inR_of {M : MM} {r : Int32} (hB : MBd M) (h : inR M r = true) : ∃ j, j < M 31 5 ∧ r = nI j := by
  have hn : M 31 5 ≤ 40 := hB 31 5 rfl
  obtain ⟨h1, h2⟩ := of_decide_eq_true h
  obtain ⟨j, hj, e⟩ := nI_of (x := r) (Int32.not_lt.mpr h1)
  subst e
  exact ⟨j, (nI_ltI hj (by omega)).mp h2, rfl⟩
theorem inRm_nI {M : MM} {j : Nat} (hB : MBd M) (h : j < M 31 10) : inRm M (nI j) = true := by
  have hn : M 31 10 ≤ 40 := hB 31 10 rfl
  exact decide_eq_true ⟨nI_pos' (by omega), nI_lt h (by omega)⟩
theorem inRm_of {M : MM} {r : Int32} (hB : MBd M) (h : inRm M r = true) : ∃ j, j < M 31 10 ∧ r = nI j := by
  have hn : M 31 10 ≤ 40 := hB 31 10 rfl
  obtain ⟨h1, h2⟩ := of_decide_eq_true h
  obtain ⟨j, hj, e⟩ := nI_of (x := r) (Int32.not_lt.mpr h1)
  subst e
  exact ⟨j, (nI_ltI hj (by omega)).mp h2, rfl⟩
/-- better: so many steps at most -/
def btr : Nat → MM → Nat × MM
  | 0, M => (0, M)
  | f + 1, M => if betB M = true then ((btr f (betM M)).1 + 1, (btr f (betM M)).2) else (0, M)
theorem betM_nk {M : MM} {t : Nat} (h : t ≠ 38) : betM M t = M t := by
  unfold betM
  split
  · rfl
  · split
    · exact mS_nk h
    · rw [mS_nk h, mS_nk h]
theorem betM_B {M : MM} (hB : MBd M) (hR : M 31 10 ≤ 6) : MBd (betM M) := by
  have hn : M 31 5 ≤ 40 := hB 31 5 rfl
  have hok : bsOk (M 31 5) (M 31 10) (bstS M) := swAll_ok hB hn _ (Nat.le_refl _)
  obtain ⟨h1, h2, h3, h4, h5, h6, h7⟩ := hok
  unfold betM
  split
  · exact hB
  · rename_i q1
    split
    · refine hB.set ?_
      show _ ≤ 5
      omega
    · rename_i q2
      refine MBd.set (hB.set ?_) ?_
      · exact hB 38 _ (decide_eq_true (show _ < 40 by omega))
      · exact hB 38 _ (decide_eq_true (show _ < 40 by omega))
/-- border: the least of the moves to other rooms -/
def bdrZ (M : MM) (r : Nat) : Nat → Option Int
  | 0 => none
  | k + 1 => if k = M 38 r then bdrZ M r k else match bdrZ M r k with
    | none => some (movZ M r k)
    | some z => some (if movZ M r k < z then movZ M r k else z)
theorem m1_toInt {x : Nat} (h : x ≤ 1000) : (nI x - 1).toInt = (x : Int) - 1 := pk_sub_toInt (a := x) (b := 1) (by omega) (by decide)
theorem m1_lt1 {x : Nat} (h : x ≤ 6) : nI x - 1 < -1 ↔ False := by
  rw [Int32.lt_iff_toInt_lt, m1_toInt (by omega)]
  show (x : Int) - 1 < -1 ↔ _
  exact ⟨fun h => absurd h (by omega), fun h => h.elim⟩
theorem m1_lt6 {x : Nat} (h : x ≤ 6) : nI x - 1 < nI 6 ↔ True := by
  rw [Int32.lt_iff_toInt_lt, m1_toInt (by omega), nI_toInt (by decide)]
  exact ⟨fun _ => trivial, fun _ => by omega⟩
theorem bdrZ_bd {M : MM} (hB : MBd M) {r : Nat} (hr : r < 40) : ∀ {k : Nat} {z : Int}, bdrZ M r k = some z → -3000000000 ≤ z ∧ z ≤ 3000000000
  | 0, z, h => by cases h
  | k + 1, z, h => by
    have hn : M 31 5 ≤ 40 := hB 31 5 rfl
    have hm := movZ_bd hB hn (r := r) (room := k) hr
    unfold bdrZ at h
    split at h
    · exact bdrZ_bd hB hr h
    · split at h
      · cases h
        exact hm
      · rename_i z2 h2
        have := bdrZ_bd hB hr h2
        cases h
        split <;> omega
theorem bdr_0 {M : MM} {r k : Nat} (h1 : k ≠ M 38 r) (h2 : bdrZ M r k = none) : bdrZ M r (k + 1) = some (movZ M r k) := by
  show (if k = M 38 r then bdrZ M r k else _) = _
  rw [if_neg h1, h2]
theorem bdr_1 {M : MM} {r k : Nat} {z : Int} (h1 : k ≠ M 38 r) (h2 : bdrZ M r k = some z) : bdrZ M r (k + 1) = some (if movZ M r k < z then movZ M r k else z) := by
  show (if k = M 38 r then bdrZ M r k else _) = _
  rw [if_neg h1, h2]
theorem bdr_2 {M : MM} {r k : Nat} (h1 : k = M 38 r) : bdrZ M r (k + 1) = bdrZ M r k := by
  show (if k = M 38 r then bdrZ M r k else _) = _
  rw [if_pos h1]
def bdrV (M : MM) (r : Nat) : Int := if M 37 r ≠ 0 ∨ M 31 10 = 1 then 1000000000 else (bdrZ M r (M 31 10)).getD 0
theorem betM_id {M : MM} (h : betB M = false) : betM M = M := by
  unfold betM
  rw [if_pos (Decidable.of_not_not (of_decide_eq_false h))]
theorem btr_no {M : MM} (f : Nat) (h : betB M = false) : btr f M = (0, M) := by
  cases f with
  | zero => rfl
  | succ f => unfold btr; rw [if_neg (by rw [h]; decide)]
theorem btr_yes {M : MM} (f : Nat) (h : betB M = true) : btr (f + 1) M = ((btr f (betM M)).1 + 1, (btr f (betM M)).2) := by
  show (if betB M = true then _ else _) = _
  rw [if_pos h]
def tieV (M : MM) (i j k n : Nat) : Nat := if 999999 < M 35 ((40 * k + i) * 40 + j) + n then 999999 else M 35 ((40 * k + i) * 40 + j) + n
def tieM (M : MM) (i j k n : Nat) : MM := if k = 0 then mS M 35 ((40 * k + i) * 40 + j) (tieV M i j k n) else mS (mS M 35 ((40 * k + i) * 40 + j) (tieV M i j k n)) 35 ((40 * k + j) * 40 + i) (tieV M i j k n)
theorem tieV_le {M : MM} {i j k n : Nat} : tieV M i j k n ≤ 999999 := by unfold tieV; split <;> omega
/-- what set takes -/
def sOk (w v : Int32) : Prop := 0 ≤ w.toInt ∧ w.toInt ≤ 5 ∧ (w.toInt = 5 → 1 ≤ v.toInt) ∧ 0 ≤ v.toInt ∧ (w.toInt < 3 → v.toInt ≤ 9) ∧ (w.toInt = 3 → v.toInt ≤ 100) ∧ (w.toInt = 4 → v.toInt ≤ 40) ∧ (w.toInt = 5 → v.toInt ≤ 6)
/-- what set sets: the kind and the place -/
def setT (w : Nat) : Nat := if w < 3 then 36 else 31
def setK (w : Nat) : Nat := if w < 3 then w else w + 5
