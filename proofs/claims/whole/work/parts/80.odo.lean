/-! ===== the reference's search: one division after another ===== -/
theorem odo_full {R : Nat} {A : Nat → Nat} (hR : 1 ≤ R) {x : Nat} : ∀ {e : Nat}, (∀ j, x ≤ j → j < x + e → A j = R - 1) → nm R A (x + e) + 1 = (nm R A x + 1) * R ^ e
  | 0, _ => by rw [Nat.pow_zero, Nat.mul_one]; rfl
  | e + 1, h => by
    have ih := odo_full (R := R) (A := A) hR (x := x) (e := e) (fun j h1 h2 => h j h1 (by omega))
    have ha := h (x + e) (by omega) (by omega)
    show nm R A (x + e) * R + A (x + e) + 1 = _
    rw [ha, Nat.pow_succ, ← Nat.mul_assoc, ← ih, Nat.succ_mul]
    omega
theorem odo_zero {R : Nat} {A : Nat → Nat} {x : Nat} : ∀ {e : Nat}, (∀ j, x ≤ j → j < x + e → A j = 0) → nm R A (x + e) = nm R A x * R ^ e
  | 0, _ => by rw [Nat.pow_zero, Nat.mul_one]; rfl
  | e + 1, h => by
    have ih := odo_zero (R := R) (A := A) (x := x) (e := e) (fun j h1 h2 => h j h1 (by omega))
    have ha := h (x + e) (by omega) (by omega)
    show nm R A (x + e) * R + A (x + e) = _
    rw [ha, ih, Nat.pow_succ, ← Nat.mul_assoc, Nat.add_zero]
/-- the division behind A, where all from x on are full and place y = x - 1 is not -/
def nxA (A : Nat → Nat) (y : Nat) : Nat → Nat := fun j => if j < y then A j else if j = y then A y + 1 else 0
theorem odo_next {R m y : Nat} {A : Nat → Nat} (hR : 1 ≤ R) (hy : y < m) (h : ∀ j, y + 1 ≤ j → j < m → A j = R - 1) : nm R (nxA A y) m = nm R A m + 1 := by
  obtain ⟨e, rfl⟩ : ∃ e, m = y + 1 + e := ⟨m - (y + 1), by omega⟩
  rw [odo_full hR h, odo_zero (A := nxA A y) (fun j h1 h2 => by unfold nxA; rw [if_neg (by omega), if_neg (by omega)])]
  congr 1
  show nm R (nxA A y) y * R + nxA A y y = nm R A y * R + A y + 1
  rw [nm_congr (A := nxA A y) (B := A) (fun i hi => if_pos hi)]
  unfold nxA
  rw [if_neg (Nat.lt_irrefl _), if_pos rfl]
  omega
theorem odo_last {R m : Nat} {A : Nat → Nat} (hR : 1 ≤ R) (h : ∀ j, j < m → A j = R - 1) : nm R A m + 1 = R ^ m := by
  have := odo_full (R := R) (A := A) hR (x := 0) (e := m) (fun j _ h2 => h j (by omega))
  rw [Nat.zero_add] at this
  rw [this]
  show (0 + 1) * R ^ m = _
  rw [Nat.zero_add, Nat.one_mul]
theorem vA_next {R m y : Nat} {A : Nat → Nat} (h : vA R m A) (hy : y < m) (hne : A y ≠ R - 1) : vA R m (nxA A y) := fun i hi => by
  have h1 := h i hi
  have h2 := h y hy
  unfold nxA
  split
  · exact h1
  · split <;> omega
theorem FM.keep {M : MM} {R m b : Nat} {F A : Nat → Nat} (h : FM M R m (nm R A m) b F) (hA : vA R m A) (hK : 0 < nm R A m) (hs : b ≤ fb_sm (padd M A) m) : FM M R m (nm R A m + 1) b F := by
  obtain ⟨h1, h2, h3⟩ := h
  obtain ⟨g1, g2, g3⟩ := h2 hK
  refine ⟨fun B hB hl => ?_, fun _ => ⟨g1, by omega, g3⟩, fun z => by omega⟩
  by_cases q : nm R B m < nm R A m
  · exact h1 B hB q
  · rw [sm_pre (M := M) (nm_inj hB hA (by omega))]
    exact hs
theorem FM.first {M : MM} {R m : Nat} {A : Nat → Nat} (hA : vA R m A) (h0 : nm R A m = 0) : FM M R m (nm R A m + 1) (fb_sm (padd M A) m) A := by
  refine ⟨fun B hB hl => ?_, fun _ => ⟨hA, by omega, rfl, fun B _ hl => by omega⟩, fun z => by omega⟩
  rw [sm_pre (M := M) (nm_inj hB hA (by omega))]
  exact Nat.le_refl _
theorem costN_eq {M1 M2 : MM} (h : ∀ t, t ≠ 41 → t ≠ 42 → M1 t = M2 t) : costN M1 = costN M2 := by
  have h31 := h 31 (by decide) (by decide)
  have h35 := h 35 (by decide) (by decide)
  have h36 := h 36 (by decide) (by decide)
  have h37 := h 37 (by decide) (by decide)
  have h38 := h 38 (by decide) (by decide)
  have h39 := h 39 (by decide) (by decide)
  have h40 := h 40 (by decide) (by decide)
  have e1 : szN M1 = szN M2 := by funext room; unfold szN; rw [h31, h37, h38]
  have e2 : brkRow M1 = brkRow M2 := by
    funext a
    have e3 : brkP M1 a = brkP M2 a := by funext b; unfold brkP; rw [h37, h38, h39]
    unfold brkRow fxB
    rw [h31, h37, h38, h40, e3]
  have e4 : cutT M1 = cutT M2 := by funext a b; unfold cutT tieN; rw [h37, h38, h35, h36]
  unfold costN brkN
  rw [e1, e2, e4, h31]
theorem mS_row {M1 M2 : MM} {t k x : Nat} (h : M1 t = M2 t) : mS M1 t k x t = mS M2 t k x t := by
  funext k'
  unfold mS
  rw [h]
