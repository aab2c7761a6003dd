/-! ===== divisions by number ===== -/
def nm (R : Nat) (A : Nat → Nat) : Nat → Nat
  | 0 => 0
  | k + 1 => nm R A k * R + A k
def vA (R m : Nat) (A : Nat → Nat) : Prop := ∀ i, i < m → A i < R
theorem nm_congr {R : Nat} {A B : Nat → Nat} : ∀ {k : Nat}, (∀ i, i < k → A i = B i) → nm R A k = nm R B k
  | 0, _ => rfl
  | k + 1, h => by
    show nm R A k * R + A k = nm R B k * R + B k
    rw [nm_congr (fun i hi => h i (by omega)), h k (by omega)]
theorem nm_lt {R : Nat} {A : Nat → Nat} : ∀ {k : Nat}, vA R k A → nm R A k < R ^ k
  | 0, _ => (by decide : (0 : Nat) < 1)
  | k + 1, h => by
    have ih := nm_lt (R := R) (A := A) (k := k) (fun i hi => h i (by omega))
    have hk := h k (by omega)
    have h2 := Nat.mul_le_mul_right R (show nm R A k + 1 ≤ R ^ k from ih)
    show nm R A k * R + A k < R ^ (k + 1)
    rw [Nat.pow_succ]
    rw [Nat.succ_mul] at h2
    omega
theorem mul_dig {R x y a b : Nat} (ha : a < R) (hb : b < R) (h : x * R + a = y * R + b) : x = y ∧ a = b := by
  rcases Nat.lt_trichotomy x y with q | q | q
  · have := Nat.mul_le_mul_right R (show x + 1 ≤ y from q)
    rw [Nat.succ_mul] at this
    omega
  · subst q
    exact ⟨rfl, by omega⟩
  · have := Nat.mul_le_mul_right R (show y + 1 ≤ x from q)
    rw [Nat.succ_mul] at this
    omega
theorem nm_inj {R : Nat} {A B : Nat → Nat} : ∀ {k : Nat}, vA R k A → vA R k B → nm R A k = nm R B k → ∀ i, i < k → A i = B i
  | 0, _, _, _, i, hi => absurd hi (Nat.not_lt_zero _)
  | k + 1, ha, hb, h, i, hi => by
    have h' : nm R A k * R + A k = nm R B k * R + B k := h
    obtain ⟨e1, e2⟩ := mul_dig (ha k (by omega)) (hb k (by omega)) h'
    by_cases e : i = k
    · subst e; exact e2
    · exact nm_inj (fun j hj => ha j (by omega)) (fun j hj => hb j (by omega)) e1 i (by omega)
theorem nm_node {R : Nat} {A : Nat → Nat} {d : Nat} : ∀ {e : Nat}, vA R (d + e) A → nm R A d * R ^ e ≤ nm R A (d + e) ∧ nm R A (d + e) < (nm R A d + 1) * R ^ e
  | 0, _ => by
    rw [Nat.pow_zero, Nat.mul_one, Nat.mul_one]
    exact ⟨Nat.le_refl _, Nat.lt_succ_self _⟩
  | e + 1, h => by
    obtain ⟨h1, h2⟩ := nm_node (R := R) (A := A) (d := d) (e := e) (fun i hi => h i (by omega))
    have ha := h (d + e) (by omega)
    have g1 := Nat.mul_le_mul_right R h1
    have g2 := Nat.mul_le_mul_right R (show nm R A (d + e) + 1 ≤ _ from h2)
    rw [Nat.succ_mul] at g2
    show _ ≤ nm R A (d + e) * R + A (d + e) ∧ nm R A (d + e) * R + A (d + e) < _
    rw [Nat.pow_succ, ← Nat.mul_assoc, ← Nat.mul_assoc]
    omega
theorem nm_in {R P : Nat} {A : Nat → Nat} {d e : Nat} (h : vA R (d + e) A) (h1 : P * R ^ e ≤ nm R A (d + e)) (h2 : nm R A (d + e) < (P + 1) * R ^ e) : nm R A d = P := by
  obtain ⟨g1, g2⟩ := nm_node h
  rcases Nat.lt_trichotomy (nm R A d) P with q | q | q
  · have := Nat.mul_le_mul_right (R ^ e) (show nm R A d + 1 ≤ P from q)
    omega
  · exact q
  · have := Nat.mul_le_mul_right (R ^ e) (show P + 1 ≤ nm R A d from q)
    omega
/-- the first of the least among the divisions numbered below K -/
def FM (M : MM) (R m K : Nat) (b : Nat) (F : Nat → Nat) : Prop := (∀ A, vA R m A → nm R A m < K → b ≤ fb_sm (padd M A) m) ∧ (0 < K → vA R m F ∧ nm R F m < K ∧ fb_sm (padd M F) m = b ∧ ∀ A, vA R m A → nm R A m < nm R F m → b < fb_sm (padd M A) m) ∧ (K = 0 → b = 1000000000000000)
theorem FM.one {M : MM} {R m K1 b1 b2 : Nat} {F1 F2 : Nat → Nat} (hK : 0 < K1) (h1 : FM M R m K1 b1 F1) (h2 : FM M R m K1 b2 F2) : b1 = b2 ∧ ∀ i, i < m → F1 i = F2 i := by
  obtain ⟨a1, a2, -⟩ := h1
  obtain ⟨c1, c2, -⟩ := h2
  obtain ⟨v1, l1, e1, q1⟩ := a2 hK
  obtain ⟨v2, l2, e2, q2⟩ := c2 hK
  have hb1 := a1 F2 v2 l2
  have hb2 := c1 F1 v1 l1
  have hb : b1 = b2 := by omega
  refine ⟨hb, ?_⟩
  rcases Nat.lt_trichotomy (nm R F1 m) (nm R F2 m) with q | q | q
  · have := q2 F1 v1 q; omega
  · exact nm_inj v1 v2 q
  · have := q1 F2 v2 q; omega
theorem padd_pre {M : MM} {A B : Nat → Nat} {k : Nat} (h : ∀ i, i ≤ k → A i = B i) : padd M A k = padd M B k := padd_inj (fun i hi j hj => by rw [h i hi, h j hj]) (by rw [h k (Nat.le_refl _)])
theorem sm_pre {M : MM} {A B : Nat → Nat} {d : Nat} (h : ∀ i, i < d → A i = B i) : fb_sm (padd M A) d = fb_sm (padd M B) d := fb_sm_cong (fun k hk => padd_pre (fun i hi => h i (by omega)))
theorem FM.add {M : MM} {R d e P b : Nat} {F : Nat → Nat} (h : FM M R (d + e) (P * R ^ e) b F) (hn : ∀ A, vA R (d + e) A → nm R A d = P → b ≤ fb_sm (padd M A) (d + e)) (hb : b ≠ 1000000000000000) (hR : 0 < R) : FM M R (d + e) ((P + 1) * R ^ e) b F := by
  obtain ⟨h1, h2, h3⟩ := h
  have hp : 0 < R ^ e := Nat.pow_pos hR
  have hK : 0 < P * R ^ e := by
    rcases Nat.eq_zero_or_pos (P * R ^ e) with q | q
    · exact absurd (h3 q) hb
    · exact q
  have hle : P * R ^ e ≤ (P + 1) * R ^ e := Nat.mul_le_mul_right _ (by omega)
  refine ⟨fun A hA hl => ?_, fun _ => ?_, fun z => by omega⟩
  · by_cases q : nm R A (d + e) < P * R ^ e
    · exact h1 A hA q
    · exact hn A hA (nm_in hA (by omega) hl)
  · obtain ⟨g1, g2, g3⟩ := h2 hK
    exact ⟨g1, by omega, g3⟩
theorem FM.prune {M : MM} {R d e P b : Nat} {F A0 : Nat → Nat} (h : FM M R (d + e) (P * R ^ e) b F) (hA0 : vA R d A0) (hP : nm R A0 d = P) (hs : b ≤ fb_sm (padd M A0) d) (hb : b ≠ 1000000000000000) (hR : 0 < R) : FM M R (d + e) ((P + 1) * R ^ e) b F :=
  h.add (fun A hA hd => by
    have e1 := nm_inj (fun i hi => hA i (by omega)) hA0 (hd.trans hP.symm)
    have e2 := sm_pre (M := M) e1
    have e3 := fb_sm_mono (padd M A) d e
    omega) hb hR
theorem FM.leaf {M : MM} {R m b : Nat} {F A : Nat → Nat} (h : FM M R m (nm R A m) b F) (hA : vA R m A) (hs : fb_sm (padd M A) m < b) : FM M R m (nm R A m + 1) (fb_sm (padd M A) m) A := by
  obtain ⟨h1, h2, h3⟩ := h
  refine ⟨fun B hB hl => ?_, fun _ => ⟨hA, by omega, rfl, fun B hB hl => ?_⟩, fun z => by omega⟩
  · by_cases q : nm R B m < nm R A m
    · have := h1 B hB q; omega
    · have e := nm_inj hB hA (by omega)
      rw [sm_pre (M := M) e]
      exact Nat.le_refl _
  · have := h1 B hB hl; omega
/-- two rooms for each other -/
def swp (x y a : Nat) : Nat := if a = x then y else if a = y then x else a
theorem swp_inj {x y a b : Nat} : swp x y a = swp x y b ↔ a = b := by
  unfold swp
  constructor
  · intro h
    by_cases e1 : a = x
    · rw [if_pos e1] at h
      by_cases e2 : b = x
      · omega
      · rw [if_neg e2] at h
        by_cases e4 : b = y
        · rw [if_pos e4] at h; omega
        · rw [if_neg e4] at h; omega
    · rw [if_neg e1] at h
      by_cases e3 : a = y
      · rw [if_pos e3] at h
        by_cases e2 : b = x
        · rw [if_pos e2] at h; omega
        · rw [if_neg e2] at h
          by_cases e4 : b = y
          · omega
          · rw [if_neg e4] at h; omega
      · rw [if_neg e3] at h
        by_cases e2 : b = x
        · rw [if_pos e2] at h; omega
        · rw [if_neg e2] at h
          by_cases e4 : b = y
          · rw [if_pos e4] at h; omega
          · rw [if_neg e4] at h; omega
  · rintro rfl; rfl
theorem swp_lt {x y a R : Nat} (hx : x < R) (hy : y < R) (ha : a < R) : swp x y a < R := by
  unfold swp
  split
  · exact hy
  · split
    · exact hx
    · exact ha
theorem FM.skip {M : MM} {R d e P b x y : Nat} {F A0 : Nat → Nat} (h : FM M R (d + 1 + e) ((P * R + y) * R ^ e) b F) (hA0 : vA R d A0) (hP : nm R A0 d = P) (hx : x < y) (hy : y < R) (hux : ∀ i, i < d → A0 i ≠ x) (huy : ∀ i, i < d → A0 i ≠ y) (hfx : ∀ k, k < d + 1 + e → M 40 (hs M k) ≠ x + 1) (hfy : ∀ k, k < d + 1 + e → M 40 (hs M k) ≠ y + 1) (hb : b ≠ 1000000000000000) : FM M R (d + 1 + e) ((P * R + y + 1) * R ^ e) b F := by
  refine FM.add (d := d + 1) h (fun A hA hd => ?_) hb (by omega)
  have hd' : nm R A d * R + A d = P * R + y := hd
  obtain ⟨e1, e2⟩ := mul_dig (hA d (by omega)) hy hd'
  have e3 := nm_inj (fun i hi => hA i (by omega)) hA0 (e1.trans hP.symm)
  let B : Nat → Nat := fun i => swp x y (A i)
  have hB : vA R (d + 1 + e) B := fun i hi => swp_lt (by omega) hy (hA i hi)
  have hBd : ∀ i, i < d → B i = A i := fun i hi => by
    show swp x y (A i) = A i
    unfold swp
    rw [e3 i hi, if_neg (hux i hi), if_neg (huy i hi)]
  have hB1 : nm R B (d + 1) = P * R + x := by
    show nm R B d * R + B d = _
    rw [nm_congr hBd, e1]
    show _ + swp x y (A d) = _
    unfold swp
    rw [e2, if_neg (by omega), if_pos rfl]
  have hc : fb_sm (padd M B) (d + 1 + e) = fb_sm (padd M A) (d + 1 + e) := by
    refine fb_sm_cong (fun k hk => padd_inj (fun i _ j _ => swp_inj) ?_)
    show fxB M (hs M k) (swp x y (A k)) = fxB M (hs M k) (A k)
    have q1 := hfx k hk
    have q2 := hfy k hk
    unfold fxB swp
    by_cases z1 : A k = x
    · rw [if_pos z1, z1]
      rw [Bool.eq_iff_iff, decide_eq_true_eq, decide_eq_true_eq]
      omega
    · rw [if_neg z1]
      by_cases z2 : A k = y
      · rw [if_pos z2, z2]
        rw [Bool.eq_iff_iff, decide_eq_true_eq, decide_eq_true_eq]
        omega
      · rw [if_neg z2]
  rw [← hc]
  refine h.1 B hB ?_
  obtain ⟨-, g2⟩ := nm_node (d := d + 1) (e := e) hB
  rw [hB1] at g2
  have := Nat.mul_le_mul_right (R ^ e) (show P * R + x + 1 ≤ P * R + y by omega)
  omega
