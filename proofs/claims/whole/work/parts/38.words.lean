/-! ===== words: of a name the letters between two underscores or ends ===== -/
def endN (M : MM) (r : Nat) : Nat → Nat → Nat
  | 0, k => k
  | f + 1, k => if k < M 34 r ∧ M 33 (20 * r + k) ≠ 95 then endN M r f (k + 1) else k
def endK (M : MM) (r k : Nat) : Nat := endN M r (M 34 r - k) k
theorem endK_step {M : MM} {r k : Nat} (h1 : k < M 34 r) (h2 : M 33 (20 * r + k) ≠ 95) : endK M r k = endK M r (k + 1) := by
  unfold endK
  rw [show M 34 r - k = (M 34 r - (k + 1)) + 1 by omega]
  show (if _ then _ else _) = _
  rw [if_pos ⟨h1, h2⟩]
theorem endK_stop {M : MM} {r k : Nat} (h : ¬ (k < M 34 r ∧ M 33 (20 * r + k) ≠ 95)) : endK M r k = k := by
  unfold endK
  cases M 34 r - k with
  | zero => rfl
  | succ f => show (if _ then _ else _) = _; rw [if_neg h]
theorem endN_ge {M : MM} {r : Nat} : ∀ (f k : Nat), k ≤ endN M r f k
  | 0, k => Nat.le_refl k
  | f + 1, k => by
    show k ≤ (if _ then _ else _)
    split
    · have := endN_ge (M := M) (r := r) f (k + 1); omega
    · exact Nat.le_refl k
theorem endN_le {M : MM} {r : Nat} : ∀ (f k : Nat), k ≤ M 34 r → endN M r f k ≤ M 34 r
  | 0, k, h => h
  | f + 1, k, h => by
    show (if _ then _ else _) ≤ _
    split
    · rename_i hc; exact endN_le f (k + 1) (by omega)
    · exact h
theorem endK_ge (M : MM) (r k : Nat) : k ≤ endK M r k := endN_ge _ _
theorem endK_le {M : MM} {r k : Nat} (h : k ≤ M 34 r) : endK M r k ≤ M 34 r := endN_le _ _ h
theorem endN_in {M : MM} {r : Nat} : ∀ (f k j : Nat), k ≤ j → j < endN M r f k → M 33 (20 * r + j) ≠ 95
  | 0, k, j, h1, h2 => by
    have h3 : j < k := h2
    omega
  | f + 1, k, j, h1, h2 => by
    have h3 : j < (if k < M 34 r ∧ M 33 (20 * r + k) ≠ 95 then endN M r f (k + 1) else k) := h2
    by_cases hc : k < M 34 r ∧ M 33 (20 * r + k) ≠ 95
    · rw [if_pos hc] at h3
      by_cases e : j = k
      · rw [e]; exact hc.2
      · exact endN_in f (k + 1) j (by omega) h3
    · rw [if_neg hc] at h3
      omega
theorem endK_in {M : MM} {r k j : Nat} (h1 : k ≤ j) (h2 : j < endK M r k) : M 33 (20 * r + j) ≠ 95 := endN_in _ _ _ h1 h2
theorem endN_at {M : MM} {r : Nat} : ∀ (f k : Nat), M 34 r ≤ f + k → endN M r f k < M 34 r → M 33 (20 * r + endN M r f k) = 95
  | 0, k, h, h2 => by
    have h3 : k < M 34 r := h2
    omega
  | f + 1, k, h, h2 => by
    by_cases hc : k < M 34 r ∧ M 33 (20 * r + k) ≠ 95
    · have e : endN M r (f + 1) k = endN M r f (k + 1) := by show (if _ then _ else _) = _; rw [if_pos hc]
      rw [e] at h2 ⊢
      exact endN_at f (k + 1) (by omega) h2
    · have e : endN M r (f + 1) k = k := by show (if _ then _ else _) = _; rw [if_neg hc]
      rw [e] at h2 ⊢
      exact Classical.byContradiction (fun z => hc ⟨h2, z⟩)
/-- where a word ends there is an underscore, or the name's end -/
theorem endK_at {M : MM} {r k : Nat} (h : endK M r k < M 34 r) : M 33 (20 * r + endK M r k) = 95 := endN_at _ _ (by omega) h
/-- a word begins at k -/
def isSt (M : MM) (o k : Nat) : Prop := k < M 34 o ∧ (k = 0 ∨ M 33 (20 * o + (k - 1)) = 95)
theorem isSt_next {M : MM} {o k : Nat} (hk : k < M 34 o) {s : Nat} (hs : isSt M o s) (h1 : k < s) : endK M o k + 1 ≤ s := by
  rcases Nat.lt_or_ge (endK M o k) s with h | h
  · omega
  · exfalso
    rcases hs.2 with e | e
    · omega
    · exact endK_in (M := M) (r := o) (k := k) (j := s - 1) (by omega) (by omega) e
/-- how long the word at k is -/
def lnW (M : MM) (r k : Nat) : Nat := endK M r k - k
/-- a routine has the word of n letters f -/
def hasW (M : MM) (o n : Nat) (f : Nat → Nat) : Prop := ∃ k, isSt M o k ∧ lnW M o k = n ∧ ∀ j, j < n → M 33 (20 * o + k + j) = f j
noncomputable def hasWB (M : MM) (o n : Nat) (f : Nat → Nat) : Bool := @decide (hasW M o n f) (Classical.propDecidable _)
theorem hasWB_t {M : MM} {o n : Nat} {f : Nat → Nat} : hasWB M o n f = true ↔ hasW M o n f := by unfold hasWB; exact @decide_eq_true_iff _ (Classical.propDecidable _)
theorem hasWB_f {M : MM} {o n : Nat} {f : Nat → Nat} (h : ¬ hasW M o n f) : hasWB M o n f = false := by
  cases e : hasWB M o n f with
  | false => rfl
  | true => exact absurd (hasWB_t.mp e) h
/-- by letters: the first is ahead -/
def wlt (n : Nat) (f : Nat → Nat) (m : Nat) (g : Nat → Nat) : Prop := ∃ k, (∀ j, j < k → f j = g j) ∧ ((k < n ∧ k < m ∧ f k < g k) ∨ (k = n ∧ k < m))
def weq (n : Nat) (f : Nat → Nat) (m : Nat) (g : Nat → Nat) : Prop := n = m ∧ ∀ j, j < n → f j = g j
theorem wlt_irr {n : Nat} {f : Nat → Nat} {m : Nat} {g : Nat → Nat} (h : weq n f m g) : ¬ wlt n f m g := by
  rintro ⟨k, h1, h2⟩
  obtain ⟨e1, e2⟩ := h
  rcases h2 with ⟨a, b, c⟩ | ⟨a, b⟩
  · have := e2 k a; omega
  · omega
theorem wlt_asym {n : Nat} {f : Nat → Nat} {m : Nat} {g : Nat → Nat} (h : wlt n f m g) : ¬ wlt m g n f := by
  rintro ⟨k2, h3, h4⟩
  obtain ⟨k1, h1, h2⟩ := h
  rcases Nat.lt_trichotomy k1 k2 with q | q | q
  · have := h3 k1 q
    rcases h2 with ⟨a, b, c⟩ | ⟨a, b⟩
    · omega
    · rcases h4 with ⟨a', b', c'⟩ | ⟨a', b'⟩ <;> omega
  · subst q
    rcases h2 with ⟨a, b, c⟩ | ⟨a, b⟩ <;> rcases h4 with ⟨a', b', c'⟩ | ⟨a', b'⟩ <;> omega
  · have := h1 k2 q
    rcases h4 with ⟨a, b, c⟩ | ⟨a, b⟩
    · omega
    · rcases h2 with ⟨a', b', c'⟩ | ⟨a', b'⟩ <;> omega
theorem wlt_tr {n : Nat} {f : Nat → Nat} {m : Nat} {g : Nat → Nat} {p : Nat} {h : Nat → Nat} (h1 : wlt n f m g) (h2 : wlt m g p h) : wlt n f p h := by
  obtain ⟨a, a1, a2⟩ := h1
  obtain ⟨b, b1, b2⟩ := h2
  rcases Nat.lt_trichotomy a b with q | q | q
  · have e := b1 a q
    refine ⟨a, fun j hj => (a1 j hj).trans (b1 j (by omega)), ?_⟩
    rcases a2 with ⟨x, y, z⟩ | ⟨x, y⟩
    · left; refine ⟨x, ?_, by omega⟩
      rcases b2 with ⟨x', y', z'⟩ | ⟨x', y'⟩ <;> omega
    · right; refine ⟨x, ?_⟩
      rcases b2 with ⟨x', y', z'⟩ | ⟨x', y'⟩ <;> omega
  · subst q
    refine ⟨a, fun j hj => (a1 j hj).trans (b1 j hj), ?_⟩
    rcases a2 with ⟨x, y, z⟩ | ⟨x, y⟩ <;> rcases b2 with ⟨x', y', z'⟩ | ⟨x', y'⟩
    · left; exact ⟨x, y', by omega⟩
    · omega
    · right; exact ⟨x, y'⟩
    · omega
  · have e := a1 b q
    refine ⟨b, fun j hj => (a1 j (by omega)).trans (b1 j hj), ?_⟩
    rcases b2 with ⟨x, y, z⟩ | ⟨x, y⟩
    · left; refine ⟨?_, y, by omega⟩
      rcases a2 with ⟨x', y', z'⟩ | ⟨x', y'⟩ <;> omega
    · exfalso
      rcases a2 with ⟨x', y', z'⟩ | ⟨x', y'⟩ <;> omega
theorem wfirst (f g : Nat → Nat) : ∀ n, (∀ j, j < n → f j = g j) ∨ ∃ k, k < n ∧ (∀ j, j < k → f j = g j) ∧ f k ≠ g k
  | 0 => Or.inl (fun j hj => absurd hj (Nat.not_lt_zero j))
  | n + 1 => by
    rcases wfirst f g n with h | ⟨k, h1, h2⟩
    · by_cases e : f n = g n
      · left; intro j hj
        by_cases q : j = n
        · rw [q]; exact e
        · exact h j (by omega)
      · right; exact ⟨n, by omega, h, e⟩
    · right; exact ⟨k, by omega, h2⟩
theorem wtri (n : Nat) (f : Nat → Nat) (m : Nat) (g : Nat → Nat) : wlt n f m g ∨ weq n f m g ∨ wlt m g n f := by
  rcases wfirst f g (min n m) with h | ⟨k, h1, h2, h3⟩
  · rcases Nat.lt_trichotomy n m with q | q | q
    · left; exact ⟨n, fun j hj => h j (by omega), Or.inr ⟨rfl, q⟩⟩
    · right; left; exact ⟨q, fun j hj => h j (by omega)⟩
    · right; right; exact ⟨m, fun j hj => (h j (by omega)).symm, Or.inr ⟨rfl, q⟩⟩
  · rcases Nat.lt_or_ge (f k) (g k) with q | q
    · left; exact ⟨k, h2, Or.inl ⟨by omega, by omega, q⟩⟩
    · right; right; exact ⟨k, fun j hj => (h2 j hj).symm, Or.inl ⟨by omega, by omega, by omega⟩⟩
/-- what compared answers -/
def cmpOk (r : Int32) (n : Nat) (f : Nat → Nat) (m : Nat) (g : Nat → Nat) : Prop := (r.toInt < 0 ↔ wlt n f m g) ∧ (r.toInt = 0 ↔ weq n f m g)
theorem cmp_diff {n m k : Nat} {f g : Nat → Nat} (h : ∀ j, j < k → f j = g j) (hn : k < n) (hm : k < m) (hd : f k ≠ g k) (h1 : f k ≤ 255) (h2 : g k ≤ 255) : cmpOk (nI (f k) - nI (g k)) n f m g := by
  have e : (nI (f k) - nI (g k)).toInt = (f k : Int) - g k := pk_sub_toInt (by omega) (by omega)
  unfold cmpOk
  rw [e]
  refine ⟨⟨fun q => ⟨k, h, Or.inl ⟨hn, hm, by omega⟩⟩, fun q => ?_⟩, ⟨fun q => absurd (show f k = g k by omega) hd, fun q => absurd (q.2 k hn) hd⟩⟩
  rcases Nat.lt_or_ge (f k) (g k) with z | z
  · omega
  · exact absurd q (wlt_asym ⟨k, fun j hj => (h j hj).symm, Or.inl ⟨hm, hn, by omega⟩⟩)
theorem cmp_pre {n m k : Nat} {f g : Nat → Nat} (h : ∀ j, j < k → f j = g j) (hk : n ≤ k ∨ m ≤ k) (hn : k ≤ n) (hm : k ≤ m) (h1 : n ≤ 1000) (h2 : m ≤ 1000) : cmpOk (nI n - nI m) n f m g := by
  have e : (nI n - nI m).toInt = (n : Int) - m := pk_sub_toInt (by omega) (by omega)
  unfold cmpOk
  rw [e]
  refine ⟨⟨fun q => ⟨n, fun j hj => h j (by omega), Or.inr ⟨rfl, by omega⟩⟩, fun q => ?_⟩, ⟨fun q => ⟨by omega, fun j hj => h j (by omega)⟩, fun q => by have := q.1; omega⟩⟩
  rcases Nat.lt_trichotomy n m with z | z | z
  · omega
  · exact absurd q (wlt_irr ⟨z, fun j hj => h j (by omega)⟩)
  · exact absurd q (wlt_asym ⟨m, fun j hj => (h j (by omega)).symm, Or.inr ⟨rfl, z⟩⟩)
noncomputable def scP (M : MM) (room n : Nat) (f : Nat → Nat) (here has : Bool) (o : Nat) : Bool := decide (M 37 o = 0) && ((decide (M 38 o = room) == here) && (!has || hasWB M o n f))
/-- how well a word names a room -/
noncomputable def scZ (M : MM) (room n : Nat) (f : Nat → Nat) : Int := (fb_ct (scP M room n f true true) (M 31 5) : Int) * fb_ct (scP M room n f false false) (M 31 5) - (fb_ct (scP M room n f false true) (M 31 5) : Int) * fb_ct (scP M room n f true false) (M 31 5)
/-- a word of a routine of the room -/
def cand (M : MM) (room r k : Nat) : Prop := r < M 31 5 ∧ M 37 r = 0 ∧ M 38 r = room ∧ isSt M r k ∧ lnW M r k ≠ 0
abbrev wdF (M : MM) (r k : Nat) : Nat → Nat := fun j => M 33 (20 * r + k + j)
noncomputable def scW (M : MM) (room r k : Nat) : Int := scZ M room (lnW M r k) (wdF M r k)
/-- the first is as good a name as the second -/
def bwW (M : MM) (room r k r' k' : Nat) : Prop := scW M room r' k' < scW M room r k ∨ (scW M room r' k' = scW M room r k ∧ ¬ wlt (lnW M r' k') (wdF M r' k') (lnW M r k) (wdF M r k))
def BestW (M : MM) (room r k : Nat) : Prop := cand M room r k ∧ ∀ r' k', cand M room r' k' → bwW M room r k r' k'
theorem endN_congr {M M' : MM} (h3 : M' 33 = M 33) (h4 : M' 34 = M 34) {r : Nat} : ∀ (f k : Nat), endN M' r f k = endN M r f k
  | 0, _ => rfl
  | f + 1, k => by
    show (if _ then _ else _) = (if _ then _ else _)
    rw [h3, h4, endN_congr h3 h4 f (k + 1)]
theorem endK_congr {M M' : MM} (h3 : M' 33 = M 33) (h4 : M' 34 = M 34) {r k : Nat} : endK M' r k = endK M r k := by
  unfold endK
  rw [h4]
  exact endN_congr h3 h4 _ _
theorem hasW_congr {M M' : MM} (h3 : M' 33 = M 33) (h4 : M' 34 = M 34) {o n : Nat} {f : Nat → Nat} : hasW M' o n f ↔ hasW M o n f := by
  unfold hasW isSt lnW
  simp only [h3, h4, endK_congr h3 h4]
theorem hasWB_congr {M M' : MM} (h3 : M' 33 = M 33) (h4 : M' 34 = M 34) {o n : Nat} {f : Nat → Nat} : hasWB M' o n f = hasWB M o n f := by
  by_cases h : hasW M o n f
  · rw [hasWB_t.mpr h, hasWB_t.mpr ((hasW_congr h3 h4).mpr h)]
  · rw [hasWB_f h, hasWB_f (fun z => h ((hasW_congr h3 h4).mp z))]
theorem scZ_congr {M M' : MM} (h3 : M' 33 = M 33) (h4 : M' 34 = M 34) (h7 : M' 37 = M 37) (h8 : M' 38 = M 38) (h5 : M' 31 5 = M 31 5) {room n : Nat} {f : Nat → Nat} : scZ M' room n f = scZ M room n f := by
  have e : ∀ a b, scP M' room n f a b = scP M room n f a b := by
    intro a b
    funext o
    unfold scP
    rw [h7, h8, hasWB_congr h3 h4]
  unfold scZ
  rw [e, e, e, e, h5]
/-- what name has found so far: of the routines before r, and of r the words before k -/
def NmI (M : MM) (room : Nat) (x2 : Int32) (a3 : Nat) (x4 : Int32) (pl r k : Nat) : Prop :=
  (x2 = -1 ∧ pl = 0 ∧ a3 = 0 ∧ ∀ r' k', cand M room r' k' → ¬ (r' < r ∨ (r' = r ∧ k' < k))) ∨
  ∃ b, x2 = nI b ∧ cand M room b a3 ∧ x4.toInt = scW M room b a3 ∧ pl = lnW M b a3 ∧ ∀ r' k', cand M room r' k' → (r' < r ∨ (r' = r ∧ k' < k)) → bwW M room b a3 r' k'
theorem NmI.more {M : MM} {room : Nat} {x2 x4 : Int32} {a3 pl r k r2 k2 : Nat} (h : NmI M room x2 a3 x4 pl r k) (hp : ∀ r' k', cand M room r' k' → (r' < r2 ∨ (r' = r2 ∧ k' < k2)) → (r' < r ∨ (r' = r ∧ k' < k))) : NmI M room x2 a3 x4 pl r2 k2 := by
  rcases h with ⟨h1, h2, h3, h4⟩ | ⟨b, h1, h2, h3, h4, h5⟩
  · exact Or.inl ⟨h1, h2, h3, fun r' k' hc hz => h4 r' k' hc (hp r' k' hc hz)⟩
  · exact Or.inr ⟨b, h1, h2, h3, h4, fun r' k' hc hz => h5 r' k' hc (hp r' k' hc hz)⟩
theorem bwW_tr {M : MM} {room r k r' k' r2 k2 : Nat} (h1 : bwW M room r k r' k') (h2 : bwW M room r' k' r2 k2) : bwW M room r k r2 k2 := by
  rcases h1 with a | ⟨a, b⟩ <;> rcases h2 with c | ⟨c, d⟩
  · exact Or.inl (by omega)
  · exact Or.inl (by omega)
  · exact Or.inl (by omega)
  · refine Or.inr ⟨by omega, fun z => ?_⟩
    rcases wtri (lnW M r' k') (wdF M r' k') (lnW M r k) (wdF M r k) with q | q | q
    · exact b q
    · refine d ?_
      obtain ⟨j, z1, z2⟩ := z
      have q1 : lnW M r' k' = lnW M r k := q.1
      have q2 : ∀ j, j < lnW M r' k' → wdF M r' k' j = wdF M r k j := q.2
      rcases z2 with ⟨x, y, w⟩ | ⟨x, y⟩
      · refine ⟨j, fun i hi => (z1 i hi).trans (q2 i (by omega)).symm, Or.inl ⟨x, by omega, ?_⟩⟩
        rw [q2 j (by omega)]
        exact w
      · exact ⟨j, fun i hi => (z1 i hi).trans (q2 i (by omega)).symm, Or.inr ⟨x, by omega⟩⟩
    · exact d (wlt_tr z q)
theorem bwW_rf {M : MM} {room r k : Nat} : bwW M room r k r k := Or.inr ⟨rfl, wlt_irr ⟨rfl, fun _ _ => rfl⟩⟩
/-- a new word that is better than what was found -/
theorem NmI.take {M : MM} {room : Nat} {x2 x4 y4 : Int32} {a3 pl r k k2 : Nat} (h : NmI M room x2 a3 x4 pl r k) (hc : cand M room r k) (hy : y4.toInt = scW M room r k) (hb : ∀ b, x2 = nI b → cand M room b a3 → x4.toInt = scW M room b a3 → pl = lnW M b a3 → bwW M room r k b a3) (hk : ∀ k', isSt M r k' → k < k' → k2 ≤ k') : NmI M room (nI r) k y4 (lnW M r k) r k2 := by
  refine Or.inr ⟨r, rfl, hc, hy, rfl, fun r' k' hc' hz => ?_⟩
  by_cases e : r' = r ∧ k' = k
  · rw [e.1, e.2]; exact bwW_rf
  · have hz2 : r' < r ∨ (r' = r ∧ k' < k) := by
      rcases hz with q | ⟨q1, q2⟩
      · exact Or.inl q
      · refine Or.inr ⟨q1, ?_⟩
        rcases Nat.lt_trichotomy k' k with z | z | z
        · exact z
        · exact absurd ⟨q1, z⟩ e
        · subst q1; have := hk k' hc'.2.2.2.1 z; omega
    rcases h with ⟨h1, h2, h3, h4⟩ | ⟨b, h1, h2, h3, h4, h5⟩
    · exact absurd hz2 (h4 r' k' hc')
    · exact bwW_tr (hb b h1 h2 h3 h4) (h5 r' k' hc' hz2)
/-- a new word that is not -/
theorem NmI.skip {M : MM} {room : Nat} {b : Nat} {x4 : Int32} {a3 pl r k k2 : Nat} (h : NmI M room (nI b) a3 x4 pl r k) (hb40 : b < 2 ^ 31) (hn : M 31 5 ≤ 40) (hb : cand M room b a3 → x4.toInt = scW M room b a3 → pl = lnW M b a3 → bwW M room b a3 r k) (hk : ∀ k', isSt M r k' → k < k' → k2 ≤ k') : NmI M room (nI b) a3 x4 pl r k2 := by
  rcases h with ⟨h1, h2, h3, h4⟩ | ⟨b', h1, h2, h3, h4, h5⟩
  · have : (nI b).toInt = (-1 : Int32).toInt := by rw [h1]
    rw [nI_toInt hb40] at this
    have e : (-1 : Int32).toInt = -1 := by decide
    omega
  · have eb : b = b' := (nI_eq hb40 (by have := h2.1; omega)).mp h1
    subst eb
    exact Or.inr ⟨b, rfl, h2, h3, h4, fun r' k' hc' hz => by
      by_cases e : r' = r ∧ k' = k
      · rw [e.1, e.2]; exact hb h2 h3 h4
      · refine h5 r' k' hc' ?_
        rcases hz with q | ⟨q1, q2⟩
        · exact Or.inl q
        · refine Or.inr ⟨q1, ?_⟩
          rcases Nat.lt_trichotomy k' k with z | z | z
          · exact z
          · exact absurd ⟨q1, z⟩ e
          · subst q1; have := hk k' hc'.2.2.2.1 z; omega⟩
theorem sc_val {M : MM} {room n : Nat} {f : Nat → Nat} {a5 a6 a7 a8 o : Nat} (h5 : a5 = fb_ct (scP M room n f true true) o) (h6 : a6 = fb_ct (scP M room n f false true) o) (h7 : a7 = fb_ct (scP M room n f true false) o) (h8 : a8 = fb_ct (scP M room n f false false) o) (ho : o = M 31 5) (hn : M 31 5 ≤ 40) : (nI (a5 * a8) - nI (a6 * a7)).toInt = scZ M room n f := by
  have l5 := fb_ct_le (scP M room n f true true) o
  have l6 := fb_ct_le (scP M room n f false true) o
  have l7 := fb_ct_le (scP M room n f true false) o
  have l8 := fb_ct_le (scP M room n f false false) o
  rw [← h5] at l5
  rw [← h6] at l6
  rw [← h7] at l7
  rw [← h8] at l8
  have e1 : a5 * a8 ≤ 40 * 40 := Nat.mul_le_mul (by omega) (by omega)
  have e2 : a6 * a7 ≤ 40 * 40 := Nat.mul_le_mul (by omega) (by omega)
  rw [pk_sub_toInt (by omega) (by omega)]
  unfold scZ
  rw [← ho, ← h5, ← h6, ← h7, ← h8, Int.natCast_mul, Int.natCast_mul]
theorem plE {M : MM} {pl r k : Nat} : endK (mS M 31 18 pl) r k = endK M r k := endK_congr (mS_nk (by decide)) (mS_nk (by decide))
theorem plS {M : MM} {pl room n : Nat} {f : Nat → Nat} : scZ (mS M 31 18 pl) room n f = scZ M room n f := scZ_congr (mS_nk (by decide)) (mS_nk (by decide)) (mS_nk (by decide)) (mS_nk (by decide)) (mS_ne (Or.inr (by decide)))
theorem NmI.neg {M : MM} {room : Nat} {x2 x4 : Int32} {a3 pl r k : Nat} (h : NmI M room x2 a3 x4 pl r k) (hn : M 31 5 ≤ 40) : x2 < 0 ↔ x2 = -1 := by
  rcases h with ⟨h1, -⟩ | ⟨b, h1, h2, -⟩
  · exact ⟨fun _ => h1, fun e => by rw [e]; decide⟩
  · have hb := h2.1
    exact ⟨fun z => absurd z (by rw [h1]; exact nI_pos (by omega)), fun e => by rw [e]; decide⟩
theorem NmI.some {M : MM} {room : Nat} {x2 x4 : Int32} {a3 pl r k : Nat} (h : NmI M room x2 a3 x4 pl r k) (hx : ¬ x2 = -1) : ∃ b, x2 = nI b ∧ cand M room b a3 ∧ x4.toInt = scW M room b a3 ∧ pl = lnW M b a3 := by
  rcases h with ⟨h1, -⟩ | ⟨b, h1, h2, h3, h4, -⟩
  · exact absurd h1 hx
  · exact ⟨b, h1, h2, h3, h4⟩
theorem cand_len {M : MM} {room b k : Nat} (hL : ∀ x, x < 40 → M 34 x ≤ 20) (hn : M 31 5 ≤ 40) (h : cand M room b k) : k + lnW M b k ≤ 20 ∧ b < 40 := by
  have h1 := hL b (by have := h.1; omega)
  have h2 := h.2.2.2.1.1
  have h3 := endK_le (M := M) (r := b) (k := k) (by omega)
  have h4 := endK_ge M b k
  have h5 := h.1
  unfold lnW
  omega
theorem NmI.pl {M : MM} {room : Nat} {x2 x4 : Int32} {a3 pl r k : Nat} (h : NmI M room x2 a3 x4 pl r k) (hL : ∀ x, x < 40 → M 34 x ≤ 20) (hn : M 31 5 ≤ 40) : pl ≤ 20 := by
  rcases h with ⟨-, h1, -⟩ | ⟨b, -, h2, -, h4, -⟩
  · omega
  · have := cand_len hL hn h2
    omega
/-- what name leaves -/
def NmR (M : MM) (room : Nat) (M' : MM) : Prop := (∀ t k, t ≠ 43 → ¬ (t = 31 ∧ k = 18) → M' t k = M t k) ∧ ((M' 31 18 = 0 ∧ ∀ r k, ¬ cand M room r k) ∨ ∃ r k, BestW M room r k ∧ M' 31 18 = lnW M r k ∧ ∀ j, j < lnW M r k → M' 43 j = wdF M r k j)
def pgTo (M : MM) (f : Nat → Nat) (i : Nat) : MM := fun t k => if t = 43 ∧ k < i then f k else M t k
theorem pgTo_0 {M : MM} {f : Nat → Nat} : pgTo M f 0 = M := by
  funext t k
  unfold pgTo
  rw [if_neg (fun z => absurd z.2 (by omega))]
theorem pgTo_nk {M : MM} {f : Nat → Nat} {i t : Nat} (h : t ≠ 43) : pgTo M f i t = M t := by
  funext k
  unfold pgTo
  rw [if_neg (fun z => h z.1)]
theorem pgTo_succ {M : MM} {f : Nat → Nat} {i : Nat} : mS (pgTo M f i) 43 i (f i) = pgTo M f (i + 1) := by
  funext t k
  unfold mS pgTo
  by_cases h2 : t = 43 ∧ k = i
  · rw [if_pos h2, if_pos ⟨h2.1, by omega⟩, h2.2]
  · rw [if_neg h2]
    by_cases h3 : t = 43 ∧ k < i
    · rw [if_pos h3, if_pos ⟨h3.1, by omega⟩]
    · rw [if_neg h3, if_neg (fun z => h3 ⟨z.1, by
          have : k ≠ i := fun e => h2 ⟨z.1, e⟩
          omega⟩)]
