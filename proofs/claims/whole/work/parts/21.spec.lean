/-! ===== WHAT THE REFERENCE ANSWERS, as functions of its state ===== -/
def mB : Nat → Nat → Nat
  | 31, 8 => 100 | 31, 22 => 60 | 31, _ => 40
  | 32, _ => 255 | 33, _ => 255 | 34, _ => 40 | 35, _ => 999999 | 36, _ => 9 | 37, _ => 1 | 38, _ => 5 | 39, _ => 2 | 40, _ => 6 | 41, _ => 39 | 42, _ => 5 | 43, _ => 255 | 44, _ => 63 | 45, _ => 1048575 | 46, _ => 1048575 | 47, _ => 6 | 48, _ => 40
  | _, _ => 0
/-- every number is in its range -/
def MBd (M : MM) : Prop := ∀ t k, mok t k = true → M t k ≤ mB t k
def tieN (M : MM) (a b : Nat) : Nat := M 36 0 * (M 35 ((40 * 0 + a) * 40 + b) + M 35 ((40 * 0 + b) * 40 + a)) + M 36 1 * M 35 ((40 * 1 + a) * 40 + b) + M 36 2 * M 35 ((40 * 2 + a) * 40 + b)
theorem tieN_le {M : MM} (hB : MBd M) {a b : Nat} (ha : a < 40) (hb : b < 40) : tieN M a b ≤ 36000000 := by
  have w0 : M 36 0 ≤ 9 := hB 36 0 rfl
  have w1 : M 36 1 ≤ 9 := hB 36 1 rfl
  have w2 : M 36 2 ≤ 9 := hB 36 2 rfl
  have c0 : M 35 ((40 * 0 + a) * 40 + b) ≤ 999999 := hB 35 _ (decide_eq_true (show _ < 4800 by omega))
  have c1 : M 35 ((40 * 0 + b) * 40 + a) ≤ 999999 := hB 35 _ (decide_eq_true (show _ < 4800 by omega))
  have c2 : M 35 ((40 * 1 + a) * 40 + b) ≤ 999999 := hB 35 _ (decide_eq_true (show _ < 4800 by omega))
  have c3 : M 35 ((40 * 2 + a) * 40 + b) ≤ 999999 := hB 35 _ (decide_eq_true (show _ < 4800 by omega))
  have e1 := Nat.mul_le_mul w0 (Nat.add_le_add c0 c1)
  have e2 := Nat.mul_le_mul w1 c2
  have e3 := Nat.mul_le_mul w2 c3
  unfold tieN
  omega
def inR (M : MM) (r : Int32) : Bool := decide (0 ≤ r ∧ r < nI (M 31 5))
def inRm (M : MM) (r : Int32) : Bool := decide (0 ≤ r ∧ r < nI (M 31 10))
def deg (M : MM) (r : Nat) : Nat := fb_ct (fun o => decide (o ≠ r) && decide (0 < tieN M r o)) (M 31 5)
def hubN (M : MM) (r : Nat) : Nat := if M 31 9 < deg M r then 1 else 0
def stR (M : MM) (r : Nat) : Nat := if M 31 9 < deg M r ∨ M 31 10 ≤ M 38 r then 0 else M 38 r
def settleTo (M : MM) (i : Nat) : MM := fun t k => if t = 37 ∧ k < i then hubN M k else if t = 38 ∧ k < i then stR M k else M t k
def settle (M : MM) : MM := settleTo M (M 31 5)
theorem settleTo_nk {M : MM} {i t : Nat} (h1 : t ≠ 37) (h2 : t ≠ 38) : settleTo M i t = M t := by
  funext k
  unfold settleTo
  rw [if_neg (fun z => h1 z.1), if_neg (fun z => h2 z.1)]
theorem settleTo_37 {M : MM} {i k : Nat} (h : i ≤ k) : settleTo M i 37 k = M 37 k := by
  unfold settleTo
  rw [if_neg (fun z => Nat.not_le.mpr z.2 h), if_neg (fun z => absurd z.1 (by decide))]
theorem settleTo_38 {M : MM} {i k : Nat} (h : i ≤ k) : settleTo M i 38 k = M 38 k := by
  unfold settleTo
  rw [if_neg (fun z => absurd z.1 (by decide)), if_neg (fun z => Nat.not_le.mpr z.2 h)]
theorem settleTo_0 (M : MM) : settleTo M 0 = M := by
  funext t k
  unfold settleTo
  simp
theorem settleTo_succ (M : MM) (i : Nat) : mS (mS (settleTo M i) 37 i (hubN M i)) 38 i (stR M i) = settleTo M (i + 1) := by
  funext t k
  unfold mS settleTo
  by_cases h1 : t = 37
  · subst h1
    by_cases h2 : k = i
    · simp [h2]
    · by_cases h3 : k < i
      · simp [h2, h3, Nat.lt_succ_of_lt h3]
      · simp [h2, h3, show ¬ k < i + 1 by omega]
  · by_cases h1' : t = 38
    · subst h1'
      by_cases h2 : k = i
      · simp [h2]
      · by_cases h3 : k < i
        · simp [h2, h3, Nat.lt_succ_of_lt h3]
        · simp [h2, h3, show ¬ k < i + 1 by omega]
    · simp [h1, h1']
theorem settleTo_B {M : MM} (hB : MBd M) (i : Nat) : MBd (settleTo M i) := by
  intro t k hk
  unfold settleTo
  by_cases h1 : t = 37 ∧ k < i
  · rw [if_pos h1, h1.1]
    show hubN M k ≤ 1
    unfold hubN
    split <;> omega
  · rw [if_neg h1]
    by_cases h2 : t = 38 ∧ k < i
    · rw [if_pos h2]
      have h := hB t k hk
      unfold stR
      split
      · omega
      · rw [h2.1] at h ⊢
        exact h
    · rw [if_neg h2]
      exact hB t k hk
/-- how many routines that are no hubs are in a room -/
def szN (M : MM) (room : Nat) : Nat := fb_ct (fun r => decide (M 37 r = 0) && decide (M 38 r = room)) (M 31 5)
def brk (must a b : Nat) : Bool := decide (must = 1 ∧ a ≠ b ∨ must = 2 ∧ a = b)
def fxB (M : MM) (a : Nat) (room : Nat) : Bool := decide (0 < M 40 a ∧ M 40 a ≠ room + 1)
/-- the musts of a with those behind it that don't hold -/
def brkP (M : MM) (a b : Nat) : Bool := decide (a < b) && (decide (M 37 b = 0) && brk (M 39 (40 * a + b)) (M 38 a) (M 38 b))
def brkRow (M : MM) (a : Nat) : Nat := if M 37 a = 0 then (if fxB M a (M 38 a) then 1 else 0) + fb_ct (brkP M a) (M 31 5) else 0
def brkN (M : MM) : Nat := fb_sm (brkRow M) (M 31 5)
def cutT (M : MM) (a b : Nat) : Nat := if a < b ∧ M 37 a = 0 ∧ M 37 b = 0 ∧ M 38 a ≠ M 38 b then tieN M a b else 0
def costN (M : MM) : Nat := 1000000 * brkN M + fb_sm (fun room => M 31 8 * szN M room * szN M room) (M 31 10) + fb_sm (fun a => fb_sm (cutT M a) (M 31 5)) (M 31 5)
theorem fb_ct_skip {p : Nat → Bool} {n : Nat} (h : ∀ k, k < n → p k = false) : fb_ct p n = 0 := fb_ct_zero.mpr h
theorem fb_sm_skip {f : Nat → Nat} : ∀ {n : Nat}, (∀ k, k < n → f k = 0) → fb_sm f n = 0
  | 0, _ => rfl
  | n + 1, h => by rw [fb_sm_succ, fb_sm_skip (fun k hk => h k (by omega)), h n (by omega)]
theorem tieN_settleTo {M : MM} {i a b : Nat} : tieN (settleTo M i) a b = tieN M a b := by
  unfold tieN
  rw [settleTo_nk (by decide) (by decide), settleTo_nk (by decide) (by decide)]
theorem settle_1 {M : MM} {i : Nat} (h : M 31 9 < deg M i) : mS (mS (settleTo M i) 37 i 1) 38 i 0 = settleTo M (i + 1) := by
  rw [← settleTo_succ]
  unfold hubN stR
  rw [if_pos h, if_pos (Or.inl h)]
theorem settle_2 {M : MM} {i : Nat} (h : ¬ M 31 9 < deg M i) (h2 : M 31 10 ≤ M 38 i) : mS (mS (settleTo M i) 37 i 0) 38 i 0 = settleTo M (i + 1) := by
  rw [← settleTo_succ]
  unfold hubN stR
  rw [if_neg h, if_pos (Or.inr h2)]
theorem settle_3 {M : MM} {i : Nat} (h : ¬ M 31 9 < deg M i) (h2 : ¬ M 31 10 ≤ M 38 i) : mS (settleTo M i) 37 i 0 = settleTo M (i + 1) := by
  rw [← settleTo_succ]
  unfold hubN stR
  rw [if_neg h, if_neg (fun z => z.elim h h2)]
  funext t k
  by_cases hz : t = 38 ∧ k = i
  · rw [hz.1, hz.2, mS_same, mS_ne (Or.inl (by decide)), settleTo_38 (Nat.le_refl _)]
  · rw [mS_ne (t := 38) (by by_cases q : t = 38; exact Or.inr (fun z => hz ⟨q, z⟩); exact Or.inl q)]
theorem szN_le (M : MM) (room : Nat) : szN M room ≤ M 31 5 := fb_ct_le _ _
theorem brkN_le {M : MM} (h : M 31 5 ≤ 40) : brkN M ≤ 1640 := by
  have h1 : ∀ k, k < M 31 5 → brkRow M k ≤ 41 := by
    intro k hk
    unfold brkRow
    have := fb_ct_le (brkP M k) (M 31 5)
    split
    · split <;> omega
    · omega
  have h2 := fb_sm_bound h1
  unfold brkN
  have h3 : M 31 5 * 41 ≤ 40 * 41 := Nat.mul_le_mul_right _ h
  omega
/-- what a routine's ties and musts cost, were it in that room -/
def hangT (M : MM) (r room : Nat) (bt : Int32) (o : Nat) : Nat := if o = r ∨ nI o = bt ∨ M 37 o ≠ 0 then 0 else (if M 38 o = room then 0 else tieN M r o) + (if brk (M 39 (40 * r + o)) room (M 38 o) then 1000000 else 0)
def hangN (M : MM) (r room : Nat) (bt : Int32) : Nat := (if fxB M r room then 1000000 else 0) + fb_sm (hangT M r room bt) (M 31 5)
theorem hangT_le {M : MM} (hB : MBd M) {r room o : Nat} {bt : Int32} (hr : r < 40) (ho : o < 40) : hangT M r room bt o ≤ 37000000 := by
  have := tieN_le hB hr ho
  unfold hangT
  split
  · omega
  · split <;> split <;> omega
theorem hangN_le {M : MM} (hB : MBd M) (hn : M 31 5 ≤ 40) {r room : Nat} {bt : Int32} (hr : r < 40) : hangN M r room bt ≤ 1481000000 := by
  have h2 := fb_sm_bound (f := hangT M r room bt) (n := M 31 5) (c := 37000000) (fun k hk => hangT_le hB hr (by omega))
  have h3 : M 31 5 * 37000000 ≤ 40 * 37000000 := Nat.mul_le_mul_right _ hn
  unfold hangN
  split <;> omega
def movZ (M : MM) (r room : Nat) : Int := (hangN M r room (-1) : Int) - hangN M r (M 38 r) (-1) + (M 31 8 : Int) * (2 * (szN M room : Int) - 2 * szN M (M 38 r) + 2)
def swpZ (M : MM) (a b : Nat) : Int := (hangN M a (M 38 b) (nI b) : Int) - hangN M a (M 38 a) (nI b) + hangN M b (M 38 a) (nI a) - hangN M b (M 38 b) (nI a)
theorem nI_sub_zL {a b : Nat} (ha : a ≤ 1000) (hb : b ≤ 1000) : (nI (2 * b) - nI (2 * a) + nI 2).toInt64 = zL (2 * (b : Int) - 2 * a + 2) := by
  apply Int64.toInt_inj.mp
  have e1 : (nI (2 * b) - nI (2 * a)).toInt = 2 * (b : Int) - 2 * a := by rw [pk_sub_toInt (by omega) (by omega)]; omega
  have e2 : (nI 2).toInt = 2 := by decide
  have e3 : (nI (2 * b) - nI (2 * a) + nI 2).toInt = 2 * (b : Int) - 2 * a + 2 := by rw [fb_addI (by rw [e1, e2]; omega) (by rw [e1, e2]; omega), e1, e2]
  rw [Int32.toInt_toInt64, e3, zL_toInt (by omega) (by omega)]
theorem m1_lt {x : Nat} (h : x ≤ 1000) : nI x - 1 < 0 ↔ x = 0 := by
  have e : (nI x - 1).toInt = (x : Int) - 1 := by
    have := pk_sub_toInt (a := x) (b := 1) (by omega) (by decide)
    exact this
  rw [Int32.lt_iff_toInt_lt, e]
  show (x : Int) - 1 < 0 ↔ _
  omega
theorem m1_eq {x y : Nat} (h : x ≤ 1000) (hy : y ≤ 1000) : nI x - 1 = nI y ↔ x = y + 1 := by
  have e : (nI x - 1).toInt = (x : Int) - 1 := by
    have := pk_sub_toInt (a := x) (b := 1) (by omega) (by decide)
    exact this
  rw [← Int32.toInt_inj, e, nI_toInt (by omega)]
  omega
/-- the best of all moves and swaps so far: by how much, the routine, the other one, the room (each but the first one more; 0: none) -/
abbrev BS : Type := Int × Nat × Nat × Nat
def mvStep (M : MM) (r : Nat) (s : BS) (room : Nat) : BS := if room ≠ M 38 r ∧ movZ M r room < s.1 then (movZ M r room, r + 1, s.2.2.1, room + 1) else s
def mvRow (M : MM) (r : Nat) (s : BS) : Nat → BS
  | 0 => s
  | k + 1 => mvStep M r (mvRow M r s k) k
def mvAll (M : MM) : Nat → BS
  | 0 => (0, 0, 0, 0)
  | r + 1 => if M 37 r = 0 then mvRow M r (mvAll M r) (M 31 10) else mvAll M r
def swStep (M : MM) (a : Nat) (s : BS) (b : Nat) : BS := if a < b ∧ M 37 b = 0 ∧ M 38 a ≠ M 38 b ∧ swpZ M a b < s.1 then (swpZ M a b, a + 1, b + 1, s.2.2.2) else s
def swRow (M : MM) (a : Nat) (s : BS) : Nat → BS
  | 0 => s
  | b + 1 => swStep M a (swRow M a s b) b
def swAll (M : MM) : Nat → BS
  | 0 => mvAll M (M 31 5)
  | a + 1 => if M 37 a = 0 then swRow M a (swAll M a) (M 31 5) else swAll M a
def bstS (M : MM) : BS := swAll M (M 31 5)
def bsOk (n R : Nat) (s : BS) : Prop := -4000000000 ≤ s.1 ∧ s.1 ≤ 0 ∧ s.2.1 ≤ n ∧ s.2.2.1 ≤ n ∧ s.2.2.2 ≤ R ∧ (s.2.1 ≠ 0 → s.2.2.1 = 0 → s.2.2.2 ≠ 0) ∧ (s.2.2.1 ≠ 0 → s.2.1 ≠ 0)
theorem movZ_bd {M : MM} (hB : MBd M) (hn : M 31 5 ≤ 40) {r room : Nat} (hr : r < 40) : -3000000000 ≤ movZ M r room ∧ movZ M r room ≤ 3000000000 := by
  have h1 := hangN_le hB hn (r := r) (room := room) (bt := -1) hr
  have h2 := hangN_le hB hn (r := r) (room := M 38 r) (bt := -1) hr
  have h3 := szN_le M room
  have h4 := szN_le M (M 38 r)
  have h5 : M 31 8 ≤ 100 := hB 31 8 rfl
  unfold movZ
  generalize hangN M r room (-1) = a at *
  generalize hangN M r (M 38 r) (-1) = b at *
  generalize szN M room = c at *
  generalize szN M (M 38 r) = d at *
  generalize M 31 8 = e at *
  have h6 : (e : Int) * (2 * (c : Int) - 2 * d + 2) ≤ 8200 := by
    have : (e : Int) * (2 * (c : Int) - 2 * d + 2) ≤ e * 82 := Int.mul_le_mul_of_nonneg_left (by omega) (by omega)
    omega
  have h7 : -8200 ≤ (e : Int) * (2 * (c : Int) - 2 * d + 2) := by
    have : (e : Int) * (-82) ≤ e * (2 * (c : Int) - 2 * d + 2) := Int.mul_le_mul_of_nonneg_left (by omega) (by omega)
    omega
  omega
theorem swpZ_bd {M : MM} (hB : MBd M) (hn : M 31 5 ≤ 40) {a b : Nat} (ha : a < 40) (hb : b < 40) : -3000000000 ≤ swpZ M a b ∧ swpZ M a b ≤ 3000000000 := by
  have h1 := hangN_le hB hn (r := a) (room := M 38 b) (bt := nI b) ha
  have h2 := hangN_le hB hn (r := a) (room := M 38 a) (bt := nI b) ha
  have h3 := hangN_le hB hn (r := b) (room := M 38 a) (bt := nI a) hb
  have h4 := hangN_le hB hn (r := b) (room := M 38 b) (bt := nI a) hb
  unfold swpZ
  omega
theorem mvRow_ok {M : MM} (hB : MBd M) (hn : M 31 5 ≤ 40) {r : Nat} (hr : r < M 31 5) {s : BS} (h : bsOk (M 31 5) (M 31 10) s) : ∀ k, k ≤ M 31 10 → bsOk (M 31 5) (M 31 10) (mvRow M r s k)
  | 0, _ => h
  | k + 1, hk => by
    have ih := mvRow_ok hB hn hr h k (by omega)
    show bsOk _ _ (mvStep M r (mvRow M r s k) k)
    unfold mvStep
    split
    · rename_i hc
      have := movZ_bd hB hn (r := r) (room := k) (by omega)
      obtain ⟨h1, h2, h3, h4, h5, h6, h7⟩ := ih
      refine ⟨by dsimp only; omega, by dsimp only; omega, by dsimp only; omega, h4, by dsimp only; omega, fun _ _ => by dsimp only; omega, fun _ => by dsimp only; omega⟩
    · exact ih
theorem mvAll_ok {M : MM} (hB : MBd M) (hn : M 31 5 ≤ 40) : ∀ i, i ≤ M 31 5 → bsOk (M 31 5) (M 31 10) (mvAll M i)
  | 0, _ => ⟨(by decide : (-4000000000 : Int) ≤ 0), Int.le_refl 0, Nat.zero_le _, Nat.zero_le _, Nat.zero_le _, fun h => absurd rfl h, fun h => absurd rfl h⟩
  | i + 1, hi => by
    have ih := mvAll_ok hB hn i (by omega)
    unfold mvAll
    split
    · exact mvRow_ok hB hn (by omega) ih _ (Nat.le_refl _)
    · exact ih
theorem swRow_ok {M : MM} (hB : MBd M) (hn : M 31 5 ≤ 40) {r : Nat} (hr : r < M 31 5) {s : BS} (h : bsOk (M 31 5) (M 31 10) s) : ∀ k, k ≤ M 31 5 → bsOk (M 31 5) (M 31 10) (swRow M r s k)
  | 0, _ => h
  | k + 1, hk => by
    have ih := swRow_ok hB hn hr h k (by omega)
    show bsOk _ _ (swStep M r (swRow M r s k) k)
    unfold swStep
    split
    · rename_i hc
      have := swpZ_bd hB hn (a := r) (b := k) (by omega) (by omega)
      obtain ⟨h1, h2, h3, h4, h5, h6, h7⟩ := ih
      refine ⟨by dsimp only; omega, by dsimp only; omega, by dsimp only; omega, by dsimp only; omega, h5, fun _ z => by dsimp only at z; omega, fun _ => by dsimp only; omega⟩
    · exact ih
theorem swAll_ok {M : MM} (hB : MBd M) (hn : M 31 5 ≤ 40) : ∀ i, i ≤ M 31 5 → bsOk (M 31 5) (M 31 10) (swAll M i)
  | 0, _ => mvAll_ok hB hn _ (Nat.le_refl _)
  | i + 1, hi => by
    have ih := swAll_ok hB hn i (by omega)
    unfold swAll
    split
    · exact swRow_ok hB hn (by omega) ih _ (Nat.le_refl _)
    · exact ih
theorem swRow_skip {M : MM} {a : Nat} {s : BS} : ∀ {k : Nat}, k ≤ a + 1 → swRow M a s k = s
  | 0, _ => rfl
  | k + 1, h => by
    show swStep M a (swRow M a s k) k = s
    rw [swRow_skip (by omega)]
    unfold swStep
    rw [if_neg (fun z => absurd z.1 (by omega))]
theorem swRow_to {M : MM} {a : Nat} {s : BS} : ∀ {k : Nat}, (swRow M a s k).2.2.2 = s.2.2.2
  | 0 => rfl
  | k + 1 => by
    show (swStep M a (swRow M a s k) k).2.2.2 = _
    unfold swStep
    split
    · exact swRow_to
    · exact swRow_to
theorem swAll_to {M : MM} : ∀ {i : Nat}, (swAll M i).2.2.2 = (mvAll M (M 31 5)).2.2.2
  | 0 => rfl
  | i + 1 => by
    unfold swAll
    split
    · rw [swRow_to]; exact swAll_to
    · exact swAll_to
/-- the state behind one step -/
def betM (M : MM) : MM := if (bstS M).2.1 = 0 then M else if (bstS M).2.2.1 = 0 then mS M 38 ((bstS M).2.1 - 1) ((bstS M).2.2.2 - 1) else mS (mS M 38 ((bstS M).2.1 - 1) (M 38 ((bstS M).2.2.1 - 1))) 38 ((bstS M).2.2.1 - 1) (M 38 ((bstS M).2.1 - 1))
def betB (M : MM) : Bool := decide ((bstS M).2.1 ≠ 0)
theorem m1_ge {x : Nat} (h : x ≤ 1000) : 0 ≤ nI x - 1 ↔ x ≠ 0 := by
  have e : (nI x - 1).toInt = (x : Int) - 1 := by
    have := pk_sub_toInt (a := x) (b := 1) (by omega) (by decide)
    exact this
  rw [Int32.le_iff_toInt_le, e]
  show 0 ≤ (x : Int) - 1 ↔ _
  omega
theorem m1_nI {x : Nat} (h : x ≠ 0) : nI x - 1 = nI (x - 1) := by
  obtain ⟨y, rfl⟩ : ∃ y, x = y + 1 := ⟨x - 1, by omega⟩
  rw [nI_pred]
  rfl
theorem m1_0 : nI 0 - 1 = -1 := by decide
theorem m1_eqb {x y : Nat} (h : x ≤ 1000) (hy : y < 2 ^ 31) : nI x - 1 = nI y ↔ x = y + 1 := by
  have e : (nI x - 1).toInt = (x : Int) - 1 := by
    have := pk_sub_toInt (a := x) (b := 1) (by omega) (by decide)
    exact this
  rw [← Int32.toInt_inj, e, nI_toInt hy]
  omega
theorem mvRow_zero {M : MM} {r : Nat} {s : BS} : ∀ {k : Nat}, (mvRow M r s k).2.2.1 = s.2.2.1
  | 0 => rfl
  | k + 1 => by
    show (mvStep M r (mvRow M r s k) k).2.2.1 = _
    unfold mvStep
    split
    · exact mvRow_zero
    · exact mvRow_zero
theorem mvAll_zero (M : MM) : ∀ (i : Nat), (mvAll M i).2.2.1 = 0
  | 0 => rfl
  | i + 1 => by
    unfold mvAll
    split
    · rw [mvRow_zero]; exact mvAll_zero M i
    · exact mvAll_zero M i
theorem swAll_exit {M : MM} {a : Nat} (h : a + 1 < M 31 5 → M 37 a = 0) : swRow M a (swAll M a) (M 31 5) = swAll M (a + 1) := by
  show _ = (if M 37 a = 0 then swRow M a (swAll M a) (M 31 5) else swAll M a)
  by_cases h2 : M 37 a = 0
  · rw [if_pos h2]
  · rw [if_neg h2, swRow_skip (Nat.le_of_not_lt (fun z => h2 (h z)))]
theorem swAll_exit2 {M : MM} {a b : Nat} (h : a + 1 < b → M 37 a = 0) (h2 : ¬ M 37 a = 0) : swRow M a (swAll M a) b = swAll M (a + 1) := by
  show _ = (if M 37 a = 0 then swRow M a (swAll M a) (M 31 5) else swAll M a)
  rw [if_neg h2, swRow_skip (Nat.le_of_not_lt (fun z => h2 (h z)))]
