/-! ===== the mender's pulls ===== -/
def zsm (f : Nat → Int) : Nat → Int
  | 0 => 0
  | n + 1 => zsm f n + f n
theorem zsm_cong {f g : Nat → Int} : ∀ {n : Nat}, (∀ i, i < n → f i = g i) → zsm f n = zsm g n
  | 0, _ => rfl
  | n + 1, h => by
    show zsm f n + f n = zsm g n + g n
    rw [zsm_cong (fun i hi => h i (by omega)), h n (by omega)]
theorem zsm_sub {f g : Nat → Int} : ∀ {n : Nat}, zsm (fun i => f i - g i) n = zsm f n - zsm g n
  | 0 => rfl
  | n + 1 => by
    show zsm _ n + (f n - g n) = zsm f n + f n - (zsm g n + g n)
    rw [zsm_sub]
    omega
theorem zsm_cast {f : Nat → Nat} : ∀ {n : Nat}, ((fb_sm f n : Nat) : Int) = zsm (fun i => (f i : Int)) n
  | 0 => rfl
  | n + 1 => by
    rw [fb_sm_succ]
    show _ = zsm _ n + (f n : Int)
    rw [← zsm_cast]
    omega
theorem zsm_one {f g : Nat → Int} {r : Nat} : ∀ {n : Nat}, r < n → (∀ i, i < n → i ≠ r → f i = g i) → zsm f n + g r = zsm g n + f r
  | 0, h, _ => absurd h (Nat.not_lt_zero _)
  | n + 1, h, he => by
    show zsm f n + f n + g r = zsm g n + g n + f r
    by_cases e : r = n
    · subst e
      rw [zsm_cong (f := f) (g := g) (fun i hi => he i (by omega) (by omega))]
      omega
    · have := zsm_one (f := f) (g := g) (r := r) (n := n) (by omega) (fun i hi hn => he i (by omega) hn)
      have := he n (by omega) (fun z => e z.symm)
      omega
theorem sm_one {f g : Nat → Nat} {r : Nat} : ∀ {n : Nat}, r < n → (∀ i, i < n → i ≠ r → f i = g i) → fb_sm f n + g r = fb_sm g n + f r
  | 0, h, _ => absurd h (Nat.not_lt_zero _)
  | n + 1, h, he => by
    rw [fb_sm_succ, fb_sm_succ]
    by_cases e : r = n
    · subst e
      rw [fb_sm_cong (f := f) (g := g) (fun i hi => he i (by omega) (by omega))]
      omega
    · have := sm_one (f := f) (g := g) (r := r) (n := n) (by omega) (fun i hi hn => he i (by omega) hn)
      have := he n (by omega) (fun z => e z.symm)
      omega
theorem ct_one {p q : Nat → Bool} {r : Nat} : ∀ {n : Nat}, r < n → (∀ i, i < n → i ≠ r → p i = q i) → fb_ct p n + (if q r = true then 1 else 0) = fb_ct q n + (if p r = true then 1 else 0)
  | 0, h, _ => absurd h (Nat.not_lt_zero _)
  | n + 1, h, he => by
    rw [fb_ct_succ, fb_ct_succ]
    by_cases e : r = n
    · subst e
      rw [fb_ct_cong (p := p) (q := q) (fun i hi => he i (by omega) (by omega))]
      omega
    · have := ct_one (p := p) (q := q) (r := r) (n := n) (by omega) (fun i hi hn => he i (by omega) hn)
      have := he n (by omega) (fun z => e z.symm)
      rw [this]
      omega
def pulH (M : MM) (r k i : Nat) : Int := if hs M i ≠ r ∧ M 38 (hs M i) = k then pulZ M r (hs M i) else 0
def fxZ (M : MM) (r k : Nat) : Int := if M 40 r = k + 1 then 1000000 else 0
def pulK (M : MM) (r k : Nat) : Int := fxZ M r k + zsm (pulH M r k) (hcN M)
def cstH (M : MM) (r i : Nat) : Int := if hs M i = r then 0 else (tieN M r (hs M i) : Int) + (if M 39 (40 * r + hs M i) = 1 then 1000000 else 0)
def cst (M : MM) (r : Nat) : Int := (if 0 < M 40 r then 1000000 else 0) + zsm (cstH M r) (hcN M)
theorem hangT_z {M : MM} {r room o : Nat} {bt : Int32} (ho : o ≠ r) (h37 : M 37 o = 0) (hb : nI o ≠ bt) : (hangT M r room bt o : Int) = (tieN M r o : Int) + (if M 39 (40 * r + o) = 1 then 1000000 else 0) - (if M 38 o = room then pulZ M r o else 0) := by
  unfold hangT pulZ brk
  rw [if_neg (by rintro (z | z | z); exact ho z; exact hb z; exact z h37)]
  generalize tieN M r o = t
  generalize M 39 (40 * r + o) = u
  by_cases e : M 38 o = room
  · by_cases e1 : u = 1
    · simp [e, e1] <;> omega
    · by_cases e2 : u = 2
      · simp [e, e2]; omega
      · simp [e, e1, e2]
  · by_cases e1 : u = 1
    · simp [e, e1, Ne.symm e]
    · by_cases e2 : u = 2
      · simp [e, e2, Ne.symm e]
      · simp [e, e1, e2]
theorem nI_ne_m1 {o : Nat} (h : o < 40) : nI o ≠ -1 := fun z => by
  have := congrArg Int32.toInt z
  rw [nI_toInt (by omega)] at this
  have e : (-1 : Int32).toInt = -1 := by decide
  omega
theorem hang_eq {M : MM} {r room : Nat} (hn : M 31 5 ≤ 40) : (hangN M r room (-1) : Int) = cst M r - pulK M r room := by
  have h1 : fb_sm (hangT M r room (-1)) (M 31 5) = fb_sm (fun o => if M 37 o = 0 then (if o = r then 0 else hangT M r room (-1) o) else 0) (M 31 5) := by
    refine fb_sm_cong (fun o _ => ?_)
    by_cases h : M 37 o = 0
    · rw [if_pos h]
      by_cases e : o = r
      · rw [if_pos e]
        unfold hangT
        rw [if_pos (Or.inl e)]
      · rw [if_neg e]
    · rw [if_neg h]
      unfold hangT
      rw [if_pos (Or.inr (Or.inr h))]
  have h2 : ((fb_sm (hangT M r room (-1)) (M 31 5) : Nat) : Int) = zsm (cstH M r) (hcN M) - zsm (pulH M r room) (hcN M) := by
    rw [h1, sm_hs (M := M) (fun o => if o = r then 0 else hangT M r room (-1) o) (Nat.le_refl _), zsm_cast, ← zsm_sub]
    refine zsm_cong (fun i hi => ?_)
    have hi' : i < hcN M := hi
    have hl := hs_lt hi'
    unfold cstH pulH
    by_cases e : hs M i = r
    · simp [e]
    · simp only [e, if_false, ne_eq, not_false_eq_true, true_and]
      exact hangT_z e (hs_nh hi') (nI_ne_m1 (by omega))
  unfold hangN cst pulK fxZ fxB
  rw [Int.natCast_add, h2]
  by_cases e : M 40 r = room + 1
  · simp [e]; omega
  · by_cases e0 : 0 < M 40 r
    · simp [e, e0]; omega
    · simp [e, e0]
theorem mov_eq {M : MM} {r room : Nat} (hn : M 31 5 ≤ 40) : movZ M r room = pulK M r (M 38 r) - pulK M r room + (M 31 8 : Int) * (2 * ((szN M room : Int) - szN M (M 38 r) + 1)) := by
  unfold movZ
  rw [hang_eq hn, hang_eq hn]
  have : 2 * (szN M room : Int) - 2 * szN M (M 38 r) + 2 = 2 * ((szN M room : Int) - szN M (M 38 r) + 1) := by omega
  rw [this]
  omega
theorem hang_x {M : MM} {a b room : Nat} (hn : M 31 5 ≤ 40) (hb : b < M 31 5) (hab : b ≠ a) (h37 : M 37 b = 0) : (hangN M a room (nI b) : Int) = cst M a - pulK M a room - ((tieN M a b : Int) + (if M 39 (40 * a + b) = 1 then 1000000 else 0) - (if M 38 b = room then pulZ M a b else 0)) := by
  rw [← hang_eq hn, ← hangT_z (bt := -1) hab h37 (nI_ne_m1 (by omega))]
  have h := sm_one (f := hangT M a room (nI b)) (g := hangT M a room (-1)) (r := b) hb (fun i hi hne => by
    unfold hangT
    have e1 : ¬ nI i = nI b := fun z => hne ((nI_eq (by omega) (by omega)).mp z)
    have e2 := nI_ne_m1 (o := i) (by omega)
    simp only [e1, e2, false_or])
  have e0 : hangT M a room (nI b) b = 0 := by
    unfold hangT
    rw [if_pos (Or.inr (Or.inl rfl))]
  unfold hangN
  omega
theorem swp_eq {M : MM} {a b : Nat} (hn : M 31 5 ≤ 40) (ha : a < M 31 5) (hb : b < M 31 5) (hab : a ≠ b) (h37a : M 37 a = 0) (h37b : M 37 b = 0) (hr : M 38 a ≠ M 38 b) (hs : pulZ M b a = pulZ M a b) : swpZ M a b = pulK M a (M 38 a) - pulK M a (M 38 b) + pulK M b (M 38 b) - pulK M b (M 38 a) + 2 * pulZ M a b := by
  unfold swpZ
  rw [hang_x hn hb (Ne.symm hab) h37b, hang_x hn hb (Ne.symm hab) h37b, hang_x hn ha hab h37a, hang_x hn ha hab h37a, if_pos rfl, if_neg (Ne.symm hr), if_pos rfl, if_neg hr, hs]
  omega
theorem hs_38 {M : MM} {r to k : Nat} : hs (mS M 38 r to) k = hs M k := hs_congr (mS_nk (by decide)) (mS_ne (Or.inl (by decide)))
theorem hcN_38 {M : MM} {r to : Nat} : hcN (mS M 38 r to) = hcN M := hcN_congr (mS_nk (by decide)) (mS_ne (Or.inl (by decide)))
theorem pulK_self {M : MM} {r to k : Nat} : pulK (mS M 38 r to) r k = pulK M r k := by
  unfold pulK
  rw [hcN_38]
  congr 1
  refine zsm_cong (fun i _ => ?_)
  unfold pulH
  rw [hs_38]
  by_cases e : hs M i = r
  · rw [if_neg (fun z => z.1 e), if_neg (fun z => z.1 e)]
  · rw [mS_ne (Or.inr e)]
    rfl
theorem pulK_38 {M : MM} {r to o k : Nat} (hr : r < M 31 5) (h37 : M 37 r = 0) (ho : r ≠ o) : pulK (mS M 38 r to) o k = pulK M o k - (if k = M 38 r then pulZ M o r else 0) + (if k = to then pulZ M o r else 0) := by
  unfold pulK
  rw [hcN_38]
  have h := zsm_one (f := pulH (mS M 38 r to) o k) (g := pulH M o k) (r := rkN M r) (n := hcN M) (rk_lt hr h37) (fun i hi hne => by
    unfold pulH
    rw [hs_38]
    have e : hs M i ≠ r := fun z => hne (by rw [← z, hs_rk hi])
    rw [mS_ne (Or.inr e)]
    rfl)
  have e1 : pulH M o k (rkN M r) = if k = M 38 r then pulZ M o r else 0 := by
    unfold pulH
    rw [hs_of hr h37]
    by_cases e : k = M 38 r
    · rw [if_pos ⟨ho, e.symm⟩, if_pos e]
    · rw [if_neg (fun z => e z.2.symm), if_neg e]
  have e2 : pulH (mS M 38 r to) o k (rkN M r) = if k = to then pulZ M o r else 0 := by
    unfold pulH
    rw [hs_38, hs_of hr h37, mS_same]
    by_cases e : k = to
    · rw [if_pos ⟨ho, e.symm⟩, if_pos e]
      rfl
    · rw [if_neg (fun z => e z.2.symm), if_neg e]
  rw [e1, e2] at h
  have e3 : fxZ (mS M 38 r to) o k = fxZ M o k := rfl
  rw [e3]
  omega
theorem szN_38 {M : MM} {r to k : Nat} (hr : r < M 31 5) (h37 : M 37 r = 0) : szN (mS M 38 r to) k + (if k = M 38 r then 1 else 0) = szN M k + (if k = to then 1 else 0) := by
  have h := ct_one (p := fun x => decide ((mS M 38 r to) 37 x = 0) && decide ((mS M 38 r to) 38 x = k)) (q := fun x => decide (M 37 x = 0) && decide (M 38 x = k)) (r := r) (n := M 31 5) hr (fun i hi hne => by
    rw [mS_ne (Or.inl (by decide)), mS_ne (Or.inr hne)])
  simp only [mS_same, mS_ne (M := M) (t := 38) (k := r) (x := to) (t' := 37) (k' := r) (Or.inl (by decide)), h37, decide_true, Bool.true_and, decide_eq_true_eq] at h
  unfold szN
  show fb_ct _ (M 31 5) + _ = _
  have q1 : (if k = M 38 r then 1 else 0) = (if M 38 r = k then 1 else 0 : Nat) := by by_cases e : k = M 38 r <;> simp [e, eq_comm]
  have q2 : (if k = to then 1 else 0) = (if to = k then 1 else 0 : Nat) := by
    by_cases e : k = to
    · simp [e]
    · simp [e, Ne.symm e]
  rw [q1, q2]
  exact h
/-- sizes and pulls that stand for M -/
def PS (σ : HS) (M : MM) : Prop := ∀ k, k < 6 → gI σ 19 0 k = nI (szN M k)
def PP (σ : HS) (M : MM) (r : Nat) : Prop := ∀ k, k < 6 → gJ σ 13 r k = zL (pulK M r k)
def mvH (M : MM) : Nat → BS
  | 0 => (0, 0, 0, 0)
  | i + 1 => mvRow M (hs M i) (mvH M i) (M 31 10)
theorem mv_hs {M : MM} : ∀ {n : Nat}, n ≤ M 31 5 → mvAll M n = mvH M (rkN M n)
  | 0, _ => rfl
  | n + 1, h => by
    rw [rkN_succ]
    show (if M 37 n = 0 then _ else _) = _
    by_cases z : M 37 n = 0
    · rw [if_pos z, if_pos z, mv_hs (by omega)]
      show _ = mvRow M (hs M (rkN M n)) _ _
      rw [hs_of (by omega) z]
    · rw [if_neg z, if_neg z, mv_hs (by omega)]; rfl
def swRH (M : MM) (i : Nat) (s : BS) : Nat → BS
  | 0 => s
  | j + 1 => swStep M (hs M i) (swRH M i s j) (hs M j)
theorem swRow_hs {M : MM} {i : Nat} {s : BS} : ∀ {n : Nat}, n ≤ M 31 5 → swRow M (hs M i) s n = swRH M i s (rkN M n)
  | 0, _ => rfl
  | n + 1, h => by
    rw [rkN_succ]
    show swStep M (hs M i) (swRow M (hs M i) s n) n = _
    by_cases z : M 37 n = 0
    · rw [if_pos z, swRow_hs (by omega)]
      show _ = swStep M (hs M i) _ (hs M (rkN M n))
      rw [hs_of (by omega) z]
    · rw [if_neg z, swRow_hs (by omega)]
      unfold swStep
      rw [if_neg (fun q => z q.2.1)]
      rfl
theorem swRH_skip {M : MM} {i : Nat} {s : BS} (hi : i < hcN M) : ∀ {j : Nat}, j ≤ i + 1 → swRH M i s j = s
  | 0, _ => rfl
  | j + 1, h => by
    show swStep M (hs M i) (swRH M i s j) (hs M j) = s
    rw [swRH_skip hi (by omega)]
    unfold swStep
    rw [if_neg]
    intro z
    have z1 := z.1
    by_cases e : j = i
    · subst e; omega
    · have := hs_mono (M := M) hi (show j < i by omega)
      omega
def swH (M : MM) : Nat → BS
  | 0 => mvH M (hcN M)
  | i + 1 => swRH M i (swH M i) (hcN M)
theorem sw_hs {M : MM} : ∀ {n : Nat}, n ≤ M 31 5 → swAll M n = swH M (rkN M n)
  | 0, _ => mv_hs (Nat.le_refl _)
  | n + 1, h => by
    rw [rkN_succ]
    show (if M 37 n = 0 then _ else _) = _
    by_cases z : M 37 n = 0
    · rw [if_pos z, if_pos z, sw_hs (by omega)]
      show swRow M n _ _ = swRH M (rkN M n) _ _
      have e := swRow_hs (M := M) (i := rkN M n) (s := swH M (rkN M n)) (n := M 31 5) (Nat.le_refl _)
      rw [hs_of (by omega) z] at e
      exact e
    · rw [if_neg z, if_neg z, sw_hs (by omega)]; rfl
theorem bst_hs {M : MM} : bstS M = swH M (hcN M) := sw_hs (Nat.le_refl _)
/-- what the mender has found so far -/
def BSR (σ : HS) (z : BS) : Prop := gJ σ 18 0 2 = zL z.1 ∧ gV σ 18 0 3 = (if z.2.1 = 0 then none else some (z.2.1 - 1)) ∧ gV σ 18 0 4 = (if z.2.2.1 = 0 then none else some (z.2.2.1 - 1)) ∧ (z.2.2.2 ≠ 0 → gI σ 18 0 5 = nI (z.2.2.2 - 1))
theorem mvH_ok {M : MM} (hB : MBd M) (hn : M 31 5 ≤ 40) : ∀ i, i ≤ hcN M → bsOk (M 31 5) (M 31 10) (mvH M i)
  | 0, _ => mvAll_ok hB hn 0 (Nat.zero_le _)
  | i + 1, hi => mvRow_ok hB hn (hs_lt (by omega)) (mvH_ok hB hn i (by omega)) _ (Nat.le_refl _)
theorem swRH_ok {M : MM} (hB : MBd M) (hn : M 31 5 ≤ 40) {i : Nat} (hi : i < hcN M) {z : BS} (h : bsOk (M 31 5) (M 31 10) z) : ∀ j, j ≤ hcN M → bsOk (M 31 5) (M 31 10) (swRH M i z j)
  | 0, _ => h
  | j + 1, hj => by
    have ih := swRH_ok hB hn hi h j (by omega)
    show bsOk _ _ (swStep M (hs M i) (swRH M i z j) (hs M j))
    have l1 := hs_lt hi
    have l2 := hs_lt (M := M) (k := j) (by omega)
    unfold swStep
    split
    · rename_i hc
      have := swpZ_bd hB hn (a := hs M i) (b := hs M j) (by omega) (by omega)
      obtain ⟨h1, h2, h3, h4, h5, h6, h7⟩ := ih
      refine ⟨by dsimp only; omega, by dsimp only; omega, by dsimp only; omega, by dsimp only; omega, h5, fun _ z => by dsimp only at z; omega, fun _ => by dsimp only; omega⟩
    · exact ih
theorem swH_ok {M : MM} (hB : MBd M) (hn : M 31 5 ≤ 40) : ∀ i, i ≤ hcN M → bsOk (M 31 5) (M 31 10) (swH M i)
  | 0, _ => mvH_ok hB hn _ (Nat.le_refl _)
  | i + 1, hi => swRH_ok hB hn (by omega) (swH_ok hB hn i (by omega)) _ (Nat.le_refl _)
