/-! ===== the reference's public calls: its state, whatever 'thrown' holds ===== -/
def MR0 (Λ : LY) (σ : HS) (M : MM) : Prop := ∃ x, MR Λ σ (mS M 31 0 x)
theorem mS_twice (M : MM) (t k x y : Nat) : mS (mS M t k x) t k y = mS M t k y := by
  funext t' k'
  unfold mS
  by_cases h : t' = t ∧ k' = k
  · rw [if_pos h, if_pos h]
  · rw [if_neg h, if_neg h, if_neg h]
theorem mS_self {M : MM} {t k x : Nat} (h : M t k = x) : mS M t k x = M := by
  funext t' k'
  unfold mS
  by_cases hz : t' = t ∧ k' = k
  · rw [if_pos hz, hz.1, hz.2, h]
  · rw [if_neg hz]
theorem MR0.start {Λ : LY} {σ : HS} {M : MM} (h : MR0 Λ σ M) (h0 : M 31 0 = 0) : MR Λ (sI σ 31 0 0 (nI 0)) M := by
  obtain ⟨x, hx⟩ := h
  have q := MR.set (t := 31) (k := 0) (x := 0) (v := nI 0) hx rfl
  rw [mS_twice, mS_self h0] at q
  exact q
theorem MR0.in0 {Λ : LY} {σ : HS} {M : MM} (h : MR0 Λ σ M) : 0 < gC Λ 31 := by
  obtain ⟨x, hx⟩ := h
  exact hx.in0 (by decide) (by decide)
theorem MBd.set {M : MM} {t k x : Nat} (h : MBd M) (hx : x ≤ mB t k) : MBd (mS M t k x) := by
  intro t' k' hk
  unfold mS
  by_cases hz : t' = t ∧ k' = k
  · rw [if_pos hz, hz.1, hz.2]
    exact hx
  · rw [if_neg hz]
    exact h t' k' hk
theorem inR_nI {M : MM} {j : Nat} (hB : MBd M) (h : j < M 31 5) : inR M (nI j) = true := by
  have hn : M 31 5 ≤ 40 := hB 31 5 rfl
  exact decide_eq_true ⟨nI_pos' (by omega), nI_lt h (by omega)⟩
theorem inR_of {M : MM} {r : Int32} (hB : MBd M) (h : inR M r = true) : ∃ j, j < M 31 5 ∧ r = nI j := by
  have hn : M 31 5 ≤ 40 := hB 31 5 rfl
  obtain ⟨h1, h2⟩ := of_decide_eq_true h
  obtain ⟨j, hj, e⟩ := nI_of (x := r) (Int32.not_lt.mpr h1)
  subst e
  exact ⟨j, (nI_ltI hj (by omega)).mp h2, rfl⟩
theorem inRm_nI {M : MM} {j : Nat} (hB : MBd M) (h : j < M 31 10) : inRm M (nI j) = true := by
  have hn : M 31 10 ≤ 40 := hB 31 10 rfl
  exact decide_eq_true ⟨nI_pos' (by omega), nI_lt h (by omega)⟩
theorem inRm_of {M : MM} {r : Int32} (hB : MBd M) (h : inRm M r = true) : ∃ j, j < M 31 10 ∧ r = nI j := by
  have hn : M 31 10 ≤ 40 := hB 31 10 rfl
  obtain ⟨h1, h2⟩ := of_decide_eq_true h
  obtain ⟨j, hj, e⟩ := nI_of (x := r) (Int32.not_lt.mpr h1)
  subst e
  exact ⟨j, (nI_ltI hj (by omega)).mp h2, rfl⟩
/-- better: so many steps at most -/
def btr : Nat → MM → Nat × MM
  | 0, M => (0, M)
  | f + 1, M => if betB M = true then ((btr f (betM M)).1 + 1, (btr f (betM M)).2) else (0, M)
theorem betM_nk {M : MM} {t : Nat} (h : t ≠ 38) : betM M t = M t := by
  unfold betM
  split
  · rfl
  · split
    · exact mS_nk h
    · rw [mS_nk h, mS_nk h]
theorem betM_B {M : MM} (hB : MBd M) (hR : M 31 10 ≤ 6) : MBd (betM M) := by
  have hn : M 31 5 ≤ 40 := hB 31 5 rfl
  have hok : bsOk (M 31 5) (M 31 10) (bstS M) := swAll_ok hB hn _ (Nat.le_refl _)
  obtain ⟨h1, h2, h3, h4, h5, h6, h7⟩ := hok
  unfold betM
  split
  · exact hB
  · rename_i q1
    split
    · refine hB.set ?_
      show _ ≤ 5
      omega
    · rename_i q2
      refine MBd.set (hB.set ?_) ?_
      · exact hB 38 _ (decide_eq_true (show _ < 40 by omega))
      · exact hB 38 _ (decide_eq_true (show _ < 40 by omega))
/-- border: the least of the moves to other rooms -/
def bdrZ (M : MM) (r : Nat) : Nat → Option Int
  | 0 => none
  | k + 1 => if k = M 38 r then bdrZ M r k else match bdrZ M r k with
    | none => some (movZ M r k)
    | some z => some (if movZ M r k < z then movZ M r k else z)
theorem m1_toInt {x : Nat} (h : x ≤ 1000) : (nI x - 1).toInt = (x : Int) - 1 := pk_sub_toInt (a := x) (b := 1) (by omega) (by decide)
theorem m1_lt1 {x : Nat} (h : x ≤ 6) : nI x - 1 < -1 ↔ False := by
  rw [Int32.lt_iff_toInt_lt, m1_toInt (by omega)]
  show (x : Int) - 1 < -1 ↔ _
  exact ⟨fun h => absurd h (by omega), fun h => h.elim⟩
theorem m1_lt6 {x : Nat} (h : x ≤ 6) : nI x - 1 < nI 6 ↔ True := by
  rw [Int32.lt_iff_toInt_lt, m1_toInt (by omega), nI_toInt (by decide)]
  exact ⟨fun _ => trivial, fun _ => by omega⟩
theorem bdrZ_bd {M : MM} (hB : MBd M) {r : Nat} (hr : r < 40) : ∀ {k : Nat} {z : Int}, bdrZ M r k = some z → -3000000000 ≤ z ∧ z ≤ 3000000000
  | 0, z, h => by cases h
  | k + 1, z, h => by
    have hn : M 31 5 ≤ 40 := hB 31 5 rfl
    have hm := movZ_bd hB hn (r := r) (room := k) hr
    unfold bdrZ at h
    split at h
    · exact bdrZ_bd hB hr h
    · split at h
      · cases h
        exact hm
      · rename_i z2 h2
        have := bdrZ_bd hB hr h2
        cases h
        split <;> omega
theorem bdr_0 {M : MM} {r k : Nat} (h1 : k ≠ M 38 r) (h2 : bdrZ M r k = none) : bdrZ M r (k + 1) = some (movZ M r k) := by
  show (if k = M 38 r then bdrZ M r k else _) = _
  rw [if_neg h1, h2]
theorem bdr_1 {M : MM} {r k : Nat} {z : Int} (h1 : k ≠ M 38 r) (h2 : bdrZ M r k = some z) : bdrZ M r (k + 1) = some (if movZ M r k < z then movZ M r k else z) := by
  show (if k = M 38 r then bdrZ M r k else _) = _
  rw [if_neg h1, h2]
theorem bdr_2 {M : MM} {r k : Nat} (h1 : k = M 38 r) : bdrZ M r (k + 1) = bdrZ M r k := by
  show (if k = M 38 r then bdrZ M r k else _) = _
  rw [if_pos h1]
def bdrV (M : MM) (r : Nat) : Int := if M 37 r ≠ 0 ∨ M 31 10 = 1 then 1000000000 else (bdrZ M r (M 31 10)).getD 0
theorem betM_id {M : MM} (h : betB M = false) : betM M = M := by
  unfold betM
  rw [if_pos (Decidable.of_not_not (of_decide_eq_false h))]
theorem btr_no {M : MM} (f : Nat) (h : betB M = false) : btr f M = (0, M) := by
  cases f with
  | zero => rfl
  | succ f => unfold btr; rw [if_neg (by rw [h]; decide)]
theorem btr_yes {M : MM} (f : Nat) (h : betB M = true) : btr (f + 1) M = ((btr f (betM M)).1 + 1, (btr f (betM M)).2) := by
  show (if betB M = true then _ else _) = _
  rw [if_pos h]
def tieV (M : MM) (i j k n : Nat) : Nat := if 999999 < M 35 ((40 * k + i) * 40 + j) + n then 999999 else M 35 ((40 * k + i) * 40 + j) + n
def tieM (M : MM) (i j k n : Nat) : MM := if k = 0 then mS M 35 ((40 * k + i) * 40 + j) (tieV M i j k n) else mS (mS M 35 ((40 * k + i) * 40 + j) (tieV M i j k n)) 35 ((40 * k + j) * 40 + i) (tieV M i j k n)
theorem tieV_le {M : MM} {i j k n : Nat} : tieV M i j k n ≤ 999999 := by unfold tieV; split <;> omega
/-- what set takes -/
def sOk (w v : Int32) : Prop := 0 ≤ w.toInt ∧ w.toInt ≤ 5 ∧ (w.toInt = 5 → 1 ≤ v.toInt) ∧ 0 ≤ v.toInt ∧ (w.toInt < 3 → v.toInt ≤ 9) ∧ (w.toInt = 3 → v.toInt ≤ 100) ∧ (w.toInt = 4 → v.toInt ≤ 40) ∧ (w.toInt = 5 → v.toInt ≤ 6)
/-- what set sets: the kind and the place -/
def setT (w : Nat) : Nat := if w < 3 then 36 else 31
def setK (w : Nat) : Nat := if w < 3 then w else w + 5
/-! ===== feed and routine ===== -/
def bytN (v : Int32) (j : Nat) : Nat := v.toBitVec.toNat / 2 ^ (24 - 8 * j) % 256
def wrd (a b c d e : Int32) : Nat → Int32
  | 0 => a | 1 => b | 2 => c | 3 => d | _ => e
def fedB (a b c d e : Int32) (i : Nat) : Nat := bytN (wrd a b c d e (i / 4)) (i % 4)
theorem bytN_lt (v : Int32) (j : Nat) : bytN v j < 256 := Nat.mod_lt _ (by decide)
theorem by8 (x : Int32) : x.toInt8.toInt32 = (nI (x.toBitVec.toNat % 256)).toInt8.toInt32 := by
  rw [← fa_byte_low x, pk_and x 8 (by decide)]
theorem shr_byte (v : Int32) {j : Nat} (hj : j < 4) : (v >>> (nI (24 - 8 * j) &&& 31)).toBitVec.toNat % 256 = bytN v j := by
  have hs : ((nI (24 - 8 * j) &&& 31).toBitVec.smod 32).toNat = 24 - 8 * j := s_l _ (by omega)
  have hb : ∀ i, i < 8 → (v >>> (nI (24 - 8 * j) &&& 31)).toBitVec.toNat.testBit i = v.toBitVec.toNat.testBit (24 - 8 * j + i) := by
    intro i hi
    show ((v.toBitVec.sshiftRight' ((nI (24 - 8 * j) &&& 31).toBitVec.smod 32)).toNat).testBit i = _
    rw [BitVec.testBit_toNat, BitVec.sshiftRight', BitVec.getLsbD_sshiftRight, hs, BitVec.testBit_toNat]
    simp [show ¬ 32 ≤ i by omega, show 24 - 8 * j + i < 32 by omega]
  apply Nat.eq_of_testBit_eq
  intro i
  unfold bytN
  rw [show (256 : Nat) = 2 ^ 8 from rfl, Nat.testBit_mod_two_pow, Nat.testBit_mod_two_pow, ← Nat.shiftRight_eq_div_pow, Nat.testBit_shiftRight]
  by_cases hi : i < 8
  · rw [hb i hi]
  · simp [hi]
def feedTo (M : MM) (tl : Nat) (f : Nat → Nat) (q : Nat) : MM := fun t k => if t = 32 ∧ tl ≤ k ∧ k < tl + q then f (k - tl) else if t = 31 ∧ k = 2 then tl + q else M t k
theorem feedTo_0 {M : MM} {f : Nat → Nat} : feedTo M (M 31 2) f 0 = M := by
  funext t k
  unfold feedTo
  rw [if_neg (fun z => absurd z.2 (by omega))]
  by_cases h : t = 31 ∧ k = 2
  · rw [if_pos h, h.1, h.2]; rfl
  · rw [if_neg h]
theorem feedTo_succ {M : MM} {tl q x y : Nat} {f : Nat → Nat} (hx : x = f q) (hy : y = tl + q + 1) : mS (mS (feedTo M tl f q) 32 (tl + q) x) 31 2 y = feedTo M tl f (q + 1) := by
  subst hx
  subst hy
  funext t k
  unfold mS feedTo
  by_cases h1 : t = 31 ∧ k = 2
  · rw [if_pos h1, if_neg (by omega), if_pos h1]; omega
  · rw [if_neg h1, if_neg h1, if_neg h1]
    by_cases h2 : t = 32 ∧ k = tl + q
    · rw [if_pos h2, if_pos ⟨h2.1, by omega, by omega⟩, h2.2]
      congr 1
      omega
    · rw [if_neg h2]
      by_cases h3 : t = 32 ∧ tl ≤ k ∧ k < tl + q
      · rw [if_pos h3, if_pos ⟨h3.1, h3.2.1, by omega⟩]
      · rw [if_neg h3, if_neg (fun z => h3 ⟨z.1, z.2.1, by
          have : k ≠ tl + q := fun e => h2 ⟨z.1, e⟩
          omega⟩)]
theorem feedTo_2 {M : MM} {tl q : Nat} {f : Nat → Nat} : feedTo M tl f q 31 2 = tl + q := by
  unfold feedTo
  rw [if_neg (by omega), if_pos ⟨rfl, rfl⟩]
/-- a letter or the underscore -/
def isLet (x : Nat) : Bool := decide ((97 ≤ x ∧ x ≤ 122) ∨ x = 95)
def allL (M : MM) : Nat → Bool
  | 0 => true
  | i + 1 => allL M i && isLet (M 32 i)
def nameB (M : MM) (n : Nat) : Bool := decide (1 ≤ n ∧ n ≤ 20) && allL M n
theorem allL_mono {M : MM} {i : Nat} (h : allL M i = false) : ∀ {n : Nat}, i ≤ n → allL M n = false
  | 0, hn => by rw [show (0 : Nat) = i by omega]; exact h
  | n + 1, hn => by
    by_cases e : i = n + 1
    · rw [← e]; exact h
    · show (allL M n && _) = false
      rw [allL_mono h (by omega)]
      rfl
theorem allL_at {M : MM} : ∀ {n k : Nat}, allL M n = true → k < n → isLet (M 32 k) = true
  | 0, k, _, hk => by omega
  | n + 1, k, h, hk => by
    have h2 : (allL M n && isLet (M 32 n)) = true := h
    rw [Bool.and_eq_true] at h2
    by_cases e : k = n
    · rw [e]; exact h2.2
    · exact allL_at h2.1 (by omega)
theorem isLet_lt {x : Nat} (h : isLet x = true) : x < 128 := by
  have := of_decide_eq_true h
  omega
theorem sb_lt97 : ∀ x, x ≤ 255 → ((nI x).toInt8.toInt32 < nI 97 ↔ (x < 97 ∨ 128 ≤ x)) := by
  intro x hx
  have h : ∀ y : Fin 256, ((nI y.val).toInt8.toInt32 < nI 97 ↔ (y.val < 97 ∨ 128 ≤ y.val)) := by decide +kernel
  exact h ⟨x, by omega⟩
theorem sb_le122 : ∀ x, x ≤ 255 → ((nI x).toInt8.toInt32 ≤ nI 122 ↔ (x ≤ 122 ∨ 128 ≤ x)) := by
  intro x hx
  have h : ∀ y : Fin 256, ((nI y.val).toInt8.toInt32 ≤ nI 122 ↔ (y.val ≤ 122 ∨ 128 ≤ y.val)) := by decide +kernel
  exact h ⟨x, by omega⟩
theorem sb_eq95 : ∀ x, x ≤ 255 → ((nI x).toInt8.toInt32 = nI 95 ↔ x = 95) := by
  intro x hx
  have h : ∀ y : Fin 256, ((nI y.val).toInt8.toInt32 = nI 95 ↔ y.val = 95) := by decide +kernel
  exact h ⟨x, by omega⟩
def eqN (M : MM) (r : Nat) : Nat → Bool
  | 0 => true
  | i + 1 => eqN M r i && decide (M 33 (20 * r + i) = M 32 i)
def hasN (M : MM) (r n : Nat) : Bool := decide (M 34 r = n) && eqN M r n
theorem eqN_mono {M : MM} {r i : Nat} (h : eqN M r i = false) : ∀ {n : Nat}, i ≤ n → eqN M r n = false
  | 0, hn => by rw [show (0 : Nat) = i by omega]; exact h
  | n + 1, hn => by
    by_cases e : i = n + 1
    · rw [← e]; exact h
    · show (eqN M r n && _) = false
      rw [eqN_mono h (by omega)]
      rfl
/-- the name comes behind the others -/
def cpyN (M : MM) (b i : Nat) : MM := fun t k => if t = 33 ∧ b ≤ k ∧ k < b + i then M 32 (k - b) else M t k
theorem cpyN_0 {M : MM} {b : Nat} : cpyN M b 0 = M := by
  funext t k
  unfold cpyN
  rw [if_neg (fun z => absurd z.2 (by omega))]
theorem cpyN_nk {M : MM} {b i t : Nat} (h : t ≠ 33) : cpyN M b i t = M t := by
  funext k
  unfold cpyN
  rw [if_neg (fun z => h z.1)]
theorem cpyN_succ {M : MM} {b i : Nat} : mS (cpyN M b i) 33 (b + i) (M 32 i) = cpyN M b (i + 1) := by
  funext t k
  unfold mS cpyN
  by_cases h2 : t = 33 ∧ k = b + i
  · rw [if_pos h2, if_pos ⟨h2.1, by omega, by omega⟩, h2.2]
    congr 1
    omega
  · rw [if_neg h2]
    by_cases h3 : t = 33 ∧ b ≤ k ∧ k < b + i
    · rw [if_pos h3, if_pos ⟨h3.1, h3.2.1, by omega⟩]
    · rw [if_neg h3, if_neg (fun z => h3 ⟨z.1, z.2.1, by
          have : k ≠ b + i := fun e => h2 ⟨z.1, e⟩
          omega⟩)]
def newM (M : MM) (n : Nat) : MM := mS (mS (mS (cpyN M (20 * M 31 5) n) 34 (M 31 5) n) 40 (M 31 5) 0) 31 5 (M 31 5 + 1)
theorem cpyN_B {M : MM} {b i : Nat} (hB : MBd M) (hi : i ≤ 40) : MBd (cpyN M b i) := by
  intro t k hk
  unfold cpyN
  by_cases h : t = 33 ∧ b ≤ k ∧ k < b + i
  · rw [if_pos h, h.1]
    exact hB 32 _ (decide_eq_true (show _ < 40 by omega))
  · rw [if_neg h]
    exact hB t k hk
theorem x8_toInt {j : Nat} (h : j ≤ 4) : (nI (32 - 8 * j) - nI 8).toInt = 24 - 8 * (j : Int) := by
  rw [pk_sub_toInt (by omega) (by decide)]
  omega
theorem x8_neg {j : Nat} (h : j ≤ 4) : nI (32 - 8 * j) - nI 8 < 0 ↔ j = 4 := by
  rw [Int32.lt_iff_toInt_lt, x8_toInt h]
  show 24 - 8 * (j : Int) < 0 ↔ _
  omega
theorem x8_pos {j : Nat} (h : j < 4) : nI (32 - 8 * j) - nI 8 = nI (24 - 8 * j) := by
  rw [pk_sub (by omega)]
  congr 1
  omega
theorem x8_dec {j : Nat} (h : j < 4) : nI (32 - 8 * j) - nI 8 + Int32.ofInt (-8) = nI (32 - 8 * (j + 1)) - nI 8 := by
  rw [show 32 - 8 * j = (32 - 8 * (j + 1)) + 8 by omega, ← nI_add]
  generalize nI (32 - 8 * (j + 1)) = x
  have : Int32.ofInt (-8) = - nI 8 := by decide
  rw [this, Int32.add_sub_cancel, Int32.sub_eq_add_neg]
theorem nameB_no {M : MM} {i n : Nat} (h : (decide (1 ≤ n ∧ n ≤ 20) && allL M i) = false) (hi : i ≤ n) : nameB M n = false := by
  unfold nameB
  rw [Bool.and_eq_false_iff] at h ⊢
  exact h.imp id (fun z => allL_mono z hi)
theorem hasN_no {M : MM} {r i n : Nat} (h : (decide (M 34 r = n) && eqN M r i) = false) (hi : i ≤ n) : hasN M r n = false := by
  unfold hasN
  rw [Bool.and_eq_false_iff] at h ⊢
  exact h.imp id (fun z => eqN_mono z hi)
theorem nameB_len {M : MM} {n : Nat} (h : nameB M n = true) : 1 ≤ n ∧ n ≤ 20 := by
  unfold nameB at h
  rw [Bool.and_eq_true] at h
  exact of_decide_eq_true h.1
theorem nameB_lt {M : MM} {n : Nat} (h : nameB M n = true) : ∀ k, k < n → M 32 k < 128 := by
  unfold nameB at h
  rw [Bool.and_eq_true] at h
  exact fun k hk => isLet_lt (allL_at h.2 hk)
