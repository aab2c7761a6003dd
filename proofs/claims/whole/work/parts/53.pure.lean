/-! ===== counting bits ===== -/
section JL
variable {p : Program} {l : Launch} {e : Env} {R : Room} {s : State} {m : MethodId} {args : Array Value} {below : List Frame} {meth : Method} {c : Code} {cc : ByteArray} {nL : Nat} {own : String} {Ts : List Cond} {D : va_G} {cy : Nat → ClassId} {base : Nat} {Q : State → Prop} {cells slots pc : Nat} {lv lv' : List (Nat × Value)} {st : List Value} {Λ : LY} {σ : HS}
theorem j_l2i (C : Cx p s m args c cc nL own Ts D cy base) {x : Int64} (v : Int32) (hdg : decode cc pc = .ok (.l2i, 1)) (hv : x.toInt32 = v) (kk : J p l e R s m args below meth c nL D cy base Q cells slots Λ (pc + 1) lv (.int v :: st) σ) : J p l e R s m args below meth c nL D cy base Q cells slots Λ pc lv (.long x :: st) σ := fun H locs ls h hP hS => lv_l2i C.1 C.2.1 hdg hv (kk H locs ls h hP hS)
end JL
def mk8 (c : Nat) : Nat → Nat
  | 0 => 0
  | n + 1 => c + 256 * mk8 c n
theorem tb8 {a h j : Nat} (ha : a < 256) : (a + 256 * h).testBit j = if j < 8 then a.testBit j else h.testBit (j - 8) := by
  have := Nat.testBit_two_pow_mul_add h (i := 8) (b := a) ha j
  rw [Nat.add_comm]
  exact this
theorem sp8 {a h ma mh s : Nat} (ha : a < 256) (hm : ma < 2 ^ (8 - s)) (hs : s < 8) : ((a + 256 * h) / 2 ^ s) &&& (ma + 256 * mh) = ((a / 2 ^ s) &&& ma) + 256 * ((h / 2 ^ s) &&& mh) := by
  have hm2 : ma < 256 := Nat.lt_of_lt_of_le hm (Nat.pow_le_pow_right (n := 2) (j := 8) (by decide) (by omega))
  have hx : (a / 2 ^ s) &&& ma < 256 := Nat.lt_of_le_of_lt Nat.and_le_right hm2
  apply Nat.eq_of_testBit_eq
  intro j
  rw [tb8 hx, Nat.testBit_and, ← Nat.shiftRight_eq_div_pow, Nat.testBit_shiftRight, tb8 hm2, tb8 ha]
  by_cases hj : j < 8
  · rw [if_pos hj, if_pos hj, Nat.testBit_and, ← Nat.shiftRight_eq_div_pow, Nat.testBit_shiftRight]
    by_cases hb : ma.testBit j = true
    · have hjs : j < 8 - s := by
        rcases Nat.lt_or_ge j (8 - s) with q | q
        · exact q
        · have := Nat.testBit_lt_two_pow (x := ma) (i := j) (Nat.lt_of_lt_of_le hm (Nat.pow_le_pow_right (by decide) q))
          rw [this] at hb
          cases hb
      rw [if_pos (by omega)]
    · have hb : ma.testBit j = false := by simpa using hb
      rw [hb, Bool.and_false, Bool.and_false]
  · rw [if_neg hj, if_neg hj, if_neg (by omega), Nat.testBit_and, ← Nat.shiftRight_eq_div_pow, Nat.testBit_shiftRight]
    congr 2
    omega
def s1 (n m : Nat) : Nat := m - ((m / 2) &&& mk8 85 n)
def s2 (n m : Nat) : Nat := (m &&& mk8 51 n) + ((m / 4) &&& mk8 51 n)
def s3 (n m : Nat) : Nat := (m + m / 16) &&& mk8 15 n
def b1 (a : Nat) : Nat := a - ((a / 2) &&& 85)
def b2 (a : Nat) : Nat := (a &&& 51) + ((a / 4) &&& 51)
def b3 (a : Nat) : Nat := (a + a / 16) % 16
def pc8 (a : Nat) : Nat := fb_ct (fun j => a.testBit j) 8
theorem byt_ok : ∀ a, a < 256 → b1 a < 256 ∧ b2 (b1 a) < 256 ∧ b2 (b1 a) % 16 ≤ 4 ∧ b2 (b1 a) / 16 ≤ 4 ∧ b3 (b2 (b1 a)) = pc8 a ∧ pc8 a ≤ 8 := by
  intro a ha
  have h : ∀ y : Fin 256, b1 y.val < 256 ∧ b2 (b1 y.val) < 256 ∧ b2 (b1 y.val) % 16 ≤ 4 ∧ b2 (b1 y.val) / 16 ≤ 4 ∧ b3 (b2 (b1 y.val)) = pc8 y.val ∧ pc8 y.val ≤ 8 := by decide +kernel
  exact h ⟨a, ha⟩
theorem s1_split {n a h : Nat} (ha : a < 256) : s1 (n + 1) (a + 256 * h) = b1 a + 256 * s1 n h := by
  unfold s1 b1
  have e := sp8 (a := a) (h := h) (ma := 85) (mh := mk8 85 n) (s := 1) ha (by decide) (by decide)
  have e2 : (a + 256 * h) / 2 &&& mk8 85 (n + 1) = (a / 2 &&& 85) + 256 * (h / 2 &&& mk8 85 n) := e
  rw [e2]
  have h1 : (a / 2) &&& 85 ≤ a := Nat.le_trans Nat.and_le_left (Nat.div_le_self _ _)
  have h2 : (h / 2) &&& mk8 85 n ≤ h := Nat.le_trans Nat.and_le_left (Nat.div_le_self _ _)
  omega
theorem s2_split {n a h : Nat} (ha : a < 256) : s2 (n + 1) (a + 256 * h) = b2 a + 256 * s2 n h := by
  unfold s2 b2
  have e := sp8 (a := a) (h := h) (ma := 51) (mh := mk8 51 n) (s := 2) ha (by decide) (by decide)
  have e2 : (a + 256 * h) / 4 &&& mk8 51 (n + 1) = (a / 4 &&& 51) + 256 * (h / 4 &&& mk8 51 n) := e
  have f := sp8 (a := a) (h := h) (ma := 51) (mh := mk8 51 n) (s := 0) ha (by decide) (by decide)
  have f2 : (a + 256 * h) &&& mk8 51 (n + 1) = (a &&& 51) + 256 * (h &&& mk8 51 n) := by
    have g := f
    simp only [Nat.pow_zero, Nat.div_one] at g
    exact g
  rw [e2, f2]
  omega
theorem s3_split {n a h : Nat} (h1 : a % 16 ≤ 4) (h2 : a / 16 ≤ 4) (h3 : h % 16 ≤ 4) : s3 (n + 1) (a + 256 * h) = b3 a + 256 * s3 n h := by
  unfold s3 b3
  have e : (a + 256 * h) + (a + 256 * h) / 16 = (a + a / 16 + 16 * (h % 16)) + 256 * (h + h / 16) := by omega
  have hx : a + a / 16 + 16 * (h % 16) < 256 := by omega
  have f := sp8 (a := a + a / 16 + 16 * (h % 16)) (h := h + h / 16) (ma := 15) (mh := mk8 15 n) (s := 0) hx (by decide) (by decide)
  simp only [Nat.pow_zero, Nat.div_one] at f
  have g : (a + a / 16 + 16 * (h % 16)) &&& 15 = (a + a / 16) % 16 := by
    have : (a + a / 16 + 16 * (h % 16)) &&& (2 ^ 4 - 1) = _ := Nat.and_two_pow_sub_one_eq_mod _ 4
    rw [show (15 : Nat) = 2 ^ 4 - 1 from rfl, this]
    omega
  rw [e]
  show _ &&& (15 + 256 * mk8 15 n) = _
  rw [f, g]
/-- the bytes' counts, a byte each -/
def cby : Nat → Nat → Nat
  | 0, _ => 0
  | n + 1, m => pc8 (m % 256) + 256 * cby n (m / 256)
theorem s12_low : ∀ n m, m < 256 ^ n → s2 n (s1 n m) % 16 ≤ 4 ∧ s3 n (s2 n (s1 n m)) = cby n m
  | 0, m, h => by
    have e : m = 0 := by simp at h; exact h
    subst e
    decide
  | n + 1, m, h => by
    have hm : m = m % 256 + 256 * (m / 256) := by omega
    have ha : m % 256 < 256 := Nat.mod_lt _ (by decide)
    have hh : m / 256 < 256 ^ n := by
      rw [Nat.pow_succ] at h
      exact Nat.div_lt_of_lt_mul (by rw [Nat.mul_comm]; exact h)
    obtain ⟨i1, i2⟩ := s12_low n (m / 256) hh
    obtain ⟨k1, k2, k3, k4, k5, k6⟩ := byt_ok (m % 256) ha
    have e1 : s1 (n + 1) m = b1 (m % 256) + 256 * s1 n (m / 256) := by
      conv => lhs; rw [hm]
      exact s1_split ha
    have e2 : s2 (n + 1) (s1 (n + 1) m) = b2 (b1 (m % 256)) + 256 * s2 n (s1 n (m / 256)) := by rw [e1]; exact s2_split k1
    refine ⟨by rw [e2]; omega, ?_⟩
    rw [e2, s3_split k3 k4 i1, k5, i2]
    rfl
def popN (m : Nat) : Nat := fb_ct (fun j => m.testBit j) 40
theorem pop_split {a h n : Nat} (ha : a < 256) : fb_ct (fun j => (a + 256 * h).testBit j) (8 + n) = pc8 a + fb_ct (fun j => h.testBit j) n := by
  rw [fb_ct_split]
  congr 1
  · exact fb_ct_cong (fun k hk => by rw [tb8 ha, if_pos hk])
  · exact fb_ct_cong (fun k hk => by rw [tb8 ha, if_neg (by omega)]; congr 1; omega)
theorem bc_sum {c0 c1 c2 c3 c4 : Nat} (h0 : c0 ≤ 8) (h1 : c1 ≤ 8) (h2 : c2 ≤ 8) (h3 : c3 ≤ 8) (h4 : c4 ≤ 8) (y y1 y2 y3 : Nat) (e : y = c0 + 256 * (c1 + 256 * (c2 + 256 * (c3 + 256 * (c4 + 256 * 0))))) (e1 : y1 = y + y / 256) (e2 : y2 = y1 + y1 / 65536) (e3 : y3 = y2 + y2 / 4294967296) : y3 % 128 = c0 + c1 + c2 + c3 + c4 ∧ y3 < 2 ^ 50 ∧ y2 < 2 ^ 50 ∧ y1 < 2 ^ 50 := by
  have f1 : y1 = (c0 + c1) + 256 * ((c1 + c2) + 256 * ((c2 + c3) + 256 * ((c3 + c4) + 256 * c4))) := by omega
  have f2 : y2 = (c0 + c1 + c2 + c3) + 256 * ((c1 + c2 + c3 + c4) + 256 * ((c2 + c3 + c4) + 256 * ((c3 + c4) + 256 * c4))) := by omega
  have f3 : y3 = (c0 + c1 + c2 + c3 + c4) + 256 * ((c1 + c2 + c3 + c4) + 256 * ((c2 + c3 + c4) + 256 * ((c3 + c4) + 256 * c4))) := by omega
  omega
theorem and_high {x a b : Nat} (hx : x < 2 ^ 40) (ha : a < 2 ^ 40) : x &&& (a + 1099511627776 * b) = x &&& a := by
  apply Nat.eq_of_testBit_eq
  intro j
  rw [Nat.testBit_and, Nat.testBit_and]
  have h := Nat.testBit_two_pow_mul_add b (i := 40) (b := a) ha j
  rw [Nat.add_comm a, show (1099511627776 : Nat) = 2 ^ 40 from rfl, h]
  by_cases hj : j < 40
  · rw [if_pos hj]
  · rw [Nat.testBit_lt_two_pow (Nat.lt_of_lt_of_le hx (Nat.pow_le_pow_right (by decide) (by omega)))]
    rfl
/-- Long.bitCount, of numbers below 2^40 -/
theorem bitcount {m : Nat} (hm : m < 2 ^ 40) : ∀ x1 x2 x3 y1 y2 y3 : Nat, x1 = m - ((m / 2) &&& 6148914691236517205) → x2 = (x1 &&& 3689348814741910323) + ((x1 / 4) &&& 3689348814741910323) → x3 = (x2 + x2 / 16) &&& 1085102592571150095 → y1 = x3 + x3 / 256 → y2 = y1 + y1 / 65536 → y3 = y2 + y2 / 4294967296 → y3 % 128 = popN m ∧ x1 ≤ m ∧ x2 < 2 ^ 42 ∧ x3 < 2 ^ 43 ∧ y1 < 2 ^ 50 ∧ y2 < 2 ^ 50 ∧ y3 < 2 ^ 50 := by
  intro x1 x2 x3 y1 y2 y3 e1 e2 e3 f1 f2 f3
  have a5 : (6148914691236517205 : Nat) = mk8 85 5 + 1099511627776 * mk8 85 3 := by decide
  have a3 : (3689348814741910323 : Nat) = mk8 51 5 + 1099511627776 * mk8 51 3 := by decide
  have a1 : (1085102592571150095 : Nat) = mk8 15 5 + 1099511627776 * mk8 15 3 := by decide
  have l5 : mk8 85 5 < 2 ^ 40 := by decide
  have l3 : mk8 51 5 < 2 ^ 40 := by decide
  have l1 : mk8 15 5 < 2 ^ 40 := by decide
  have g1 : x1 = s1 5 m := by rw [e1, a5, and_high (by omega) l5]; rfl
  have hx1 : x1 ≤ m := by rw [e1]; omega
  have g2 : x2 = s2 5 x1 := by rw [e2, a3, and_high (by omega) l3, and_high (by omega) l3]; rfl
  have b51 : x1 &&& mk8 51 5 ≤ mk8 51 5 := Nat.and_le_right
  have b52 : x1 / 4 &&& mk8 51 5 ≤ mk8 51 5 := Nat.and_le_right
  have v51 : mk8 51 5 = 219902325555 := by decide
  have hx2 : x2 ≤ 439804651110 := by rw [g2]; unfold s2; omega
  have g3 : x3 = s3 5 x2 := by rw [e3, a1, and_high (by omega) l1]; rfl
  obtain ⟨-, h2⟩ := s12_low 5 m (by rw [show (256 : Nat) ^ 5 = 2 ^ 40 from rfl]; exact hm)
  have g4 : x3 = cby 5 m := by rw [g3, g2, g1, h2]
  have p0 := (byt_ok (m % 256) (by omega)).2.2.2.2.2
  have p1 := (byt_ok (m / 256 % 256) (by omega)).2.2.2.2.2
  have p2 := (byt_ok (m / 256 / 256 % 256) (by omega)).2.2.2.2.2
  have p3 := (byt_ok (m / 256 / 256 / 256 % 256) (by omega)).2.2.2.2.2
  have p4 := (byt_ok (m / 256 / 256 / 256 / 256 % 256) (by omega)).2.2.2.2.2
  obtain ⟨q1, q2, q3, q4⟩ := bc_sum p0 p1 p2 p3 p4 x3 y1 y2 y3 g4 f1 f2 f3
  have hpop : popN m = pc8 (m % 256) + pc8 (m / 256 % 256) + pc8 (m / 256 / 256 % 256) + pc8 (m / 256 / 256 / 256 % 256) + pc8 (m / 256 / 256 / 256 / 256 % 256) := by
    have k : ∀ x n, fb_ct (fun j => x.testBit j) (8 + n) = pc8 (x % 256) + fb_ct (fun j => (x / 256).testBit j) n := fun x n => by
      have := pop_split (a := x % 256) (h := x / 256) (n := n) (by omega)
      rw [show x % 256 + 256 * (x / 256) = x by omega] at this
      exact this
    unfold popN
    rw [show (40 : Nat) = 8 + (8 + (8 + (8 + (8 + 0)))) from rfl, k, k, k, k, k]
    show _ + (_ + (_ + (_ + (_ + 0)))) = _
    omega
  have hx3 : x3 < 2 ^ 43 := by
    have : x3 ≤ y1 := by omega
    have w : x3 = pc8 (m % 256) + 256 * (pc8 (m / 256 % 256) + 256 * (pc8 (m / 256 / 256 % 256) + 256 * (pc8 (m / 256 / 256 / 256 % 256) + 256 * (pc8 (m / 256 / 256 / 256 / 256 % 256) + 256 * 0)))) := g4
    omega
  exact ⟨by rw [q1, hpop], hx1, by omega, hx3, q4, q3, q2⟩
theorem pop_bitS {p : Nat → Bool} {n : Nat} (hn : n ≤ 40) : popN (bitS p n) = fb_ct p n := by
  unfold popN
  rw [show 40 = n + (40 - n) by omega, fb_ct_split, fb_ct_skip (n := 40 - n) (fun k hk => by rw [bitS_bit]; simp; omega), Nat.add_zero]
  exact fb_ct_cong (fun k hk => by rw [bitS_bit]; simp [hk])
