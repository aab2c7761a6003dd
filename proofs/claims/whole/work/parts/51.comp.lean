theorem c10 {M : MM} {r k o : Nat} (hk : k < 3) : cI M 10 (3 * r + k) o = nI (M 35 ((40 * k + r) * 40 + o)) := by
  show nI (M 35 ((40 * ((3 * r + k) % 3) + (3 * r + k) / 3) * 40 + o)) = _
  rw [show (3 * r + k) % 3 = k by omega, show (3 * r + k) / 3 = r by omega]
abbrev nCo : Nat → Prop := fun t => 30 < t
def zI (z : Int) : Int32 := Int32.ofInt z
theorem zI_nI (n : Nat) : nI n = zI (n : Int) := by
  unfold nI zI
  apply Int32.toBitVec_inj.mp
  show BitVec.ofNat 32 n = BitVec.ofInt 32 (n : Int)
  exact (BitVec.ofInt_natCast 32 n).symm
theorem zI_add (a b : Int) : zI a + zI b = zI (a + b) := (Int32.ofInt_add a b).symm
theorem zI_sub (a b : Int) : zI a - zI b = zI (a - b) := (Int32.ofInt_sub a b).symm
theorem zI_toInt {a : Int} (h1 : -2147483648 ≤ a) (h2 : a < 2147483648) : (zI a).toInt = a := fb_ofI h1 h2
theorem zI_zL {a : Int} (h1 : -2147483648 ≤ a) (h2 : a < 2147483648) : (zI a).toInt64 = zL a := by
  apply Int64.toInt_inj.mp
  rw [Int32.toInt_toInt64, zI_toInt h1 h2, zL_toInt (by omega) (by omega)]
/-- how much a routine draws another one into its room -/
def pulZ (M : MM) (a b : Nat) : Int := (tieN M a b : Int) + (if M 39 (40 * a + b) = 1 then 1000000 else if M 39 (40 * a + b) = 2 then -1000000 else 0)
theorem m1_eqm {x : Nat} (h : x ≤ 1000) : nI x - 1 = -1 ↔ x = 0 := by
  rw [← Int32.toInt_inj, m1_toInt h]
  show (x : Int) - 1 = -1 ↔ _
  omega
