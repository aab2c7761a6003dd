theorem zL_lN (n : Nat) : zL (n : Int) = lN n := rfl
theorem ch_or {lo hi : Nat} (h1 : lo < 2 ^ 20) (h2 : hi < 2 ^ 20) : (nI lo).toInt64 ||| ((nI hi).toInt64 <<< ((nI 20).toInt64 &&& 63)) = lN (lo + 2 ^ 20 * hi) := by
  rw [nI_zL (by omega), nI_zL (by omega), zL_lN, zL_lN]
  apply Int64.toBitVec_inj.mp
  rw [Int64.toBitVec_or, Int64.toBitVec_shiftLeft, lN_bv, lN_bv, lN_bv]
  apply BitVec.eq_of_toNat_eq
  have e : ((nI 20).toInt64 &&& 63).toBitVec.smod 64 = 20#64 := by decide
  rw [e]
  rw [BitVec.toNat_or, BitVec.toNat_ofNat, BitVec.toNat_ofNat, Nat.mod_eq_of_lt (by omega), Nat.mod_eq_of_lt (by omega)]
  have e2 : (BitVec.ofNat 64 hi <<< 20#64).toNat = 2 ^ 20 * hi := by
    rw [BitVec.shiftLeft_eq', BitVec.toNat_shiftLeft, BitVec.toNat_ofNat, Nat.mod_eq_of_lt (show hi < 2 ^ 64 by omega), Nat.shiftLeft_eq]
    show hi * 2 ^ 20 % 2 ^ 64 = _
    rw [Nat.mod_eq_of_lt (by omega), Nat.mul_comm]
  rw [e2, Nat.or_comm, ← Nat.two_pow_add_eq_or_of_lt h1, Nat.add_comm]
theorem cg_and (x : Int32) : x &&& (-1048576 : Int32) = 0 ↔ 0 ≤ x.toInt ∧ x.toInt < 1048576 := by
  have hb : x &&& (-1048576 : Int32) = 0 ↔ x.toBitVec.toNat < 1048576 := by
    constructor
    · intro h
      have h2 : (x &&& (-1048576 : Int32)).toBitVec.toNat = 0 := by rw [h]; rfl
      rw [Int32.toBitVec_and, BitVec.toNat_and] at h2
      apply Nat.lt_pow_two_of_testBit (n := 20)
      intro i hi
      by_cases h32 : i < 32
      · have h3 := congrArg (fun z => Nat.testBit z i) h2
        simp only [Nat.testBit_and, Nat.zero_testBit] at h3
        have h4 : (Int32.toBitVec (-1048576)).toNat.testBit i = true := by
          have : ∀ i : Nat, i < 32 → 20 ≤ i → (Int32.toBitVec (-1048576)).toNat.testBit i = true := by decide +kernel
          exact this i h32 hi
        rw [h4, Bool.and_true] at h3
        exact h3
      · exact Nat.testBit_lt_two_pow (Nat.lt_of_lt_of_le x.toBitVec.isLt (Nat.pow_le_pow_right (by decide) (by omega)))
    · intro h
      apply Int32.toBitVec_inj.mp
      apply BitVec.eq_of_toNat_eq
      rw [Int32.toBitVec_and, BitVec.toNat_and]
      apply Nat.eq_of_testBit_eq
      intro i
      rw [Nat.testBit_and]
      by_cases hi : 20 ≤ i
      · rw [Nat.testBit_lt_two_pow (Nat.lt_of_lt_of_le h (show 1048576 ≤ 2 ^ i from Nat.pow_le_pow_right (n := 2) (by decide) hi))]
        show _ = Nat.testBit 0 i
        rw [Nat.zero_testBit]; rfl
      · have : ∀ i : Nat, i < 20 → (Int32.toBitVec (-1048576)).toNat.testBit i = false := by decide +kernel
        rw [this i (by omega), Bool.and_false]
        show _ = Nat.testBit 0 i
        rw [Nat.zero_testBit]
  rw [hb]
  have e : x.toInt = x.toBitVec.toInt := rfl
  rw [e, BitVec.toInt_eq_toNat_cond]
  have := x.toBitVec.isLt
  split <;> omega

theorem Ex.tab {base : Nat} {s : State} {Cn n d : String} {N : Nat} {fi : Nat → Int32} (hE : Ex base s) (hN : N < 2 ^ 31) (h1 : Cond.laysStatic Cn n d ∈ lw_tbl) (h2 : Cond.initialized Cn ∈ lw_tbl) (h3 : ∀ (b : Nat) (U : State), (Jvm.Cond.and given_1 narrow_1).before #[Value.ref b] U = true → (Cond.arrayOf (.static Cn n d) .int).before #[Value.ref b] U = true ∧ (Cond.eq (.length (.static Cn n d)) (.int (Int32.ofNat N))).before #[Value.ref b] U = true ∧ ∀ j, j < N → (Cond.eq (.elem (.static Cn n d) (.int (Int32.ofNat j))) (.int (fi j))).before #[Value.ref b] U = true) : ∃ t, va_Z Cn n d (.ref t) (Ab base) s s.heap ∧ va_T .int t N (fun j => .int (fi j)) (Ab base) s s.heap := by
  obtain ⟨U0, b, e1, e2, e3, e4, e5, e6⟩ := hE
  obtain ⟨k1, k2, k3⟩ := h3 b U0 e6
  have hA : ∀ a : Nat, a < U0.heap.size → ¬ Ab base a := fun a ha => by rw [e1] at ha; exact Nat.not_le.mpr ha
  obtain ⟨t, ht, hT⟩ := va_Tof (A := Ab base) (f := fun j => .int (fi j)) hN k1 (va_eqt k2) (fun j hj => va_eqt (k3 j hj)) hA
  have hq : ∀ a : Nat, a < U0.heap.size → ¬ Ab base a → s.heap[a]? = U0.heap[a]? := fun a ha _ => e4 a (by rw [← e1]; exact ha)
  exact ⟨t, (va_Z.moved e2.alike (va_Zof (e5 _ h1) (e5 _ h2) ht hA)).kept hq, (va_T.moved e2.alike hT).kept hq⟩
section JT
variable {p : Program} {l : Launch} {e : Env} {R : Room} {s : State} {m : MethodId} {args : Array Value} {below : List Frame} {meth : Method} {c : Code} {cc : ByteArray} {nL : Nat} {own : String} {Ts : List Cond} {D : va_G} {cy : Nat → ClassId} {base : Nat} {Q : State → Prop} {cells slots pc : Nat} {lv lv' : List (Nat × Value)} {st : List Value} {Λ : LY} {σ : HS}
theorem j_gets (C : Cx p s m args c cc nL own Ts D cy base) {Cn n d : String} {t index : Nat} (hZ : va_Z Cn n d (.ref t) (Ab base) s s.heap) (hlink : (Cond.fieldLink own index Cn n d).before args s = true) (hdg : decode cc pc = .ok (.getstatic index, 3)) (kk : J p l e R s m args below meth c nL D cy base Q cells slots Λ (pc + 3) lv (.ref t :: st) σ) : J p l e R s m args below meth c nL D cy base Q cells slots Λ pc lv st σ := fun H locs ls h hP hS => va_gets C.1 C.2.1 hZ hS C.2.2.2.1 hlink (fun _ z => z) hdg (kk H locs ls h hP hS)
theorem j_tabi (C : Cx p s m args c cc nL own Ts D cy base) {t N : Nat} {f : Nat → Value} (hT : va_T .int t N f (Ab base) s s.heap) (k : Nat) (hk : k < N) (hN : N < 2 ^ 31) (v : Int32) (hv : f k = .int v) (hdg : decode cc pc = .ok (.iaload, 1)) (kk : J p l e R s m args below meth c nL D cy base Q cells slots Λ (pc + 1) lv (.int v :: st) σ) : J p l e R s m args below meth c nL D cy base Q cells slots Λ pc lv (.int (nI k) :: .ref t :: st) σ := fun H locs ls h hP hS => va_ti C.1 C.2.1 hT hS (vp_in_nI (by omega) hN) (by rw [nI_clamp (by omega)]; exact hv) hdg (kk H locs ls h hP hS)
end JT
def lsF (j : Nat) : Nat := if j = 5 then 1 else 0
def msF (j : Nat) : Nat := if j < 3 then 9 else if j = 3 then 100 else if j = 4 then 40 else 6
theorem lw_ls : Cond.laysStatic "CodeRooms" "LEAST_SETTING" "[I" ∈ lw_tbl := by decide +kernel
theorem lw_ms : Cond.laysStatic "CodeRooms" "MOST_SETTING" "[I" ∈ lw_tbl := by decide +kernel
theorem lw_x10 : Cond.initialized "CodeRooms" ∈ lw_tbl := by decide +kernel
theorem nw_ls (b : Nat) (U : State) (h : (Jvm.Cond.and given_1 narrow_1).before #[Value.ref b] U = true) : (Cond.arrayOf (.static "CodeRooms" "LEAST_SETTING" "[I") .int).before #[Value.ref b] U = true ∧ (Cond.eq (.length (.static "CodeRooms" "LEAST_SETTING" "[I")) (.int (Int32.ofNat 6))).before #[Value.ref b] U = true ∧ ∀ j, j < 6 → (Cond.eq (.elem (.static "CodeRooms" "LEAST_SETTING" "[I") (.int (Int32.ofNat j))) (.int (nI (lsF j)))).before #[Value.ref b] U = true := by
  have hs := flat_of_before _ h
  refine ⟨hs _ (by decide +kernel), hs _ (by decide +kernel), fun j hj => ?_⟩
  rcases (show j = 0 ∨ j = 1 ∨ j = 2 ∨ j = 3 ∨ j = 4 ∨ j = 5 by omega) with rfl | rfl | rfl | rfl | rfl | rfl
  · exact hs _ (by decide +kernel)
  · exact hs _ (by decide +kernel)
  · exact hs _ (by decide +kernel)
  · exact hs _ (by decide +kernel)
  · exact hs _ (by decide +kernel)
  · exact hs _ (by decide +kernel)
theorem nw_ms (b : Nat) (U : State) (h : (Jvm.Cond.and given_1 narrow_1).before #[Value.ref b] U = true) : (Cond.arrayOf (.static "CodeRooms" "MOST_SETTING" "[I") .int).before #[Value.ref b] U = true ∧ (Cond.eq (.length (.static "CodeRooms" "MOST_SETTING" "[I")) (.int (Int32.ofNat 6))).before #[Value.ref b] U = true ∧ ∀ j, j < 6 → (Cond.eq (.elem (.static "CodeRooms" "MOST_SETTING" "[I") (.int (Int32.ofNat j))) (.int (nI (msF j)))).before #[Value.ref b] U = true := by
  have hs := flat_of_before _ h
  refine ⟨hs _ (by decide +kernel), hs _ (by decide +kernel), fun j hj => ?_⟩
  rcases (show j = 0 ∨ j = 1 ∨ j = 2 ∨ j = 3 ∨ j = 4 ∨ j = 5 by omega) with rfl | rfl | rfl | rfl | rfl | rfl
  · exact hs _ (by decide +kernel)
  · exact hs _ (by decide +kernel)
  · exact hs _ (by decide +kernel)
  · exact hs _ (by decide +kernel)
  · exact hs _ (by decide +kernel)
  · exact hs _ (by decide +kernel)
theorem set_ix {w : Int32} (h1 : ¬ w < 0) (h2 : ¬ nI 6 ≤ w) : ∃ k, k < 6 ∧ w = nI k := by
  obtain ⟨j, hj, e⟩ := nI_of (x := w) h1
  subst e
  exact ⟨j, (nI_ltI hj (by decide)).mp (Int32.not_le.mp h2), rfl⟩
theorem set_no {k : Nat} {v : Int32} (hk : k < 6) (h1 : ¬ v < nI (lsF k)) (h2 : v ≤ nI (msF k)) (hA : ¬ sOk (nI k) v) : False := by
  apply hA
  have a1 : lsF k ≤ 1 := by unfold lsF; split <;> omega
  have a2 : msF k ≤ 100 := by unfold msF; split; omega; split; omega; split <;> omega
  rw [Int32.lt_iff_toInt_lt, nI_toInt (by omega)] at h1
  rw [Int32.le_iff_toInt_le, nI_toInt (by omega)] at h2
  unfold sOk
  rw [nI_toInt (by omega)]
  have b1 : k = 5 → lsF k = 1 := fun e => by rw [e]; rfl
  have b2 : k < 3 → msF k = 9 := fun e => by unfold msF; rw [if_pos e]
  have b3 : k = 3 → msF k = 100 := fun e => by rw [e]; rfl
  have b4 : k = 4 → msF k = 40 := fun e => by rw [e]; rfl
  have b5 : k = 5 → msF k = 6 := fun e => by rw [e]; rfl
  refine ⟨by omega, by omega, fun z => ?_, by omega, fun z => ?_, fun z => ?_, fun z => ?_, fun z => ?_⟩
  · have := b1 (by omega); omega
  · have := b2 (by omega); omega
  · have := b3 (by omega); omega
  · have := b4 (by omega); omega
  · have := b5 (by omega); omega
theorem ch_no {M : MM} (hB : MBd M) {lo hi : Int32} (hA : lo.toInt < 0 ∨ hi.toInt < 0 ∨ (p2 (lmN M) : Int) ≤ lo.toInt ∨ (p2 (hmN M) : Int) ≤ hi.toInt) (h1 : 0 ≤ lo.toInt ∧ lo.toInt < 1048576) (h2 : 0 ≤ hi.toInt ∧ hi.toInt < 1048576) (h3 : ((lo.toInt64 ||| (hi.toInt64 <<< ((nI 20).toInt64 &&& 63))).toUInt64 >>> ((nI (M 31 5)).toInt64.toUInt64 &&& Int64.toUInt64 63)).toInt64 = lN 0) : False := by
  have hm : M 31 5 ≤ 40 := hB 31 5 rfl
  obtain ⟨a, ha, e1⟩ := nI_of (x := lo) (by rw [Int32.lt_iff_toInt_lt]; show ¬ lo.toInt < 0; omega)
  obtain ⟨b, hb, e2⟩ := nI_of (x := hi) (by rw [Int32.lt_iff_toInt_lt]; show ¬ hi.toInt < 0; omega)
  subst e1 e2
  rw [nI_toInt ha] at h1 hA
  rw [nI_toInt hb] at h2 hA
  have ha2 : a < 2 ^ 20 := by omega
  have hb2 : b < 2 ^ 20 := by omega
  rw [ch_or ha2 hb2, wb_shr (by omega) (by omega)] at h3
  have hz : (a + 2 ^ 20 * b) / 2 ^ (M 31 5) = 0 := by
    have h4 : (lN ((a + 2 ^ 20 * b) / 2 ^ (M 31 5))).toBitVec.toNat = (lN 0).toBitVec.toNat := by rw [h3]
    rw [lN_nat (Nat.lt_of_le_of_lt (Nat.div_le_self _ _) (by omega)), lN_nat (by decide)] at h4
    exact h4
  have hlt : a + 2 ^ 20 * b < 2 ^ (M 31 5) := (Nat.div_eq_zero_iff_lt (Nat.two_pow_pos _)).mp hz
  unfold p2 lmN hmN at hA
  by_cases h20 : M 31 5 < 20
  · rw [if_pos h20, if_pos h20] at hA
    have hp : 2 ^ (M 31 5) ≤ 2 ^ 20 := Nat.pow_le_pow_right (by decide) (by omega)
    have hb0 : b = 0 := by omega
    rcases hA with z | z | z | z
    · omega
    · omega
    · have : a < 2 ^ (M 31 5) := by omega
      have z2 : ((2 ^ (M 31 5) : Nat) : Int) ≤ (a : Int) := z
      omega
    · have z2 : ((2 ^ 0 : Nat) : Int) ≤ (b : Int) := z
      simp at z2
      omega
  · rw [if_neg h20, if_neg h20] at hA
    have hp : 2 ^ (M 31 5) = 2 ^ 20 * 2 ^ (M 31 5 - 20) := by rw [← Nat.pow_add]; congr 1; omega
    have hb3 : b < 2 ^ (M 31 5 - 20) := by
      rcases Nat.lt_or_ge b (2 ^ (M 31 5 - 20)) with z | z
      · exact z
      · have := Nat.mul_le_mul_left (2 ^ 20) z
        omega
    rcases hA with z | z | z | z
    · omega
    · omega
    · have z2 : ((2 ^ 20 : Nat) : Int) ≤ (a : Int) := z
      omega
    · have z2 : ((2 ^ (M 31 5 - 20) : Nat) : Int) ≤ (b : Int) := z
      omega
theorem ch_yes {M : MM} (hB : MBd M) {lo hi : Nat} (hlo : lo < p2 (lmN M)) (hhi : hi < p2 (hmN M)) : lo < 2 ^ 20 ∧ hi < 2 ^ 20 ∧ (lo + 2 ^ 20 * hi) / 2 ^ (M 31 5) = 0 := by
  have hm : M 31 5 ≤ 40 := hB 31 5 rfl
  unfold p2 lmN at hlo
  unfold p2 hmN at hhi
  by_cases h20 : M 31 5 < 20
  · rw [if_pos h20] at hlo hhi
    have hp : 2 ^ (M 31 5) ≤ 2 ^ 20 := Nat.pow_le_pow_right (by decide) (by omega)
    have h0 : hi = 0 := by simp at hhi; exact hhi
    subst h0
    exact ⟨by omega, by decide, Nat.div_eq_of_lt (by omega)⟩
  · rw [if_neg h20] at hlo hhi
    have hp : 2 ^ (M 31 5) = 2 ^ 20 * 2 ^ (M 31 5 - 20) := by rw [← Nat.pow_add]; congr 1; omega
    have hp2 : 2 ^ (M 31 5 - 20) ≤ 2 ^ 20 := Nat.pow_le_pow_right (by decide) (by omega)
    refine ⟨hlo, by omega, Nat.div_eq_of_lt ?_⟩
    have := Nat.mul_le_mul_left (2 ^ 20) (show hi + 1 ≤ 2 ^ (M 31 5 - 20) from hhi)
    omega
theorem rk_hub (M : MM) : ∀ n, fb_ct (fun r => decide (M 37 r ≠ 0)) n + rkN M n = n
  | 0 => rfl
  | n + 1 => by
    have h0 := rk_hub M n
    rw [fb_ct_succ, rkN_succ]
    by_cases h : M 37 n = 0
    · rw [if_pos h, if_neg (by simp [h])]
      omega
    · rw [if_neg h, if_pos (by simp [h])]
      omega
theorem cnt_1 (M : MM) : nI (M 31 5) - nI (hcN M) = nI (fb_ct (fun r => decide (M 37 r ≠ 0)) (M 31 5)) := by
  have := rk_hub M (M 31 5)
  unfold hcN
  have e : M 31 5 = fb_ct (fun r => decide (M 37 r ≠ 0)) (M 31 5) + rkN M (M 31 5) := this.symm
  generalize fb_ct (fun r => decide (M 37 r ≠ 0)) (M 31 5) = x at *
  generalize rkN M (M 31 5) = y at *
  rw [e, ← nI_add]
  exact Int32.add_sub_cancel _ _