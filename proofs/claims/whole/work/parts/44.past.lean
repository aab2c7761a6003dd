/-! ===== switches; changes, alone, keep, moves ===== -/
section JS
variable {p : Program} {l : Launch} {e : Env} {R : Room} {s : State} {m : MethodId} {args : Array Value} {below : List Frame} {meth : Method} {c : Code} {cc : ByteArray} {nL : Nat} {own : String} {Ts : List Cond} {D : va_G} {cy : Nat → ClassId} {base : Nat} {Q : State → Prop} {cells slots pc : Nat} {lv lv' : List (Nat × Value)} {st : List Value} {Λ : LY} {σ : HS}
theorem j_tableIn (C : Cx p s m args c cc nL own Ts D cy base) {dflt lo hi : Int} {offs : Array Int} {len : Nat} {x : Int32} {off : Int} {tgt : Nat} (hdg : decode cc pc = .ok (.tableswitch dflt lo hi offs, len)) (h1 : ¬ x.toInt < lo) (h2 : ¬ hi < x.toInt) (ho : offs[(x.toInt - lo).toNat]? = some off) (ht : (pc : Int) + off = (tgt : Int)) (kk : J p l e R s m args below meth c nL D cy base Q cells slots Λ tgt lv st σ) : J p l e R s m args below meth c nL D cy base Q cells slots Λ pc lv (.int x :: st) σ := fun H locs ls h hP hS => lv_tableIn C.1 C.2.1 hdg h1 h2 ho ht (kk H locs ls h hP hS)
theorem j_tableOut (C : Cx p s m args c cc nL own Ts D cy base) {dflt lo hi : Int} {offs : Array Int} {len : Nat} {x : Int32} {tgt : Nat} (hdg : decode cc pc = .ok (.tableswitch dflt lo hi offs, len)) (h : x.toInt < lo ∨ hi < x.toInt) (ht : (pc : Int) + dflt = (tgt : Int)) (kk : J p l e R s m args below meth c nL D cy base Q cells slots Λ tgt lv st σ) : J p l e R s m args below meth c nL D cy base Q cells slots Λ pc lv (.int x :: st) σ := fun H locs ls h2 hP hS => lv_tableOut C.1 C.2.1 hdg h ht (kk H locs ls h2 hP hS)
theorem j_lookup (C : Cx p s m args c cc nL own Ts D cy base) {dflt : Int} {ps : Array (Int × Int)} {len : Nat} {x : Int32} {off : Int} {tgt : Nat} (hdg : decode cc pc = .ok (.lookupswitch dflt ps, len)) (hp : (ps.toList.zip (ps.toList.drop 1)).all (fun (a, next) => a.1 < next.1) = true) (ho : Op.lookupswitch.offset ps.toList dflt x.toInt = off) (ht : (pc : Int) + off = (tgt : Int)) (kk : J p l e R s m args below meth c nL D cy base Q cells slots Λ tgt lv st σ) : J p l e R s m args below meth c nL D cy base Q cells slots Λ pc lv (.int x :: st) σ := fun H locs ls h hP hS => lv_lookup C.1 C.2.1 hdg hp ho ht (kk H locs ls h hP hS)
end JS
def p2 (n : Nat) : Nat := 2 ^ n
theorem shl1p {a : Nat} (ha : a < 31) : nI 1 <<< (nI a &&& 31) = nI (p2 a) := shl1 ha
theorem p2_lt {a : Nat} (ha : a ≤ 20) : p2 a ≤ 1048576 := by
  unfold p2
  exact Nat.pow_le_pow_right (n := 2) (j := 20) (by decide) ha
def lmN (M : MM) : Nat := if M 31 5 < 20 then M 31 5 else 20
def hmN (M : MM) : Nat := if M 31 5 < 20 then 0 else M 31 5 - 20
theorem shrN {n a : Nat} (hn : n < 2 ^ 31) (ha : a < 32) : nI n >>> (nI a &&& 31) = nI (n / 2 ^ a) := pk_shrN hn _ a (s_l a ha)
theorem bitN {n a : Nat} : nI (n / 2 ^ a % 2) = nI 1 ↔ n.testBit a = true := by
  rw [nI_eq (by omega) (by decide), Nat.testBit_eq_decide_div_mod_eq]
  simp
/-- a change's routines -/
def memB (M : MM) (k r : Nat) : Bool := if r < 20 then (M 45 k).testBit r else (M 46 k).testBit (r - 20)
/-- the rooms of a change's routines but hubs -/
def alb (M : MM) (k : Nat) : Nat → Nat
  | 0 => 0
  | r + 1 => alb M k r ||| (if memB M k r = true ∧ M 37 r = 0 then 2 ^ M 38 r else 0)
theorem alb_lt {M : MM} (hB : MBd M) {k : Nat} : ∀ {n : Nat}, n ≤ 40 → alb M k n < 64
  | 0, _ => (by decide : (0 : Nat) < 64)
  | n + 1, h => by
    show alb M k n ||| _ < 64
    refine or_lt (alb_lt hB (by omega)) ?_
    split
    · have : M 38 n ≤ 5 := hB 38 n (decide_eq_true (show n < 40 by omega))
      exact pow6 (by omega)
    · decide
def alnB (M : MM) (k : Nat) : Bool := decide (alb M k (M 31 5) ≠ 0 ∧ alb M k (M 31 5) &&& (alb M k (M 31 5) - 1) = 0)
def kpV (M : MM) (r : Nat) : Nat := if r < M 31 5 ∧ M 37 r = 0 then M 38 r + 1 else 0
def kpTo (M : MM) (i : Nat) : MM := fun t k => if t = 47 ∧ k < i then kpV M k else if t = 31 ∧ k = 23 then 1 else M t k
theorem kpTo_0 {M : MM} : kpTo M 0 = mS M 31 23 1 := by
  funext t k
  unfold kpTo mS
  rw [if_neg (fun z => absurd z.2 (by omega))]
theorem kpTo_succ {M : MM} {i : Nat} : mS (kpTo M i) 47 i (kpV M i) = kpTo M (i + 1) := by
  funext t k
  unfold mS kpTo
  by_cases h2 : t = 47 ∧ k = i
  · rw [if_pos h2, if_pos ⟨h2.1, by omega⟩, h2.2]
  · rw [if_neg h2]
    by_cases h3 : t = 47 ∧ k < i
    · rw [if_pos h3, if_pos ⟨h3.1, by omega⟩]
    · have h4 : ¬ (t = 47 ∧ k < i + 1) := fun z => h3 ⟨z.1, by
          have : k ≠ i := fun e => h2 ⟨z.1, e⟩
          omega⟩
      rw [if_neg h3, if_neg h4]
theorem kpTo_nk {M : MM} {i t : Nat} (h : t ≠ 47) (h2 : t ≠ 31) : kpTo M i t = M t := by
  funext k
  unfold kpTo
  rw [if_neg (fun z => h z.1), if_neg (fun z => h2 z.1)]
theorem kpTo_31 {M : MM} {i k : Nat} (h : k ≠ 23) : kpTo M i 31 k = M 31 k := by
  unfold kpTo
  rw [if_neg (fun z => absurd z.1 (by decide)), if_neg (fun z => h z.2)]
/-- of the places that aren't used, the most -/
def stRow (g : Nat → Nat) (used : Nat) : Nat → Nat
  | 0 => 0
  | k + 1 => if used.testBit k = true then stRow g used k else if g k ≤ stRow g used k then stRow g used k else g k
def stF (f : Nat → Nat) : Nat → Nat → Nat → Nat
  | 0, _, _ => 0
  | d + 1, a, used => stRow (fun b => f (6 * a + b) + stF f d (a + 1) (used ||| 2 ^ b)) used 6
theorem stRow_le {g : Nat → Nat} {used c : Nat} : ∀ {k : Nat}, (∀ b, b < k → g b ≤ c) → stRow g used k ≤ c
  | 0, _ => Nat.zero_le _
  | k + 1, h => by
    have ih := stRow_le (g := g) (used := used) (c := c) (k := k) (fun b hb => h b (by omega))
    have hk := h k (by omega)
    show (if _ then _ else _) ≤ c
    split
    · exact ih
    · split
      · exact ih
      · exact hk
theorem stF_le {f : Nat → Nat} : ∀ {d a used : Nat}, a + d ≤ 6 → (∀ x, x < 36 → f x ≤ 40) → stF f d a used ≤ 40 * d
  | 0, _, _, _, _ => Nat.zero_le _
  | d + 1, a, used, h, hf => by
    refine stRow_le (fun b hb => ?_)
    have ih := stF_le (f := f) (d := d) (a := a + 1) (used := used ||| 2 ^ b) (by omega) hf
    have := hf (6 * a + b) (by omega)
    show f (6 * a + b) + stF f d (a + 1) (used ||| 2 ^ b) ≤ 40 * (d + 1)
    omega
/-- both divisions have a room for the routine -/
def bothB (M : MM) (r : Nat) : Bool := decide (M 37 r = 0 ∧ M 47 r ≠ 0)
def tgP (M : MM) (x r : Nat) : Bool := decide (M 37 r = 0 ∧ M 47 r ≠ 0 ∧ 6 * (M 47 r - 1) + M 38 r = x)
def tgTo (M : MM) (i : Nat) : MM := fun t k => if t = 48 ∧ k < 36 then fb_ct (tgP M k) i else M t k
def zrTo (M : MM) (i : Nat) : MM := fun t k => if t = 48 ∧ k < i then 0 else M t k
theorem zrTo_0 {M : MM} : zrTo M 0 = M := by
  funext t k
  unfold zrTo
  rw [if_neg (fun z => absurd z.2 (by omega))]
theorem zrTo_succ {M : MM} {i : Nat} : mS (zrTo M i) 48 i 0 = zrTo M (i + 1) := by
  funext t k
  unfold mS zrTo
  by_cases h2 : t = 48 ∧ k = i
  · rw [if_pos h2, if_pos ⟨h2.1, by omega⟩]
  · rw [if_neg h2]
    by_cases h3 : t = 48 ∧ k < i
    · rw [if_pos h3, if_pos ⟨h3.1, by omega⟩]
    · rw [if_neg h3, if_neg (fun z => h3 ⟨z.1, by
          have : k ≠ i := fun e => h2 ⟨z.1, e⟩
          omega⟩)]
theorem zrTo_tg {M : MM} : zrTo M 36 = tgTo M 0 := rfl
theorem tgTo_nk {M : MM} {i t : Nat} (h : t ≠ 48) : tgTo M i t = M t := by
  funext k
  unfold tgTo
  rw [if_neg (fun z => h z.1)]
theorem tgTo_48 {M : MM} {i k : Nat} (h : k < 36) : tgTo M i 48 k = fb_ct (tgP M k) i := by
  unfold tgTo
  rw [if_pos ⟨rfl, h⟩]
theorem tgTo_yes {M : MM} {i : Nat} (h1 : M 37 i = 0) (h2 : M 47 i ≠ 0) (h3 : 6 * (M 47 i - 1) + M 38 i < 36) : mS (tgTo M i) 48 (6 * (M 47 i - 1) + M 38 i) (fb_ct (tgP M (6 * (M 47 i - 1) + M 38 i)) i + 1) = tgTo M (i + 1) := by
  funext t k
  unfold mS tgTo
  by_cases hz : t = 48 ∧ k = 6 * (M 47 i - 1) + M 38 i
  · rw [if_pos hz, if_pos ⟨hz.1, by omega⟩, fb_ct_succ, hz.2, show tgP M (6 * (M 47 i - 1) + M 38 i) i = true from decide_eq_true ⟨h1, h2, rfl⟩]
    rfl
  · rw [if_neg hz]
    by_cases h4 : t = 48 ∧ k < 36
    · rw [if_pos h4, if_pos h4, fb_ct_succ, show tgP M k i = false from decide_eq_false (fun q => hz ⟨h4.1, q.2.2.symm⟩)]
      rfl
    · rw [if_neg h4, if_neg h4]
theorem tgTo_no {M : MM} {i : Nat} (h : ¬ (M 37 i = 0 ∧ M 47 i ≠ 0)) : tgTo M i = tgTo M (i + 1) := by
  funext t k
  unfold tgTo
  by_cases h4 : t = 48 ∧ k < 36
  · rw [if_pos h4, if_pos h4, fb_ct_succ, show tgP M k i = false from decide_eq_false (fun q => h ⟨q.1, q.2.1⟩)]
    rfl
  · rw [if_neg h4, if_neg h4]
theorem tgTo_B {M : MM} (hB : MBd M) (hn : M 31 5 ≤ 40) {i : Nat} (hi : i ≤ M 31 5) : MBd (tgTo M i) := by
  intro t k hk
  unfold tgTo
  by_cases h : t = 48 ∧ k < 36
  · rw [if_pos h, h.1]
    show _ ≤ 40
    have := fb_ct_le (tgP M k) i
    omega
  · rw [if_neg h]
    exact hB t k hk
theorem stRow_congr {g h : Nat → Nat} {used : Nat} : ∀ {k : Nat}, (∀ b, b < k → g b = h b) → stRow g used k = stRow h used k
  | 0, _ => rfl
  | k + 1, e => by
    show (if _ then _ else _) = (if _ then _ else _)
    rw [stRow_congr (k := k) (fun b hb => e b (by omega)), e k (by omega)]
theorem stF_congr {f g : Nat → Nat} (e : ∀ x, x < 36 → f x = g x) : ∀ {d a used : Nat}, a + d ≤ 6 → stF f d a used = stF g d a used
  | 0, _, _, _ => rfl
  | d + 1, a, used, h => by
    refine stRow_congr (fun b hb => ?_)
    show f (6 * a + b) + _ = g (6 * a + b) + _
    rw [e (6 * a + b) (by omega), stF_congr e (d := d) (by omega)]
