/-! ===== numbers, truths, nest words ===== -/
def bI (b : Bool) : Int32 := if b then 1 else 0
def zL (z : Int) : Int64 := Int64.ofInt z
theorem zL_add (a b : Int) : zL a + zL b = zL (a + b) := (Int64.ofInt_add a b).symm
theorem zL_sub (a b : Int) : zL a - zL b = zL (a - b) := (Int64.ofInt_sub a b).symm
theorem zL_mul (a b : Int) : zL a * zL b = zL (a * b) := (Int64.ofInt_mul a b).symm
theorem zL_toInt {a : Int} (h1 : -9223372036854775808 ≤ a) (h2 : a < 9223372036854775808) : (zL a).toInt = a := by
  unfold zL
  rw [Int64.toInt_ofInt]
  show a.bmod 18446744073709551616 = a
  exact Int.bmod_eq_of_le (by omega) (by omega)
theorem zL_lt {a b : Int} (h1 : -9223372036854775808 ≤ a) (h2 : a < 9223372036854775808) (h3 : -9223372036854775808 ≤ b) (h4 : b < 9223372036854775808) : zL a < zL b ↔ a < b := by rw [Int64.lt_iff_toInt_lt, zL_toInt h1 h2, zL_toInt h3 h4]
theorem zL_le {a b : Int} (h1 : -9223372036854775808 ≤ a) (h2 : a < 9223372036854775808) (h3 : -9223372036854775808 ≤ b) (h4 : b < 9223372036854775808) : zL a ≤ zL b ↔ a ≤ b := by rw [Int64.le_iff_toInt_le, zL_toInt h1 h2, zL_toInt h3 h4]
theorem zL_inj {a b : Int} (h1 : -9223372036854775808 ≤ a) (h2 : a < 9223372036854775808) (h3 : -9223372036854775808 ≤ b) (h4 : b < 9223372036854775808) : zL a = zL b ↔ a = b := by rw [← Int64.toInt_inj, zL_toInt h1 h2, zL_toInt h3 h4]
theorem nI_zL {a : Nat} (h : a < 2 ^ 31) : (nI a).toInt64 = zL (a : Int) := by
  apply Int64.toInt_inj.mp
  rw [Int32.toInt_toInt64, nI_toInt h, zL_toInt (by omega) (by omega)]
theorem nJ_eq0 {a : Nat} (h : a < 2 ^ 31) : nI a = 0 ↔ a = 0 := by rw [← nI_0]; exact nI_eq h (by omega)
theorem nJ_ne0 {a : Nat} (h : a < 2 ^ 31) : nI a = 0 ↔ a = 0 := nJ_eq0 h
theorem nJ_lt0 {a : Nat} (h : a < 2 ^ 31) : nI a < 0 ↔ False := ⟨fun q => nI_pos h q, fun q => q.elim⟩
theorem nJ_ge0 {a : Nat} (h : a < 2 ^ 31) : 0 ≤ nI a ↔ True := ⟨fun _ => trivial, fun _ => nI_pos' h⟩
theorem nJ_gt0 {a : Nat} (h : a < 2 ^ 31) : 0 < nI a ↔ 0 < a := by rw [← nI_0]; exact nI_ltI (by omega) h
theorem nJ_le0 {a : Nat} (h : a < 2 ^ 31) : nI a ≤ 0 ↔ a = 0 := by rw [← nI_0, nI_leI h (by omega)]; omega
theorem bI_0 (b : Bool) : bI b = 0 ↔ b = false := by cases b <;> decide
theorem bI_1 (b : Bool) : bI b = 1 ↔ b = true := by cases b <;> decide
theorem bI_t : bI true = nI 1 := by decide
theorem bI_f : bI false = nI 0 := by decide
theorem nz_b (b : Bool) : narrow .boolean (.int (bI b)) = .int (bI b) := by cases b <;> rfl
theorem fz_b (b : Bool) : fits .boolean (.int (bI b)) = true := by cases b <;> rfl
theorem nz_v (b : Bool) : vp_nar .boolean (bI b) = bI b := by cases b <;> rfl
theorem Ex.nestF {base : Nat} {s : State} {args : Array Value} {a : String} {i : Nat} {b n d h : String} (hE : Ex base s) (hm : Cond.fieldLinkNest a i b n d h ∈ lw_tbl) : (Cond.fieldLinkNest a i b n d h).before args s = true := by
  obtain ⟨U0, q, -, h2, -, -, h5, -⟩ := hE
  exact va_Nw.use rfl (va_Nw.warmF h2 (va_Nw.of rfl (h5 _ hm)))
theorem Ex.nestM {base : Nat} {s : State} {a : String} {i : Nat} {y : MethodName} {h : String} (hE : Ex base s) (hm : Cond.methodLinkNest a i y h ∈ lw_tbl) : va_Nw (.methodLinkNest a i y h) s := by
  obtain ⟨U0, q, -, h2, -, -, h5, -⟩ := hE
  exact va_Nw.warmM h2 (va_Nw.of rfl (h5 _ hm))
section JB
variable {p : Program} {l : Launch} {e : Env} {R : Room} {s : State} {m : MethodId} {args : Array Value} {below : List Frame} {meth : Method} {c : Code} {cc : ByteArray} {nL : Nat} {own : String} {Ts : List Cond} {D : va_G} {cy : Nat → ClassId} {base : Nat} {Q : State → Prop} {cells slots pc : Nat} {lv lv' : List (Nat × Value)} {st : List Value} {Λ : LY} {σ : HS}
theorem j_ifeq_b (C : Cx p s m args c cc nL own Ts D cy base) {b : Bool} {off : Int} {tgt : Nat} (hdg : decode cc pc = .ok (.ifCond .eq off, 3)) (ht : (pc : Int) + off = (tgt : Int)) (kt : b = false → J p l e R s m args below meth c nL D cy base Q cells slots Λ tgt lv st σ) (kf : b = true → J p l e R s m args below meth c nL D cy base Q cells slots Λ (pc + 3) lv st σ) : J p l e R s m args below meth c nL D cy base Q cells slots Λ pc lv (.int (bI b) :: st) σ :=
  j_if_eq C hdg ht (bI_0 b) kt (fun h => kf (by cases b; exact absurd rfl h; rfl))
theorem j_ifne_b (C : Cx p s m args c cc nL own Ts D cy base) {b : Bool} {off : Int} {tgt : Nat} (hdg : decode cc pc = .ok (.ifCond .ne off, 3)) (ht : (pc : Int) + off = (tgt : Int)) (kt : b = true → J p l e R s m args below meth c nL D cy base Q cells slots Λ tgt lv st σ) (kf : b = false → J p l e R s m args below meth c nL D cy base Q cells slots Λ (pc + 3) lv st σ) : J p l e R s m args below meth c nL D cy base Q cells slots Λ pc lv (.int (bI b) :: st) σ :=
  j_if_ne C hdg ht (bI_0 b) (fun h => kt (by cases b; exact absurd rfl h; rfl)) kf
end JB
/-- what another part of the world holds -/
def Same (P : Nat → Prop) (σ u : HS) : Prop := ∀ t, P t → gI u t = gI σ t ∧ gJ u t = gJ σ t ∧ gV u t = gV σ t
theorem Same.rf {P : Nat → Prop} {σ : HS} : Same P σ σ := fun _ _ => ⟨rfl, rfl, rfl⟩
theorem Same.sI {P : Nat → Prop} {σ u : HS} {t i k : Nat} {x : Int32} (h : Same P σ u) (ht : ¬ P t) : Same P σ (sI u t i k x) := fun t' hp => ⟨by rw [gI_nk (show t' ≠ t from fun e => ht (by rw [← e]; exact hp))]; exact (h t' hp).1, (h t' hp).2⟩
theorem Same.sJ {P : Nat → Prop} {σ u : HS} {t i k : Nat} {x : Int64} (h : Same P σ u) (ht : ¬ P t) : Same P σ (sJ u t i k x) := fun t' hp => ⟨(h t' hp).1, by rw [gJ_nk (show t' ≠ t from fun e => ht (by rw [← e]; exact hp))]; exact (h t' hp).2.1, (h t' hp).2.2⟩
theorem Same.sV {P : Nat → Prop} {σ u : HS} {t i k : Nat} {x : Option Nat} (h : Same P σ u) (ht : ¬ P t) : Same P σ (sV u t i k x) := fun t' hp => ⟨(h t' hp).1, (h t' hp).2.1, by rw [gV_nk (show t' ≠ t from fun e => ht (by rw [← e]; exact hp))]; exact (h t' hp).2.2⟩
theorem Same.tr {P : Nat → Prop} {σ u v : HS} (h : Same P σ u) (g : Same P u v) : Same P σ v := fun t hp => ⟨(g t hp).1.trans (h t hp).1, (g t hp).2.1.trans (h t hp).2.1, (g t hp).2.2.trans (h t hp).2.2⟩
theorem nf_X10_72 : Cond.fieldLinkNest "CodeRooms" 72 "CodeRooms$Text" "size" "I" "CodeRooms" ∈ lw_tbl := by decide +kernel
theorem nf_X0_16 : Cond.fieldLinkNest "CodeRooms$Glossary" 16 "CodeRooms$Text" "size" "I" "CodeRooms" ∈ lw_tbl := by decide +kernel
theorem nf_X10_252 : Cond.fieldLinkNest "CodeRooms" 252 "CodeRooms$Plan" "routines" "[LCodeRooms$Routine;" "CodeRooms" ∈ lw_tbl := by decide +kernel
theorem nf_X2_28 : Cond.fieldLinkNest "CodeRooms$Mender" 28 "CodeRooms$Plan" "housed" "[LCodeRooms$Routine;" "CodeRooms" ∈ lw_tbl := by decide +kernel
theorem nf_X8_28 : Cond.fieldLinkNest "CodeRooms$Traffic" 28 "CodeRooms$Plan" "housed" "[LCodeRooms$Routine;" "CodeRooms" ∈ lw_tbl := by decide +kernel
theorem nf_X1_26 : Cond.fieldLinkNest "CodeRooms$Kept" 26 "CodeRooms$Plan" "housed" "[LCodeRooms$Routine;" "CodeRooms" ∈ lw_tbl := by decide +kernel
theorem nf_X6_47 : Cond.fieldLinkNest "CodeRooms$Search" 47 "CodeRooms$Plan" "housed" "[LCodeRooms$Routine;" "CodeRooms" ∈ lw_tbl := by decide +kernel
theorem nf_X8_41 : Cond.fieldLinkNest "CodeRooms$Traffic" 41 "CodeRooms$Plan" "members" "[J" "CodeRooms" ∈ lw_tbl := by decide +kernel
theorem nf_X3_29 : Cond.fieldLinkNest "CodeRooms$Past" 29 "CodeRooms$Plan" "members" "[J" "CodeRooms" ∈ lw_tbl := by decide +kernel
theorem nf_X10_192 : Cond.fieldLinkNest "CodeRooms" 192 "CodeRooms$Plan" "members" "[J" "CodeRooms" ∈ lw_tbl := by decide +kernel
theorem nf_X10_86 : Cond.fieldLinkNest "CodeRooms" 86 "CodeRooms$Plan" "size" "I" "CodeRooms" ∈ lw_tbl := by decide +kernel
theorem nf_X6_22 : Cond.fieldLinkNest "CodeRooms$Search" 22 "CodeRooms$Plan" "housedCount" "I" "CodeRooms" ∈ lw_tbl := by decide +kernel
theorem nf_X2_22 : Cond.fieldLinkNest "CodeRooms$Mender" 22 "CodeRooms$Plan" "housedCount" "I" "CodeRooms" ∈ lw_tbl := by decide +kernel
theorem nf_X8_24 : Cond.fieldLinkNest "CodeRooms$Traffic" 24 "CodeRooms$Plan" "housedCount" "I" "CodeRooms" ∈ lw_tbl := by decide +kernel
theorem nf_X1_20 : Cond.fieldLinkNest "CodeRooms$Kept" 20 "CodeRooms$Plan" "housedCount" "I" "CodeRooms" ∈ lw_tbl := by decide +kernel
theorem nf_X10_240 : Cond.fieldLinkNest "CodeRooms" 240 "CodeRooms$Plan" "housedCount" "I" "CodeRooms" ∈ lw_tbl := by decide +kernel
theorem nf_X10_243 : Cond.fieldLinkNest "CodeRooms" 243 "CodeRooms$Past" "size" "I" "CodeRooms" ∈ lw_tbl := by decide +kernel
theorem nf_X1_30 : Cond.fieldLinkNest "CodeRooms$Kept" 30 "CodeRooms$Routine" "number" "I" "CodeRooms" ∈ lw_tbl := by decide +kernel
theorem nf_X8_47 : Cond.fieldLinkNest "CodeRooms$Traffic" 47 "CodeRooms$Routine" "number" "I" "CodeRooms" ∈ lw_tbl := by decide +kernel
theorem nf_X10_121 : Cond.fieldLinkNest "CodeRooms" 121 "CodeRooms$Routine" "number" "I" "CodeRooms" ∈ lw_tbl := by decide +kernel
theorem nf_X4_53 : Cond.fieldLinkNest "CodeRooms$Plan" 53 "CodeRooms$Routine" "number" "I" "CodeRooms" ∈ lw_tbl := by decide +kernel
theorem nf_X6_74 : Cond.fieldLinkNest "CodeRooms$Search" 74 "CodeRooms$Routine" "number" "I" "CodeRooms" ∈ lw_tbl := by decide +kernel
theorem nf_X10_111 : Cond.fieldLinkNest "CodeRooms" 111 "CodeRooms$Routine" "bit" "J" "CodeRooms" ∈ lw_tbl := by decide +kernel
theorem nf_X4_66 : Cond.fieldLinkNest "CodeRooms$Plan" 66 "CodeRooms$Routine" "bit" "J" "CodeRooms" ∈ lw_tbl := by decide +kernel
theorem nf_X4_32 : Cond.fieldLinkNest "CodeRooms$Plan" 32 "CodeRooms$Routine" "label" "LCodeRooms$Text;" "CodeRooms" ∈ lw_tbl := by decide +kernel
theorem nf_X4_49 : Cond.fieldLinkNest "CodeRooms$Plan" 49 "CodeRooms$Routine" "told" "[[I" "CodeRooms" ∈ lw_tbl := by decide +kernel
theorem nf_X10_136 : Cond.fieldLinkNest "CodeRooms" 136 "CodeRooms$Routine" "tieWith" "[I" "CodeRooms" ∈ lw_tbl := by decide +kernel
theorem nf_X6_80 : Cond.fieldLinkNest "CodeRooms$Search" 80 "CodeRooms$Routine" "tieWith" "[I" "CodeRooms" ∈ lw_tbl := by decide +kernel
theorem nf_X4_132 : Cond.fieldLinkNest "CodeRooms$Plan" 132 "CodeRooms$Routine" "tieWith" "[I" "CodeRooms" ∈ lw_tbl := by decide +kernel
theorem nf_X6_77 : Cond.fieldLinkNest "CodeRooms$Search" 77 "CodeRooms$Routine" "mustWith" "[I" "CodeRooms" ∈ lw_tbl := by decide +kernel
theorem nf_X10_154 : Cond.fieldLinkNest "CodeRooms" 154 "CodeRooms$Routine" "mustWith" "[I" "CodeRooms" ∈ lw_tbl := by decide +kernel
theorem nf_X2_64 : Cond.fieldLinkNest "CodeRooms$Mender" 64 "CodeRooms$Routine" "pulls" "[J" "CodeRooms" ∈ lw_tbl := by decide +kernel
theorem nf_X4_86 : Cond.fieldLinkNest "CodeRooms$Plan" 86 "CodeRooms$Routine" "tiedTo" "J" "CodeRooms" ∈ lw_tbl := by decide +kernel
theorem nf_X8_37 : Cond.fieldLinkNest "CodeRooms$Traffic" 37 "CodeRooms$Routine" "callers" "J" "CodeRooms" ∈ lw_tbl := by decide +kernel
theorem nf_X4_69 : Cond.fieldLinkNest "CodeRooms$Plan" 69 "CodeRooms$Routine" "callers" "J" "CodeRooms" ∈ lw_tbl := by decide +kernel
theorem nf_X8_60 : Cond.fieldLinkNest "CodeRooms$Traffic" 60 "CodeRooms$Routine" "callees" "J" "CodeRooms" ∈ lw_tbl := by decide +kernel
theorem nf_X4_62 : Cond.fieldLinkNest "CodeRooms$Plan" 62 "CodeRooms$Routine" "callees" "J" "CodeRooms" ∈ lw_tbl := by decide +kernel
theorem nf_X6_56 : Cond.fieldLinkNest "CodeRooms$Search" 56 "CodeRooms$Routine" "fixedTo" "I" "CodeRooms" ∈ lw_tbl := by decide +kernel
theorem nf_X2_68 : Cond.fieldLinkNest "CodeRooms$Mender" 68 "CodeRooms$Routine" "fixedTo" "I" "CodeRooms" ∈ lw_tbl := by decide +kernel
theorem nf_X10_159 : Cond.fieldLinkNest "CodeRooms" 159 "CodeRooms$Routine" "fixedTo" "I" "CodeRooms" ∈ lw_tbl := by decide +kernel
theorem nf_X8_32 : Cond.fieldLinkNest "CodeRooms$Traffic" 32 "CodeRooms$Routine" "place" "I" "CodeRooms" ∈ lw_tbl := by decide +kernel
theorem nf_X1_35 : Cond.fieldLinkNest "CodeRooms$Kept" 35 "CodeRooms$Routine" "place" "I" "CodeRooms" ∈ lw_tbl := by decide +kernel
theorem nf_X6_51 : Cond.fieldLinkNest "CodeRooms$Search" 51 "CodeRooms$Routine" "place" "I" "CodeRooms" ∈ lw_tbl := by decide +kernel
theorem nf_X2_49 : Cond.fieldLinkNest "CodeRooms$Mender" 49 "CodeRooms$Routine" "place" "I" "CodeRooms" ∈ lw_tbl := by decide +kernel
theorem nf_X10_166 : Cond.fieldLinkNest "CodeRooms" 166 "CodeRooms$Routine" "place" "I" "CodeRooms" ∈ lw_tbl := by decide +kernel
theorem nf_X4_99 : Cond.fieldLinkNest "CodeRooms$Plan" 99 "CodeRooms$Routine" "place" "I" "CodeRooms" ∈ lw_tbl := by decide +kernel
theorem nf_X10_162 : Cond.fieldLinkNest "CodeRooms" 162 "CodeRooms$Routine" "isHub" "Z" "CodeRooms" ∈ lw_tbl := by decide +kernel
theorem nf_X4_95 : Cond.fieldLinkNest "CodeRooms$Plan" 95 "CodeRooms$Routine" "isHub" "Z" "CodeRooms" ∈ lw_tbl := by decide +kernel
theorem nf_X0_43 : Cond.fieldLinkNest "CodeRooms$Glossary" 43 "CodeRooms$Word" "letters" "LCodeRooms$Text;" "CodeRooms" ∈ lw_tbl := by decide +kernel
theorem nf_X10_205 : Cond.fieldLinkNest "CodeRooms" 205 "CodeRooms$Word" "letters" "LCodeRooms$Text;" "CodeRooms" ∈ lw_tbl := by decide +kernel
theorem nf_X0_51 : Cond.fieldLinkNest "CodeRooms$Glossary" 51 "CodeRooms$Word" "holders" "J" "CodeRooms" ∈ lw_tbl := by decide +kernel
theorem rt1 {b : Bool} (h : b = true) : nI 1 = bI b := by rw [h]; rfl
theorem rt0 {b : Bool} (h : b = false) : nI 0 = bI b := by rw [h]; rfl
theorem nz_n {q : Nat} (h : q ≤ 1) : narrow .boolean (.int (nI q)) = .int (nI q) := by
  rcases (show q = 0 ∨ q = 1 by omega) with rfl | rfl <;> rfl
