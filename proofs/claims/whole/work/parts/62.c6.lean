section JM
variable {p : Program} {l : Launch} {e : Env} {R : Room} {s : State} {m : MethodId} {args : Array Value} {below : List Frame} {meth : Method} {c : Code} {cc : ByteArray} {nL : Nat} {own : String} {Ts : List Cond} {D : va_G} {cy : Nat → ClassId} {base : Nat} {Q : State → Prop} {cells slots pc : Nat} {lv : List (Nat × Value)} {st : List Value} {Λ : LY} {σ : HS}
theorem j_mmin (C : Cx p s m args c cc nL own Ts D cy base) {index : Nat} {x y : Int32} (v : Int32) (hs5 : ∀ w ∈ [Cond.methodLink own index Lib.Math.min.name, Cond.static Lib.Math.min.name, Cond.initialized "java/lang/Math", Cond.code Lib.Math.min.name Lib.Math.min.code 2 (some .int)], w ∈ Ts) (hf : Nat.ble 1 R.frames = true) (hl : Nat.ble ((st.map fun v => v.category).sum + 13) R.locals = true) (hc : Nat.ble cells R.cells = true) (hsl : Nat.ble slots R.slots = true) (hdg : decode cc pc = .ok (.invokestatic index, 3)) (hv : (if y < x then y else x) = v) (kk : J p l e R s m args below meth c nL D cy base Q cells slots Λ (pc + 3) lv (.int v :: st) σ) : J p l e R s m args below meth c nL D cy base Q cells slots Λ pc lv (.int y :: .int x :: st) σ := by
  intro H locs ls h hP hS
  subst hv
  exact va_mmin C.1 C.2.1 (C.2.2.1.trans h.1.symm) C.2.2.2.1 (C.2.2.2.2.1 _ (hs5 _ (by simp))) (C.2.2.2.2.1 _ (hs5 _ (by simp))) (C.2.2.2.2.1 _ (hs5 _ (by simp))) (C.2.2.2.2.1 _ (hs5 _ (by simp))) (Nat.le_of_ble_eq_true hf) (Nat.le_of_ble_eq_true hl) (Nat.le_of_ble_eq_true hc) (Nat.le_of_ble_eq_true hsl) hdg (kk H locs ls h hP hS)
theorem j_mmax (C : Cx p s m args c cc nL own Ts D cy base) {index : Nat} {x y : Int32} (v : Int32) (hs5 : ∀ w ∈ [Cond.methodLink own index Lib.Math.max.name, Cond.static Lib.Math.max.name, Cond.initialized "java/lang/Math", Cond.code Lib.Math.max.name Lib.Math.max.code 2 (some .int)], w ∈ Ts) (hf : Nat.ble 1 R.frames = true) (hl : Nat.ble ((st.map fun v => v.category).sum + 13) R.locals = true) (hc : Nat.ble cells R.cells = true) (hsl : Nat.ble slots R.slots = true) (hdg : decode cc pc = .ok (.invokestatic index, 3)) (hv : (if x < y then y else x) = v) (kk : J p l e R s m args below meth c nL D cy base Q cells slots Λ (pc + 3) lv (.int v :: st) σ) : J p l e R s m args below meth c nL D cy base Q cells slots Λ pc lv (.int y :: .int x :: st) σ := by
  intro H locs ls h hP hS
  subst hv
  exact va_mmax C.1 C.2.1 (C.2.2.1.trans h.1.symm) C.2.2.2.1 (C.2.2.2.2.1 _ (hs5 _ (by simp))) (C.2.2.2.2.1 _ (hs5 _ (by simp))) (C.2.2.2.2.1 _ (hs5 _ (by simp))) (C.2.2.2.2.1 _ (hs5 _ (by simp))) (Nat.le_of_ble_eq_true hf) (Nat.le_of_ble_eq_true hl) (Nat.le_of_ble_eq_true hc) (Nat.le_of_ble_eq_true hsl) hdg (kk H locs ls h hP hS)
theorem j_mminL (C : Cx p s m args c cc nL own Ts D cy base) {index : Nat} {x y : Int64} (v : Int64) (hs5 : ∀ w ∈ [Cond.methodLink own index Lib.MathLoose.min_long.x, Cond.static Lib.MathLoose.min_long.x, Cond.initialized "java/lang/Math", Cond.code Lib.MathLoose.min_long.x Lib.MathLoose.min_long.code 4 (some .long)], w ∈ Ts) (hf : Nat.ble 1 R.frames = true) (hl : Nat.ble ((st.map fun v => v.category).sum + 15) R.locals = true) (hc : Nat.ble cells R.cells = true) (hsl : Nat.ble slots R.slots = true) (hdg : decode cc pc = .ok (.invokestatic index, 3)) (hv : (if y < x then y else x) = v) (kk : J p l e R s m args below meth c nL D cy base Q cells slots Λ (pc + 3) lv (.long v :: st) σ) : J p l e R s m args below meth c nL D cy base Q cells slots Λ pc lv (.long y :: .long x :: st) σ := by
  intro H locs ls h hP hS
  subst hv
  exact va_mmin_long C.1 C.2.1 (C.2.2.1.trans h.1.symm) C.2.2.2.1 (C.2.2.2.2.1 _ (hs5 _ (by simp))) (C.2.2.2.2.1 _ (hs5 _ (by simp))) (C.2.2.2.2.1 _ (hs5 _ (by simp))) (C.2.2.2.2.1 _ (hs5 _ (by simp))) (Nat.le_of_ble_eq_true hf) (Nat.le_of_ble_eq_true hl) (Nat.le_of_ble_eq_true hc) (Nat.le_of_ble_eq_true hsl) hdg (kk H locs ls h hP hS)
end JM
theorem nI_min {a b : Nat} (ha : a < 2147483648) (hb : b < 2147483648) : (if nI b < nI a then nI b else nI a) = nI (min a b) := by
  by_cases h : b < a
  · rw [if_pos ((nI_ltI hb ha).mpr h)]; exact congrArg nI (by omega)
  · rw [if_neg (fun z => h ((nI_ltI hb ha).mp z))]; exact congrArg nI (by omega)
theorem nI_max {a b : Nat} (ha : a < 2147483648) (hb : b < 2147483648) : (if nI a < nI b then nI b else nI a) = nI (max a b) := by
  by_cases h : a < b
  · rw [if_pos ((nI_ltI ha hb).mpr h)]; exact congrArg nI (by omega)
  · rw [if_neg (fun z => h ((nI_ltI ha hb).mp z))]; exact congrArg nI (by omega)
theorem zL_min {a b : Int} (ha1 : -9223372036854775808 ≤ a) (ha : a < 9223372036854775808) (hb1 : -9223372036854775808 ≤ b) (hb : b < 9223372036854775808) : (if zL b < zL a then zL b else zL a) = zL (min a b) := by
  by_cases h : b < a
  · rw [if_pos ((zL_lt hb1 hb ha1 ha).mpr h)]; exact congrArg zL (by omega)
  · rw [if_neg (fun z => h ((zL_lt hb1 hb ha1 ha).mp z))]; exact congrArg zL (by omega)
theorem tieM_B {M : MM} {i j k n : Nat} (hB : MBd M) : MBd (tieM M i j k n) := by
  unfold tieM
  split
  · exact MBd.set hB tieV_le
  · exact MBd.set (MBd.set hB tieV_le) tieV_le
set_option maxHeartbeats 4000000 in
set_option maxRecDepth 100000 in
theorem c_tell0 (l : Launch) (D : va_G) (cy : Nat → ClassId) (base : Nat) (Λ : LY) (σ : HS) (M : MM) (hC : CR noEx Λ σ M) (hB : MBd M) (hW : WT M) (a b : Nat) (ha : a < M 31 5) (hb : b < M 31 5) (hab : a ≠ b) (x : Nat) (hx : 1 ≤ x) (hx2 : x ≤ 1000) : Met l yX4_tell wsX4_tell ({ frames := 12, cells := 0, slots := 0, locals := 180 }) (va_Pc [.ref (gA Λ 3 0), .ref (gA Λ 8 a), .ref (gA Λ 8 b), .int (nI 0), .int (nI x)] (Wd D cy base Λ σ)) (va_Qi (fun v u => v = nI (tieV M a b 0 x) ∧ CR noEx Λ u (settle (tieM M a b 0 x)) ∧ Same nTe σ u) (Wd D cy base Λ) (Ab base)) 0 0 (Ab base) := by
  refine j_start (cc := cX4_tell) (nL := 6) (ret := (some .int)) (lv := [(0, .ref (gA Λ 3 0)), (1, .ref (gA Λ 8 a)), (2, .ref (gA Λ 8 b)), (3, .int (nI 0)), (4, .int (nI x))]) (by decide) rfl (Nat.le_of_ble_eq_true rfl) rfl ?_
  intro p e s m below meth c C hr hlk hnm
  have C : Cx p s m ([.ref (gA Λ 3 0), .ref (gA Λ 8 a), .ref (gA Λ 8 b), .int (nI 0), .int (nI x)] : List Value).toArray c cX4_tell 6 RX4 wsX4_tell D cy base := C
  have hts := C.2.2.2.2.1
  have hwX5 : ∀ w ∈ u_ws RX5 TX5 13, w ∈ wsX4_tell := by decide +kernel
  have hL49 : FL RX4 49 (TX5 3).1 (TX5 3).2.1 (TX5 3).2.2.1 ([.ref (gA Λ 3 0), .ref (gA Λ 8 a), .ref (gA Λ 8 b), .int (nI 0), .int (nI x)] : List Value).toArray s := Or.inr ⟨_, Ex.nestF C.2.2.2.2.2.2 nf_X4_49⟩
  have hL53 : FL RX4 53 (TX5 0).1 (TX5 0).2.1 (TX5 0).2.2.1 ([.ref (gA Λ 3 0), .ref (gA Λ 8 a), .ref (gA Λ 8 b), .int (nI 0), .int (nI x)] : List Value).toArray s := Or.inr ⟨_, Ex.nestF C.2.2.2.2.2.2 nf_X4_53⟩
  have hL62 : FL RX4 62 (TX5 9).1 (TX5 9).2.1 (TX5 9).2.2.1 ([.ref (gA Λ 3 0), .ref (gA Λ 8 a), .ref (gA Λ 8 b), .int (nI 0), .int (nI x)] : List Value).toArray s := Or.inr ⟨_, Ex.nestF C.2.2.2.2.2.2 nf_X4_62⟩
  have hL66 : FL RX4 66 (TX5 1).1 (TX5 1).2.1 (TX5 1).2.2.1 ([.ref (gA Λ 3 0), .ref (gA Λ 8 a), .ref (gA Λ 8 b), .int (nI 0), .int (nI x)] : List Value).toArray s := Or.inr ⟨_, Ex.nestF C.2.2.2.2.2.2 nf_X4_66⟩
  have hL69 : FL RX4 69 (TX5 8).1 (TX5 8).2.1 (TX5 8).2.2.1 ([.ref (gA Λ 3 0), .ref (gA Λ 8 a), .ref (gA Λ 8 b), .int (nI 0), .int (nI x)] : List Value).toArray s := Or.inr ⟨_, Ex.nestF C.2.2.2.2.2.2 nf_X4_69⟩
  have hC48 : (Jvm.Cond.constant RX4 48 999999).before ([.ref (gA Λ 3 0), .ref (gA Λ 8 a), .ref (gA Λ 8 b), .int (nI 0), .int (nI x)] : List Value).toArray s = true := hts _ (by decide +kernel)
  have hn : M 31 5 ≤ 40 := hB 31 5 rfl
  have hx1 := tieV_le (M := M) (i := a) (j := b) (k := 0) (n := x)
  have hx0 : 0 < tieV M a b 0 x := by unfold tieV; split <;> omega
  have hB2 : MBd (tieM M a b 0 x) := tieM_B hB
  have hn2 : (tieM M a b 0 x) 31 5 ≤ 40 := hB2 31 5 rfl
  have e5 : (tieM M a b 0 x) 31 5 = M 31 5 := by unfold tieM; split <;> rfl
  have hTT := (CR.toT hC).2
  have hCT := (CR.toT hC).1
  have htu : ∀ a2 b2, a2 < (tieM M a b 0 x) 31 5 → b2 < 40 → _ := fun a2 b2 h1 h2 => tie_up (M := M) (i := a) (j := b) (k := 0) (n := x) hn ha hb hab (by omega) hW a2 b2 (by rw [e5] at h1; exact h1) h2
  refine j_ldc C (nI 999999) hC48 dX4_tell_0 (by decide) ?_
  refine j_aload_n C dX4_tell_2 rfl 1 rfl ?_
  refine j_getV C hwX5 8 a 3 (CR.n8 hC (by decide) (show a < M 31 5 by omega)) rfl rfl (by decide) rfl a (CR.v hC 8 a 3 ⟨show a < M 31 5 by omega, by decide, by decide⟩ id) hL49 dX4_tell_3 ?_
  refine j_iload_n C dX4_tell_6 rfl 3 rfl ?_
  refine j_aald C 9 a 0 (CR.n8 hC (by decide) (show a < M 31 5 by omega)) rfl (by decide) (by decide) 3 (CR.l8 hC (show a < M 31 5 by omega)).1 (by omega) (by omega) (3 * a + 0) (CR.v hC 9 a 0 ⟨show a < M 31 5 by omega, by omega⟩ id) dX4_tell_7 ?_
  refine j_aload_n C dX4_tell_8 rfl 2 rfl ?_
  refine j_getI C hwX5 8 b 0 (CR.n8 hC (by decide) (show b < M 31 5 by omega)) rfl rfl (by decide) rfl (nI b) (CR.i hC 8 b 0 ⟨show b < M 31 5 by omega, Or.inl rfl⟩ id) hL53 dX4_tell_9 ?_
  have hb12 : M 35 ((40 * 0 + a) * 40 + b) ≤ 999999 := hB 35 _ (decide_eq_true (show (40 * 0 + a) * 40 + b < 4800 by omega))
  refine j_iald C 10 (3 * a + 0) b (CR.n10 hC (show 3 * a + 0 < 3 * M 31 5 by omega)) rfl rfl 40 (CR.l10 hC (show 3 * a + 0 < 3 * M 31 5 by omega)) (by omega) (by omega) (nI (M 35 ((40 * 0 + a) * 40 + b))) ((CR.i hC 10 (3 * a + 0) b ⟨show 3 * a + 0 < 3 * M 31 5 by omega, by omega⟩ id).trans (c10 (by omega))) dX4_tell_12 ?_
  refine j_iload C dX4_tell_13 4 rfl ?_
  refine j_iadd C (nI (M 35 ((40 * 0 + a) * 40 + b) + x)) dX4_tell_15 (nI_add _ _) ?_
  refine j_mmin C (nI (tieV M a b 0 x)) (by decide +kernel) rfl rfl rfl rfl dX4_tell_16 ((nI_min (by omega) (by omega)).trans (congrArg nI tieV_min)) ?_
  refine j_istore C [(5, .int (nI (tieV M a b 0 x))), (0, .ref (gA Λ 3 0)), (1, .ref (gA Λ 8 a)), (2, .ref (gA Λ 8 b)), (3, .int (nI 0)), (4, .int (nI x))] dX4_tell_19 (by decide) rfl ?_
  refine j_aload_n C dX4_tell_21 rfl 2 rfl ?_
  refine j_getV C hwX5 8 a 3 (CR.n8 hC (by decide) (show a < M 31 5 by omega)) rfl rfl (by decide) rfl a (CR.v hC 8 a 3 ⟨show a < M 31 5 by omega, by decide, by decide⟩ id) hL49 dX4_tell_22 ?_
  refine j_iload_n C dX4_tell_25 rfl 4 rfl ?_
  refine j_aald C 9 a 0 (CR.n8 hC (by decide) (show a < M 31 5 by omega)) rfl (by decide) (by decide) 3 (CR.l8 hC (show a < M 31 5 by omega)).1 (by omega) (by omega) (3 * a + 0) (CR.v hC 9 a 0 ⟨show a < M 31 5 by omega, by omega⟩ id) dX4_tell_26 ?_
  refine j_aload_n C dX4_tell_27 rfl 3 rfl ?_
  refine j_getI C hwX5 8 b 0 (CR.n8 hC (by decide) (show b < M 31 5 by omega)) rfl rfl (by decide) rfl (nI b) (CR.i hC 8 b 0 ⟨show b < M 31 5 by omega, Or.inl rfl⟩ id) hL53 dX4_tell_28 ?_
  refine j_iload C dX4_tell_31 0 rfl ?_
  refine j_iast C 10 (3 * a + 0) b (CR.n10 hC (show 3 * a + 0 < 3 * M 31 5 by omega)) rfl rfl 40 (CR.l10 hC (show 3 * a + 0 < 3 * M 31 5 by omega)) (by omega) (by omega) (nI (tieV M a b 0 x)) rfl dX4_tell_33 ?_
  refine j_iload_n C dX4_tell_34 rfl 4 rfl ?_
  refine j_if_ne (tgt := 67) C (P := True) dX4_tell_35 (by decide) (by decide) (fun z => ?_) (fun z => ?_)
  · exact absurd trivial z
  · refine j_aload_n C dX4_tell_38 rfl 2 rfl ?_
    refine j_dup C dX4_tell_39 rfl ?_
    refine j_getJ C hwX5 8 a 9 (CR.n8 hC (by decide) (show a < M 31 5 by omega)) rfl rfl (by decide) rfl (lN (bitS (fun o => decide (0 < M 35 ((40 * 0 + a) * 40 + o))) (M 31 5))) (CR.j hC 8 a 9 ⟨show a < M 31 5 by omega, Or.inr (Or.inr (Or.inr rfl))⟩ id) hL62 dX4_tell_40 ?_
    refine j_aload_n C dX4_tell_43 rfl 3 rfl ?_
    refine j_getJ C hwX5 8 b 1 (CR.n8 hC (by decide) (show b < M 31 5 by omega)) rfl rfl (by decide) rfl (lN (2 ^ b)) (CR.j hC 8 b 1 ⟨show b < M 31 5 by omega, Or.inl rfl⟩ id) hL66 dX4_tell_44 ?_
    refine j_lor C ((lN (bitS (fun o => decide (0 < M 35 ((40 * 0 + a) * 40 + o))) (M 31 5))) ||| (lN (2 ^ b))) dX4_tell_47 rfl ?_
    refine j_putJ C hwX5 8 a 9 (CR.n8 hC (by decide) (show a < M 31 5 by omega)) rfl rfl (by decide) rfl tyX5 tyX5_ok nmX5 rfl rfl rfl hL62 dX4_tell_48 ?_
    refine j_aload_n C dX4_tell_51 rfl 3 rfl ?_
    refine j_dup C dX4_tell_52 rfl ?_
    refine j_getJ C hwX5 8 b 8 (CR.n8 hC (by decide) (show b < M 31 5 by omega)) rfl rfl (by decide) rfl (lN (bitS (fun o => decide (0 < M 35 ((40 * 0 + o) * 40 + b))) (M 31 5))) (by rw [gJ_sJ, if_neg (by omega)]; exact CR.j hC 8 b 8 ⟨hb, Or.inr (Or.inr (Or.inl rfl))⟩ id) hL69 dX4_tell_53 ?_
    refine j_aload_n C dX4_tell_56 rfl 2 rfl ?_
    refine j_getJ C hwX5 8 a 1 (CR.n8 hC (by decide) (show a < M 31 5 by omega)) rfl rfl (by decide) rfl (lN (2 ^ a)) (by rw [gJ_sJ, if_neg (by omega)]; exact CR.j hC 8 a 1 ⟨ha, Or.inl rfl⟩ id) hL66 dX4_tell_57 ?_
    refine j_lor C ((lN (bitS (fun o => decide (0 < M 35 ((40 * 0 + o) * 40 + b))) (M 31 5))) ||| (lN (2 ^ a))) dX4_tell_60 rfl ?_
    refine j_putJ C hwX5 8 b 8 (CR.n8 hC (by decide) (show b < M 31 5 by omega)) rfl rfl (by decide) rfl tyX5 tyX5_ok nmX5 rfl rfl rfl hL69 dX4_tell_61 ?_
    refine j_goto (tgt := 80) C dX4_tell_64 (by decide) ?_
    refine j_aload_n C dX4_tell_80 rfl 1 rfl ?_
    refine j_aload_n C dX4_tell_81 rfl 2 rfl ?_
    refine j_aload_n C dX4_tell_82 rfl 3 rfl ?_
    have hCt : CR exT Λ (sJ (sJ (sI σ 10 (3 * a + 0) b (nI (tieV M a b 0 x))) 8 a 9 ((lN (bitS (fun o => decide (0 < M 35 ((40 * 0 + a) * 40 + o))) (M 31 5))) ||| (lN (2 ^ b)))) 8 b 8 ((lN (bitS (fun o => decide (0 < M 35 ((40 * 0 + o) * 40 + b))) (M 31 5))) ||| (lN (2 ^ a)))) (tieM M a b 0 x) := CR.call hCT hn ha hb (bs_set hb (fun j hj => by show decide (0 < mS M 35 _ _ 35 _) = _; by_cases e9 : j = b; rw [e9, mS_same]; simp [hx0]; rw [mS_ne (Or.inr (by omega))]; simp [e9])) (bs_set ha (fun j hj => by show decide (0 < mS M 35 _ _ 35 _) = _; by_cases e9 : j = a; rw [e9, mS_same]; simp [hx0]; rw [mS_ne (Or.inr (by omega))]; simp [e9]))
    have hTt : TT (sJ (sJ (sI σ 10 (3 * a + 0) b (nI (tieV M a b 0 x))) 8 a 9 ((lN (bitS (fun o => decide (0 < M 35 ((40 * 0 + a) * 40 + o))) (M 31 5))) ||| (lN (2 ^ b)))) 8 b 8 ((lN (bitS (fun o => decide (0 < M 35 ((40 * 0 + o) * 40 + b))) (M 31 5))) ||| (lN (2 ^ a)))) ((tieM M a b 0 x) 31 5) (tieN M) := by
      rw [e5]
      exact ⟨fun i k hi hk => hTT.1 i k hi hk, fun i hi => by rw [gJ_sJ, if_neg (by omega), gJ_sJ, if_neg (by omega)]; exact hTT.2 i hi⟩
    refine c_v0 C (r_V C 3 0 [.ref (gA Λ 8 a), .ref (gA Λ 8 b)] (c_X4_weighTie l D cy base Λ (sJ (sJ (sI σ 10 (3 * a + 0) b (nI (tieV M a b 0 x))) 8 a 9 ((lN (bitS (fun o => decide (0 < M 35 ((40 * 0 + a) * 40 + o))) (M 31 5))) ||| (lN (2 ^ b)))) 8 b 8 ((lN (bitS (fun o => decide (0 < M 35 ((40 * 0 + o) * 40 + b))) (M 31 5))) ||| (lN (2 ^ a)))) (tieM M a b 0 x) hCt hB2 (tieN M) hTt a b (by rw [e5]; exact ha) (by rw [e5]; exact hb) hab) (cwV 2 hts gX4_tell_X4_weighTie rfl rfl rfl (by decide +kernel) ⟨by decide, by decide⟩) (CR.n1 hC (by decide)) rfl rfl rfl rfl (Nat.le_of_ble_eq_true rfl) dX4_tell_83 ⟨by decide, by decide⟩) (fun u3 hp => ?_)
    obtain ⟨hC3, hT3, hs3⟩ := hp
    have hCf := CR.ofT (M := tieM M a b 0 x) hn2 hC3 hT3 htu
    refine j_aload_n C dX4_tell_86 rfl 1 rfl ?_
    refine c_v0 C (r_V C 3 0 [] (c_X4_settle l D cy base Λ u3 (tieM M a b 0 x) (CR.weak hCf (fun _ _ _ z => z.elim)) hB2) (cwV 0 hts gX4_tell_X4_settle rfl rfl rfl (by decide +kernel) ⟨by decide, by decide⟩) (CR.n1 hCf (by decide)) rfl rfl rfl rfl (Nat.le_of_ble_eq_true rfl) dX4_tell_87 ⟨by decide, by decide⟩) (fun u9 hp => ?_)
    obtain ⟨hC9, hs9, hv9⟩ := hp
    refine j_iload C dX4_tell_90 0 rfl ?_
    exact j_iret C hr hlk (⟨rfl, hC9, (Same.tr (Same.tr (Same.sJ (Same.sJ (Same.sI Same.rf (by decide)) (by decide)) (by decide)) (hs3.mono (fun t h => ⟨h.2.2.2.1, h.2.2.2.2.2⟩))) (hs9.mono (fun t h => ⟨h.1, h.2.1, h.2.2.2.1⟩)))⟩) dX4_tell_92

set_option maxHeartbeats 4000000 in
set_option maxRecDepth 100000 in
theorem c_tell12 (l : Launch) (D : va_G) (cy : Nat → ClassId) (base : Nat) (Λ : LY) (σ : HS) (M : MM) (hC : CR noEx Λ σ M) (hB : MBd M) (hW : WT M) (a b : Nat) (ha : a < M 31 5) (hb : b < M 31 5) (hab : a ≠ b) (k : Nat) (hk12 : k = 1 ∨ k = 2) (x : Nat) (hx : 1 ≤ x) (hx2 : x ≤ 1000) : Met l yX4_tell wsX4_tell ({ frames := 12, cells := 0, slots := 0, locals := 180 }) (va_Pc [.ref (gA Λ 3 0), .ref (gA Λ 8 a), .ref (gA Λ 8 b), .int (nI k), .int (nI x)] (Wd D cy base Λ σ)) (va_Qi (fun v u => v = nI (tieV M a b k x) ∧ CR noEx Λ u (settle (tieM M a b k x)) ∧ Same nTe σ u) (Wd D cy base Λ) (Ab base)) 0 0 (Ab base) := by
  refine j_start (cc := cX4_tell) (nL := 6) (ret := (some .int)) (lv := [(0, .ref (gA Λ 3 0)), (1, .ref (gA Λ 8 a)), (2, .ref (gA Λ 8 b)), (3, .int (nI k)), (4, .int (nI x))]) (by decide) rfl (Nat.le_of_ble_eq_true rfl) rfl ?_
  intro p e s m below meth c C hr hlk hnm
  have C : Cx p s m ([.ref (gA Λ 3 0), .ref (gA Λ 8 a), .ref (gA Λ 8 b), .int (nI k), .int (nI x)] : List Value).toArray c cX4_tell 6 RX4 wsX4_tell D cy base := C
  have hts := C.2.2.2.2.1
  have hwX5 : ∀ w ∈ u_ws RX5 TX5 13, w ∈ wsX4_tell := by decide +kernel
  have hL49 : FL RX4 49 (TX5 3).1 (TX5 3).2.1 (TX5 3).2.2.1 ([.ref (gA Λ 3 0), .ref (gA Λ 8 a), .ref (gA Λ 8 b), .int (nI k), .int (nI x)] : List Value).toArray s := Or.inr ⟨_, Ex.nestF C.2.2.2.2.2.2 nf_X4_49⟩
  have hL53 : FL RX4 53 (TX5 0).1 (TX5 0).2.1 (TX5 0).2.2.1 ([.ref (gA Λ 3 0), .ref (gA Λ 8 a), .ref (gA Λ 8 b), .int (nI k), .int (nI x)] : List Value).toArray s := Or.inr ⟨_, Ex.nestF C.2.2.2.2.2.2 nf_X4_53⟩
  have hC48 : (Jvm.Cond.constant RX4 48 999999).before ([.ref (gA Λ 3 0), .ref (gA Λ 8 a), .ref (gA Λ 8 b), .int (nI k), .int (nI x)] : List Value).toArray s = true := hts _ (by decide +kernel)
  have hn : M 31 5 ≤ 40 := hB 31 5 rfl
  have hx1 := tieV_le (M := M) (i := a) (j := b) (k := k) (n := x)
  have hx0 : 0 < tieV M a b k x := by unfold tieV; split <;> omega
  have hB2 : MBd (tieM M a b k x) := tieM_B hB
  have hn2 : (tieM M a b k x) 31 5 ≤ 40 := hB2 31 5 rfl
  have e5 : (tieM M a b k x) 31 5 = M 31 5 := by unfold tieM; split <;> rfl
  have hTT := (CR.toT hC).2
  have hCT := (CR.toT hC).1
  have htu : ∀ a2 b2, a2 < (tieM M a b k x) 31 5 → b2 < 40 → _ := fun a2 b2 h1 h2 => tie_up (M := M) (i := a) (j := b) (k := k) (n := x) hn ha hb hab (by omega) hW a2 b2 (by rw [e5] at h1; exact h1) h2
  refine j_ldc C (nI 999999) hC48 dX4_tell_0 (by decide) ?_
  refine j_aload_n C dX4_tell_2 rfl 1 rfl ?_
  refine j_getV C hwX5 8 a 3 (CR.n8 hC (by decide) (show a < M 31 5 by omega)) rfl rfl (by decide) rfl a (CR.v hC 8 a 3 ⟨show a < M 31 5 by omega, by decide, by decide⟩ id) hL49 dX4_tell_3 ?_
  refine j_iload_n C dX4_tell_6 rfl 3 rfl ?_
  refine j_aald C 9 a k (CR.n8 hC (by decide) (show a < M 31 5 by omega)) rfl (by decide) (by decide) 3 (CR.l8 hC (show a < M 31 5 by omega)).1 (by omega) (by omega) (3 * a + k) (CR.v hC 9 a k ⟨show a < M 31 5 by omega, by omega⟩ id) dX4_tell_7 ?_
  refine j_aload_n C dX4_tell_8 rfl 2 rfl ?_
  refine j_getI C hwX5 8 b 0 (CR.n8 hC (by decide) (show b < M 31 5 by omega)) rfl rfl (by decide) rfl (nI b) (CR.i hC 8 b 0 ⟨show b < M 31 5 by omega, Or.inl rfl⟩ id) hL53 dX4_tell_9 ?_
  have hb12 : M 35 ((40 * k + a) * 40 + b) ≤ 999999 := hB 35 _ (decide_eq_true (show (40 * k + a) * 40 + b < 4800 by omega))
  refine j_iald C 10 (3 * a + k) b (CR.n10 hC (show 3 * a + k < 3 * M 31 5 by omega)) rfl rfl 40 (CR.l10 hC (show 3 * a + k < 3 * M 31 5 by omega)) (by omega) (by omega) (nI (M 35 ((40 * k + a) * 40 + b))) ((CR.i hC 10 (3 * a + k) b ⟨show 3 * a + k < 3 * M 31 5 by omega, by omega⟩ id).trans (c10 (by omega))) dX4_tell_12 ?_
  refine j_iload C dX4_tell_13 4 rfl ?_
  refine j_iadd C (nI (M 35 ((40 * k + a) * 40 + b) + x)) dX4_tell_15 (nI_add _ _) ?_
  refine j_mmin C (nI (tieV M a b k x)) (by decide +kernel) rfl rfl rfl rfl dX4_tell_16 ((nI_min (by omega) (by omega)).trans (congrArg nI tieV_min)) ?_
  refine j_istore C [(5, .int (nI (tieV M a b k x))), (0, .ref (gA Λ 3 0)), (1, .ref (gA Λ 8 a)), (2, .ref (gA Λ 8 b)), (3, .int (nI k)), (4, .int (nI x))] dX4_tell_19 (by decide) rfl ?_
  refine j_aload_n C dX4_tell_21 rfl 2 rfl ?_
  refine j_getV C hwX5 8 a 3 (CR.n8 hC (by decide) (show a < M 31 5 by omega)) rfl rfl (by decide) rfl a (CR.v hC 8 a 3 ⟨show a < M 31 5 by omega, by decide, by decide⟩ id) hL49 dX4_tell_22 ?_
  refine j_iload_n C dX4_tell_25 rfl 4 rfl ?_
  refine j_aald C 9 a k (CR.n8 hC (by decide) (show a < M 31 5 by omega)) rfl (by decide) (by decide) 3 (CR.l8 hC (show a < M 31 5 by omega)).1 (by omega) (by omega) (3 * a + k) (CR.v hC 9 a k ⟨show a < M 31 5 by omega, by omega⟩ id) dX4_tell_26 ?_
  refine j_aload_n C dX4_tell_27 rfl 3 rfl ?_
  refine j_getI C hwX5 8 b 0 (CR.n8 hC (by decide) (show b < M 31 5 by omega)) rfl rfl (by decide) rfl (nI b) (CR.i hC 8 b 0 ⟨show b < M 31 5 by omega, Or.inl rfl⟩ id) hL53 dX4_tell_28 ?_
  refine j_iload C dX4_tell_31 0 rfl ?_
  refine j_iast C 10 (3 * a + k) b (CR.n10 hC (show 3 * a + k < 3 * M 31 5 by omega)) rfl rfl 40 (CR.l10 hC (show 3 * a + k < 3 * M 31 5 by omega)) (by omega) (by omega) (nI (tieV M a b k x)) rfl dX4_tell_33 ?_
  refine j_iload_n C dX4_tell_34 rfl 4 rfl ?_
  refine j_if_ne (tgt := 67) C dX4_tell_35 (by decide) (nJ_ne0 (by omega)) (fun h35 => ?_) (fun h35 => ?_)
  · refine j_aload_n C dX4_tell_67 rfl 3 rfl ?_
    refine j_getV C hwX5 8 b 3 (CR.n8 hC (by decide) (show b < M 31 5 by omega)) rfl rfl (by decide) rfl b (CR.v hC 8 b 3 ⟨show b < M 31 5 by omega, by decide, by decide⟩ id) hL49 dX4_tell_68 ?_
    refine j_iload_n C dX4_tell_71 rfl 4 rfl ?_
    refine j_aald C 9 b k (CR.n8 hC (by decide) (show b < M 31 5 by omega)) rfl (by decide) (by decide) 3 (CR.l8 hC (show b < M 31 5 by omega)).1 (by omega) (by omega) (3 * b + k) (CR.v hC 9 b k ⟨show b < M 31 5 by omega, by omega⟩ id) dX4_tell_72 ?_
    refine j_aload_n C dX4_tell_73 rfl 2 rfl ?_
    refine j_getI C hwX5 8 a 0 (CR.n8 hC (by decide) (show a < M 31 5 by omega)) rfl rfl (by decide) rfl (nI a) (CR.i hC 8 a 0 ⟨show a < M 31 5 by omega, Or.inl rfl⟩ id) hL53 dX4_tell_74 ?_
    refine j_iload C dX4_tell_77 0 rfl ?_
    refine j_iast C 10 (3 * b + k) a (CR.n10 hC (show 3 * b + k < 3 * M 31 5 by omega)) rfl rfl 40 (CR.l10 hC (show 3 * b + k < 3 * M 31 5 by omega)) (by omega) (by omega) (nI (tieV M a b k x)) rfl dX4_tell_79 ?_
    refine j_aload_n C dX4_tell_80 rfl 1 rfl ?_
    refine j_aload_n C dX4_tell_81 rfl 2 rfl ?_
    refine j_aload_n C dX4_tell_82 rfl 3 rfl ?_
    have hCt : CR exT Λ (sI (sI σ 10 (3 * a + k) b (nI (tieV M a b k x))) 10 (3 * b + k) a (nI (tieV M a b k x))) (tieM M a b k x) := by rw [show tieM M a b k x = _ from if_neg (show ¬ k = 0 by omega)]; exact CR.told hCT hn ha hb hab hk12
    have hTt : TT (sI (sI σ 10 (3 * a + k) b (nI (tieV M a b k x))) 10 (3 * b + k) a (nI (tieV M a b k x))) ((tieM M a b k x) 31 5) (tieN M) := by
      rw [e5]
      exact ⟨fun i k hi hk => hTT.1 i k hi hk, fun i hi => hTT.2 i hi⟩
    refine c_v0 C (r_V C 3 0 [.ref (gA Λ 8 a), .ref (gA Λ 8 b)] (c_X4_weighTie l D cy base Λ (sI (sI σ 10 (3 * a + k) b (nI (tieV M a b k x))) 10 (3 * b + k) a (nI (tieV M a b k x))) (tieM M a b k x) hCt hB2 (tieN M) hTt a b (by rw [e5]; exact ha) (by rw [e5]; exact hb) hab) (cwV 2 hts gX4_tell_X4_weighTie rfl rfl rfl (by decide +kernel) ⟨by decide, by decide⟩) (CR.n1 hC (by decide)) rfl rfl rfl rfl (Nat.le_of_ble_eq_true rfl) dX4_tell_83 ⟨by decide, by decide⟩) (fun u3 hp => ?_)
    obtain ⟨hC3, hT3, hs3⟩ := hp
    have hCf := CR.ofT (M := tieM M a b k x) hn2 hC3 hT3 htu
    refine j_aload_n C dX4_tell_86 rfl 1 rfl ?_
    refine c_v0 C (r_V C 3 0 [] (c_X4_settle l D cy base Λ u3 (tieM M a b k x) (CR.weak hCf (fun _ _ _ z => z.elim)) hB2) (cwV 0 hts gX4_tell_X4_settle rfl rfl rfl (by decide +kernel) ⟨by decide, by decide⟩) (CR.n1 hCf (by decide)) rfl rfl rfl rfl (Nat.le_of_ble_eq_true rfl) dX4_tell_87 ⟨by decide, by decide⟩) (fun u9 hp => ?_)
    obtain ⟨hC9, hs9, hv9⟩ := hp
    refine j_iload C dX4_tell_90 0 rfl ?_
    exact j_iret C hr hlk (⟨rfl, hC9, (Same.tr (Same.tr (Same.sI (Same.sI Same.rf (by decide)) (by decide)) (hs3.mono (fun t h => ⟨h.2.2.2.1, h.2.2.2.2.2⟩))) (hs9.mono (fun t h => ⟨h.1, h.2.1, h.2.2.2.1⟩)))⟩) dX4_tell_92
  · omega

set_option maxHeartbeats 4000000 in
set_option maxRecDepth 100000 in
theorem c_alter_w (l : Launch) (D : va_G) (cy : Nat → ClassId) (base : Nat) (Λ : LY) (σ : HS) (M : MM) (hC : CR noEx Λ σ M) (hB : MBd M) (hW : WT M) (w v : Nat) (hw : w < 3) (hv : v ≤ 9) : Met l yX4_alter wsX4_alter ({ frames := 16, cells := 0, slots := 0, locals := 240 }) (va_Pc [.ref (gA Λ 3 0), .int (nI w), .int (nI v)] (Wd D cy base Λ σ)) (va_Qi (fun q u => q = nI (M 36 w) ∧ CR noEx Λ u (settle (mS M 36 w v)) ∧ Same nTe σ u) (Wd D cy base Λ) (Ab base)) 0 0 (Ab base) := by
  refine j_start (cc := cX4_alter) (nL := 4) (ret := (some .int)) (lv := [(0, .ref (gA Λ 3 0)), (1, .int (nI w)), (2, .int (nI v))]) (by decide) rfl (Nat.le_of_ble_eq_true rfl) rfl ?_
  intro p e s m below meth c C hr hlk hnm
  have C : Cx p s m ([.ref (gA Λ 3 0), .int (nI w), .int (nI v)] : List Value).toArray c cX4_alter 4 RX4 wsX4_alter D cy base := C
  have hts := C.2.2.2.2.1
  have hwX4 : ∀ w ∈ u_ws RX4 TX4 6, w ∈ wsX4_alter := by decide +kernel
  have hM20 : (Cond.fieldLink RX4 20 (TX4 2).1 (TX4 2).2.1 (TX4 2).2.2.1).before ([.ref (gA Λ 3 0), .int (nI w), .int (nI v)] : List Value).toArray s = true := hts (.fieldLink RX4 20 "CodeRooms$Plan" "settings" "[I") (by decide +kernel)
  have hL20 : FL RX4 20 (TX4 2).1 (TX4 2).2.1 (TX4 2).2.2.1 ([.ref (gA Λ 3 0), .int (nI w), .int (nI v)] : List Value).toArray s := Or.inl hM20
  have hn : M 31 5 ≤ 40 := hB 31 5 rfl
  have hTT := (CR.toT hC).2
  have hCT := (CR.toT hC).1
  have hB2 : MBd (mS M 36 w v) := MBd.set hB hv
  refine j_aload_n C dX4_alter_0 rfl 0 rfl ?_
  refine j_getV C hwX4 3 0 2 (CR.n1 hC (by decide)) rfl rfl (by decide) rfl 0 (CR.v hC 3 0 2 ⟨rfl, by decide⟩ id) hL20 dX4_alter_1 ?_
  refine j_iload_n C dX4_alter_4 rfl 1 rfl ?_
  refine j_iald C 6 0 w (CR.n1 hC (by decide)) rfl rfl 6 (CR.l1 hC (by decide)) (by omega) (by omega) (nI (M 36 w)) ((CR.i hC 6 0 w ⟨rfl, by omega⟩ id).trans (congrArg nI (if_pos hw))) dX4_alter_5 ?_
  refine j_istore_n C [(3, .int (nI (M 36 w))), (0, .ref (gA Λ 3 0)), (1, .int (nI w)), (2, .int (nI v))] dX4_alter_6 rfl (by decide) rfl ?_
  refine j_aload_n C dX4_alter_7 rfl 1 rfl ?_
  refine j_getV C hwX4 3 0 2 (CR.n1 hC (by decide)) rfl rfl (by decide) rfl 0 (CR.v hC 3 0 2 ⟨rfl, by decide⟩ id) hL20 dX4_alter_8 ?_
  refine j_iload_n C dX4_alter_11 rfl 2 rfl ?_
  refine j_iload_n C dX4_alter_12 rfl 3 rfl ?_
  refine j_iast C 6 0 w (CR.n1 hC (by decide)) rfl rfl 6 (CR.l1 hC (by decide)) (by omega) (by omega) (nI v) rfl dX4_alter_13 ?_
  refine j_iload_n C dX4_alter_14 rfl 2 rfl ?_
  refine j_iconst C (nI 3) dX4_alter_15 (by decide) ?_
  refine j_icmp_ge (tgt := 23) C dX4_alter_16 (by decide) (nI_leI (by omega) (by omega)) (fun h16 => ?_) (fun h16 => ?_)
  · omega
  · refine j_aload_n C dX4_alter_19 rfl 1 rfl ?_
    refine c_v0 C (r_V C 3 0 [] (c_X4_weighTies l D cy base Λ (sI σ 6 0 w (nI v)) (mS M 36 w v) (CR.setw hCT hw rfl) hB2 (tieN M) hTT hW) (cwV 0 hts gX4_alter_X4_weighTies rfl rfl rfl (by decide +kernel) ⟨by decide, by decide⟩) (CR.n1 hC (by decide)) rfl rfl rfl rfl (Nat.le_of_ble_eq_true rfl) dX4_alter_20 ⟨by decide, by decide⟩) (fun u3 hp => ?_)
    obtain ⟨hC3, hT3, hs3⟩ := hp
    have hCf := CR.ofT (M := mS M 36 w v) hn hC3 hT3 (TD_e (M := mS M 36 w v) hW hn (fun a b h1 h2 h3 => WT.z hW (Nat.lt_of_lt_of_le h1 hn) h2 (h3.imp id Or.inr)))
    refine j_aload_n C dX4_alter_23 rfl 1 rfl ?_
    refine c_v0 C (r_V C 3 0 [] (c_X4_settle l D cy base Λ u3 (mS M 36 w v) (CR.weak hCf (fun _ _ _ z => z.elim)) hB2) (cwV 0 hts gX4_alter_X4_settle rfl rfl rfl (by decide +kernel) ⟨by decide, by decide⟩) (CR.n1 hCf (by decide)) rfl rfl rfl rfl (Nat.le_of_ble_eq_true rfl) dX4_alter_24 ⟨by decide, by decide⟩) (fun u9 hp => ?_)
    obtain ⟨hC9, hs9, hv9⟩ := hp
    refine j_iload_n C dX4_alter_27 rfl 0 rfl ?_
    exact j_iret C hr hlk (⟨rfl, hC9, (Same.tr (Same.tr (Same.sI Same.rf (by decide)) (hs3.mono (fun t h => ⟨h.2.2.2.1, h.2.2.2.2.2⟩))) (hs9.mono (fun t h => ⟨h.1, h.2.1, h.2.2.2.1⟩)))⟩) dX4_alter_28

set_option maxHeartbeats 4000000 in
set_option maxRecDepth 100000 in
theorem c_alter_3 (l : Launch) (D : va_G) (cy : Nat → ClassId) (base : Nat) (Λ : LY) (σ : HS) (M : MM) (hC : CR noEx Λ σ M) (hB : MBd M) (v : Nat) (hv : v ≤ 100) : Met l yX4_alter wsX4_alter ({ frames := 16, cells := 0, slots := 0, locals := 240 }) (va_Pc [.ref (gA Λ 3 0), .int (nI 3), .int (nI v)] (Wd D cy base Λ σ)) (va_Qi (fun q u => q = nI (M 31 8) ∧ CR noEx Λ u (settle (mS M 31 8 v)) ∧ Same nTe σ u) (Wd D cy base Λ) (Ab base)) 0 0 (Ab base) := by
  refine j_start (cc := cX4_alter) (nL := 4) (ret := (some .int)) (lv := [(0, .ref (gA Λ 3 0)), (1, .int (nI 3)), (2, .int (nI v))]) (by decide) rfl (Nat.le_of_ble_eq_true rfl) rfl ?_
  intro p e s m below meth c C hr hlk hnm
  have C : Cx p s m ([.ref (gA Λ 3 0), .int (nI 3), .int (nI v)] : List Value).toArray c cX4_alter 4 RX4 wsX4_alter D cy base := C
  have hts := C.2.2.2.2.1
  have hwX4 : ∀ w ∈ u_ws RX4 TX4 6, w ∈ wsX4_alter := by decide +kernel
  have hM20 : (Cond.fieldLink RX4 20 (TX4 2).1 (TX4 2).2.1 (TX4 2).2.2.1).before ([.ref (gA Λ 3 0), .int (nI 3), .int (nI v)] : List Value).toArray s = true := hts (.fieldLink RX4 20 "CodeRooms$Plan" "settings" "[I") (by decide +kernel)
  have hL20 : FL RX4 20 (TX4 2).1 (TX4 2).2.1 (TX4 2).2.2.1 ([.ref (gA Λ 3 0), .int (nI 3), .int (nI v)] : List Value).toArray s := Or.inl hM20
  have hB2 : MBd (mS M 31 8 v) := MBd.set hB (Nat.le_trans hv (by decide))
  refine j_aload_n C dX4_alter_0 rfl 0 rfl ?_
  refine j_getV C hwX4 3 0 2 (CR.n1 hC (by decide)) rfl rfl (by decide) rfl 0 (CR.v hC 3 0 2 ⟨rfl, by decide⟩ id) hL20 dX4_alter_1 ?_
  refine j_iload_n C dX4_alter_4 rfl 1 rfl ?_
  have hb5 : M 31 8 ≤ 100 := hB 31 8 rfl
  refine j_iald C 6 0 3 (CR.n1 hC (by decide)) rfl rfl 6 (CR.l1 hC (by decide)) (by omega) (by omega) (nI (M 31 8)) (CR.i hC 6 0 3 ⟨rfl, by decide⟩ id) dX4_alter_5 ?_
  refine j_istore_n C [(3, .int (nI (M 31 8))), (0, .ref (gA Λ 3 0)), (1, .int (nI 3)), (2, .int (nI v))] dX4_alter_6 rfl (by decide) rfl ?_
  refine j_aload_n C dX4_alter_7 rfl 1 rfl ?_
  refine j_getV C hwX4 3 0 2 (CR.n1 hC (by decide)) rfl rfl (by decide) rfl 0 (CR.v hC 3 0 2 ⟨rfl, by decide⟩ id) hL20 dX4_alter_8 ?_
  refine j_iload_n C dX4_alter_11 rfl 2 rfl ?_
  refine j_iload_n C dX4_alter_12 rfl 3 rfl ?_
  refine j_iast C 6 0 3 (CR.n1 hC (by decide)) rfl rfl 6 (CR.l1 hC (by decide)) (by omega) (by omega) (nI v) rfl dX4_alter_13 ?_
  refine j_iload_n C dX4_alter_14 rfl 2 rfl ?_
  refine j_iconst C (nI 3) dX4_alter_15 (by decide) ?_
  refine j_icmp_ge (tgt := 23) C (P := True) dX4_alter_16 (by decide) (by decide) (fun z => ?_) (fun z => ?_)
  · refine j_aload_n C dX4_alter_23 rfl 1 rfl ?_
    refine c_v0 C (r_V C 3 0 [] (c_X4_settle l D cy base Λ (sI σ 6 0 3 (nI v)) (mS M 31 8 v) (CR.weak (CR.set3 hC rfl) (fun _ _ _ z => z.elim)) hB2) (cwV 0 hts gX4_alter_X4_settle rfl rfl rfl (by decide +kernel) ⟨by decide, by decide⟩) (CR.n1 hC (by decide)) rfl rfl rfl rfl (Nat.le_of_ble_eq_true rfl) dX4_alter_24 ⟨by decide, by decide⟩) (fun u9 hp => ?_)
    obtain ⟨hC9, hs9, hv9⟩ := hp
    refine j_iload_n C dX4_alter_27 rfl 0 rfl ?_
    exact j_iret C hr hlk (⟨rfl, hC9, Same.tr (Same.sI Same.rf (by decide)) (hs9.mono (fun t h => ⟨h.1, h.2.1, h.2.2.2.1⟩))⟩) dX4_alter_28
  · exact absurd trivial z

set_option maxHeartbeats 4000000 in
set_option maxRecDepth 100000 in
theorem c_alter_4 (l : Launch) (D : va_G) (cy : Nat → ClassId) (base : Nat) (Λ : LY) (σ : HS) (M : MM) (hC : CR noEx Λ σ M) (hB : MBd M) (v : Nat) (hv : v ≤ 40) : Met l yX4_alter wsX4_alter ({ frames := 16, cells := 0, slots := 0, locals := 240 }) (va_Pc [.ref (gA Λ 3 0), .int (nI 4), .int (nI v)] (Wd D cy base Λ σ)) (va_Qi (fun q u => q = nI (M 31 9) ∧ CR noEx Λ u (settle (mS M 31 9 v)) ∧ Same nTe σ u) (Wd D cy base Λ) (Ab base)) 0 0 (Ab base) := by
  refine j_start (cc := cX4_alter) (nL := 4) (ret := (some .int)) (lv := [(0, .ref (gA Λ 3 0)), (1, .int (nI 4)), (2, .int (nI v))]) (by decide) rfl (Nat.le_of_ble_eq_true rfl) rfl ?_
  intro p e s m below meth c C hr hlk hnm
  have C : Cx p s m ([.ref (gA Λ 3 0), .int (nI 4), .int (nI v)] : List Value).toArray c cX4_alter 4 RX4 wsX4_alter D cy base := C
  have hts := C.2.2.2.2.1
  have hwX4 : ∀ w ∈ u_ws RX4 TX4 6, w ∈ wsX4_alter := by decide +kernel
  have hM20 : (Cond.fieldLink RX4 20 (TX4 2).1 (TX4 2).2.1 (TX4 2).2.2.1).before ([.ref (gA Λ 3 0), .int (nI 4), .int (nI v)] : List Value).toArray s = true := hts (.fieldLink RX4 20 "CodeRooms$Plan" "settings" "[I") (by decide +kernel)
  have hL20 : FL RX4 20 (TX4 2).1 (TX4 2).2.1 (TX4 2).2.2.1 ([.ref (gA Λ 3 0), .int (nI 4), .int (nI v)] : List Value).toArray s := Or.inl hM20
  have hB2 : MBd (mS M 31 9 v) := MBd.set hB (Nat.le_trans hv (by decide))
  refine j_aload_n C dX4_alter_0 rfl 0 rfl ?_
  refine j_getV C hwX4 3 0 2 (CR.n1 hC (by decide)) rfl rfl (by decide) rfl 0 (CR.v hC 3 0 2 ⟨rfl, by decide⟩ id) hL20 dX4_alter_1 ?_
  refine j_iload_n C dX4_alter_4 rfl 1 rfl ?_
  have hb5 : M 31 9 ≤ 40 := hB 31 9 rfl
  refine j_iald C 6 0 4 (CR.n1 hC (by decide)) rfl rfl 6 (CR.l1 hC (by decide)) (by omega) (by omega) (nI (M 31 9)) (CR.i hC 6 0 4 ⟨rfl, by decide⟩ id) dX4_alter_5 ?_
  refine j_istore_n C [(3, .int (nI (M 31 9))), (0, .ref (gA Λ 3 0)), (1, .int (nI 4)), (2, .int (nI v))] dX4_alter_6 rfl (by decide) rfl ?_
  refine j_aload_n C dX4_alter_7 rfl 1 rfl ?_
  refine j_getV C hwX4 3 0 2 (CR.n1 hC (by decide)) rfl rfl (by decide) rfl 0 (CR.v hC 3 0 2 ⟨rfl, by decide⟩ id) hL20 dX4_alter_8 ?_
  refine j_iload_n C dX4_alter_11 rfl 2 rfl ?_
  refine j_iload_n C dX4_alter_12 rfl 3 rfl ?_
  refine j_iast C 6 0 4 (CR.n1 hC (by decide)) rfl rfl 6 (CR.l1 hC (by decide)) (by omega) (by omega) (nI v) rfl dX4_alter_13 ?_
  refine j_iload_n C dX4_alter_14 rfl 2 rfl ?_
  refine j_iconst C (nI 3) dX4_alter_15 (by decide) ?_
  refine j_icmp_ge (tgt := 23) C (P := True) dX4_alter_16 (by decide) (by decide) (fun z => ?_) (fun z => ?_)
  · refine j_aload_n C dX4_alter_23 rfl 1 rfl ?_
    refine c_v0 C (r_V C 3 0 [] (c_X4_settle l D cy base Λ (sI σ 6 0 4 (nI v)) (mS M 31 9 v) (CR.weak (CR.set4 hC rfl) (fun _ _ _ z => z.elim)) hB2) (cwV 0 hts gX4_alter_X4_settle rfl rfl rfl (by decide +kernel) ⟨by decide, by decide⟩) (CR.n1 hC (by decide)) rfl rfl rfl rfl (Nat.le_of_ble_eq_true rfl) dX4_alter_24 ⟨by decide, by decide⟩) (fun u9 hp => ?_)
    obtain ⟨hC9, hs9, hv9⟩ := hp
    refine j_iload_n C dX4_alter_27 rfl 0 rfl ?_
    exact j_iret C hr hlk (⟨rfl, hC9, Same.tr (Same.sI Same.rf (by decide)) (hs9.mono (fun t h => ⟨h.1, h.2.1, h.2.2.2.1⟩))⟩) dX4_alter_28
  · exact absurd trivial z

set_option maxHeartbeats 4000000 in
set_option maxRecDepth 100000 in
theorem c_alter_5 (l : Launch) (D : va_G) (cy : Nat → ClassId) (base : Nat) (Λ : LY) (σ : HS) (M : MM) (hC : CR noEx Λ σ M) (hB : MBd M) (v : Nat) (hv : v ≤ 6) : Met l yX4_alter wsX4_alter ({ frames := 16, cells := 0, slots := 0, locals := 240 }) (va_Pc [.ref (gA Λ 3 0), .int (nI 5), .int (nI v)] (Wd D cy base Λ σ)) (va_Qi (fun q u => q = nI (M 31 10) ∧ CR noEx Λ u (settle (mS M 31 10 v)) ∧ Same nTe σ u) (Wd D cy base Λ) (Ab base)) 0 0 (Ab base) := by
  refine j_start (cc := cX4_alter) (nL := 4) (ret := (some .int)) (lv := [(0, .ref (gA Λ 3 0)), (1, .int (nI 5)), (2, .int (nI v))]) (by decide) rfl (Nat.le_of_ble_eq_true rfl) rfl ?_
  intro p e s m below meth c C hr hlk hnm
  have C : Cx p s m ([.ref (gA Λ 3 0), .int (nI 5), .int (nI v)] : List Value).toArray c cX4_alter 4 RX4 wsX4_alter D cy base := C
  have hts := C.2.2.2.2.1
  have hwX4 : ∀ w ∈ u_ws RX4 TX4 6, w ∈ wsX4_alter := by decide +kernel
  have hM20 : (Cond.fieldLink RX4 20 (TX4 2).1 (TX4 2).2.1 (TX4 2).2.2.1).before ([.ref (gA Λ 3 0), .int (nI 5), .int (nI v)] : List Value).toArray s = true := hts (.fieldLink RX4 20 "CodeRooms$Plan" "settings" "[I") (by decide +kernel)
  have hL20 : FL RX4 20 (TX4 2).1 (TX4 2).2.1 (TX4 2).2.2.1 ([.ref (gA Λ 3 0), .int (nI 5), .int (nI v)] : List Value).toArray s := Or.inl hM20
  have hB2 : MBd (mS M 31 10 v) := MBd.set hB (Nat.le_trans hv (by decide))
  refine j_aload_n C dX4_alter_0 rfl 0 rfl ?_
  refine j_getV C hwX4 3 0 2 (CR.n1 hC (by decide)) rfl rfl (by decide) rfl 0 (CR.v hC 3 0 2 ⟨rfl, by decide⟩ id) hL20 dX4_alter_1 ?_
  refine j_iload_n C dX4_alter_4 rfl 1 rfl ?_
  have hb5 : M 31 10 ≤ 40 := hB 31 10 rfl
  refine j_iald C 6 0 5 (CR.n1 hC (by decide)) rfl rfl 6 (CR.l1 hC (by decide)) (by omega) (by omega) (nI (M 31 10)) (CR.i hC 6 0 5 ⟨rfl, by decide⟩ id) dX4_alter_5 ?_
  refine j_istore_n C [(3, .int (nI (M 31 10))), (0, .ref (gA Λ 3 0)), (1, .int (nI 5)), (2, .int (nI v))] dX4_alter_6 rfl (by decide) rfl ?_
  refine j_aload_n C dX4_alter_7 rfl 1 rfl ?_
  refine j_getV C hwX4 3 0 2 (CR.n1 hC (by decide)) rfl rfl (by decide) rfl 0 (CR.v hC 3 0 2 ⟨rfl, by decide⟩ id) hL20 dX4_alter_8 ?_
  refine j_iload_n C dX4_alter_11 rfl 2 rfl ?_
  refine j_iload_n C dX4_alter_12 rfl 3 rfl ?_
  refine j_iast C 6 0 5 (CR.n1 hC (by decide)) rfl rfl 6 (CR.l1 hC (by decide)) (by omega) (by omega) (nI v) rfl dX4_alter_13 ?_
  refine j_iload_n C dX4_alter_14 rfl 2 rfl ?_
  refine j_iconst C (nI 3) dX4_alter_15 (by decide) ?_
  refine j_icmp_ge (tgt := 23) C (P := True) dX4_alter_16 (by decide) (by decide) (fun z => ?_) (fun z => ?_)
  · refine j_aload_n C dX4_alter_23 rfl 1 rfl ?_
    refine c_v0 C (r_V C 3 0 [] (c_X4_settle l D cy base Λ (sI σ 6 0 5 (nI v)) (mS M 31 10 v) (CR.weak (CR.set5 hC rfl) (fun _ _ _ z => z.elim)) hB2) (cwV 0 hts gX4_alter_X4_settle rfl rfl rfl (by decide +kernel) ⟨by decide, by decide⟩) (CR.n1 hC (by decide)) rfl rfl rfl rfl (Nat.le_of_ble_eq_true rfl) dX4_alter_24 ⟨by decide, by decide⟩) (fun u9 hp => ?_)
    obtain ⟨hC9, hs9, hv9⟩ := hp
    refine j_iload_n C dX4_alter_27 rfl 0 rfl ?_
    exact j_iret C hr hlk (⟨rfl, hC9, Same.tr (Same.sI Same.rf (by decide)) (hs9.mono (fun t h => ⟨h.1, h.2.1, h.2.2.2.1⟩))⟩) dX4_alter_28
  · exact absurd trivial z
