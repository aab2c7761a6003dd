/-! ===== the law's wrappers: methods with handlers ===== -/
theorem nw_nc1 (b : Nat) (U : State) (h : (Jvm.Cond.and given_1 narrow_1).before #[Value.ref b] U = true) : (Cond.not (.castable "java/lang/IllegalArgumentException" "java/lang/IndexOutOfBoundsException")).before #[Value.ref b] U = true := flat_of_before _ h _ (by decide +kernel)
theorem nw_nc2 (b : Nat) (U : State) (h : (Jvm.Cond.and given_1 narrow_1).before #[Value.ref b] U = true) : (Cond.not (.castable "java/lang/IllegalStateException" "java/lang/IllegalArgumentException")).before #[Value.ref b] U = true := flat_of_before _ h _ (by decide +kernel)
theorem Ex.nc {base : Nat} {s : State} {A B : String} (hE : Ex base s) (h3 : ∀ (b : Nat) (U : State), (Jvm.Cond.and given_1 narrow_1).before #[Value.ref b] U = true → (Cond.not (.castable A B)).before #[Value.ref b] U = true) : va_Nc A B s := by
  obtain ⟨U0, b, e1, e2, e3, e4, e5, e6⟩ := hE
  exact va_Nc.moved e2.alike (va_Nc.of (h3 b U0 e6))
abbrev NoX : String → State → State → Prop := fun _ _ _ => False
section JH
variable {p : Program} {l : Launch} {e : Env} {R : Room} {s : State} {m : MethodId} {args : Array Value} {below : List Frame} {meth : Method} {c : Code} {cc : ByteArray} {nL : Nat} {own : String} {Ts : List Cond} {D : va_G} {cy : Nat → ClassId} {base : Nat} {Q : State → Prop} {cells slots pc mc ms : Nat} {lv lv' : List (Nat × Value)} {st stk : List Value} {Λ : LY} {σ : HS} {Qc : Array Value → State → Outcome → State → Prop} {XC : String → State → State → Prop}
/-- a body with handlers -/
theorem j_startH {y : MethodName} {ws ws' : List Cond} {rm : Room} {ret : Option FieldType} {as : List Value} {hh : List (Nat × Nat × Nat × Nat)} {Pw : State → Prop} (hPw : ∀ U, Pw U → Wd D cy base Λ σ U) (hy : plainName y.cls = true) (hw : ws = Cond.codeWith y cc nL ret hh :: ws') (hlen : (lg_sl as).length ≤ nL) (hlv : lv_args 0 as = lv)
    (body : ∀ (p : Program) (e : Env) (s : State) (m : MethodId) (below : List Frame) (meth : Method) (c : Code), Cx p s m as.toArray c cc nL y.cls ws D cy base → meth.sig.returnType = ret → meth.locks = false → c.exceptionTable.toList = tableOf hh → Pw s → J p l e rm s m as.toArray below meth c nL D cy base (vx_MQ below Qc XC as.toArray s mc ms (Ab base)) 0 0 Λ 0 lv [] σ) : vx_Met l y ws rm (va_Pc as Pw) Qc XC mc ms (Ab base) := by
  refine vx_ofWH (cc := cc) (maxL := nL) (ret := ret) (hh := hh) hy hw ?_
  intro p e s m args below meth c s₁ B hml hv
  obtain ⟨rfl, hq⟩ := hv
  obtain ⟨hR, hK, hE⟩ := hPw s hq
  have hts := atoms_spec (ws := ws) B.pre
  have C : Cx p s m as.toArray c cc nL y.cls ws D cy base := ⟨B.exec, B.bytes, hml, findClass_of_methodNamed B.named, hts, hK, hE⟩
  have htab := vx_table (x := y) B (hts _ (by rw [hw]; exact List.mem_cons_self))
  have hl := lv_entry as (n := nL) hlen
  rw [hlv] at hl
  rw [lg_entry_eq]
  exact body p e s m below meth c C B.returns B.notSynchronized htab hq s.heap [] _ hl hR va_S.rf
theorem j_up (k : J p l e R s m args below meth c nL D cy base (MQ below Qc args s mc ms (Ab base)) cells slots Λ pc lv st σ) : J p l e R s m args below meth c nL D cy base (vx_MQ below Qc XC args s mc ms (Ab base)) cells slots Λ pc lv st σ := fun H locs ls h hP hS => vx_ret (k H locs ls h hP hS)
/-- a callee that throws, and a handler that takes it -/
theorem j_caught (C : Cx p s m args c cc nL own Ts D cy base) {cls name : String} (hr : RunX p l e R s m args below meth c nL D cy base cells slots mc ms Λ pc lv stk st σ cls) (pre : List ExceptionTableEntry) (x : ExceptionTableEntry) (suf : List ExceptionTableEntry) (hsplit : c.exceptionTable.toList = pre ++ x :: suf) (hpass : ∀ z ∈ pre, covers z pc = false ∨ (z.catchType ≠ 0 ∧ ∃ nm : String, (Cond.classLink own z.catchType nm).before args s = true ∧ va_Nc cls nm s)) (hx : covers x pc = true) (h0 : x.catchType ≠ 0) (hlink : (Cond.classLink own x.catchType name).before args s = true) (hcast : (Cond.castable cls name).before args s = true)
    (kk : ∀ q9 : Nat, J p l e R s m args below meth c nL D cy base Q (cells + mc) (slots + ms) Λ x.handlerPc lv [.ref q9] σ) : J p l e R s m args below meth c nL D cy base Q cells slots Λ pc lv stk σ := by
  refine j_call_x C hr (fun H1 locs1 ls q9 ce h hP hS h1 h2 h3 => ?_)
  exact vx_catch C.2.2.2.1 pre x suf hsplit hpass hx h0 hlink hcast h1 h2 h3 (kk q9 H1 locs1 ls h hP hS)
end JH
set_option maxHeartbeats 1000000 in
set_option maxRecDepth 100000 in
/-- hub: it answers -/
theorem w_hub_n (l : Launch) (D : va_G) (cy : Nat → ClassId) (base : Nat) (Λ : LY) (σ : HS) (r : Int32) (b : Nat → Nat) (h0 : 0 < gC Λ 0) (h49 : 0 < gC Λ 49) (hl49 : gN Λ 49 0 = 1) (v0 : Nat) (hv0 : v0 ≤ 1) (rm : Room) (hrf : rm.frames ≤ 98) (hrl : rm.locals ≤ 1900) (hrc : rm.cells = 0) (hrs : rm.slots = 0) (hM : Met l yX10_hub wsX10_hub rm (va_Pc [.ref (gA Λ 0 0), .int r] (Wd D cy base Λ σ)) (va_Qi (fun v u => v = nI v0 ∧ u = σ) (Wd D cy base Λ) (Ab base)) 0 0 (Ab base)) : vx_Met l yL_hub wsL_hub ({ frames := 100, cells := 1, slots := 6, locals := 2000 }) (va_Pc [.ref (gA Λ 0 0), .int r, .ref (gA Λ 49 0)] (Wd D cy base Λ σ)) (va_Qi (fun v u => v = nI 0 ∧ u = sJ σ 49 0 0 (zL v0)) (Wd D cy base Λ) (Ab base)) NoX 1 6 (Ab base) := by
  refine j_startH (cc := cL_hub) (nL := 4) (ret := (some .int)) (hh := [(0, 16, 19, 21)]) (lv := [(0, .ref (gA Λ 0 0)), (1, .int r), (2, .ref (gA Λ 49 0))]) (fun _ q => q) (by decide) rfl (Nat.le_of_ble_eq_true rfl) rfl ?_
  intro p e s m below meth c C hr hlk htab hq
  have C : Cx p s m ([.ref (gA Λ 0 0), .int r, .ref (gA Λ 49 0)] : List Value).toArray c cL_hub 4 RL wsL_hub D cy base := C
  have hts := C.2.2.2.2.1
  have end1 : ∀ (u : HS) (x : List (Nat × Value)), x.length = x.length → J p l e ({ frames := 100, cells := 1, slots := 6, locals := 2000 }) s m ([.ref (gA Λ 0 0), .int r, .ref (gA Λ 49 0)] : List Value).toArray below meth c 4 D cy base (vx_MQ below (va_Qi (fun v u => v = nI 0 ∧ u = sJ σ 49 0 0 (zL v0)) (Wd D cy base Λ) (Ab base)) NoX ([.ref (gA Λ 0 0), .int r, .ref (gA Λ 49 0)] : List Value).toArray s 1 6 (Ab base)) 0 0 Λ 15 x [.long (zL v0), .int (nI 0), .ref (gA Λ 49 0)] σ := by
    intro u x _
    refine j_last C 49 0 0 h49 rfl rfl 1 hl49 (by omega) (by omega) (zL v0) rfl dL_hub_15 ?_
    refine j_goto (tgt := 22) C dL_hub_16 (by decide) ?_
    refine j_iconst C (nI 0) dL_hub_22 (by decide) ?_
    refine j_wide (k := 1) (n := 6) (by omega) (by omega) ?_
    exact j_up (j_iret C hr hlk ⟨rfl, rfl⟩ dL_hub_23)
  refine j_aload_n C dL_hub_0 rfl 2 rfl ?_
  refine j_iconst C (nI 0) dL_hub_1 (by decide) ?_
  refine j_aload_n C dL_hub_2 rfl 0 rfl ?_
  refine j_iload_n C dL_hub_3 rfl 1 rfl ?_
  refine c_i0 C (r_V C 0 0 [.int r] hM (cwV 1 hts gL_hub_X10_hub rfl hrc hrs (by decide +kernel) ⟨by show rm.frames + 1 ≤ 100; omega, by show 8 + (2 + 11) + rm.locals ≤ 2000; omega⟩) h0 rfl rfl rfl rfl (Nat.le_of_ble_eq_true rfl) dL_hub_4 ⟨by decide, by decide⟩) (fun rv u hp => ?_)
  rw [hp.1, hp.2]
  refine j_if_eq (tgt := 14) C dL_hub_7 (by decide) (nJ_eq0 (by omega)) (fun h7 => ?_) (fun h7 => ?_)
  · refine j_lconst C (zL v0) dL_hub_14 (by rw [h7]; rfl) ?_
    exact end1 σ _ rfl
  · refine j_lconst C (zL v0) dL_hub_10 (by rw [show v0 = 1 by omega]; rfl) ?_
    refine j_goto (tgt := 15) C dL_hub_11 (by decide) ?_
    exact end1 σ _ rfl
