/-! ===== THROWS ===== -/
theorem Ex.zq {base : Nat} {s : State} {C n d : String} (hE : Ex base s) (h1 : Cond.laysStatic C n d ∈ lw_tbl) (h2 : Cond.initialized C ∈ lw_tbl) (h3 : ∀ (b : Nat) (U : State), (Jvm.Cond.and given_1 narrow_1).before #[Value.ref b] U = true → (Cond.isRef (.static C n d)).before #[Value.ref b] U = true) : vx_Zq C n d (Ab base) s s.heap := by
  obtain ⟨U0, b, e1, e2, e3, e4, e5, e6⟩ := hE
  have z : vx_Zq C n d (Ab base) U0 U0.heap := vx_Zqof (e5 _ h1) (e5 _ h2) (h3 b U0 e6) (fun a ha => by rw [e1] at ha; exact Nat.not_le.mpr ha)
  exact (vx_Zq.moved e2.alike z).kept (fun a ha _ => e4 a (by rw [← e1]; exact ha))
theorem Ex.str {base : Nat} {s : State} {own tx : String} {k : Nat} (hE : Ex base s) (h1 : Cond.stringRef own k tx ∈ lw_tbl) (h3 : ∀ (b : Nat) (U : State), (Jvm.Cond.and given_1 narrow_1).before #[Value.ref b] U = true → (Cond.exactly (.string own k) "java/lang/String").before #[Value.ref b] U = true) : ∃ sa, vk_R own k tx sa s := by
  obtain ⟨U0, b, e1, e2, e3, e4, e5, e6⟩ := hE
  obtain ⟨a, c, cA, kA, q1, -⟩ := Cond.exactly_spec (args := #[Value.ref b]) (first := U0) (o := none) (s := U0) (idx := []) (t := .string own k) (cls := "java/lang/String") (h3 b U0 e6)
  exact ⟨a, vk_R.warm e2 (vk_R.of (e5 _ h1) q1)⟩
theorem lw_us1 : Cond.laysStatic Jvm.Bundle.tN "UNASSIGNED_STACK" Jvm.Bundle.steD ∈ lw_tbl := by decide +kernel
theorem lw_us2 : Cond.laysStatic Jvm.Bundle.tN "SUPPRESSED_SENTINEL" Jvm.Bundle.listD ∈ lw_tbl := by decide +kernel
theorem lw_us3 : Cond.initialized Jvm.Bundle.tN ∈ lw_tbl := by decide +kernel
theorem nw_us1 (b : Nat) (U : State) (h : (Jvm.Cond.and given_1 narrow_1).before #[Value.ref b] U = true) : (Cond.isRef (.static Jvm.Bundle.tN "UNASSIGNED_STACK" Jvm.Bundle.steD)).before #[Value.ref b] U = true := flat_of_before _ h _ (by decide +kernel)
theorem nw_us2 (b : Nat) (U : State) (h : (Jvm.Cond.and given_1 narrow_1).before #[Value.ref b] U = true) : (Cond.isRef (.static Jvm.Bundle.tN "SUPPRESSED_SENTINEL" Jvm.Bundle.listD)).before #[Value.ref b] U = true := flat_of_before _ h _ (by decide +kernel)
theorem Rp.kept {D : va_G} {cy : Nat → ClassId} {base : Nat} {Λ : LY} {σ : HS} {H H1 : Heap} (hP : Rp D cy base Λ σ H) (hq : ∀ q : Nat, q < H.size → H1[q]? = H[q]?) : Rp D cy base Λ σ H1 := by
  obtain ⟨ws, hP1, hD, hR⟩ := hP
  exact ⟨ws, hP1.kept (fun k x hx => hq x.1 ((hP1 k x hx).lt)), hD, hR⟩
/-- thrown: an object of the class cls, and the typed heap as it was -/
abbrev XQ (D : va_G) (cy : Nat → ClassId) (base : Nat) (Λ : LY) (σ : HS) (cls : String) : String → State → State → Prop := vx_X (fun _ : Unit => True) (fun E _ t => E = cls ∧ Rp D cy base Λ σ t.heap) (Ab base)
/-- it doesn't return -/
abbrev NoR : Array Value → State → Outcome → State → Prop := fun _ _ _ _ => False
section JX
variable {p : Program} {l : Launch} {e : Env} {R : Room} {s : State} {m : MethodId} {args : Array Value} {below : List Frame} {meth : Method} {c : Code} {cc : ByteArray} {nL : Nat} {own : String} {Ts : List Cond} {D : va_G} {cy : Nat → ClassId} {base : Nat} {Q : State → Prop} {cells slots pc mc ms : Nat} {lv lv' : List (Nat × Value)} {st stk : List Value} {Λ : LY} {σ : HS} {Qc : Array Value → State → Outcome → State → Prop}
theorem j_throw (C : Cx p s m args c cc nL own Ts D cy base) {cls text : String} {names : List String} {ik is ic sa : Nat} (hl : l.stackTraces = false) (hcls : Jvm.Bundle.fit cls = true) (hnames : ∀ n ∈ names, Jvm.Bundle.fit n = true) (hk : (Cond.classLink own ik cls).before args s = true) (hini : (Cond.initialized cls).before args s = true) (hstr : vk_R own is text sa s) (hat : ∀ w ∈ vx_atS own ic cls names, w.before args s = true) (hgood : ∀ w ∈ Cond.classLink own ik cls :: Cond.initialized cls :: vx_atS own ic cls names, vx_ot w = true)
    (d0 : decode cc pc = .ok (.new ik, 3)) (d3 : decode cc (pc + 3) = .ok (.dup, 1)) (d4 : decode cc (pc + 4) = .ok (.ldc is, 2)) (d6 : decode cc (pc + 6) = .ok (.invokespecial ic, 3)) (d9 : decode cc (pc + 9) = .ok (.athrow, 1)) (htab : ∀ x ∈ c.exceptionTable.toList, False) (hRf : names.length + 3 < R.frames) (hRl : (st.map fun v => v.category).sum + (13 * (names.length + 1) + 43) ≤ R.locals) (hRc : cells + 1 ≤ R.cells) (hRs : slots + 6 ≤ R.slots) (hlk : meth.locks = false) (hc : cells + 1 ≤ mc) (hs : slots + 6 ≤ ms) : J p l e R s m args below meth c nL D cy base (vx_MQ below Qc (XQ D cy base Λ σ cls) args s mc ms (Ab base)) cells slots Λ pc lv st σ := by
  intro H locs ls h hP hS
  refine vx_throwS C.1 C.2.1 hl C.2.2.2.1 hcls hnames hk hini hstr hat hgood (Ex.zq C.2.2.2.2.2.2 lw_us1 lw_us3 nw_us1) (Ex.zq C.2.2.2.2.2.2 lw_us2 lw_us3 nw_us2) hS (by rw [C.2.2.1]; exact h.1) d0 d3 d4 d6 d9 (fun x hx => (htab x hx).elim) hRf hRl hRc hRs hlk (fun t _ hz hq => ?_) hS.2.2 hc hs
  exact ⟨(), trivial, ⟨rfl, hP.kept hq⟩, ⟨Nat.le_trans hS.1 hz, fun q h1 h2 => (hq q (Nat.lt_of_lt_of_le h1 hS.1)).trans (hS.2.1 q h1 h2)⟩⟩
theorem j_startX {y : MethodName} {ws ws' : List Cond} {rm : Room} {XC : String → State → State → Prop} {ret : Option FieldType} {as : List Value} (hy : plainName y.cls = true) (hw : ws = Cond.code y cc nL ret :: ws') (hlen : (lg_sl as).length ≤ nL) (hlv : lv_args 0 as = lv)
    (body : ∀ (p : Program) (e : Env) (s : State) (m : MethodId) (below : List Frame) (meth : Method) (c : Code), Cx p s m as.toArray c cc nL y.cls ws D cy base → (∀ x ∈ c.exceptionTable.toList, False) → meth.locks = false → J p l e rm s m as.toArray below meth c nL D cy base (vx_MQ below Qc XC as.toArray s mc ms (Ab base)) 0 0 Λ 0 lv [] σ) : vx_Met l y ws rm (va_Pc as (Wd D cy base Λ σ)) Qc XC mc ms (Ab base) := by
  refine vx_ofW (cc := cc) (maxL := nL) (ret := ret) hy hw ?_
  intro p e s m args below meth c s₁ B hml htab hv
  obtain ⟨rfl, hR, hK, hE⟩ := hv
  have C : Cx p s m as.toArray c cc nL y.cls ws D cy base := ⟨B.exec, B.bytes, hml, findClass_of_methodNamed B.named, atoms_spec (ws := ws) B.pre, hK, hE⟩
  have hl := lv_entry as (n := nL) hlen
  rw [hlv] at hl
  rw [lg_entry_eq]
  exact body p e s m below meth c C htab B.notSynchronized s.heap [] _ hl hR va_S.rf
def RunX (p : Program) (l : Launch) (e : Env) (R : Room) (s : State) (m : MethodId) (args : Array Value) (below : List Frame) (meth : Method) (c : Code) (nL : Nat) (D : va_G) (cy : Nat → ClassId) (base : Nat) (cells slots mc ms : Nat) (Λ : LY) (pc : Nat) (lv : List (Nat × Value)) (stk st : List Value) (σ : HS) (cls : String) : Prop :=
  ∀ (H : Heap) (locs : List Loc) (ls : Array Slot), lv_has ls nL lv → Rp D cy base Λ σ H → va_S (Ab base) s.heap H locs → vx_Run p l e R s m args below meth c H locs cells slots mc ms (F0 m pc ls stk) st (fun _ _ _ => False) (XQ D cy base Λ σ cls) (Ab base)
theorem rx_V (C : Cx p s m args c cc nL own Ts D cy base) {y : MethodName} {bytes : ByteArray} {maxL n index : Nat} {ret : Option FieldType} {ws : List Cond} {rm : Room} {cls : String} {Cn : String} {T : u_T} {N ci : Nat} (t i : Nat) (As : List Value) (hM : vx_Met l y ws rm (va_Pc (.ref (gA Λ t i) :: As) (Wd D cy base Λ σ)) NoR (XQ D cy base Λ σ cls) mc ms (Ab base)) (cw : CallW R s args own Cn index y bytes maxL ret ws rm mc ms n) (hi : i < gC Λ t) (hkc : kC t = some ci) (hcl : vwCl[ci]? = some (Cn, T, N)) (hn : As.length = n) (hst : stk = As.reverse ++ .ref (gA Λ t i) :: st) (hrm : (st.map fun v => v.category).sum ≤ 8) (hdg : decode cc pc = .ok (.invokevirtual index, 3)) (hf : cells + mc ≤ R.cells ∧ slots + ms ≤ R.slots) : RunX p l e R s m args below meth c nL D cy base cells slots mc ms Λ pc lv stk st σ cls := by
  intro H locs ls h hP hS
  subst hst
  exact vx_runV (As := As) (rest := st) ⟨C.1, C.2.1, C.2.2.1, C.2.2.2.1, C.2.2.2.2.1⟩ hM cw ⟨fb_Wd, recv_Wd C hP hi hkc hcl, pre_Wd C hP hS⟩ rfl hn h.1 rfl (lv_room hrm) hdg hf
/-- a callee that throws -/
theorem j_call_x (C : Cx p s m args c cc nL own Ts D cy base) {cls : String} (hr : RunX p l e R s m args below meth c nL D cy base cells slots mc ms Λ pc lv stk st σ cls)
    (kx : ∀ (H1 : Heap) (locs1 : List Loc) (ls : Array Slot) (q9 : Nat) (ce : Cell), lv_has ls nL lv → Rp D cy base Λ σ H1 → va_S (Ab base) s.heap H1 locs1 → H1[q9]? = some ce → ce.vm = .none → s.vm.findClass cls = some ce.cls → vx_W p l e R s m args below meth c H1 locs1 (cells + mc) (slots + ms) Q (F0 m pc ls st) q9) : J p l e R s m args below meth c nL D cy base Q cells slots Λ pc lv stk σ := by
  intro H locs ls h hP hS T hT X
  rcases hr H locs ls h hP hS T hT X with ⟨v, st₀, t, T', L, -, -, -, -, -, hF, -⟩ | ⟨q, st₀, t, T', L, E, ce, h0, X', hL, e1, e2, ⟨u, hp, ⟨hb1, hb2⟩, hF⟩, hce, hcv, hcl, hst⟩
  · exact hF.elim
  · obtain ⟨k1, k2, k3⟩ := vx_keep h0 e1 hS (fun _ _ z => z) (fun _ z => z) hL hF
    subst hb1
    obtain ⟨t2, a1, b1⟩ := kx T'.heap (locs ++ L) ls q ce h (by rw [e1]; exact hb2) k3 (by rw [e1]; exact hce) hcv hcl T' rfl X'
    exact ⟨t2, hst.trans a1, b1⟩
/-- .. and no handler is here -/
theorem j_pass (C : Cx p s m args c cc nL own Ts D cy base) {cls : String} {mc' ms' : Nat} (htab : ∀ x ∈ c.exceptionTable.toList, False) (hlk : meth.locks = false) (hr : RunX p l e R s m args below meth c nL D cy base cells slots mc ms Λ pc lv stk st σ cls) (hc : cells + mc ≤ mc') (hs : slots + ms ≤ ms') : J p l e R s m args below meth c nL D cy base (vx_MQ below Qc (XQ D cy base Λ σ cls) args s mc' ms' (Ab base)) cells slots Λ pc lv stk σ := by
  refine j_call_x C hr (fun H1 locs1 ls q9 ce h hP hS h1 h2 h3 => ?_)
  exact vx_out (fun x hx => (htab x hx).elim) hlk h1 h2 h3 (fun t ht _ => ⟨(), trivial, ⟨rfl, by rw [ht]; exact hP⟩, hS.F ht⟩) hS.2.2 hc hs
end JX
