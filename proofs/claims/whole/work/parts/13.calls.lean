/-! ===== calls and the start of a method ===== -/
section JC
variable {p : Program} {l : Launch} {e : Env} {R : Room} {s : State} {m : MethodId} {args : Array Value} {below : List Frame} {meth : Method} {c : Code} {cc : ByteArray} {nL : Nat} {own : String} {Ts : List Cond} {D : va_G} {cy : Nat → ClassId} {base : Nat} {Q : State → Prop} {cells slots pc mc ms : Nat} {lv lv' : List (Nat × Value)} {st stk : List Value} {Λ : LY} {σ : HS}
def RunJ (p : Program) (l : Launch) (e : Env) (R : Room) (s : State) (m : MethodId) (args : Array Value) (below : List Frame) (meth : Method) (c : Code) (nL : Nat) (D : va_G) (cy : Nat → ClassId) (base : Nat) (cells slots mc ms : Nat) (Λ : LY) (pc : Nat) (lv : List (Nat × Value)) (stk st : List Value) (σ : HS) (Qa : State → Outcome → State → Prop) : Prop :=
  ∀ (H : Heap) (locs : List Loc) (ls : Array Slot), lv_has ls nL lv → Rp D cy base Λ σ H → va_S (Ab base) s.heap H locs → va_Run p l e R s m args below meth c H locs cells slots mc ms (F0 m pc ls stk) st Qa (Ab base)
theorem fb_Wd {as : List Value} : FrameBlind (va_Pc as (Wd D cy base Λ σ)) := fun a U g mk q => ⟨q.1, q.2.1, va_K.moved (u := U) (U := U.calling g mk a) (Vm.Alike.refl U.vm) q.2.2.1, q.2.2.2⟩
theorem pre_Wd {as : List Value} {H : Heap} {locs : List Loc} (C : Cx p s m args c cc nL own Ts D cy base) (hP : Rp D cy base Λ σ H) (hS : va_S (Ab base) s.heap H locs) : ∀ U : State, U.heap = H → s.WarmedH U.vm → va_Pc as (Wd D cy base Λ σ) as.toArray U := fun U hU hW => ⟨rfl, by rw [hU]; exact hP, va_K.moved hW.alike C.2.2.2.2.2.1, Ex.step C.2.2.2.2.2.2 hW hS hU⟩
theorem recv_Wd {H : Heap} {Cn : String} {T : u_T} {N ci t i : Nat} (C : Cx p s m args c cc nL own Ts D cy base) (hP : Rp D cy base Λ σ H) (hi : i < gC Λ t) (hkc : kC t = some ci) (hcl : vwCl[ci]? = some (Cn, T, N)) : ∃ cell : Cell, H[gA Λ t i]? = some cell ∧ cell.vm.isStatics = false ∧ s.vm.findClass Cn = some cell.cls := by
  obtain ⟨ws, hP1, hD, hR⟩ := hP
  obtain ⟨q0, hq⟩ := hR.1 t i hi
  rw [kcell_o hkc] at hq
  exact va_recv C.2.2.2.2.2.1 hP1 hcl hq
theorem r_V (C : Cx p s m args c cc nL own Ts D cy base) {y : MethodName} {bytes : ByteArray} {maxL n index : Nat} {ret : Option FieldType} {ws : List Cond} {rm : Room} {Qc : Array Value → State → Outcome → State → Prop} {Cn : String} {T : u_T} {N ci : Nat} (t i : Nat) (As : List Value) (hM : Met l y ws rm (va_Pc (.ref (gA Λ t i) :: As) (Wd D cy base Λ σ)) Qc mc ms (Ab base)) (cw : CallW R s args own Cn index y bytes maxL ret ws rm mc ms n) (hi : i < gC Λ t) (hkc : kC t = some ci) (hcl : vwCl[ci]? = some (Cn, T, N)) (hn : As.length = n) (hst : stk = As.reverse ++ .ref (gA Λ t i) :: st) (hrm : (st.map fun v => v.category).sum ≤ 8) (hdg : decode cc pc = .ok (.invokevirtual index, 3)) (hf : cells + mc ≤ R.cells ∧ slots + ms ≤ R.slots) : RunJ p l e R s m args below meth c nL D cy base cells slots mc ms Λ pc lv stk st σ (Qc (Value.ref (gA Λ t i) :: As).toArray) := by
  intro H locs ls h hP hS
  subst hst
  exact va_runV (As := As) (rest := st) ⟨C.1, C.2.1, C.2.2.1, C.2.2.2.1, C.2.2.2.2.1⟩ hM cw ⟨fb_Wd, recv_Wd C hP hi hkc hcl, pre_Wd C hP hS⟩ rfl hn h.1 rfl (lv_room hrm) hdg hf
theorem r_VN (C : Cx p s m args c cc nL own Ts D cy base) {y : MethodName} {bytes : ByteArray} {maxL n index : Nat} {ret : Option FieldType} {ws : List Cond} {rm : Room} {Qc : Array Value → State → Outcome → State → Prop} {Cn host : String} {T : u_T} {N ci : Nat} (t i : Nat) (As : List Value) (hM : Met l y ws rm (va_Pc (.ref (gA Λ t i) :: As) (Wd D cy base Λ σ)) Qc mc ms (Ab base)) (cw : va_CN R s args own index y host bytes maxL ret ws rm mc ms n ∧ (Cond.instanceMethod y).before args s = true ∧ (Cond.selects Cn y y).before args s = true) (hi : i < gC Λ t) (hkc : kC t = some ci) (hcl : vwCl[ci]? = some (Cn, T, N)) (hn : As.length = n) (hst : stk = As.reverse ++ .ref (gA Λ t i) :: st) (hrm : (st.map fun v => v.category).sum ≤ 8) (hdg : decode cc pc = .ok (.invokevirtual index, 3)) (hf : cells + mc ≤ R.cells ∧ slots + ms ≤ R.slots) : RunJ p l e R s m args below meth c nL D cy base cells slots mc ms Λ pc lv stk st σ (Qc (Value.ref (gA Λ t i) :: As).toArray) := by
  intro H locs ls h hP hS
  subst hst
  exact va_runVN (As := As) (rest := st) ⟨C.1, C.2.1, C.2.2.1, C.2.2.2.1, C.2.2.2.2.1⟩ hM cw ⟨fb_Wd, recv_Wd C hP hi hkc hcl, pre_Wd C hP hS⟩ rfl hn h.1 rfl (lv_room hrm) hdg hf
theorem r_S (C : Cx p s m args c cc nL own Ts D cy base) {y : MethodName} {bytes : ByteArray} {maxL n index : Nat} {ret : Option FieldType} {ws : List Cond} {rm : Room} {Qc : Array Value → State → Outcome → State → Prop} (As : List Value) (hM : Met l y ws rm (va_Pc As (Wd D cy base Λ σ)) Qc mc ms (Ab base)) (cw : CallB R s args own index y bytes maxL ret ws rm mc ms n ∧ (Cond.static y).before args s = true) (hn : As.length = n) (hst : stk = As.reverse ++ st) (hrm : (st.map fun v => v.category).sum ≤ 8) (hdg : decode cc pc = .ok (.invokestatic index, 3)) (hf : cells + mc ≤ R.cells ∧ slots + ms ≤ R.slots) : RunJ p l e R s m args below meth c nL D cy base cells slots mc ms Λ pc lv stk st σ (Qc As.toArray) := by
  intro H locs ls h hP hS
  subst hst
  exact va_runS (As := As) (rest := st) ⟨C.1, C.2.1, C.2.2.1, C.2.2.2.1, C.2.2.2.2.1⟩ hM cw ⟨fb_Wd, pre_Wd C hP hS⟩ rfl hn h.1 rfl (lv_room hrm) hdg hf
theorem r_I (C : Cx p s m args c cc nL own Ts D cy base) {y : MethodName} {bytes : ByteArray} {maxL n index : Nat} {ws : List Cond} {rm : Room} {Qc : Array Value → State → Outcome → State → Prop} (t i : Nat) (As : List Value) (hM : Met l y ws rm (va_Pc (.ref (gA Λ t i) :: As) (Wd D cy base Λ σ)) Qc mc ms (Ab base)) (cw : CallB R s args own index y bytes maxL none ws rm mc ms n ∧ y.name = "<init>" ∧ (Cond.instanceMethod y).before args s = true) (hn : As.length = n) (hst : stk = As.reverse ++ .ref (gA Λ t i) :: st) (hrm : (st.map fun v => v.category).sum ≤ 8) (hdg : decode cc pc = .ok (.invokespecial index, 3)) (hf : cells + mc ≤ R.cells ∧ slots + ms ≤ R.slots) : RunJ p l e R s m args below meth c nL D cy base cells slots mc ms Λ pc lv stk st σ (Qc (Value.ref (gA Λ t i) :: As).toArray) := by
  intro H locs ls h hP hS
  subst hst
  exact va_runI (As := As) (rest := st) ⟨C.1, C.2.1, C.2.2.1, C.2.2.2.1, C.2.2.2.2.1⟩ hM cw ⟨fb_Wd, pre_Wd C hP hS⟩ rfl hn h.1 rfl (lv_room hrm) hdg hf
theorem c_i (C : Cx p s m args c cc nL own Ts D cy base) {post : Int32 → HS → Prop} {a : Array Value} (hr : RunJ p l e R s m args below meth c nL D cy base cells slots mc ms Λ pc lv stk st σ (va_Qi post (Wd D cy base Λ) (Ab base) a)) (kk : ∀ (r : Int32) (u : HS), post r u → J p l e R s m args below meth c nL D cy base Q (cells + mc) (slots + ms) Λ (pc + 3) lv (.int r :: st) u) : J p l e R s m args below meth c nL D cy base Q cells slots Λ pc lv stk σ := by
  intro H locs ls h hP hS
  exact va_calli (hr H locs ls h hP hS) hS (fun _ _ z => z) (fun _ z => z) (fun r u t H1 locs1 ht hvm hw hB _ _ hS1 => kk r u hw H1 locs1 ls h (by rw [← ht]; exact hB.1) hS1)
theorem c_l (C : Cx p s m args c cc nL own Ts D cy base) {post : Int64 → HS → Prop} {a : Array Value} (hr : RunJ p l e R s m args below meth c nL D cy base cells slots mc ms Λ pc lv stk st σ (va_Ql post (Wd D cy base Λ) (Ab base) a)) (kk : ∀ (r : Int64) (u : HS), post r u → J p l e R s m args below meth c nL D cy base Q (cells + mc) (slots + ms) Λ (pc + 3) lv (.long r :: st) u) : J p l e R s m args below meth c nL D cy base Q cells slots Λ pc lv stk σ := by
  intro H locs ls h hP hS
  exact va_calll (hr H locs ls h hP hS) hS (fun _ _ z => z) (fun _ z => z) (fun r u t H1 locs1 ht hvm hw hB _ _ hS1 => kk r u hw H1 locs1 ls h (by rw [← ht]; exact hB.1) hS1)
theorem c_v (C : Cx p s m args c cc nL own Ts D cy base) {post : HS → Prop} {a : Array Value} (hr : RunJ p l e R s m args below meth c nL D cy base cells slots mc ms Λ pc lv stk st σ (va_Qv post (Wd D cy base Λ) (Ab base) a)) (kk : ∀ (u : HS), post u → J p l e R s m args below meth c nL D cy base Q (cells + mc) (slots + ms) Λ (pc + 3) lv st u) : J p l e R s m args below meth c nL D cy base Q cells slots Λ pc lv stk σ := by
  intro H locs ls h hP hS
  exact va_callv (hr H locs ls h hP hS) hS (fun _ _ z => z) (fun _ z => z) (fun u t H1 locs1 ht hvm hw hB _ _ hS1 => kk u hw H1 locs1 ls h (by rw [← ht]; exact hB.1) hS1)
theorem c_r (C : Cx p s m args c cc nL own Ts D cy base) {tk : Nat} {post : HS × Nat → Prop} {a : Array Value} (hr : RunJ p l e R s m args below meth c nL D cy base cells slots mc ms Λ pc lv stk st σ (va_Qr post (Wr D cy base Λ tk) (Ab base) a)) (kk : ∀ (u : HS) (j : Nat), post (u, j) → J p l e R s m args below meth c nL D cy base Q (cells + mc) (slots + ms) Λ (pc + 3) lv (.ref (gA Λ tk j) :: st) u) : J p l e R s m args below meth c nL D cy base Q cells slots Λ pc lv stk σ := by
  intro H locs ls h hP hS
  refine va_callr (hr H locs ls h hP hS) hS (fun _ _ z => z) (fun _ z => z) (fun u b t H1 locs1 ht hvm hw hB _ _ hS1 => ?_)
  obtain ⟨u, j⟩ := u
  obtain ⟨hB1, hB2⟩ := hB
  dsimp only at hB1 hB2
  rw [hB2]
  exact kk u j hw H1 locs1 ls h (by rw [← ht]; exact hB1.1) hS1
/-- a method's contract out of its walk -/
theorem j_start {y : MethodName} {ws ws' : List Cond} {rm : Room} {Qc : Array Value → State → Outcome → State → Prop} {ret : Option FieldType} {as : List Value} (hy : plainName y.cls = true) (hw : ws = Cond.code y cc nL ret :: ws') (hlen : (lg_sl as).length ≤ nL) (hlv : lv_args 0 as = lv)
    (body : ∀ (p : Program) (e : Env) (s : State) (m : MethodId) (below : List Frame) (meth : Method) (c : Code), Cx p s m as.toArray c cc nL y.cls ws D cy base → meth.sig.returnType = ret → meth.locks = false → meth.name = y.name → J p l e rm s m as.toArray below meth c nL D cy base (MQ below Qc as.toArray s mc ms (Ab base)) 0 0 Λ 0 lv [] σ) : Met l y ws rm (va_Pc as (Wd D cy base Λ σ)) Qc mc ms (Ab base) := by
  refine Met.ofW (cc := cc) (maxL := nL) (ret := ret) hy hw ?_
  intro p e s m args below meth c s₁ B hml hv
  obtain ⟨rfl, hR, hK, hE⟩ := hv
  have C : Cx p s m as.toArray c cc nL y.cls ws D cy base := ⟨B.exec, B.bytes, hml, findClass_of_methodNamed B.named, atoms_spec (ws := ws) B.pre, hK, hE⟩
  have hl := lv_entry as (n := nL) hlen
  rw [hlv] at hl
  rw [lg_entry_eq]
  exact body p e s m below meth c C B.returns B.notSynchronized (name_of_methodNamed B.named B.method).1 s.heap [] _ hl hR va_S.rf
end JC
section JC0
variable {p : Program} {l : Launch} {e : Env} {R : Room} {s : State} {m : MethodId} {args : Array Value} {below : List Frame} {meth : Method} {c : Code} {cc : ByteArray} {nL : Nat} {own : String} {Ts : List Cond} {D : va_G} {cy : Nat → ClassId} {base : Nat} {Q : State → Prop} {cells slots pc : Nat} {lv lv' : List (Nat × Value)} {st stk : List Value} {Λ : LY} {σ : HS}
theorem c_i0 (C : Cx p s m args c cc nL own Ts D cy base) {post : Int32 → HS → Prop} {a : Array Value} (hr : RunJ p l e R s m args below meth c nL D cy base cells slots 0 0 Λ pc lv stk st σ (va_Qi post (Wd D cy base Λ) (Ab base) a)) (kk : ∀ (r : Int32) (u : HS), post r u → J p l e R s m args below meth c nL D cy base Q cells slots Λ (pc + 3) lv (.int r :: st) u) : J p l e R s m args below meth c nL D cy base Q cells slots Λ pc lv stk σ := c_i C hr kk
theorem c_l0 (C : Cx p s m args c cc nL own Ts D cy base) {post : Int64 → HS → Prop} {a : Array Value} (hr : RunJ p l e R s m args below meth c nL D cy base cells slots 0 0 Λ pc lv stk st σ (va_Ql post (Wd D cy base Λ) (Ab base) a)) (kk : ∀ (r : Int64) (u : HS), post r u → J p l e R s m args below meth c nL D cy base Q cells slots Λ (pc + 3) lv (.long r :: st) u) : J p l e R s m args below meth c nL D cy base Q cells slots Λ pc lv stk σ := c_l C hr kk
theorem c_v0 (C : Cx p s m args c cc nL own Ts D cy base) {post : HS → Prop} {a : Array Value} (hr : RunJ p l e R s m args below meth c nL D cy base cells slots 0 0 Λ pc lv stk st σ (va_Qv post (Wd D cy base Λ) (Ab base) a)) (kk : ∀ (u : HS), post u → J p l e R s m args below meth c nL D cy base Q cells slots Λ (pc + 3) lv st u) : J p l e R s m args below meth c nL D cy base Q cells slots Λ pc lv stk σ := c_v C hr kk
theorem c_r0 (C : Cx p s m args c cc nL own Ts D cy base) {tk : Nat} {post : HS × Nat → Prop} {a : Array Value} (hr : RunJ p l e R s m args below meth c nL D cy base cells slots 0 0 Λ pc lv stk st σ (va_Qr post (Wr D cy base Λ tk) (Ab base) a)) (kk : ∀ (u : HS) (j : Nat), post (u, j) → J p l e R s m args below meth c nL D cy base Q cells slots Λ (pc + 3) lv (.ref (gA Λ tk j) :: st) u) : J p l e R s m args below meth c nL D cy base Q cells slots Λ pc lv stk σ := c_r C hr kk
end JC0
