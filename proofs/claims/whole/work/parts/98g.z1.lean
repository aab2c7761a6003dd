/-! ===== the list's first array is a static of ArrayList, and no thing of this heap ===== -/
def Zx (base x0 : Nat) (U : State) : Prop := va_Z "java/util/ArrayList" "DEFAULTCAPACITY_EMPTY_ELEMENTDATA" "[Ljava/lang/Object;" (.ref x0) (Ab base) U U.heap ∧ va_T (.object "java/lang/Object") x0 0 (fun _ => .null) (Ab base) U U.heap
theorem Zx.step {base x0 : Nat} {s U : State} {H : Heap} {locs : List Loc} (h : Zx base x0 s) (hW : s.WarmedH U.vm) (hS : va_S (Ab base) s.heap H locs) (hU : U.heap = H) : Zx base x0 U := by
  unfold Zx
  rw [hU]
  exact ⟨(va_Z.moved hW.alike h.1).kept (fun a ha hA => hS.2.1 a ha hA), (va_T.moved hW.alike h.2).kept (fun a ha hA => hS.2.1 a ha hA)⟩
def Wg (D : va_G) (cy : Nat → ClassId) (base : Nat) (Λ : LY) (σ : HS) (U : State) : Prop := Wd D cy base Λ σ U ∧ Zx base (gA Λ 50 0) U
section JG
variable {p : Program} {l : Launch} {e : Env} {R : Room} {s : State} {m : MethodId} {args : Array Value} {below : List Frame} {meth : Method} {c : Code} {cc : ByteArray} {nL : Nat} {own : String} {Ts : List Cond} {D : va_G} {cy : Nat → ClassId} {base : Nat} {Q : State → Prop} {cells slots pc mc ms : Nat} {lv lv' : List (Nat × Value)} {st stk : List Value} {Λ : LY} {σ : HS}
theorem fb_Wg {as : List Value} : FrameBlind (va_Pc as (Wg D cy base Λ σ)) := fun a U g mk q => ⟨q.1, ⟨q.2.1.1, va_K.moved (u := U) (U := U.calling g mk a) (Vm.Alike.refl U.vm) q.2.1.2.1, q.2.1.2.2⟩, ⟨va_Z.moved (u := U) (U := U.calling g mk a) (Vm.Alike.refl U.vm) q.2.2.1, va_T.moved (u := U) (U := U.calling g mk a) (Vm.Alike.refl U.vm) q.2.2.2⟩⟩
theorem pre_Wg {as : List Value} {H : Heap} {locs : List Loc} (C : Cx p s m args c cc nL own Ts D cy base) (hZ : Zx base (gA Λ 50 0) s) (hP : Rp D cy base Λ σ H) (hS : va_S (Ab base) s.heap H locs) : ∀ U : State, U.heap = H → s.WarmedH U.vm → va_Pc as (Wg D cy base Λ σ) as.toArray U := fun U hU hW => ⟨rfl, ⟨by rw [hU]; exact hP, va_K.moved hW.alike C.2.2.2.2.2.1, Ex.step C.2.2.2.2.2.2 hW hS hU⟩, Zx.step hZ hW hS hU⟩
theorem r_Vg (C : Cx p s m args c cc nL own Ts D cy base) (hZ : Zx base (gA Λ 50 0) s) {y : MethodName} {bytes : ByteArray} {maxL n index : Nat} {ret : Option FieldType} {ws : List Cond} {rm : Room} {Qc : Array Value → State → Outcome → State → Prop} {Cn : String} {T : u_T} {N ci : Nat} (t i : Nat) (As : List Value) (hM : Met l y ws rm (va_Pc (.ref (gA Λ t i) :: As) (Wg D cy base Λ σ)) Qc mc ms (Ab base)) (cw : CallW R s args own Cn index y bytes maxL ret ws rm mc ms n) (hi : i < gC Λ t) (hkc : kC t = some ci) (hcl : vwCl[ci]? = some (Cn, T, N)) (hn : As.length = n) (hst : stk = As.reverse ++ .ref (gA Λ t i) :: st) (hrm : (st.map fun v => v.category).sum ≤ 8) (hdg : decode cc pc = .ok (.invokevirtual index, 3)) (hf : cells + mc ≤ R.cells ∧ slots + ms ≤ R.slots) : RunJ p l e R s m args below meth c nL D cy base cells slots mc ms Λ pc lv stk st σ (Qc (Value.ref (gA Λ t i) :: As).toArray) := by
  intro H locs ls h hP hS
  subst hst
  exact va_runV (As := As) (rest := st) ⟨C.1, C.2.1, C.2.2.1, C.2.2.2.1, C.2.2.2.2.1⟩ hM cw ⟨fb_Wg, recv_Wd C hP hi hkc hcl, pre_Wg C hZ hP hS⟩ rfl hn h.1 rfl (lv_room hrm) hdg hf
theorem r_VNg (C : Cx p s m args c cc nL own Ts D cy base) (hZ : Zx base (gA Λ 50 0) s) {y : MethodName} {bytes : ByteArray} {maxL n index : Nat} {ret : Option FieldType} {ws : List Cond} {rm : Room} {Qc : Array Value → State → Outcome → State → Prop} {Cn host : String} {T : u_T} {N ci : Nat} (t i : Nat) (As : List Value) (hM : Met l y ws rm (va_Pc (.ref (gA Λ t i) :: As) (Wg D cy base Λ σ)) Qc mc ms (Ab base)) (cw : va_CN R s args own index y host bytes maxL ret ws rm mc ms n ∧ (Cond.instanceMethod y).before args s = true ∧ (Cond.selects Cn y y).before args s = true) (hi : i < gC Λ t) (hkc : kC t = some ci) (hcl : vwCl[ci]? = some (Cn, T, N)) (hn : As.length = n) (hst : stk = As.reverse ++ .ref (gA Λ t i) :: st) (hrm : (st.map fun v => v.category).sum ≤ 8) (hdg : decode cc pc = .ok (.invokevirtual index, 3)) (hf : cells + mc ≤ R.cells ∧ slots + ms ≤ R.slots) : RunJ p l e R s m args below meth c nL D cy base cells slots mc ms Λ pc lv stk st σ (Qc (Value.ref (gA Λ t i) :: As).toArray) := by
  intro H locs ls h hP hS
  subst hst
  exact va_runVN (As := As) (rest := st) ⟨C.1, C.2.1, C.2.2.1, C.2.2.2.1, C.2.2.2.2.1⟩ hM cw ⟨fb_Wg, recv_Wd C hP hi hkc hcl, pre_Wg C hZ hP hS⟩ rfl hn h.1 rfl (lv_room hrm) hdg hf
theorem r_Sg (C : Cx p s m args c cc nL own Ts D cy base) (hZ : Zx base (gA Λ 50 0) s) {y : MethodName} {bytes : ByteArray} {maxL n index : Nat} {ret : Option FieldType} {ws : List Cond} {rm : Room} {Qc : Array Value → State → Outcome → State → Prop} (As : List Value) (hM : Met l y ws rm (va_Pc As (Wg D cy base Λ σ)) Qc mc ms (Ab base)) (cw : CallB R s args own index y bytes maxL ret ws rm mc ms n ∧ (Cond.static y).before args s = true) (hn : As.length = n) (hst : stk = As.reverse ++ st) (hrm : (st.map fun v => v.category).sum ≤ 8) (hdg : decode cc pc = .ok (.invokestatic index, 3)) (hf : cells + mc ≤ R.cells ∧ slots + ms ≤ R.slots) : RunJ p l e R s m args below meth c nL D cy base cells slots mc ms Λ pc lv stk st σ (Qc As.toArray) := by
  intro H locs ls h hP hS
  subst hst
  exact va_runS (As := As) (rest := st) ⟨C.1, C.2.1, C.2.2.1, C.2.2.2.1, C.2.2.2.2.1⟩ hM cw ⟨fb_Wg, pre_Wg C hZ hP hS⟩ rfl hn h.1 rfl (lv_room hrm) hdg hf
theorem r_Ig (C : Cx p s m args c cc nL own Ts D cy base) (hZ : Zx base (gA Λ 50 0) s) {y : MethodName} {bytes : ByteArray} {maxL n index : Nat} {ws : List Cond} {rm : Room} {Qc : Array Value → State → Outcome → State → Prop} (t i : Nat) (As : List Value) (hM : Met l y ws rm (va_Pc (.ref (gA Λ t i) :: As) (Wg D cy base Λ σ)) Qc mc ms (Ab base)) (cw : CallB R s args own index y bytes maxL none ws rm mc ms n ∧ y.name = "<init>" ∧ (Cond.instanceMethod y).before args s = true) (hn : As.length = n) (hst : stk = As.reverse ++ .ref (gA Λ t i) :: st) (hrm : (st.map fun v => v.category).sum ≤ 8) (hdg : decode cc pc = .ok (.invokespecial index, 3)) (hf : cells + mc ≤ R.cells ∧ slots + ms ≤ R.slots) : RunJ p l e R s m args below meth c nL D cy base cells slots mc ms Λ pc lv stk st σ (Qc (Value.ref (gA Λ t i) :: As).toArray) := by
  intro H locs ls h hP hS
  subst hst
  exact va_runI (As := As) (rest := st) ⟨C.1, C.2.1, C.2.2.1, C.2.2.2.1, C.2.2.2.2.1⟩ hM cw ⟨fb_Wg, pre_Wg C hZ hP hS⟩ rfl hn h.1 rfl (lv_room hrm) hdg hf
theorem r_IN (C : Cx p s m args c cc nL own Ts D cy base) {y : MethodName} {bytes : ByteArray} {maxL n index : Nat} {host : String} {ws : List Cond} {rm : Room} {Qc : Array Value → State → Outcome → State → Prop} (t i : Nat) (As : List Value) (hM : Met l y ws rm (va_Pc (.ref (gA Λ t i) :: As) (Wd D cy base Λ σ)) Qc mc ms (Ab base)) (cw : va_CN R s args own index y host bytes maxL none ws rm mc ms n ∧ y.name = "<init>" ∧ (Cond.instanceMethod y).before args s = true) (hn : As.length = n) (hst : stk = As.reverse ++ .ref (gA Λ t i) :: st) (hrm : (st.map fun v => v.category).sum ≤ 8) (hdg : decode cc pc = .ok (.invokespecial index, 3)) (hf : cells + mc ≤ R.cells ∧ slots + ms ≤ R.slots) : RunJ p l e R s m args below meth c nL D cy base cells slots mc ms Λ pc lv stk st σ (Qc (Value.ref (gA Λ t i) :: As).toArray) := by
  intro H locs ls h hP hS
  subst hst
  exact va_runIN (As := As) (rest := st) ⟨C.1, C.2.1, C.2.2.1, C.2.2.2.1, C.2.2.2.2.1⟩ hM cw ⟨fb_Wd, pre_Wd C hP hS⟩ rfl hn h.1 rfl (lv_room hrm) hdg hf
theorem r_INg (C : Cx p s m args c cc nL own Ts D cy base) (hZ : Zx base (gA Λ 50 0) s) {y : MethodName} {bytes : ByteArray} {maxL n index : Nat} {host : String} {ws : List Cond} {rm : Room} {Qc : Array Value → State → Outcome → State → Prop} (t i : Nat) (As : List Value) (hM : Met l y ws rm (va_Pc (.ref (gA Λ t i) :: As) (Wg D cy base Λ σ)) Qc mc ms (Ab base)) (cw : va_CN R s args own index y host bytes maxL none ws rm mc ms n ∧ y.name = "<init>" ∧ (Cond.instanceMethod y).before args s = true) (hn : As.length = n) (hst : stk = As.reverse ++ .ref (gA Λ t i) :: st) (hrm : (st.map fun v => v.category).sum ≤ 8) (hdg : decode cc pc = .ok (.invokespecial index, 3)) (hf : cells + mc ≤ R.cells ∧ slots + ms ≤ R.slots) : RunJ p l e R s m args below meth c nL D cy base cells slots mc ms Λ pc lv stk st σ (Qc (Value.ref (gA Λ t i) :: As).toArray) := by
  intro H locs ls h hP hS
  subst hst
  exact va_runIN (As := As) (rest := st) ⟨C.1, C.2.1, C.2.2.1, C.2.2.2.1, C.2.2.2.2.1⟩ hM cw ⟨fb_Wg, pre_Wg C hZ hP hS⟩ rfl hn h.1 rfl (lv_room hrm) hdg hf
theorem j_startG {y : MethodName} {ws ws' : List Cond} {rm : Room} {Qc : Array Value → State → Outcome → State → Prop} {ret : Option FieldType} {as : List Value} (hy : plainName y.cls = true) (hw : ws = Cond.code y cc nL ret :: ws') (hlen : (lg_sl as).length ≤ nL) (hlv : lv_args 0 as = lv)
    (body : ∀ (p : Program) (e : Env) (s : State) (m : MethodId) (below : List Frame) (meth : Method) (c : Code), Cx p s m as.toArray c cc nL y.cls ws D cy base → meth.sig.returnType = ret → meth.locks = false → meth.name = y.name → Zx base (gA Λ 50 0) s → J p l e rm s m as.toArray below meth c nL D cy base (MQ below Qc as.toArray s mc ms (Ab base)) 0 0 Λ 0 lv [] σ) : Met l y ws rm (va_Pc as (Wg D cy base Λ σ)) Qc mc ms (Ab base) := by
  refine Met.ofW (cc := cc) (maxL := nL) (ret := ret) hy hw ?_
  intro p e s m args below meth c s₁ B hml hv
  obtain ⟨rfl, ⟨hR, hK, hE⟩, hZ⟩ := hv
  have C : Cx p s m as.toArray c cc nL y.cls ws D cy base := ⟨B.exec, B.bytes, hml, findClass_of_methodNamed B.named, atoms_spec (ws := ws) B.pre, hK, hE⟩
  have hl := lv_entry as (n := nL) hlen
  rw [hlv] at hl
  rw [lg_entry_eq]
  exact body p e s m below meth c C B.returns B.notSynchronized (name_of_methodNamed B.named B.method).1 hZ s.heap [] _ hl hR va_S.rf
theorem nm_X10_23 : Cond.methodLinkNest "CodeRooms" 23 yX4_init "CodeRooms" ∈ lw_tbl := by decide +kernel
theorem nm_X10_30 : Cond.methodLinkNest "CodeRooms" 30 yX0_init "CodeRooms" ∈ lw_tbl := by decide +kernel
theorem nm_X10_60 : Cond.methodLinkNest "CodeRooms" 60 yX3_init "CodeRooms" ∈ lw_tbl := by decide +kernel
theorem nm_X10_67 : Cond.methodLinkNest "CodeRooms" 67 yX1_init "CodeRooms" ∈ lw_tbl := by decide +kernel
theorem j_alen0 (C : Cx p s m args c cc nL own Ts D cy base) (hZ : Zx base (gA Λ 50 0) s) (hdg : decode cc pc = .ok (.arraylength, 1)) (kk : J p l e R s m args below meth c nL D cy base Q cells slots Λ (pc + 1) lv (.int (nI 0) :: st) σ) : J p l e R s m args below meth c nL D cy base Q cells slots Λ pc lv (.ref (gA Λ 50 0) :: st) σ := by
  intro H locs ls h hP hS
  obtain ⟨cell, h1, h2, h3, h4, h5, h6, h7⟩ := hZ.2
  exact W.alen (n := Int32.ofNat 0) C.1 C.2.1 (by rw [hS.2.1 _ (Array.getElem?_eq_some_iff.mp h1).1 h7]; exact h1) h2 h5 rfl rfl hdg (kk H locs ls h hP hS)
theorem j_acmp0 (C : Cx p s m args c cc nL own Ts D cy base) {a : Nat} {off : Int} {tgt : Nat} (hdg : decode cc pc = .ok (.if_acmp .eq off, 3)) (ht : (pc : Int) + off = (tgt : Int)) (kk : J p l e R s m args below meth c nL D cy base Q cells slots Λ tgt lv st σ) : J p l e R s m args below meth c nL D cy base Q cells slots Λ pc lv (.ref a :: .ref a :: st) σ := fun H locs ls h hP hS => lv_acmp_eq (rx := some a) (ry := some a) C.1 C.2.1 hdg ht (fun _ => kk H locs ls h hP hS) (fun q => absurd rfl q)
end JG
set_option maxHeartbeats 400000 in
set_option maxRecDepth 100000 in
theorem c_Jxa1e45_init (l : Launch) (D : va_G) (cy : Nat → ClassId) (base : Nat) (Λ : LY) (σ : HS) (i : Nat) : Met l yJxa1e45_init_da8c8 wsJxa1e45_init_da8c8 ({ frames := 4, cells := 0, slots := 0, locals := 60 }) (va_Pc [.ref (gA Λ 15 i)] (Wd D cy base Λ σ)) (va_Qv (fun u => u = σ) (Wd D cy base Λ) (Ab base)) 0 0 (Ab base) := by
  refine j_start (cc := cJxa1e45_init_da8c8) (nL := 1) (ret := none) (lv := [(0, .ref (gA Λ 15 i))]) (by decide) rfl (Nat.le_of_ble_eq_true rfl) rfl ?_
  intro p e s m below meth c C hr hlk hnm
  have C : Cx p s m ([.ref (gA Λ 15 i)] : List Value).toArray c cJxa1e45_init_da8c8 1 RJxa1e45 wsJxa1e45_init_da8c8 D cy base := C
  have hts := C.2.2.2.2.1
  refine j_aload_n C dJxa1e45_init_da8c8_0 rfl 0 rfl ?_
  refine j_oinit C (hts (.methodLink RJxa1e45 1 Lib.objectInit) (by decide +kernel)) (hts (.instanceMethod Lib.objectInit) (by decide +kernel)) (hts (.code Lib.objectInit ⟨#[0xb1]⟩ 1 none) (by decide +kernel)) dJxa1e45_init_da8c8_1 (by decide) (by decide) ?_
  exact j_vret C hr hlk rfl dJxa1e45_init_da8c8_4
set_option maxHeartbeats 400000 in
set_option maxRecDepth 100000 in
theorem c_Jxc12de_init (l : Launch) (D : va_G) (cy : Nat → ClassId) (base : Nat) (Λ : LY) (σ : HS) (i : Nat) (hi : i < gC Λ 15) : Met l yJxc12de_init_da8c8 wsJxc12de_init_da8c8 ({ frames := 8, cells := 0, slots := 0, locals := 120 }) (va_Pc [.ref (gA Λ 15 i)] (Wd D cy base Λ σ)) (va_Qv (fun u => u = sI σ 15 i 0 (nI 0)) (Wd D cy base Λ) (Ab base)) 0 0 (Ab base) := by
  refine j_start (cc := cJxc12de_init_da8c8) (nL := 1) (ret := none) (lv := [(0, .ref (gA Λ 15 i))]) (by decide) rfl (Nat.le_of_ble_eq_true rfl) rfl ?_
  intro p e s m below meth c C hr hlk hnm
  have C : Cx p s m ([.ref (gA Λ 15 i)] : List Value).toArray c cJxc12de_init_da8c8 1 RJxc12de wsJxc12de_init_da8c8 D cy base := C
  have hts := C.2.2.2.2.1
  have hw : ∀ w ∈ u_ws RJx4a65c TJx4a65c 3, w ∈ wsJxc12de_init_da8c8 := by decide +kernel
  refine j_aload_n C dJxc12de_init_da8c8_0 rfl 0 rfl ?_
  refine c_v0 C (r_I C 15 i [] (c_Jxa1e45_init l D cy base Λ σ i) (cwI 0 hts gJxc12de_init_da8c8_Jxa1e45_init_da8c8 rfl rfl rfl (hts (.initialized RJxa1e45) (by decide +kernel)) (hts (.methodLink RJxc12de 1 yJxa1e45_init_da8c8) (by decide +kernel)) (hts (.instanceMethod yJxa1e45_init_da8c8) (by decide +kernel)) rfl (by decide +kernel) ⟨by decide, by decide⟩) rfl rfl (Nat.le_of_ble_eq_true rfl) dJxc12de_init_da8c8_1 ⟨by decide, by decide⟩) (fun u hp => ?_)
  rw [hp]
  refine j_aload_n C dJxc12de_init_da8c8_4 rfl 0 rfl ?_
  refine j_iconst C (nI 0) dJxc12de_init_da8c8_5 (by decide) ?_
  refine j_putI C hw 15 i 0 hi rfl rfl (by decide) rfl tyJx4a65c tyJx4a65c_ok nmJx4a65c rfl rfl rfl (Or.inl (hts (.fieldLink RJxc12de 7 "java/util/AbstractList" "modCount" "I") (by decide +kernel))) dJxc12de_init_da8c8_6 ?_
  exact j_vret C hr hlk rfl dJxc12de_init_da8c8_9
set_option maxHeartbeats 400000 in
set_option maxRecDepth 100000 in
theorem c_Jx4a65c_init_da8c8 (l : Launch) (D : va_G) (cy : Nat → ClassId) (base : Nat) (Λ : LY) (σ : HS) (i : Nat) (hi : i < gC Λ 15) : Met l yJx4a65c_init_da8c8 wsJx4a65c_init_da8c8 ({ frames := 12, cells := 0, slots := 0, locals := 180 }) (va_Pc [.ref (gA Λ 15 i)] (Wg D cy base Λ σ)) (va_Qv (fun u => u = (Λ, sI (sI σ 15 i 0 (nI 0)) 15 i 1 1)) (Wx D cy base) (Ab base)) 0 0 (Ab base) := by
  refine j_startG (cc := cJx4a65c_init_da8c8) (nL := 1) (ret := none) (lv := [(0, .ref (gA Λ 15 i))]) (by decide) rfl (Nat.le_of_ble_eq_true rfl) rfl ?_
  intro p e s m below meth c C hr hlk hnm hZ
  have C : Cx p s m ([.ref (gA Λ 15 i)] : List Value).toArray c cJx4a65c_init_da8c8 1 RJx4a65c wsJx4a65c_init_da8c8 D cy base := C
  have hts := C.2.2.2.2.1
  have hw : ∀ w ∈ u_ws RJx4a65c TJx4a65c 3, w ∈ wsJx4a65c_init_da8c8 := by decide +kernel
  refine j_aload_n C dJx4a65c_init_da8c8_0 rfl 0 rfl ?_
  refine c_v0 C (r_I C 15 i [] (c_Jxc12de_init l D cy base Λ σ i hi) (cwI 0 hts gJx4a65c_init_da8c8_Jxc12de_init_da8c8 rfl rfl rfl (hts (.initialized RJxc12de) (by decide +kernel)) (hts (.methodLink RJx4a65c 1 yJxc12de_init_da8c8) (by decide +kernel)) (hts (.instanceMethod yJxc12de_init_da8c8) (by decide +kernel)) rfl (by decide +kernel) ⟨by decide, by decide⟩) rfl rfl (Nat.le_of_ble_eq_true rfl) dJx4a65c_init_da8c8_1 ⟨by decide, by decide⟩) (fun u hp => ?_)
  rw [hp]
  refine j_aload_n C dJx4a65c_init_da8c8_4 rfl 0 rfl ?_
  refine j_gets C hZ.1 (hts (.fieldLink RJx4a65c 39 "java/util/ArrayList" "DEFAULTCAPACITY_EMPTY_ELEMENTDATA" "[Ljava/lang/Object;") (by decide +kernel)) dJx4a65c_init_da8c8_5 ?_
  refine j_putXn C hw 15 i 1 hi rfl rfl (by decide) rfl tyJx4a65c tyJx4a65c_ok nmJx4a65c rfl rfl rfl (Or.inl (hts (.fieldLink RJx4a65c 9 "java/util/ArrayList" "elementData" "[Ljava/lang/Object;") (by decide +kernel))) dJx4a65c_init_da8c8_8 ?_
  exact j_vretx C hr hlk rfl dJx4a65c_init_da8c8_11