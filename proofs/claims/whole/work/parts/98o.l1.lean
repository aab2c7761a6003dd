/-! ===== rows for the list ===== -/
def sW (σ : HS) (t i : Nat) (g : Nat → Option Nat) : HS := (σ.1, σ.2.1, fun t' i' => if t' = t ∧ i' = i then g else σ.2.2 t' i')
theorem gV_sW (σ : HS) (t i : Nat) (g : Nat → Option Nat) : gV (sW σ t i g) t i = g := if_pos ⟨rfl, rfl⟩
theorem gV_sWn {σ : HS} {t i t' i' : Nat} {g : Nat → Option Nat} (h : t' ≠ t ∨ i' ≠ i) : gV (sW σ t i g) t' i' = gV σ t' i' := if_neg (fun z => h.elim (fun q => q z.1) (fun q => q z.2))
theorem gI_sW (σ : HS) (t i : Nat) (g : Nat → Option Nat) : gI (sW σ t i g) = gI σ := rfl
theorem gJ_sW (σ : HS) (t i : Nat) (g : Nat → Option Nat) : gJ (sW σ t i g) = gJ σ := rfl
theorem Ex.mi {base : Nat} {s : State} (hE : Ex base s) : ∃ mi, va_Mi "[Ljava/lang/Object;" mi s := by
  obtain ⟨U0, b, e1, e2, e3, e4, e5, e6⟩ := hE
  obtain ⟨mi, h⟩ := va_Mi.of (flat_of_before _ e6 (Cond.isRef (.mirror "[Ljava/lang/Object;")) (by decide +kernel))
  exact ⟨mi, va_Mi.moved e2.alike h⟩
theorem lw_cwo : Cond.castable "CodeRooms$Word" "java/lang/Object" ∈ lw_tbl := by decide +kernel
theorem lw_dgc : Cond.declares ⟨"java/lang/Object", "getClass", "()Ljava/lang/Class;"⟩ ∈ lw_tbl := by decide +kernel
theorem Ex.cwo {base : Nat} {s : State} (hE : Ex base s) : va_Nw (.castable "CodeRooms$Word" "java/lang/Object") s := by
  obtain ⟨U0, b, e1, e2, e3, e4, e5, e6⟩ := hE
  exact va_Nw.warmC e2 (va_Nw.of rfl (e5 _ lw_cwo))
section JL
variable {p : Program} {l : Launch} {e : Env} {R : Room} {s : State} {m : MethodId} {args : Array Value} {below : List Frame} {meth : Method} {c : Code} {cc : ByteArray} {nL : Nat} {own : String} {Ts : List Cond} {D : va_G} {cy : Nat → ClassId} {base : Nat} {Q : State → Prop} {cells slots pc mc ms : Nat} {lv lv' : List (Nat × Value)} {st stk : List Value} {Λ : LY} {σ : HS}
theorem j_dupx1 (C : Cx p s m args c cc nL own Ts D cy base) {va vb : Value} (hdg : decode cc pc = .ok (.dup_x1, 1)) (hva : va.category = 1) (hvb : vb.category = 1) (kk : J p l e R s m args below meth c nL D cy base Q cells slots Λ (pc + 1) lv (va :: vb :: va :: st) σ) : J p l e R s m args below meth c nL D cy base Q cells slots Λ pc lv (va :: vb :: st) σ := fun H locs ls h hP hS => lv_dup_x1 C.1 C.2.1 hdg hva hvb (kk H locs ls h hP hS)
theorem j_getIs (C : Cx p s m args c cc nL own Ts D cy base) {Cn : String} {T : u_T} {N ci index : Nat} (hin : ∀ w ∈ u_ws Cn T N, w ∈ Ts) (t i k : Nat) (hi : i < gC Λ t) (hkc : kC t = some ci) (hcl : vwCl[ci]? = some (Cn, T, N)) (hk : k < N) {tk : Nat} (hf : (kF t)[k]? = some (0, tk)) (v : Int32) (hv : gI σ t i k = v) {ref : String} (hl : (Cond.fieldLink own index ref (T k).2.1 (T k).2.2.1).before args s = true) (hsm : (Cond.sameField ref (T k).1 (T k).2.1 (T k).2.2.1).before args s = true) (hdg : decode cc pc = .ok (.getfield index, 3)) (kk : J p l e R s m args below meth c nL D cy base Q cells slots Λ (pc + 3) lv (.int v :: st) σ) : J p l e R s m args below meth c nL D cy base Q cells slots Λ pc lv (.ref (gA Λ t i) :: st) σ := by
  intro H locs ls h hP hS
  obtain ⟨ws, hP1, hD, hR⟩ := id hP
  obtain ⟨q0, hq⟩ := hR.1 t i hi
  rw [kcell_o hkc] at hq
  have he : (kfs Λ σ t i)[k]? = some (.int v) := by rw [kfs_at hf, ← hv]; rfl
  exact va_get C.1 C.2.1 C.2.2.2.2.1 hin C.2.2.2.1 C.2.2.2.2.2.1 hP1 q0 hq hcl k hk hl (fun x z => u_same hsm x z) he hdg (kk H locs ls h hP hS)
theorem j_putIs (C : Cx p s m args c cc nL own Ts D cy base) {Cn : String} {T : u_T} {N ci index : Nat} (hin : ∀ w ∈ u_ws Cn T N, w ∈ Ts) (t i k : Nat) (hi : i < gC Λ t) (hkc : kC t = some ci) (hcl : vwCl[ci]? = some (Cn, T, N)) (hk : k < N) {tk : Nat} (hf : (kF t)[k]? = some (0, tk)) {x : Int32} (ty0 : Nat → FieldType) (hty : ∀ k, k < N → parseFieldDescriptor (T k).2.2.1 = some (ty0 k)) (hnm : ∀ a, a < N → ∀ b, b < N → a ≠ b → (T a).2.1 ≠ (T b).2.1) (hfin : (T k).2.2.2 = false) (hn : narrow (ty0 k) (.int x) = .int x) (hfit : fits (ty0 k) (.int x) = true) {ref : String} (hl : (Cond.fieldLink own index ref (T k).2.1 (T k).2.2.1).before args s = true) (hsm : (Cond.sameField ref (T k).1 (T k).2.1 (T k).2.2.1).before args s = true) (hdg : decode cc pc = .ok (.putfield index, 3)) (kk : J p l e R s m args below meth c nL D cy base Q cells slots Λ (pc + 3) lv st (sI σ t i k x)) : J p l e R s m args below meth c nL D cy base Q cells slots Λ pc lv (.int x :: .ref (gA Λ t i) :: st) σ := by
  intro H locs ls h hP hS
  obtain ⟨ws, hP1, hD, hR⟩ := id hP
  obtain ⟨q0, hq0⟩ := hR.1 t i hi
  have hq := hq0
  rw [kcell_o hkc] at hq
  exact va_put C.1 C.2.1 C.2.2.2.2.1 hin ty0 hty hnm C.2.2.2.1 C.2.2.2.2.2.1 hP1 hD hS q0 hq hcl k hk hl (fun x z => u_same hsm x z) hfin (hty k hk) hn hfit (kl hf) hdg (fun H1 locs1 hP2 hD2 hS2 => kk H1 locs1 ls h ⟨_, hP2, hD2, Rw.sI hR hD hi hq0 (kf_sI hkc hf)⟩ hS2)
theorem j_aastW (C : Cx p s m args c cc nL own Ts D cy base) (t i k : Nat) (hi : i < gC Λ t) (hkc : kC t = none) (hka : kA t = 5) (n : Nat) (hn : gN Λ t i = n) (hk : k < n) (hb : n < 2 ^ 31) {j : Nat} (hkt : kT t = 17) (hj : j < gC Λ 17) (hdg : decode cc pc = .ok (.aastore, 1)) (kk : J p l e R s m args below meth c nL D cy base Q cells slots Λ (pc + 1) lv st (sV σ t i k (some j))) : J p l e R s m args below meth c nL D cy base Q cells slots Λ pc lv (.ref (gA Λ 17 j) :: .int (nI k) :: .ref (gA Λ t i) :: st) σ := by
  intro H locs ls h hP hS
  obtain ⟨ws, hP1, hD, hR⟩ := id hP
  obtain ⟨q0, hq0⟩ := hR.1 t i hi
  obtain ⟨q1, hq1⟩ := hR.1 17 j hj
  have hq := hq0
  rw [kcell_v hkc (by omega), hka, hn] at hq
  rw [kcell_o (ci := 12) rfl] at hq1
  obtain ⟨h1, h2⟩ := ix_at hk hb
  refine va_astqO (r := (RX9, TX9, 2)) C.1 C.2.1 C.2.2.2.2.2.1 hP1 hD hS q0 5 q1 12 hq rfl (Ex.cwo C.2.2.2.2.2.2) hq1 rfl h1 hdg (fun H1 locs1 hP2 hD2 hS2 => kk H1 locs1 ls h ⟨_, hP2, hD2, Rw.sV hR hD hi hq0 ?_ (fun y hy => by cases hy; rw [kt_a hkc, hkt]; exact hj)⟩ hS2)
  rw [kcell_v hkc (by omega), hka, h2]
  show Sum.inl (_, gN Λ t i, _) = _
  rw [hn]
  have hf : (fun q => (gV (sV σ t i k (some j)) t i q).map (gA Λ (kT t))) = va_up (fun q => (gV σ t i q).map (gA Λ (kT t))) k (some (gA Λ 17 j)) := by
    funext q
    rw [gV_sV]
    unfold va_up
    by_cases hz : q = k
    · simp [hz, hkt]
    · simp [hz]
  rw [hf]
theorem cpy_map {α β : Type} (u : α → β) (f g : Nat → Option α) (sp dp n : Nat) : (fun k => (va_cpy f g sp dp n k).map u) = va_cpy (fun k => (f k).map u) (fun k => (g k).map u) sp dp n := by
  funext k
  unfold va_cpy
  split <;> rfl
/-- System.arraycopy of words -/
theorem j_cpv (C : Cx p s m args c cc nL own Ts D cy base) {index : Nat} (i0 i sp dp n n0 n1 : Nat) (hi0 : i0 < gC Λ 16) (hi : i < gC Λ 16) (hn0 : gN Λ 16 i0 = n0) (hn1 : gN Λ 16 i = n1) (hb0 : n0 < 2147483648) (hb1 : n1 < 2147483648) (h4 : sp + n ≤ n0) (h5 : dp + n ≤ n1) (hs4 : ∀ w ∈ [Cond.methodLink own index arraycopyName, Cond.native arraycopyName, Cond.static arraycopyName, Cond.initialized "java/lang/System"], w ∈ Ts) (hf : Nat.ble 1 R.frames = true) (hl : Nat.ble ((st.map fun v => v.category).sum + (nativeFrameWords "java/lang/System" "arraycopy" 5 + 11)) R.locals = true) (hdg : decode cc pc = .ok (.invokestatic index, 3)) (kk : J p l e R s m args below meth c nL D cy base Q cells slots Λ (pc + 3) lv st (sW σ 16 i (va_cpy (gV σ 16 i0) (gV σ 16 i) sp dp n))) : J p l e R s m args below meth c nL D cy base Q cells slots Λ pc lv (.int (nI n) :: .int (nI dp) :: .ref (gA Λ 16 i) :: .int (nI sp) :: .ref (gA Λ 16 i0) :: st) σ := by
  intro H locs ls h hP hS
  obtain ⟨ws, hP1, hD, hR⟩ := id hP
  obtain ⟨q0, hq0⟩ := hR.1 16 i0 hi0
  obtain ⟨q1, hq1⟩ := hR.1 16 i hi
  have g0 := hq0
  have g1 := hq1
  rw [kcell_v (t := 16) rfl (by decide), hn0] at g0
  rw [kcell_v (t := 16) rfl (by decide), hn1] at g1
  have zs : (nI sp).toNatClampNeg = sp := clamp_nI (by omega)
  have zd : (nI dp).toNatClampNeg = dp := clamp_nI (by omega)
  have zn : (nI n).toNatClampNeg = n := clamp_nI (by omega)
  refine va_copyq (C := RX9) (E0 := "java/lang/Object") (E1 := "java/lang/Object") C.1 C.2.1 (C.2.2.1.trans h.1.symm) C.2.2.2.1 (C.2.2.2.2.1 _ (hs4 _ (by simp))) (C.2.2.2.2.1 _ (hs4 _ (by simp))) (C.2.2.2.2.1 _ (hs4 _ (by simp))) (C.2.2.2.2.1 _ (hs4 _ (by simp))) C.2.2.2.2.2.1 hP1 hD hS q0 q1 5 5 g0 g1 rfl rfl (nI_pos (by omega)) (nI_pos (by omega)) (nI_pos (by omega)) (by rw [zs, zn]; exact h4) (by rw [zd, zn]; exact h5) (fun k hk y hy => ?_) (fun comp c0 a1 a2 => vb_asgC (Ex.cwo C.2.2.2.2.2.2) comp c0 a1 a2) (Nat.le_of_ble_eq_true hf) (Nat.le_of_ble_eq_true hl) hdg (fun H1 locs1 hP2 hD2 hS2 => kk H1 locs1 ls h ⟨_, hP2, hD2, Rw.set hR hD hi hq1 ?_ (fun t' i' hne => kcell_eq rfl rfl (gV_sWn hne) rfl (fun _ => rfl)) (fun t' i' k' j hi' hv => ?_)⟩ hS2)
  · rw [zs] at hy
    cases hv : gV σ 16 i0 (sp + k) with
    | none => rw [hv] at hy; cases hy
    | some j =>
      rw [hv] at hy
      cases hy
      exact recv_Wd (t := 17) (i := j) C hP (hR.2.2.2 16 i0 _ j hi0 hv) rfl rfl
  · rw [kcell_v (t := 16) rfl (by decide), hn1, gV_sW, zs, zd, zn]
    congr 7
    exact cpy_map _ _ _ _ _ _
  · by_cases e : t' = 16 ∧ i' = i
    · obtain ⟨rfl, rfl⟩ := e
      rw [gV_sW] at hv
      unfold va_cpy at hv
      split at hv
      · exact (hR.2.2.2 16 i0 (sp + (k' - dp)) j hi0 hv : j < gC Λ 17)
      · exact hR.2.2.2 16 i' k' j hi hv
    · rw [gV_sWn (by by_cases q : t' = 16; exact Or.inr (fun z => e ⟨q, z⟩); exact Or.inl q)] at hv
      exact hR.2.2.2 t' i' k' j hi' hv
theorem j_ldcM (C : Cx p s m args c cc nL own Ts D cy base) {Cn : String} {index mi : Nat} (hlink : (Cond.classLink own index Cn).before args s = true) (hM : va_Mi Cn mi s) (hdg : decode cc pc = .ok (.ldc index, 2)) (kk : J p l e R s m args below meth c nL D cy base Q cells slots Λ (pc + 2) lv (.ref mi :: st) σ) : J p l e R s m args below meth c nL D cy base Q cells slots Λ pc lv st σ := fun H locs ls h hP hS => va_ldcM C.1 C.2.1 C.2.2.2.1 hlink hM hdg (kk H locs ls h hP hS)
theorem j_acmpn (C : Cx p s m args c cc nL own Ts D cy base) {a : Nat} {off : Int} {tgt : Nat} (hdg : decode cc pc = .ok (.if_acmp .ne off, 3)) (ht : (pc : Int) + off = (tgt : Int)) (kk : J p l e R s m args below meth c nL D cy base Q cells slots Λ (pc + 3) lv st σ) : J p l e R s m args below meth c nL D cy base Q cells slots Λ pc lv (.ref a :: .ref a :: st) σ := fun H locs ls h hP hS => lv_acmp_ne (rx := some a) (ry := some a) C.1 C.2.1 hdg ht (fun q => absurd rfl q) (fun _ => kk H locs ls h hP hS)
theorem arr_cell (C : Cx p s m args c cc nL own Ts D cy base) {H : Heap} {i : Nat} (hP : Rp D cy base Λ σ H) (hi : i < gC Λ 16) : ∃ cell : Cell, H[gA Λ 16 i]? = some cell ∧ cell.vm.isStatics = false ∧ s.vm.findClass "[Ljava/lang/Object;" = some cell.cls := by
  obtain ⟨ws, hP1, hD, hR⟩ := hP
  obtain ⟨q0, hq⟩ := hR.1 16 i hi
  rw [kcell_v (t := 16) rfl (by decide)] at hq
  have h1 := hP1 q0 _ hq
  have h2 := (C.2.2.2.2.2.1.2 5 (cy 5, .object "java/lang/Object") rfl).2
  obtain ⟨kA, comp, -, -, -, h6⟩ := h2
  exact ⟨_, h1, rfl, h6⟩
theorem j_getC (C : Cx p s m args c cc nL own Ts D cy base) {index mi i : Nat} (hlink : (Cond.methodLink own index ⟨"java/lang/Object", "getClass", "()Ljava/lang/Class;"⟩).before args s = true) (hsel : (Cond.selects "[Ljava/lang/Object;" ⟨"java/lang/Object", "getClass", "()Ljava/lang/Class;"⟩ ⟨"java/lang/Object", "getClass", "()Ljava/lang/Class;"⟩).before args s = true) (hinst : (Cond.instanceMethod ⟨"java/lang/Object", "getClass", "()Ljava/lang/Class;"⟩).before args s = true) (hnat : (Cond.native ⟨"java/lang/Object", "getClass", "()Ljava/lang/Class;"⟩).before args s = true) (hM : va_Mi "[Ljava/lang/Object;" mi s) (hi : i < gC Λ 16) (hf : 1 ≤ R.frames) (hl : (st.map fun v => v.category).sum + 14 ≤ R.locals) (hdg : decode cc pc = .ok (.invokevirtual index, 3)) (kk : J p l e R s m args below meth c nL D cy base Q cells slots Λ (pc + 3) lv (.ref mi :: st) σ) : J p l e R s m args below meth c nL D cy base Q cells slots Λ pc lv (.ref (gA Λ 16 i) :: st) σ := fun H locs ls h hP hS => va_getC C.1 C.2.1 (C.2.2.1.trans h.1.symm) C.2.2.2.1 hlink (Ex.dcl C.2.2.2.2.2.2 lw_dgc) hsel hinst hnat hM (arr_cell C hP hi) hf hl hdg (kk H locs ls h hP hS)
/-- .. where the mirror of Object[] is known -/
def Wm (D : va_G) (cy : Nat → ClassId) (base : Nat) (Λ : LY) (σ : HS) (mi : Nat) (U : State) : Prop := Wd D cy base Λ σ U ∧ va_Mi "[Ljava/lang/Object;" mi U
theorem fb_Wm {as : List Value} {mi : Nat} : FrameBlind (va_Pc as (Wm D cy base Λ σ mi)) := fun a U g mk q => ⟨q.1, ⟨q.2.1.1, va_K.moved (u := U) (U := U.calling g mk a) (Vm.Alike.refl U.vm) q.2.1.2.1, q.2.1.2.2⟩, va_Mi.moved (u := U) (U := U.calling g mk a) (Vm.Alike.refl U.vm) q.2.2⟩
theorem pre_Wm {as : List Value} {H : Heap} {locs : List Loc} {mi : Nat} (C : Cx p s m args c cc nL own Ts D cy base) (hM : va_Mi "[Ljava/lang/Object;" mi s) (hP : Rp D cy base Λ σ H) (hS : va_S (Ab base) s.heap H locs) : ∀ U : State, U.heap = H → s.WarmedH U.vm → va_Pc as (Wm D cy base Λ σ mi) as.toArray U := fun U hU hW => ⟨rfl, ⟨by rw [hU]; exact hP, va_K.moved hW.alike C.2.2.2.2.2.1, Ex.step C.2.2.2.2.2.2 hW hS hU⟩, va_Mi.moved hW.alike hM⟩
theorem r_Sm (C : Cx p s m args c cc nL own Ts D cy base) {mi : Nat} (hMi : va_Mi "[Ljava/lang/Object;" mi s) {y : MethodName} {bytes : ByteArray} {maxL n index : Nat} {ret : Option FieldType} {ws : List Cond} {rm : Room} {Qc : Array Value → State → Outcome → State → Prop} (As : List Value) (hM : Met l y ws rm (va_Pc As (Wm D cy base Λ σ mi)) Qc mc ms (Ab base)) (cw : CallB R s args own index y bytes maxL ret ws rm mc ms n ∧ (Cond.static y).before args s = true) (hn : As.length = n) (hst : stk = As.reverse ++ st) (hrm : (st.map fun v => v.category).sum ≤ 8) (hdg : decode cc pc = .ok (.invokestatic index, 3)) (hf : cells + mc ≤ R.cells ∧ slots + ms ≤ R.slots) : RunJ p l e R s m args below meth c nL D cy base cells slots mc ms Λ pc lv stk st σ (Qc As.toArray) := by
  intro H locs ls h hP hS
  subst hst
  exact va_runS (As := As) (rest := st) ⟨C.1, C.2.1, C.2.2.1, C.2.2.2.1, C.2.2.2.2.1⟩ hM cw ⟨fb_Wm, pre_Wm C hMi hP hS⟩ rfl hn h.1 rfl (lv_room hrm) hdg hf
theorem j_startM {mi : Nat} {y : MethodName} {ws ws' : List Cond} {rm : Room} {Qc : Array Value → State → Outcome → State → Prop} {ret : Option FieldType} {as : List Value} (hy : plainName y.cls = true) (hw : ws = Cond.code y cc nL ret :: ws') (hlen : (lg_sl as).length ≤ nL) (hlv : lv_args 0 as = lv)
    (body : ∀ (p : Program) (e : Env) (s : State) (m : MethodId) (below : List Frame) (meth : Method) (c : Code), Cx p s m as.toArray c cc nL y.cls ws D cy base → meth.sig.returnType = ret → meth.locks = false → meth.name = y.name → va_Mi "[Ljava/lang/Object;" mi s → J p l e rm s m as.toArray below meth c nL D cy base (MQ below Qc as.toArray s mc ms (Ab base)) 0 0 Λ 0 lv [] σ) : Met l y ws rm (va_Pc as (Wm D cy base Λ σ mi)) Qc mc ms (Ab base) := by
  refine Met.ofW (cc := cc) (maxL := nL) (ret := ret) hy hw ?_
  intro p e s m args below meth c s₁ B hml hv
  obtain ⟨rfl, ⟨hR, hK, hE⟩, hZ⟩ := hv
  have C : Cx p s m as.toArray c cc nL y.cls ws D cy base := ⟨B.exec, B.bytes, hml, findClass_of_methodNamed B.named, atoms_spec (ws := ws) B.pre, hK, hE⟩
  have hl := lv_entry as (n := nL) hlen
  rw [hlv] at hl
  rw [lg_entry_eq]
  exact body p e s m below meth c C B.returns B.notSynchronized (name_of_methodNamed B.named B.method).1 hZ s.heap [] _ hl hR va_S.rf
end JL