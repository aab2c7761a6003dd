/-! ===== MAKING NEW THINGS ===== -/
theorem ra_inj {U : State} {a b : ClassId} {ty : FieldType} (ha : va_RA U a ty) (hb : va_RA U b ty) : a = b := by
  cases ty <;> first
    | exact Option.some.inj (Eq.trans (Eq.symm (show U.vm.findClass _ = some a from ha)) (show U.vm.findClass _ = some b from hb))
    | (obtain ⟨_, _, _, _, _, h1⟩ := ha; obtain ⟨_, _, _, _, _, h2⟩ := hb; exact Option.some.inj (h1.symm.trans h2))
/-- the fields of a new object -/
def kf0 (t : Nat) : List Value := (kF t).map (fun f => if f.1 = 0 then Value.int 0 else if f.1 = 1 then .long 0 else .null)
theorem kfs_new {Λ : LY} {σ : HS} {t q n : Nat} : kfs (nY Λ t q n) (nS Λ σ t) t (gC Λ t) = kf0 t := by
  unfold kfs kf0
  apply List.ext_getElem?
  intro j
  rw [List.getElem?_mapIdx, List.getElem?_map]
  cases (kF t)[j]? with
  | none => rfl
  | some g =>
    obtain ⟨a, b⟩ := g
    simp only [Option.map_some]
    congr 1
    unfold kv
    rw [gI_nS, if_pos ⟨rfl, rfl⟩, gJ_nS, if_pos ⟨rfl, rfl⟩, gV_nS, if_pos ⟨rfl, rfl⟩]
    match a with
    | 0 => rfl
    | 1 => rfl
    | 2 => rfl
    | n + 3 => rfl
theorem gA_self {Λ : LY} {t q n : Nat} : gA (nY Λ t q n) t (gC Λ t) = q := by rw [gA_nL, if_pos ⟨rfl, rfl⟩]
section JN
variable {p : Program} {l : Launch} {e : Env} {R : Room} {s : State} {m : MethodId} {args : Array Value} {below : List Frame} {meth : Method} {c : Code} {cc : ByteArray} {nL : Nat} {own : String} {Ts : List Cond} {D : va_G} {cy : Nat → ClassId} {base : Nat} {Q : State → Prop} {cells slots pc : Nat} {lv lv' : List (Nat × Value)} {st st' : List Value} {Λ : LY} {σ : HS}
/-- the same locals and stack, said otherwise -/
theorem j_eq (h1 : lv = lv') (h2 : st = st') (kk : J p l e R s m args below meth c nL D cy base Q cells slots Λ pc lv' st' σ) : J p l e R s m args below meth c nL D cy base Q cells slots Λ pc lv st σ := by
  rw [h1, h2]
  exact kk
theorem j_new (C : Cx p s m args c cc nL own Ts D cy base) {Cn : String} {T : u_T} {N ci index : Nat} (hin : ∀ w ∈ u_ws Cn T N, w ∈ Ts) (t : Nat) (ht : t ≠ 50) (hkc : kC t = some ci) (hcl : vwCl[ci]? = some (Cn, T, N)) (ty0 : Nat → FieldType) (hty : ∀ k, k < N → parseFieldDescriptor (T k).2.2.1 = some (ty0 k)) (hclk : (Cond.classLink own index Cn).before args s = true) (hinst : (Cond.instantiable Cn N).before args s = true) (hini : (Cond.initialized Cn).before args s = true) (hfs : ∀ j, j < N → defaultValue (ty0 j) = vp_V (kf0 t) j) (hcells : cells + 1 ≤ R.cells) (hslots : slots + N ≤ R.slots) (hdg : decode cc pc = .ok (.new index, 3))
    (kk : ∀ (Λ' : LY) (q : Nat), Λ' = nY Λ t q 0 → J p l e R s m args below meth c nL D cy base Q (cells + 1) (slots + N) Λ' (pc + 3) lv (.ref (gA Λ' t (gC Λ t)) :: st) (nS Λ σ t)) : J p l e R s m args below meth c nL D cy base Q cells slots Λ pc lv st σ := by
  intro H locs ls h hP hS
  obtain ⟨ws, hP1, hD, hR⟩ := hP
  refine va_new C.1 C.2.1 C.2.2.2.2.1 hin ty0 hty C.2.2.2.1 hclk hinst hini C.2.2.2.2.2.1 hP1 hD hS C.A hcl (fs := kf0 t) hfs hcells hslots hdg (fun q H1 hP2 hD2 hS2 => ?_)
  have he : kcell cy (nY Λ t q 0) (nS Λ σ t) t (gC Λ t) = .inr (ci, kf0 t) := by rw [kcell_o hkc, kfs_new]
  have k := kk _ q rfl H1 locs ls h ⟨_, hP2, hD2, Rw.new ht hR hD2 he⟩ hS2
  rw [gA_self] at k
  exact k
theorem j_newI (C : Cx p s m args c cc nL own Ts D cy base) {atype : ArrayType} {ty : FieldType} (t n : Nat) (harr : (Cond.arrayClass (newarray.typeOf atype)).before args s = true) (hty : newarray.typeOf atype = ty) (hkc : kC t = none) (h2 : kA t ≠ 2) (h4 : kA t < 4) (ht : t ≠ 50) (htl : (tyL cy)[kA t]? = some (cy (kA t), ty)) (hdef : defaultValue ty = .int 0) (hb : n ≤ 1000000) (hcb : componentBytes ty ≤ 8) (hcells : cells + 1 ≤ R.cells) (hslots : slots + n ≤ R.slots) (hdg : decode cc pc = .ok (.newarray atype, 2))
    (kk : ∀ (Λ' : LY) (q : Nat), Λ' = nY Λ t q n → J p l e R s m args below meth c nL D cy base Q (cells + 1) (slots + n) Λ' (pc + 2) lv (.ref (gA Λ' t (gC Λ t)) :: st) (nS Λ σ t)) : J p l e R s m args below meth c nL D cy base Q cells slots Λ pc lv (.int (nI n) :: st) σ := by
  have hn : n < 2147483648 := by omega
  have hbytes : n * componentBytes ty ≤ 536870912 := Nat.le_trans (Nat.mul_le_mul hb hcb) (by decide)
  intro H locs ls h hP hS
  obtain ⟨ws, hP1, hD, hR⟩ := hP
  refine va_newa C.1 C.2.1 harr hty C.2.2.2.2.2.1 hP1 hD hS C.A (a0 := (n, .inl (fun _ => 0))) (N' := n) (fun cA => by rw [vp_cell_i, hdef]) (nI_pos hn) (nI_clamp hn) hbytes hcells hslots hdg (fun q cA H1 hK2 hP2 hD2 hS2 => ?_)
  have e1 := (C.2.2.2.2.2.1.2 _ _ htl).2
  have e2 := (hK2.2 7 (cA, ty) rfl).2
  have e3 : cA = cy (kA t) := ra_inj e2 e1
  subst e3
  have he : kcell cy (nY Λ t q n) (nS Λ σ t) t (gC Λ t) = .inl (cy (kA t), n, .inl (fun _ => 0)) := by
    rw [kcell_i hkc h2 h4, gN_nL, if_pos ⟨rfl, rfl⟩, show gI (nS Λ σ t) t (gC Λ t) = fun _ => 0 from funext fun k => by rw [gI_nS, if_pos ⟨rfl, rfl⟩]]
  have k := kk _ q rfl H1 locs ls h ⟨_, hP2, hD2, Rw.new ht hR hD2 he⟩ hS2
  rw [gA_self] at k
  exact k
theorem j_newJ (C : Cx p s m args c cc nL own Ts D cy base) {atype : ArrayType} (t n : Nat) (harr : (Cond.arrayClass (newarray.typeOf atype)).before args s = true) (hty : newarray.typeOf atype = .long) (hkc : kC t = none) (h2 : kA t = 2) (ht : t ≠ 50) (hb : n ≤ 1000000) (hcells : cells + 1 ≤ R.cells) (hslots : slots + n ≤ R.slots) (hdg : decode cc pc = .ok (.newarray atype, 2))
    (kk : ∀ (Λ' : LY) (q : Nat), Λ' = nY Λ t q n → J p l e R s m args below meth c nL D cy base Q (cells + 1) (slots + n) Λ' (pc + 2) lv (.ref (gA Λ' t (gC Λ t)) :: st) (nS Λ σ t)) : J p l e R s m args below meth c nL D cy base Q cells slots Λ pc lv (.int (nI n) :: st) σ := by
  have hn : n < 2147483648 := by omega
  have hbytes : n * componentBytes .long ≤ 536870912 := Nat.le_trans (Nat.mul_le_mul hb (show componentBytes .long ≤ 8 by decide)) (by decide)
  intro H locs ls h hP hS
  obtain ⟨ws, hP1, hD, hR⟩ := hP
  refine va_newa C.1 C.2.1 harr hty C.2.2.2.2.2.1 hP1 hD hS C.A (a0 := (n, .inr (.inl (fun _ => 0)))) (N' := n) (fun cA => by rw [vp_cell_l]; rfl) (nI_pos hn) (nI_clamp hn) hbytes hcells hslots hdg (fun q cA H1 hK2 hP2 hD2 hS2 => ?_)
  have e1 := (C.2.2.2.2.2.1.2 2 (cy 2, .long) rfl).2
  have e2 := (hK2.2 7 (cA, .long) rfl).2
  have e3 : cA = cy 2 := ra_inj e2 e1
  subst e3
  have he : kcell cy (nY Λ t q n) (nS Λ σ t) t (gC Λ t) = .inl (cy 2, n, .inr (.inl (fun _ => 0))) := by
    rw [kcell_j hkc h2, gN_nL, if_pos ⟨rfl, rfl⟩, show gJ (nS Λ σ t) t (gC Λ t) = fun _ => 0 from funext fun k => by rw [gJ_nS, if_pos ⟨rfl, rfl⟩]]
  have k := kk _ q rfl H1 locs ls h ⟨_, hP2, hD2, Rw.new ht hR hD2 he⟩ hS2
  rw [gA_self] at k
  exact k
theorem j_newV (C : Cx p s m args c cc nL own Ts D cy base) {Cn : String} {index : Nat} (t n : Nat) (hclk : (Cond.classLink own index Cn).before args s = true) (hover : va_AO Cn s) (hkc : kC t = none) (h4 : ¬ kA t < 4) (ht : t ≠ 50) (htl : (tyL cy)[kA t]? = some (cy (kA t), .object Cn)) (hb : n ≤ 1000000) (hcells : cells + 1 ≤ R.cells) (hslots : slots + n ≤ R.slots) (hdg : decode cc pc = .ok (.anewarray index, 3))
    (kk : ∀ (Λ' : LY) (q : Nat), Λ' = nY Λ t q n → J p l e R s m args below meth c nL D cy base Q (cells + 1) (slots + n) Λ' (pc + 3) lv (.ref (gA Λ' t (gC Λ t)) :: st) (nS Λ σ t)) : J p l e R s m args below meth c nL D cy base Q cells slots Λ pc lv (.int (nI n) :: st) σ := by
  have hn : n < 2147483648 := by omega
  have hbytes : n * 4 ≤ 536870912 := by omega
  intro H locs ls h hP hS
  obtain ⟨ws, hP1, hD, hR⟩ := hP
  refine va_newq C.1 C.2.1 C.2.2.2.1 hclk hover C.2.2.2.2.2.1 hP1 hD hS C.A (N' := n) (nI_pos hn) (nI_clamp hn) hbytes hcells hslots hdg (fun q cA H1 hK2 hP2 hD2 hS2 => ?_)
  have e1 := (C.2.2.2.2.2.1.2 _ _ htl).2
  have e2 := (hK2.2 7 (cA, .object Cn) rfl).2
  have e3 : cA = cy (kA t) := ra_inj e2 e1
  subst e3
  have he : kcell cy (nY Λ t q n) (nS Λ σ t) t (gC Λ t) = .inl (cy (kA t), n, .inr (.inr (.inr (.inr (fun _ => none))))) := by
    rw [kcell_v hkc h4, gN_nL, if_pos ⟨rfl, rfl⟩, show (fun k => (gV (nS Λ σ t) t (gC Λ t) k).map (gA (nY Λ t q n) (kT t))) = fun _ => none from funext fun k => by rw [gV_nS, if_pos ⟨rfl, rfl⟩]; rfl]
  have k := kk _ q rfl H1 locs ls h ⟨_, hP2, hD2, Rw.new ht hR hD2 he⟩ hS2
  rw [gA_self] at k
  exact k
/-- Object's own constructor -/
theorem j_oinit (C : Cx p s m args c cc nL own Ts D cy base) {idx a : Nat} (hlink : (Cond.methodLink own idx Lib.objectInit).before args s = true) (hinst : (Cond.instanceMethod Lib.objectInit).before args s = true) (hcode : (Cond.code Lib.objectInit ⟨#[0xb1]⟩ 1 none).before args s = true) (hdg : decode cc pc = .ok (.invokespecial idx, 3)) (hfr : 1 ≤ R.frames) (hlo : (st.map fun v => v.category).sum + 12 ≤ R.locals)
    (kk : J p l e R s m args below meth c nL D cy base Q cells slots Λ (pc + 3) lv st σ) : J p l e R s m args below meth c nL D cy base Q cells slots Λ pc lv (.ref a :: st) σ := by
  intro H locs ls h hP hS
  exact W.objInit C.1 C.2.1 C.2.2.2.1 hlink hinst hcode rfl (by rw [C.2.2.1]; exact h.1) rfl hdg hfr (by have := hlo; simpa [F0, JFrame.monitorRoom] using this) (kk H locs ls h hP hS)
/-- worlds that have grown -/
abbrev Wx (D : va_G) (cy : Nat → ClassId) (base : Nat) (u : LY × HS) (t : State) : Prop := Wd D cy base u.1 u.2 t
abbrev Wy (D : va_G) (cy : Nat → ClassId) (base tk : Nat) (u : LY × HS × Nat) (a : Nat) (t : State) : Prop := Wd D cy base u.1 u.2.1 t ∧ a = gA u.1 tk u.2.2
theorem j_iretx (C : Cx p s m args c cc nL own Ts D cy base) {post : Int32 → LY × HS → Prop} {v : Int32} (hr : meth.sig.returnType = some .int) (hlk : meth.locks = false) (hp : post v (Λ, σ)) (hdg : decode cc pc = .ok (.ireturn, 1)) : J p l e R s m args below meth c nL D cy base (MQ below (va_Qi post (Wx D cy base) (Ab base)) args s cells slots (Ab base)) cells slots Λ pc lv ([.int v]) σ := by
  intro H locs ls h hP hS
  exact W.iret C.1 C.2.1 hr (fun t ht hW => ⟨⟨v, (Λ, σ), rfl, hp, ⟨by rw [ht]; exact hP, va_K.moved hW.alike C.2.2.2.2.2.1, Ex.step C.2.2.2.2.2.2 hW hS ht⟩⟩, hS.F ht⟩) hS.2.2 hdg hlk
theorem j_vretx (C : Cx p s m args c cc nL own Ts D cy base) {post : LY × HS → Prop} (hr : meth.sig.returnType = none) (hlk : meth.locks = false) (hp : post (Λ, σ)) (hdg : decode cc pc = .ok (.return_, 1)) : J p l e R s m args below meth c nL D cy base (MQ below (va_Qv post (Wx D cy base) (Ab base)) args s cells slots (Ab base)) cells slots Λ pc lv ([]) σ := by
  intro H locs ls h hP hS
  exact W.vret C.1 C.2.1 hr (fun t ht hW => ⟨⟨(Λ, σ), rfl, hp, ⟨by rw [ht]; exact hP, va_K.moved hW.alike C.2.2.2.2.2.1, Ex.step C.2.2.2.2.2.2 hW hS ht⟩⟩, hS.F ht⟩) hS.2.2 hdg hlk
theorem j_aretx (C : Cx p s m args c cc nL own Ts D cy base) {post : LY × HS × Nat → Prop} {tk j : Nat} {rt : FieldType} (hrt : (∃ n, rt = .object n) ∨ ∃ t, rt = .array t) (hr : meth.sig.returnType = some rt) (hlk : meth.locks = false) (hp : post (Λ, σ, j)) (hdg : decode cc pc = .ok (.areturn, 1)) : J p l e R s m args below meth c nL D cy base (MQ below (va_Qr post (Wy D cy base tk) (Ab base)) args s cells slots (Ab base)) cells slots Λ pc lv ([.ref (gA Λ tk j)]) σ := by
  intro H locs ls h hP hS
  exact W.aret C.1 C.2.1 hr hrt (Or.inr ⟨_, rfl⟩) (fun t ht hW => ⟨⟨(Λ, σ, j), _, rfl, hp, ⟨by rw [ht]; exact hP, va_K.moved hW.alike C.2.2.2.2.2.1, Ex.step C.2.2.2.2.2.2 hW hS ht⟩, rfl⟩, hS.F ht⟩) hS.2.2 hdg hlk
variable {mc ms : Nat} {stk : List Value}
theorem c_vx (C : Cx p s m args c cc nL own Ts D cy base) {post : LY × HS → Prop} {a : Array Value} (hr : RunJ p l e R s m args below meth c nL D cy base cells slots mc ms Λ pc lv stk st σ (va_Qv post (Wx D cy base) (Ab base) a)) (kk : ∀ (Λ' : LY) (u : HS), post (Λ', u) → J p l e R s m args below meth c nL D cy base Q (cells + mc) (slots + ms) Λ' (pc + 3) lv st u) : J p l e R s m args below meth c nL D cy base Q cells slots Λ pc lv stk σ := by
  intro H locs ls h hP hS
  exact va_callv (hr H locs ls h hP hS) hS (fun _ _ z => z) (fun _ z => z) (fun u t H1 locs1 ht hvm hw hB _ _ hS1 => kk u.1 u.2 hw H1 locs1 ls h (by rw [← ht]; exact hB.1) hS1)
theorem c_ix (C : Cx p s m args c cc nL own Ts D cy base) {post : Int32 → LY × HS → Prop} {a : Array Value} (hr : RunJ p l e R s m args below meth c nL D cy base cells slots mc ms Λ pc lv stk st σ (va_Qi post (Wx D cy base) (Ab base) a)) (kk : ∀ (r : Int32) (Λ' : LY) (u : HS), post r (Λ', u) → J p l e R s m args below meth c nL D cy base Q (cells + mc) (slots + ms) Λ' (pc + 3) lv (.int r :: st) u) : J p l e R s m args below meth c nL D cy base Q cells slots Λ pc lv stk σ := by
  intro H locs ls h hP hS
  exact va_calli (hr H locs ls h hP hS) hS (fun _ _ z => z) (fun _ z => z) (fun r u t H1 locs1 ht hvm hw hB _ _ hS1 => kk r u.1 u.2 hw H1 locs1 ls h (by rw [← ht]; exact hB.1) hS1)
theorem c_rx (C : Cx p s m args c cc nL own Ts D cy base) {tk : Nat} {post : LY × HS × Nat → Prop} {a : Array Value} (hr : RunJ p l e R s m args below meth c nL D cy base cells slots mc ms Λ pc lv stk st σ (va_Qr post (Wy D cy base tk) (Ab base) a)) (kk : ∀ (Λ' : LY) (u : HS) (j : Nat), post (Λ', u, j) → J p l e R s m args below meth c nL D cy base Q (cells + mc) (slots + ms) Λ' (pc + 3) lv (.ref (gA Λ' tk j) :: st) u) : J p l e R s m args below meth c nL D cy base Q cells slots Λ pc lv stk σ := by
  intro H locs ls h hP hS
  refine va_callr (hr H locs ls h hP hS) hS (fun _ _ z => z) (fun _ z => z) (fun u b t H1 locs1 ht hvm hw hB _ _ hS1 => ?_)
  obtain ⟨Λ', u, j⟩ := u
  obtain ⟨hB1, hB2⟩ := hB
  dsimp only at hB1 hB2
  rw [hB2]
  exact kk Λ' u j hw H1 locs1 ls h (by rw [← ht]; exact hB1.1) hS1
end JN
/-- what has grown keeps the old -/
def Gw (Λ Λ' : LY) : Prop := (∀ t, gC Λ t ≤ gC Λ' t) ∧ (∀ t i, i < gC Λ t → gA Λ' t i = gA Λ t i ∧ gN Λ' t i = gN Λ t i) ∧ gA Λ' 50 0 = gA Λ 50 0
theorem Gw.rf {Λ : LY} : Gw Λ Λ := ⟨fun _ => Nat.le_refl _, fun _ _ _ => ⟨rfl, rfl⟩, rfl⟩
theorem Gw.nY {Λ : LY} {t q n : Nat} (ht : t ≠ 50) : Gw Λ (nY Λ t q n) := by
  refine ⟨fun t' => ?_, fun t' i hi => ⟨?_, ?_⟩, ?_⟩
  · rw [gC_nL]
    by_cases h : t' = t
    · rw [if_pos h, h]; omega
    · rw [if_neg h]; exact Nat.le_refl _
  · rw [gA_nL, if_neg (nW_old hi)]
  · rw [gN_nL, if_neg (nW_old hi)]
  · rw [gA_nL, if_neg (fun z => ht z.1.symm)]
theorem Gw.tr {Λ Λ1 Λ2 : LY} (h : Gw Λ Λ1) (g : Gw Λ1 Λ2) : Gw Λ Λ2 := ⟨fun t => Nat.le_trans (h.1 t) (g.1 t), fun t i hi => ⟨(g.2.1 t i (Nat.lt_of_lt_of_le hi (h.1 t))).1.trans (h.2.1 t i hi).1, (g.2.1 t i (Nat.lt_of_lt_of_le hi (h.1 t))).2.trans (h.2.1 t i hi).2⟩, g.2.2.trans h.2.2⟩
theorem va_D.ne {A : Nat → Prop} {X Y : va_W} (hD : va_D A (X ++ Y)) {x y : Nat × va_E} (hx : x ∈ X) (hy : y ∈ Y) : x.1 ≠ y.1 := by
  intro z
  obtain ⟨i, hi⟩ := List.mem_iff_getElem?.mp hx
  obtain ⟨j, hj⟩ := List.mem_iff_getElem?.mp hy
  have hl := (List.getElem?_eq_some_iff.mp hi).1
  have e1 : (X ++ Y)[i]? = some x := by rw [List.getElem?_append_left hl]; exact hi
  have e2 : (X ++ Y)[X.length + j]? = some y := by rw [List.getElem?_append_right (by omega), Nat.add_sub_cancel_left]; exact hj
  have := hD.1 _ _ _ _ e1 e2 z
  omega
/-! rows of rows -/
def nY2 (Λ : LY) (t tr q N K : Nat) (r : Nat → Nat) : LY := (fun t' => if t' = t then gC Λ t + 1 else if t' = tr then gC Λ tr + N else gC Λ t', fun t' i' => if t' = t ∧ i' = gC Λ t then q else if t' = tr ∧ gC Λ tr ≤ i' then r (i' - gC Λ tr) else gA Λ t' i', fun t' i' => if t' = t ∧ i' = gC Λ t then N else if t' = tr ∧ gC Λ tr ≤ i' then K else gN Λ t' i')
def nS2 (Λ : LY) (σ : HS) (t tr N : Nat) : HS := (fun t' i' k' => if t' = t ∧ i' = gC Λ t then 0 else if t' = tr ∧ gC Λ tr ≤ i' then 0 else gI σ t' i' k', fun t' i' k' => if t' = t ∧ i' = gC Λ t then 0 else if t' = tr ∧ gC Λ tr ≤ i' then 0 else gJ σ t' i' k', fun t' i' k' => if t' = t ∧ i' = gC Λ t then (if k' < N then some (gC Λ tr + k') else none) else if t' = tr ∧ gC Λ tr ≤ i' then none else gV σ t' i' k')
theorem gC_2 (Λ : LY) (t tr q N K : Nat) (r : Nat → Nat) (t' : Nat) : gC (nY2 Λ t tr q N K r) t' = if t' = t then gC Λ t + 1 else if t' = tr then gC Λ tr + N else gC Λ t' := rfl
theorem gA_2 (Λ : LY) (t tr q N K : Nat) (r : Nat → Nat) (t' i' : Nat) : gA (nY2 Λ t tr q N K r) t' i' = if t' = t ∧ i' = gC Λ t then q else if t' = tr ∧ gC Λ tr ≤ i' then r (i' - gC Λ tr) else gA Λ t' i' := rfl
theorem gN_2 (Λ : LY) (t tr q N K : Nat) (r : Nat → Nat) (t' i' : Nat) : gN (nY2 Λ t tr q N K r) t' i' = if t' = t ∧ i' = gC Λ t then N else if t' = tr ∧ gC Λ tr ≤ i' then K else gN Λ t' i' := rfl
theorem gI_2 (Λ : LY) (σ : HS) (t tr N t' i' k' : Nat) : gI (nS2 Λ σ t tr N) t' i' k' = if t' = t ∧ i' = gC Λ t then 0 else if t' = tr ∧ gC Λ tr ≤ i' then 0 else gI σ t' i' k' := rfl
theorem gJ_2 (Λ : LY) (σ : HS) (t tr N t' i' k' : Nat) : gJ (nS2 Λ σ t tr N) t' i' k' = if t' = t ∧ i' = gC Λ t then 0 else if t' = tr ∧ gC Λ tr ≤ i' then 0 else gJ σ t' i' k' := rfl
theorem gV_2 (Λ : LY) (σ : HS) (t tr N t' i' k' : Nat) : gV (nS2 Λ σ t tr N) t' i' k' = if t' = t ∧ i' = gC Λ t then (if k' < N then some (gC Λ tr + k') else none) else if t' = tr ∧ gC Λ tr ≤ i' then none else gV σ t' i' k' := rfl
theorem n2_old {Λ : LY} {t tr t' i' : Nat} (hi : i' < gC Λ t') : ¬ (t' = t ∧ i' = gC Λ t) ∧ ¬ (t' = tr ∧ gC Λ tr ≤ i') := by
  refine ⟨nW_old hi, ?_⟩
  rintro ⟨rfl, h⟩
  omega
theorem Gw.nY2 {Λ : LY} {t tr q N K : Nat} {r : Nat → Nat} (ht : t ≠ 50) (htr : tr ≠ 50) : Gw Λ (nY2 Λ t tr q N K r) := by
  refine ⟨fun t' => ?_, fun t' i hi => ⟨?_, ?_⟩, ?_⟩
  · rw [gC_2]
    by_cases h : t' = t
    · rw [if_pos h, h]; omega
    · rw [if_neg h]
      by_cases h : t' = tr
      · rw [if_pos h, h]; omega
      · rw [if_neg h]; exact Nat.le_refl _
  · rw [gA_2, if_neg (n2_old (t := t) (tr := tr) hi).1, if_neg (n2_old (t := t) (tr := tr) hi).2]
  · rw [gN_2, if_neg (n2_old (t := t) (tr := tr) hi).1, if_neg (n2_old (t := t) (tr := tr) hi).2]
  · rw [gA_2, if_neg (fun z => ht z.1.symm), if_neg (fun z => htr z.1.symm)]
theorem Rw.new2 {cy : Nat → ClassId} {Λ : LY} {σ : HS} {ws : va_W} {A : Nat → Prop} {t tr q N K : Nat} {r : Nat → Nat} {e er : va_E} (ht : t ≠ 50) (htr : tr ≠ 50) (hne : t ≠ tr) (hkc : kC t = none) (hkA : ¬ kA t < 4) (hkT : kT t = tr) (hkr : kC tr = none) (hr2 : kA tr ≠ 2) (hr4 : kA tr < 4) (h : Rw cy Λ σ ws) (hD : va_D A ((ws ++ [(q, e)]) ++ (List.range N).map (fun i => (r i, er)))) (he : e = .inl (cy (kA t), N, .inr (.inr (.inr (.inr (fun i => if i < N then some (r i) else none)))))) (her : er = .inl (cy (kA tr), K, .inl (fun _ => 0))) (hinj : ∀ i j, i < N → j < N → r i = r j → i = j) : Rw cy (nY2 Λ t tr q N K r) (nS2 Λ σ t tr N) ((ws ++ [(q, e)]) ++ (List.range N).map (fun i => (r i, er))) := by
  obtain ⟨h1, h2, h3, h4⟩ := h
  have hD2 := hD
  rw [List.append_assoc] at hD2
  have hrow : ∀ i, i < N → (r i, er) ∈ (List.range N).map (fun i => (r i, er)) := fun i hi => List.mem_map.mpr ⟨i, List.mem_range.mpr hi, rfl⟩
  have hws : ∀ t' i', i' < gC Λ t' → (gA Λ t' i', kcell cy Λ σ t' i') ∈ ws := fun t' i' hi => List.mem_iff_getElem?.mpr (h1 t' i' hi)
  have hqo : ∀ t' i', i' < gC Λ t' → gA Λ t' i' ≠ q := fun t' i' hi => hD2.ne (hws t' i' hi) (List.mem_append_left _ List.mem_cons_self)
  have hro : ∀ t' i' j, i' < gC Λ t' → j < N → gA Λ t' i' ≠ r j := fun t' i' j hi hj => hD2.ne (hws t' i' hi) (List.mem_append_right _ (hrow j hj))
  have hrq : ∀ j, j < N → q ≠ r j := fun j hj => hD.ne (x := (q, e)) (List.mem_append_right _ List.mem_cons_self) (hrow j hj)
  have hcnt : ∀ t' i', i' < gC (nY2 Λ t tr q N K r) t' → i' < gC Λ t' ∨ (t' = t ∧ i' = gC Λ t) ∨ (t' = tr ∧ gC Λ tr ≤ i' ∧ i' - gC Λ tr < N) := by
    intro t' i' hi
    rw [gC_2] at hi
    by_cases z : t' = t
    · subst z
      rw [if_pos rfl] at hi
      by_cases y : i' < gC Λ t'
      · exact Or.inl y
      · exact Or.inr (Or.inl ⟨rfl, by omega⟩)
    · rw [if_neg z] at hi
      by_cases y : t' = tr
      · subst y
        rw [if_pos rfl] at hi
        by_cases y : i' < gC Λ t'
        · exact Or.inl y
        · exact Or.inr (Or.inr ⟨rfl, by omega, by omega⟩)
      · rw [if_neg y] at hi
        exact Or.inl hi
  have hG : Gw Λ (nY2 Λ t tr q N K r) := Gw.nY2 ht htr
  have aO : gA (nY2 Λ t tr q N K r) t (gC Λ t) = q := by rw [gA_2, if_pos ⟨rfl, rfl⟩]
  have aR : ∀ i, gC Λ tr ≤ i → gA (nY2 Λ t tr q N K r) tr i = r (i - gC Λ tr) := fun i hi => by rw [gA_2, if_neg (fun z => hne z.1.symm), if_pos ⟨rfl, hi⟩]
  have kO : kcell cy (nY2 Λ t tr q N K r) (nS2 Λ σ t tr N) t (gC Λ t) = e := by
    rw [kcell_v hkc hkA, gN_2, if_pos ⟨rfl, rfl⟩, he, hkT]
    congr 7
    funext k
    rw [gV_2, if_pos ⟨rfl, rfl⟩]
    by_cases z : k < N
    · rw [if_pos z, if_pos z]
      show some _ = _
      rw [aR _ (by omega), Nat.add_sub_cancel_left]
    · rw [if_neg z, if_neg z]
      rfl
  have kR : ∀ i, gC Λ tr ≤ i → kcell cy (nY2 Λ t tr q N K r) (nS2 Λ σ t tr N) tr i = er := by
    intro i hi
    rw [kcell_i hkr hr2 hr4, gN_2, if_neg (fun z => hne z.1.symm), if_pos ⟨rfl, hi⟩, her]
    congr 4
    funext k
    rw [gI_2, if_neg (fun z => hne z.1.symm), if_pos ⟨rfl, hi⟩]
  have kOld : ∀ t' i', i' < gC Λ t' → kcell cy (nY2 Λ t tr q N K r) (nS2 Λ σ t tr N) t' i' = kcell cy Λ σ t' i' := by
    intro t' i' hi
    have hn := n2_old (t := t) (tr := tr) hi
    refine kcell_eq (funext fun k => ?_) (funext fun k => ?_) (funext fun k => ?_) (hG.2.1 t' i' hi).2 (fun k => ?_) hG.2.2
    · rw [gI_2, if_neg hn.1, if_neg hn.2]
    · rw [gJ_2, if_neg hn.1, if_neg hn.2]
    · rw [gV_2, if_neg hn.1, if_neg hn.2]
    · cases hv : gV σ t' i' k with
      | none => rfl
      | some j =>
        simp only [Option.map_some]
        rw [(hG.2.1 _ j (h4 _ _ _ _ hi hv)).1]
  refine ⟨fun t' i' hi => List.mem_iff_getElem?.mp ?_, fun k x hx => ?_, fun t' i' t'' i'' hi hj hz => ?_, fun t' i' k j hi hv => ?_⟩
  · rcases hcnt t' i' hi with z | ⟨rfl, rfl⟩ | ⟨rfl, z1, z2⟩
    · rw [(hG.2.1 t' i' z).1, kOld t' i' z]
      exact List.mem_append_left _ (List.mem_append_left _ (hws t' i' z))
    · rw [aO, kO]
      exact List.mem_append_left _ (List.mem_append_right _ List.mem_cons_self)
    · rw [aR _ z1, kR _ z1]
      exact List.mem_append_right _ (hrow _ z2)
  · have hm := List.mem_iff_getElem?.mpr ⟨k, hx⟩
    rcases List.mem_append.mp hm with hm | hm
    · rcases List.mem_append.mp hm with hm | hm
      · obtain ⟨k2, hk2⟩ := List.mem_iff_getElem?.mp hm
        obtain ⟨t', i', hi, hq⟩ := h2 k2 x hk2
        exact ⟨t', i', Nat.lt_of_lt_of_le hi (hG.1 t'), by rw [(hG.2.1 t' i' hi).1, kOld t' i' hi]; exact hq⟩
      · refine ⟨t, gC Λ t, by rw [gC_2, if_pos rfl]; omega, ?_⟩
        rw [aO, kO]
        exact List.mem_singleton.mp hm
    · obtain ⟨i, hi, hx2⟩ := List.mem_map.mp hm
      have hi := List.mem_range.mp hi
      refine ⟨tr, gC Λ tr + i, by rw [gC_2, if_neg (Ne.symm hne), if_pos rfl]; omega, ?_⟩
      rw [aR _ (by omega), kR _ (by omega), Nat.add_sub_cancel_left]
      exact hx2.symm
  · rcases hcnt t' i' hi with z | ⟨rfl, rfl⟩ | ⟨rfl, z1, z2⟩
    · rcases hcnt t'' i'' hj with y | ⟨rfl, rfl⟩ | ⟨rfl, y1, y2⟩
      · rw [(hG.2.1 t' i' z).1, (hG.2.1 t'' i'' y).1] at hz
        exact h3 _ _ _ _ z y hz
      · rw [(hG.2.1 t' i' z).1, aO] at hz
        exact absurd hz (hqo _ _ z)
      · rw [(hG.2.1 t' i' z).1, aR _ y1] at hz
        exact absurd hz (hro _ _ _ z y2)
    · rcases hcnt t'' i'' hj with y | ⟨rfl, rfl⟩ | ⟨rfl, y1, y2⟩
      · rw [(hG.2.1 t'' i'' y).1, aO] at hz
        exact absurd hz.symm (hqo _ _ y)
      · exact ⟨rfl, rfl⟩
      · rw [aO, aR _ y1] at hz
        exact absurd hz (hrq _ y2)
    · rcases hcnt t'' i'' hj with y | ⟨rfl, rfl⟩ | ⟨rfl, y1, y2⟩
      · rw [(hG.2.1 t'' i'' y).1, aR _ z1] at hz
        exact absurd hz.symm (hro _ _ _ y z2)
      · rw [aO, aR _ z1] at hz
        exact absurd hz.symm (hrq _ z2)
      · rw [aR _ z1, aR _ y1] at hz
        have := hinj _ _ z2 y2 hz
        exact ⟨rfl, by omega⟩
  · rcases hcnt t' i' hi with z | ⟨rfl, rfl⟩ | ⟨rfl, z1, z2⟩
    · rw [gV_2, if_neg (n2_old (t := t) (tr := tr) z).1, if_neg (n2_old (t := t) (tr := tr) z).2] at hv
      exact Nat.lt_of_lt_of_le (h4 _ _ _ _ z hv) (hG.1 _)
    · rw [gV_2, if_pos ⟨rfl, rfl⟩] at hv
      by_cases y : k < N
      · rw [if_pos y] at hv
        cases hv
        rw [kt_a hkc, hkT, gC_2, if_neg (Ne.symm hne), if_pos rfl]
        omega
      · rw [if_neg y] at hv
        cases hv
    · rw [gV_2, if_neg (fun z => hne z.1.symm), if_pos ⟨rfl, z1⟩] at hv
      cases hv
section JN2
variable {p : Program} {l : Launch} {e : Env} {R : Room} {s : State} {m : MethodId} {args : Array Value} {below : List Frame} {meth : Method} {c : Code} {cc : ByteArray} {nL : Nat} {own : String} {Ts : List Cond} {D : va_G} {cy : Nat → ClassId} {base : Nat} {Q : State → Prop} {cells slots pc : Nat} {lv lv' : List (Nat × Value)} {st st' : List Value} {Λ : LY} {σ : HS}
/-- new int[n][k] -/
theorem j_mna (C : Cx p s m args c cc nL own Ts D cy base) {index : Nat} (t tr n k : Nat) (hclk : (Cond.classLink own index "[[I").before args s = true) (hover : va_AOA .int s) (harr : (Cond.arrayClass .int).before args s = true) (hkc : kC t = none) (hkA : kA t = 6) (hkT : kT t = tr) (hkr : kC tr = none) (hr1 : kA tr = 1) (ht : t ≠ 50) (htr : tr ≠ 50) (hn : n < 1000000) (hk : k < 1000000) (hcells : cells + (1 + n) ≤ R.cells) (hslots : slots + (n + n * k) ≤ R.slots) (hdg : decode cc pc = .ok (.multianewarray index 2, 4))
    (kk : ∀ (Λ' : LY) (q : Nat) (r : Nat → Nat), Λ' = nY2 Λ t tr q n k r → J p l e R s m args below meth c nL D cy base Q (cells + 1 + n) (slots + n + n * k) Λ' (pc + 4) lv (.ref (gA Λ' t (gC Λ t)) :: st) (nS2 Λ σ t tr n)) : J p l e R s m args below meth c nL D cy base Q cells slots Λ pc lv (.int (nI k) :: .int (nI n) :: st) σ := by
  intro H locs ls h hP hS
  obtain ⟨ws, hP1, hD, hR⟩ := hP
  have hne : t ≠ tr := fun z => by rw [z, hr1] at hkA; cases hkA
  have e1 := (C.2.2.2.2.2.1.2 1 (cy 1, .int) rfl).2
  have e6 := (C.2.2.2.2.2.1.2 6 (cy 6, .array .int) rfl).2
  have hws : ws ++ va_pl [] (fun _ => (.inr (0, []) : va_E)) = ws := List.append_nil ws
  refine va_mna (X := ws) (L := []) (f := fun _ => .inr (0, [])) C.1 C.2.1 (ty := .int) (cy := cy 1) C.2.2.2.1 hclk hover harr e1 C.2.2.2.2.2.1 (by rw [hws]; exact hP1) (by rw [hws]; exact hD) hS C.A (N' := n) (K' := k) (z := (k, .inl (fun _ => 0))) (nI_pos (by omega)) (nI_pos (by omega)) (nI_clamp (by omega)) (nI_clamp (by omega)) (by omega) (by show k * 4 ≤ _; omega) (by omega) rfl rfl hcells hslots (fun cI => ?_) hdg (fun q r cA H1 hinj hnL hK2 hP2 hD2 hS2 => ?_)
  · rw [vp_cell_i, ← arrV_new]
    rfl
  have e2 := (hK2.2 7 (cA, .array .int) rfl).2
  have e3 : cA = cy 6 := ra_inj e2 e6
  subst e3
  have hx : va_pl ([] ++ (List.range n).map r) (vr_up (fun _ => (.inr (0, []) : va_E)) ((List.range n).map r) (.inl (cy 1, k, .inl (fun _ => 0)))) = (List.range n).map (fun i => (r i, (.inl (cy 1, k, .inl (fun _ => 0)) : va_E))) := by
    unfold va_pl
    rw [List.nil_append, List.map_map]
    apply List.map_congr_left
    intro i hi
    show (r i, vr_up _ _ _ (r i)) = _
    unfold vr_up
    rw [if_pos (List.mem_map.mpr ⟨i, hi, rfl⟩)]
  rw [hx] at hP2 hD2
  have hR2 := Rw.new2 (σ := σ) (K := k) (r := r) (N := n) (q := q) ht htr hne hkc (by rw [hkA]; decide) hkT hkr (by rw [hr1]; decide) (by rw [hr1]; decide) hR hD2 (by rw [hkA]) (by rw [hr1]) hinj
  have kq := kk _ q r rfl H1 locs ls h ⟨_, hP2, hD2, hR2⟩ hS2
  rw [gA_2, if_pos ⟨rfl, rfl⟩] at kq
  exact kq
end JN2
theorem va_AOA_moved {ty : FieldType} {u U : State} (hvm : u.vm.Alike U.vm) (h : va_AOA ty u) : va_AOA ty U := by
  obtain ⟨comp, c, k, h1, h2, h3, h4, h5⟩ := arrayOverA_spec h
  obtain ⟨k', hk', he⟩ := hvm.2.2 _ _ h3
  have hi : (U.vm.classes.findIdx? fun (x : Class) => match x.kind with | .array component _ => component == comp | _ => false) = some c := by
    have e1 := va_idx_bare U.vm comp
    have e2 := va_idx_bare u.vm comp
    have e3 : U.vm.bare = u.vm.bare := by first | exact hvm.bare_eq | exact hvm.bare_eq.symm
    rw [e3] at e1
    exact e1.symm.trans (e2.trans h2)
  have hkind : k'.kind = .array comp (.array ty) := by rw [he]; exact h4
  have f1 := h1
  rw [← hvm.findClass] at f1
  have f2 := h5
  rw [← hvm.findClass] at f2
  unfold va_AOA Cond.before Cond.holds
  simp only [Cond.value]
  rw [f1, Option.bind_some]
  refine (congrArg (fun o : Option Nat => (o.bind (fun c => (U.vm.classes[c]?).map fun (k : Class) => match k.kind with | .array _ ty' => decide (ty' = FieldType.array ty) && decide (U.vm.findClass ("[" ++ (FieldType.array ty).toString) = some c) | _ => false) == some true)) hi).trans ?_
  simp [hk', hkind, f2]
theorem Ex.ao {base : Nat} {s : State} {C : String} (hE : Ex base s) (h1 : Cond.arrayOver (.object C) ∈ lw_tbl) : va_AO C s := by
  obtain ⟨U0, b, e1, e2, e3, e4, e5, e6⟩ := hE
  exact va_AO.moved e2.alike (va_AO.of (e5 _ h1))
theorem Ex.aoa {base : Nat} {s : State} {ty : FieldType} (hE : Ex base s) (h1 : Cond.arrayOver (.array ty) ∈ lw_tbl) : va_AOA ty s := by
  obtain ⟨U0, b, e1, e2, e3, e4, e5, e6⟩ := hE
  exact va_AOA_moved e2.alike (va_AOA.of (e5 _ h1))
theorem ao_R : Cond.arrayOver (.object "CodeRooms$Routine") ∈ lw_tbl := by decide +kernel
theorem ao_O : Cond.arrayOver (.object "java/lang/Object") ∈ lw_tbl := by decide +kernel
theorem ao_A : Cond.arrayOver (.array .int) ∈ lw_tbl := by decide +kernel
