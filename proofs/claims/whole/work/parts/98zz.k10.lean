def R_law : String := "CodeRoomsLaw"
def lw_P (b : Addr) (xs : List Int32) (args : Array Value) (s : State) : Prop := args = #[.ref b] ∧ s.IntsAt b xs ∧ xs.length ≤ 3072 ∧ (Jvm.Cond.and given_1 narrow_1).before args s = true
def lw_Q (_ : Array Value) (s : State) (o : Outcome) (t : State) : Prop := o = .returned (some (.int 1)) ∧ Framed s o t [] 601024 7293033
def lw_Z (below : List Frame) (a : Array Value) (s : State) : State → Prop := fun t => ∃ o, t.status = .running ∧ Ended t below o ∧ lw_Q a s o t
/-- the law's own end, with 1 on the stack, nothing written that was there before, its room as the claim has it -/
theorem lw_ret {p : Program} {l : Launch} {e : Env} {s : State} {m : MethodId} {below : List Frame} {meth : Method} {c : Code} {b : Nat} (hx : p.tables.exec = Jvm.exec) (hb : c.code = code) (hr : meth.sig.returnType = ret) (hlocks : meth.locks = false) {pc : Nat} {H : Heap} {ls : Array Slot} (hdg : decode code pc = .ok (.ireturn, 1)) : W p l e room_1 s m #[Value.ref b] below meth c H [] 601024 7293033 (lw_Z below #[Value.ref b] s) (F0 m pc ls [.int 1]) := by
  intro T hT X
  obtain ⟨fs, hret, hrun, hended, hW, hframe⟩ := X.leave (v := some (.int 1)) (hlocks := hlocks) (fun h => by rw [hr] at h; cases h)
  have hmeth' : T.vm.method? m = some meth := X.method'
  refine ⟨T.setFrames fs, ?_, .returned (some (.int 1)), hrun, hended, rfl, ⟨_, rfl⟩, hW, hframe⟩
  jvm_step X.here [X.here.top, hx, hb, hdg, hmeth', hr, ret, narrow_b1]
  (try refine ⟨rfl, ?_⟩); (try refine ⟨rfl, ?_⟩)
  first | (intro acts; rw [hret _ acts rfl rfl rfl]) | rw [hret _ _ rfl rfl rfl]
  exact Steps.refl _
/-- what holds at the law's entry: the machine, the code, the tables' words (any of lw_tbl by 'hts w (by decide +kernel)'), the script of L ints xs at the cell b, what the Statement gives of the start (any of its parts by flat_of_before) -/
def lw_At (p : Program) (s : State) (m : MethodId) (meth : Method) (c : Code) (b L : Nat) (xs : Nat → Int32) : Prop :=
  p.tables.exec = Jvm.exec ∧ c.code = code ∧ meth.sig.returnType = ret ∧ c.maxLocals = 8 ∧ s.vm.findClass R_law = some m.cls ∧ (∀ w ∈ lw_tbl, w.before #[Value.ref b] s = true) ∧ va_X b L xs s s.heap ∧ b < s.heap.size ∧ meth.locks = false ∧ (Jvm.Cond.and given_1 narrow_1).before #[Value.ref b] s = true
/-! ===== rows of the law ===== -/
theorem c_mthrown (l : Launch) (D : va_G) (cy : Nat → ClassId) (base : Nat) (Λ : LY) (σ : HS) (M : MM) (hM : MR Λ σ M) : Met l yX11_thrown wsX11_thrown ({ frames := 4, cells := 0, slots := 0, locals := 60 }) (va_Pc [.ref (gA Λ 31 0)] (Wd D cy base Λ σ)) (va_Qi (fun v u => v = nI (M 31 0) ∧ u = σ) (Wd D cy base Λ) (Ab base)) 0 0 (Ab base) := by
  refine j_start (cc := cX11_thrown) (nL := 1) (ret := (some .int)) (lv := [(0, .ref (gA Λ 31 0))]) (by decide) rfl (Nat.le_of_ble_eq_true rfl) rfl ?_
  intro p e s m below meth c C hr hlk hnm
  have C : Cx p s m ([.ref (gA Λ 31 0)] : List Value).toArray c cX11_thrown 1 RX11 wsX11_thrown D cy base := C
  have hts := C.2.2.2.2.1
  have hwX11 : ∀ w ∈ u_ws RX11 TX11 26, w ∈ wsX11_thrown := by decide +kernel
  have hM73 : (Cond.fieldLink RX11 73 (TX11 0).1 (TX11 0).2.1 (TX11 0).2.2.1).before ([.ref (gA Λ 31 0)] : List Value).toArray s = true := hts (.fieldLink RX11 73 "CodeRoomsModel" "thrown" "I") (by decide +kernel)
  have hL73 : FL RX11 73 (TX11 0).1 (TX11 0).2.1 (TX11 0).2.2.1 ([.ref (gA Λ 31 0)] : List Value).toArray s := Or.inl hM73
  refine j_aload_n C dX11_thrown_0 rfl 0 rfl ?_
  refine j_getI C hwX11 31 0 0 (MR.in0 hM (by decide) (by decide)) rfl rfl (by decide) rfl (nI (M 31 0)) (hM.1 31 0 rfl) hL73 dX11_thrown_1 ?_
  exact j_iret C hr hlk ⟨rfl, rfl⟩ dX11_thrown_4
section LWR
variable {p : Program} {l : Launch} {e : Env} {R : Room} {s : State} {m : MethodId} {args : Array Value} {below : List Frame} {meth : Method} {c : Code} {cc : ByteArray} {nL : Nat} {own : String} {Ts : List Cond} {D : va_G} {cy : Nat → ClassId} {base : Nat} {Q : State → Prop} {cells slots pc mc ms : Nat} {lv lv' : List (Nat × Value)} {st stk : List Value} {Λ : LY} {σ : HS} {b L : Nat} {xs : Nat → Int32}
theorem j_sld (C : Cx p s m args c cc nL own Ts D cy base) (hX : va_X b L xs s s.heap) (hbl : b < s.heap.size) (hbA : ¬ Ab base b) (hL : L ≤ 3072) (k : Nat) (hk : k < L) (hdg : decode cc pc = .ok (.iaload, 1)) (kk : J p l e R s m args below meth c nL D cy base Q cells slots Λ (pc + 1) lv (.int (xs k) :: st) σ) : J p l e R s m args below meth c nL D cy base Q cells slots Λ pc lv (.int (nI k) :: .ref b :: st) σ := by
  intro H locs ls h hP hS
  obtain ⟨h1, h2⟩ := ix_at hk (show L < 2 ^ 31 by omega)
  refine va_sld C.1 C.2.1 hX hbl hbA hS h1 hdg ?_
  rw [h2]
  exact kk H locs ls h hP hS
theorem j_slen (C : Cx p s m args c cc nL own Ts D cy base) (hX : va_X b L xs s s.heap) (hbl : b < s.heap.size) (hbA : ¬ Ab base b) (hdg : decode cc pc = .ok (.arraylength, 1)) (kk : J p l e R s m args below meth c nL D cy base Q cells slots Λ (pc + 1) lv (.int (nI L) :: st) σ) : J p l e R s m args below meth c nL D cy base Q cells slots Λ pc lv (.ref b :: st) σ := by
  intro H locs ls h hP hS
  exact va_slen C.1 C.2.1 hX hbl hbA hS hdg (kk H locs ls h hP hS)
theorem r_SX (C : Cx p s m args c cc nL own Ts D cy base) (hZ : Zx base (gA Λ 50 0) s) {y : MethodName} {bytes : ByteArray} {maxL n index : Nat} {ret : Option FieldType} {hh : List (Nat × Nat × Nat × Nat)} {ws : List Cond} {rm : Room} {Qc : Array Value → State → Outcome → State → Prop} (As : List Value) (hM : vx_Met l y ws rm (va_Pc As (Wg D cy base Λ σ)) Qc NoX mc ms (Ab base)) (cw : vx_CSW R s args own index y bytes maxL ret hh ws rm mc ms n) (hn : As.length = n) (hst : stk = As.reverse ++ st) (hrm : (st.map fun v => v.category).sum ≤ 8) (hdg : decode cc pc = .ok (.invokestatic index, 3)) (hf : cells + mc ≤ R.cells ∧ slots + ms ≤ R.slots) : RunJ p l e R s m args below meth c nL D cy base cells slots mc ms Λ pc lv stk st σ (Qc As.toArray) := by
  intro H locs ls h hP hS
  subst hst
  intro T hT X
  rcases vx_runSX (As := As) (rest := st) ⟨C.1, C.2.1, C.2.2.1, C.2.2.2.1, C.2.2.2.2.1⟩ hM cw ⟨fb_Wg, pre_Wg C hZ hP hS⟩ rfl hn h.1 rfl (lv_room hrm) hdg hf T hT X with z | ⟨q, st₀, t, T', L, E, ce, _, _, _, _, _, z, _⟩
  · exact z
  · exact z.elim
/-- an argument of the script -/
theorem l_arg (C : Cx p s m args c cc nL own Ts D cy base) (hX : va_X b L xs s s.heap) (hbl : b < s.heap.size) (hbA : ¬ Ab base b) (hL : L ≤ 3072) (j q i0 i4 : Nat) {n : Int} (hj : 6 * q + j < L) (h0 : lv[i0]? = some (0, .ref b)) (h4 : lv[i4]? = some (4, .int (nI (6 * q)))) (d0 : decode cc pc = .ok (.aload_n 0, 1)) (d1 : decode cc (pc + 1) = .ok (.iload 4, 2)) (d3 : decode cc (pc + 3) = .ok (.iconst n, 1)) (hn : Int32.ofInt n = nI j) (d4 : decode cc (pc + 4) = .ok (.iadd, 1)) (d5 : decode cc (pc + 5) = .ok (.iaload, 1)) (kk : J p l e R s m args below meth c nL D cy base Q cells slots Λ (pc + 6) lv (.int (xs (6 * q + j)) :: st) σ) : J p l e R s m args below meth c nL D cy base Q cells slots Λ pc lv st σ := by
  refine j_aload_n C d0 rfl i0 h0 ?_
  refine j_iload C d1 i4 h4 ?_
  refine j_iconst C (nI j) d3 hn ?_
  refine j_iadd C (nI (6 * q + j)) d4 (nI_add _ _) ?_
  exact j_sld C hX hbl hbA hL (6 * q + j) hj d5 kk
end LWR
theorem and31 (x : Int32) : ∃ n, n < 32 ∧ x &&& 31 = nI n := by
  have e : x = nI x.toBitVec.toNat := by
    apply Int32.toBitVec_inj.mp
    show _ = (Int32.ofNat _).toBitVec
    simp
  refine ⟨x.toBitVec.toNat % 2 ^ 5, Nat.mod_lt _ (by decide), ?_⟩
  have h := fa_mask x.toBitVec.toNat 5
  rw [← e] at h
  exact h
theorem len6 {L q : Nat} (hL : L ≤ 3072) (hq : 6 * q ≤ L + 6) : nI L - nI 6 < nI (6 * q) ↔ L < 6 * q + 6 := by
  rw [Int32.lt_iff_toInt_lt, pk_sub_toInt (by omega) (by decide), nI_toInt (by omega)]
  omega
theorem kc0 {kc : Nat} (h : kc ≤ 2) : nI kc = 0 ↔ kc = 0 := by
  rcases (show kc = 0 ∨ kc = 1 ∨ kc = 2 by omega) with rfl | rfl | rfl <;> decide
abbrev lvq (Λ : LY) (b q : Nat) : List (Nat × Value) := [(4, .int (nI (6 * q))), (3, .ref (gA Λ 49 0)), (2, .ref (gA Λ 31 0)), (1, .ref (gA Λ 0 0)), (0, .ref b)]
def LX (l : Launch) (p : Program) (s : State) (m : MethodId) (meth : Method) (c : Code) (D : va_G) (cy : Nat → ClassId) (b L : Nat) (xs : Nat → Int32) (x0 : Nat) : Prop := Cx p s m #[Value.ref b] c cL_law 8 RL lw_tbl D cy s.heap.size ∧ va_X b L xs s s.heap ∧ b < s.heap.size ∧ ¬ Ab s.heap.size b ∧ L ≤ 3072 ∧ l.stackTraces = false ∧ Zx s.heap.size x0 s
def LG (x0 q : Nat) (Λ : LY) (σ : HS) (M : MM) (cells slots : Nat) : Prop := LI Λ σ M ∧ gA Λ 50 0 = x0 ∧ cells ≤ 49 + 54 * M 31 5 + 2 * q ∧ slots ≤ 8054 + 11748 * M 31 5 + 42 * q
abbrev JW (p : Program) (l : Launch) (e : Env) (s : State) (m : MethodId) (below : List Frame) (meth : Method) (c : Code) (D : va_G) (cy : Nat → ClassId) (b : Nat) (cells slots : Nat) (Λ : LY) (pc : Nat) (lv : List (Nat × Value)) (st : List Value) (σ : HS) : Prop := J p l e room_1 s m #[Value.ref b] below meth c 8 D cy s.heap.size (lw_Z below #[Value.ref b] s) cells slots Λ pc lv st σ
section LWT
variable {p : Program} {l : Launch} {e : Env} {s : State} {m : MethodId} {below : List Frame} {meth : Method} {c : Code} {D : va_G} {cy : Nat → ClassId} {b L x0 q cells slots pc : Nat} {xs : Nat → Int32} {Λ : LY} {σ w : HS}
/-- behind the reference's call: thrown, and what out holds -/
theorem l_tail (X : LX l p s m meth c D cy b L xs x0) {kc M5 : Nat} {r : Int32} {og : Int} (hc : cells ≤ 601024 ∧ slots ≤ 7293033) (hkc : kc ≤ 2) (hp : (∃ M', MR Λ w (mS M' 31 0 kc) ∧ LI Λ w M' ∧ M' 31 5 = M5) ∧ (kc = 0 → gJ w 49 0 0 = r.toInt64))
    (d0 : decode cL_law pc = .ok (.istore 6, 2)) (d2 : decode cL_law (pc + 2) = .ok (.aload_n 2, 1)) (d3 : decode cL_law (pc + 3) = .ok (.invokevirtual 78, 3)) (d6 : decode cL_law (pc + 6) = .ok (.iload 5, 2)) (d8 : decode cL_law (pc + 8) = .ok (.if_icmp .eq 5, 3)) (d13 : decode cL_law (pc + 13) = .ok (.iload 5, 2)) (d15 : decode cL_law (pc + 15) = .ok (.ifCond .ne 15, 3)) (d18 : decode cL_law (pc + 18) = .ok (.aload_n 3, 1)) (d19 : decode cL_law (pc + 19) = .ok (.iconst 0, 1)) (d20 : decode cL_law (pc + 20) = .ok (.laload, 1)) (d21 : decode cL_law (pc + 21) = .ok (.iload 6, 2)) (d23 : decode cL_law (pc + 23) = .ok (.i2l, 1)) (d24 : decode cL_law (pc + 24) = .ok (.lcmp, 1)) (d25 : decode cL_law (pc + 25) = .ok (.ifCond .eq 5, 3)) (d30 : decode cL_law (pc + 30) = .ok (.goto og, 3)) (hog : ((pc + 30 : Nat) : Int) + og = ((1273 : Nat) : Int))
    (K : ∀ M', LI Λ w M' → M' 31 5 = M5 → JW p l e s m below meth c D cy b cells slots Λ 1273 (lvq Λ b q) [] w) : JW p l e s m below meth c D cy b cells slots Λ pc ((5, .int (nI kc)) :: lvq Λ b q) [.int r] w := by
  obtain ⟨C, hX, hbl, hbA, hL3, hlt, hZ⟩ := X
  obtain ⟨⟨M', hM, hI, h5⟩, hv⟩ := hp
  have hts := C.2.2.2.2.1
  have h31 : 0 < gC Λ 31 := by rw [hI.c31]; decide
  have h49 : 0 < gC Λ 49 := by rw [hI.2.2.2.1]; decide
  have fin : ∀ lv9, lv_pick lv9 [2, 3, 4, 5, 6] = lvq Λ b q → JW p l e s m below meth c D cy b cells slots Λ (pc + 30) lv9 [] w := fun lv9 h9 => by
    refine j_goto C d30 hog ?_
    exact j_lv [2, 3, 4, 5, 6] h9 (K M' hI h5)
  refine j_istore C ((6, .int r) :: (5, .int (nI kc)) :: lvq Λ b q) d0 (by decide) rfl ?_
  refine j_aload_n C d2 rfl 4 rfl ?_
  refine c_i0 C (r_V C 31 0 [] (c_mthrown l D cy s.heap.size Λ w (mS M' 31 0 kc) hM) (cwV 0 hts gU_X11_thrown rfl rfl rfl (by decide +kernel) ⟨by decide, by decide⟩) h31 rfl rfl rfl rfl (Nat.le_of_ble_eq_true rfl) d3 ⟨hc.1, hc.2⟩) (fun v u hp => ?_)
  obtain ⟨rfl, rfl⟩ := hp
  rw [mS_same]
  refine j_iload C d6 1 rfl ?_
  refine j_icmp_eq (tgt := pc + 13) (P := True) C d8 (by omega) (iff_true_intro rfl) (fun _ => ?_) (fun z => absurd trivial z)
  refine j_iload C d13 1 rfl ?_
  refine j_if_ne (tgt := pc + 30) C d15 (by omega) (kc0 hkc) (fun _ => fin _ rfl) (fun h0 => ?_)
  refine j_aload_n C d18 rfl 3 rfl ?_
  refine j_iconst C (nI 0) d19 (by decide) ?_
  refine j_lald C 49 0 0 h49 rfl rfl 1 hI.2.2.2.2 (by decide) (by decide) _ (hv h0) d20 ?_
  refine j_iload C d21 0 rfl ?_
  refine j_i2l C _ d23 rfl ?_
  exact j_lcmp_eq (tgt := pc + 30) (P := True) C d24 d25 (by omega) (iff_true_intro rfl) (fun _ => fin _ rfl) (fun z => absurd trivial z)
theorem l_end (C : Cx p s m #[Value.ref b] c cL_law 8 RL lw_tbl D cy s.heap.size) (hr : meth.sig.returnType = ret) (hlk : meth.locks = false) (hc : cells ≤ 601024 ∧ slots ≤ 7293033) {lv : List (Nat × Value)} : JW p l e s m below meth c D cy b cells slots Λ 1279 lv [] σ := by
  refine j_iconst C 1 dL_law_1279 (by decide) ?_
  intro H locs ls h hP hS
  refine va_forget (fun q hq => hS.2.2 q hq) ?_
  exact W.widen hc.1 hc.2 (lw_ret C.1 C.2.1 hr hlk dL_law_1280)
end LWT
