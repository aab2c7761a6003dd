/-! ===== routine: new things come ===== -/
theorem vxX {l : Launch} {y : MethodName} {ws : List Cond} {rm : Room} {as : List Value} {D : va_G} {cy : Nat → ClassId} {base : Nat} {Λ : LY} {σ : HS} {post : Int32 → HS → Prop} {A : Nat → Prop} {X : String → State → State → Prop} {mc ms : Nat} {F : Addr → Prop} (hM : vx_Met l y ws rm (va_Pc as (Wd D cy base Λ σ)) (va_Qi post (Wd D cy base Λ) A) X mc ms F) : vx_Met l y ws rm (va_Pc as (Wg D cy base Λ σ)) (va_Qi (fun v (x : LY × HS) => x.1 = Λ ∧ post v x.2) (Wx D cy base) A) X mc ms F :=
  MetFree.mono hM (fun _ _ z => ⟨z.1, z.2.1⟩) (fun _ _ _ _ _ z => z) (fun _ _ _ _ _ q => q.elim (fun z => Or.inl ⟨by obtain ⟨⟨r, u, e1, e2, e3⟩, f⟩ := z.1; exact ⟨⟨r, (Λ, u), e1, ⟨rfl, e2⟩, e3⟩, f⟩, z.2⟩) Or.inr)
theorem vxPre {l : Launch} {y : MethodName} {ws : List Cond} {rm : Room} {as : List Value} {D : va_G} {cy : Nat → ClassId} {base : Nat} {Λ : LY} {σ : HS} {Qc : Array Value → State → Outcome → State → Prop} {X : String → State → State → Prop} {mc ms : Nat} {F : Addr → Prop} (hM : vx_Met l y ws rm (va_Pc as (Wd D cy base Λ σ)) Qc X mc ms F) : vx_Met l y ws rm (va_Pc as (Wg D cy base Λ σ)) Qc X mc ms F :=
  MetFree.mono hM (fun _ _ z => ⟨z.1, z.2.1⟩) (fun _ _ _ _ _ z => z) (fun _ _ _ _ _ q => q)
theorem MR0.gw {Λ Λ' : LY} {σ u : HS} {M : MM} (h : MR0 Λ σ M) (hG : Gw Λ Λ') (hc : ∀ t, 31 ≤ t → gC Λ' t = gC Λ t) (hs : Same s31 σ u) : MR0 Λ' u M := by
  obtain ⟨x, h1, h2, h3, h4⟩ := h.same hs
  refine ⟨x, h1, fun t a b => (hc t a).trans (h2 t a b), fun t a b => ?_, h4⟩
  rw [(hG.2.1 t 0 (by rw [h2 t (by omega) b]; decide)).2]
  exact h3 t a b
theorem OU.gw {Λ Λ' : LY} (h : OU Λ) (hG : Gw Λ Λ') (hc : ∀ t, 31 ≤ t → gC Λ' t = gC Λ t) : OU Λ' :=
  ⟨(hc 49 (by decide)).trans h.1, by rw [(hG.2.1 49 0 (by rw [h.1]; decide)).2]; exact h.2⟩
theorem new60 {M : MM} {a lb n : Nat} : newM (mS M 60 a lb) n = mS (newM M n) 60 a lb := by
  funext t k
  unfold newM
  have e5 : mS M 60 a lb 31 5 = M 31 5 := mS_ne (Or.inl (by decide))
  rw [e5]
  by_cases t6 : t = 60
  · subst t6
    rw [mS_ne (Or.inl (by decide)), mS_ne (Or.inl (by decide)), mS_ne (Or.inl (by decide))]
    unfold cpyN
    rw [if_neg (fun z => absurd z.1 (by decide))]
    by_cases e : k = a
    · subst e; rw [mS_same, mS_same]
    · rw [mS_ne (Or.inr e), mS_ne (Or.inr e), mS_ne (Or.inl (by decide)), mS_ne (Or.inl (by decide)), mS_ne (Or.inl (by decide)), if_neg (fun z => absurd z.1 (by decide))]
  · rw [mS_ne (M := mS (mS (mS (cpyN M (20 * M 31 5) n) 34 (M 31 5) n) 40 (M 31 5) 0) 31 5 (M 31 5 + 1)) (Or.inl t6)]
    have ec : ∀ t k, t ≠ 60 → cpyN (mS M 60 a lb) (20 * M 31 5) n t k = cpyN M (20 * M 31 5) n t k := fun t k ht => by
      unfold cpyN
      rw [mS_ne (Or.inl (by decide)), mS_ne (Or.inl ht)]
    unfold mS
    split
    · rfl
    · split
      · rfl
      · split
        · rfl
        · exact ec t k t6
theorem settle60 {M : MM} {a lb t k : Nat} (ht : t ≠ 60) : settle (mS M 60 a lb) t k = settle M t k := by
  have e5 : mS M 60 a lb 31 5 = M 31 5 := mS_ne (Or.inl (by decide))
  have e9 : mS M 60 a lb 31 9 = M 31 9 := mS_ne (Or.inl (by decide))
  have e10 : mS M 60 a lb 31 10 = M 31 10 := mS_ne (Or.inl (by decide))
  have e35 : mS M 60 a lb 35 = M 35 := mS_nk (by decide)
  have e36 : mS M 60 a lb 36 = M 36 := mS_nk (by decide)
  have e38 : mS M 60 a lb 38 = M 38 := mS_nk (by decide)
  have et : tieN (mS M 60 a lb) = tieN M := by funext x y; unfold tieN; rw [e35, e36]
  have ed : deg (mS M 60 a lb) = deg M := by funext x; unfold deg; rw [et, e5]
  unfold settle settleTo hubN stR
  rw [e5, e9, e10, ed, e38, mS_ne (Or.inl ht)]
def KR (l : Launch) (D : va_G) (cy : Nat → ClassId) (base : Nat) (Λ : LY) (σ : HS) (M : MM) (a : Int32) : Prop :=
  ∃ (kc g mc ms : Nat) (P : LY × HS → Prop) (rm : Room), kc ≤ 2 ∧ (rm.frames ≤ 60 ∧ rm.locals ≤ 900 ∧ rm.cells = 0 ∧ rm.slots = 0) ∧ ((g = 0 ∧ mc ≤ 2 ∧ ms ≤ 42) ∨ (g = 1 ∧ mc = 54 ∧ ms = 11748)) ∧
    vx_Met l yL_routine wsL_routine ({ frames := 100, cells := mc, slots := ms, locals := 2000 }) (va_Pc [.ref (gA Λ 0 0), .int a, .ref (gA Λ 49 0)] (Wg D cy base Λ σ)) (va_Qi (fun v x => v = nI kc ∧ P x) (Wx D cy base) (Ab base)) NoX mc ms (Ab base) ∧
    ∀ x, P x → Gw Λ x.1 ∧ 0 < gC x.1 31 ∧ Met l yX11_routine wsX11_routine rm (va_Pc [.ref (gA x.1 31 0), .int a] (Wd D cy base x.1 x.2)) (va_Qi (fun v u => (∃ M', MR x.1 u (mS M' 31 0 kc) ∧ LI x.1 u M' ∧ M' 31 5 = M 31 5 + g) ∧ (kc = 0 → gJ u 49 0 0 = v.toInt64)) (Wd D cy base x.1) (Ab base)) 0 0 (Ab base)
theorem LI.c31 {Λ : LY} {σ : HS} {M : MM} (h : LI Λ σ M) : gC Λ 31 = 1 := by
  obtain ⟨x, h1, h2, h3, h4⟩ := h.2.1
  exact h2 31 (by decide) (by decide)
theorem KR.err {l : Launch} {D : va_G} {cy : Nat → ClassId} {base : Nat} {Λ : LY} {σ : HS} {M : MM} {a : Int32} {kc : Nat} {rm : Room} (h : LI Λ σ M) (hk : kc ≤ 2) (hk0 : kc ≠ 0) (hr : rm.frames ≤ 60 ∧ rm.locals ≤ 900 ∧ rm.cells = 0 ∧ rm.slots = 0) (hw : vx_Met l yL_routine wsL_routine ({ frames := 100, cells := 1, slots := 6, locals := 2000 }) (va_Pc [.ref (gA Λ 0 0), .int a, .ref (gA Λ 49 0)] (Wd D cy base Λ σ)) (va_Qi (fun v u => v = nI kc ∧ u = σ) (Wd D cy base Λ) (Ab base)) NoX 1 6 (Ab base)) (hm : Met l yX11_routine wsX11_routine rm (va_Pc [.ref (gA Λ 31 0), .int a] (Wd D cy base Λ σ)) (va_Qi (fun v u => MR Λ u (mS M 31 0 kc) ∧ Same nMo σ u) (Wd D cy base Λ) (Ab base)) 0 0 (Ab base)) : KR l D cy base Λ σ M a := by
  refine ⟨kc, 0, 1, 6, fun x => x = (Λ, σ), rm, hk, hr, Or.inl ⟨rfl, by decide, by decide⟩, vxMi (vxX hw) (fun v x q => ⟨q.2.1, Prod.ext q.1 q.2.2⟩), fun x e => ?_⟩
  subst e
  refine ⟨Gw.rf, by rw [h.c31]; decide, hm.mi (fun v u q => ⟨?_, fun z => absurd z hk0⟩)⟩
  exact LT.err h q.1 q.2
theorem KR.ok {l : Launch} {D : va_G} {cy : Nat → ClassId} {base : Nat} {Λ : LY} {σ : HS} {M M1 : MM} {a : Int32} {g mc ms : Nat} {v0 : Int32} {rm : Room} (h : LI Λ σ M) (hr : rm.frames ≤ 60 ∧ rm.locals ≤ 900 ∧ rm.cells = 0 ∧ rm.slots = 0) (hg : (g = 0 ∧ mc ≤ 2 ∧ ms ≤ 42) ∨ (g = 1 ∧ mc = 54 ∧ ms = 11748)) (hw : vx_Met l yL_routine wsL_routine ({ frames := 100, cells := mc, slots := ms, locals := 2000 }) (va_Pc [.ref (gA Λ 0 0), .int a, .ref (gA Λ 49 0)] (Wg D cy base Λ σ)) (va_Qi (fun v x => v = nI 0 ∧ ∃ rv u, (fun v x => v = v0 ∧ INV x.1 x.2 M1 ∧ OUT Λ σ x) rv (x.1, u) ∧ x.2 = sJ u 49 0 0 (rv.toInt64)) (Wx D cy base) (Ab base)) NoX mc ms (Ab base)) (hW : WF M1) (e5 : M1 31 5 = M 31 5 + g) (hm : ∀ (Λ1 : LY) (u1 : HS), MR0 Λ1 u1 M → Met l yX11_routine wsX11_routine rm (va_Pc [.ref (gA Λ1 31 0), .int a] (Wd D cy base Λ1 u1)) (va_Qi (fun v w => MR Λ1 w M1 ∧ Same nMo u1 w ∧ v = v0) (Wd D cy base Λ1) (Ab base)) 0 0 (Ab base)) : KR l D cy base Λ σ M a := by
  refine ⟨0, g, mc, ms, fun x => ∃ rv u, (fun v x => v = v0 ∧ INV x.1 x.2 M1 ∧ OUT Λ σ x) rv (x.1, u) ∧ x.2 = sJ u 49 0 0 (rv.toInt64), rm, by decide, hr, hg, hw, fun x e => ?_⟩
  obtain ⟨Λ1, u1⟩ := x
  obtain ⟨rv, u, ⟨p1, p2, p3, p4, p5⟩, p6⟩ := e
  dsimp only at p1 p2 p3 p4 p5 p6
  subst p6
  refine ⟨p3, by rw [p4 31 (by decide), h.c31]; decide, (hm _ _ (h.2.1.gw p3 p4 (out_s (Same.mono p5 (fun t ht => ht.1)) (fun z => z.2 rfl)))).mi (fun v w q => ?_)⟩
  have z := LT.fin (M := M1) p2 q.1 q.2.1 hW (h.2.2.2.gw p3 p4) rfl
  obtain ⟨⟨M', z1, z2, z3⟩, z4⟩ := z
  exact ⟨⟨M', z1, z2, z3.trans e5⟩, fun _ => by rw [z4, q.2.2, p1]⟩
theorem k_routine (l : Launch) (hlt : l.stackTraces = false) (D : va_G) (cy : Nat → ClassId) (base : Nat) (Λ : LY) (σ : HS) (M : MM) (h : LI Λ σ M) (a : Int32) : KR l D cy base Λ σ M a := by
  have hC := h.1.1
  have hB : MBd M := h.2.2.1.1.1
  have h00 : M 31 0 = 0 := h.2.2.1.1.2.1
  have hWF := h.2.2.1
  have h40 : M 31 5 ≤ 40 := hB 31 5 rfl
  have h0 : 0 < gC Λ 0 := hC.n1 (by decide)
  have h49 : 0 < gC Λ 49 := by rw [h.2.2.2.1]; decide
  have hl49 : gN Λ 49 0 = 1 := h.2.2.2.2
  by_cases hA : a.toInt < 0 ∨ (M 31 2 : Int) < a.toInt
  · exact KR.err (kc := 1) h (by decide) (by decide) ⟨by decide, by decide, rfl, rfl⟩ (w_routine_x1 l D cy base Λ σ _ h0 _ (by decide) (by decide) rfl rfl (c_rout_e1 l hlt D cy base Λ σ M hC hB a hA)) (c_mrout_e1 l D cy base Λ σ M h.2.1 h00 hB a hA)
  · obtain ⟨n, _, rfl, en⟩ := i32_of (x := a) (by omega)
    have hn : n ≤ M 31 2 := by omega
    by_cases h5 : M 31 5 = 40
    · exact KR.err (kc := 2) h (by decide) (by decide) ⟨by decide, by decide, rfl, rfl⟩ (w_routine_x2 l D cy base Λ σ _ h0 _ (by decide) (by decide) rfl rfl (c_rout_e2 l hlt D cy base Λ σ M hC hB n hn h5)) (c_mrout_e2 l D cy base Λ σ M h.2.1 h00 hB n hn h5)
    · have h4 : M 31 5 < 40 := by omega
      by_cases hN : nameB (mS M 31 2 0) n = true
      · by_cases hD : ∃ r, r < M 31 5 ∧ hasN (mS M 31 2 0) r n = true
        · exact KR.ok (g := 0) h ⟨by decide, by decide, rfl, rfl⟩ (Or.inl ⟨rfl, by decide, by decide⟩) (vxPre (w_routine_n l D cy base Λ σ _ _ (fun v x q => q.2.2.1) h0 h49 hl49 _ 2 42 (by decide) (by decide) rfl rfl (c_rout_m2 l D cy base Λ σ M h.1 hB n hn h4 hN hD))) hWF.clr rfl (fun Λ1 u1 g0 => c_mrout_m2 l D cy base Λ1 u1 M g0 h00 hB n hn h4 hN hD)
        · have hD2 : ∀ r, r < M 31 5 → hasN (mS M 31 2 0) r n = false := fun r hr => Bool.eq_false_iff.mpr (fun z => hD ⟨r, hr, z⟩)
          have w0 : WF0 (newM (mS (mS M 31 2 0) 60 (mS M 31 2 0 31 5) (gC Λ 1)) n) := WF0.new (M := mS M 31 2 0) hWF.clr hN h4
          have e5 : settle (newM (mS (mS M 31 2 0) 60 (mS M 31 2 0 31 5) (gC Λ 1)) n) 31 5 = M 31 5 + 1 := by
            rw [settle_nk (by decide) (by decide), nr_5]
            rfl
          exact KR.ok (g := 1) h ⟨by decide, by decide, rfl, rfl⟩ (Or.inr ⟨rfl, rfl, rfl⟩) (w_routine_g l D cy base Λ σ _ _ (fun v x q => q.2.2.1) h0 h49 hl49 _ 54 11748 (by decide) (by decide) rfl rfl (c_rout_ok l D cy base Λ σ M h.1 hB n hn h4 hN hD2 hWF.clr.1.2.2.2.1 hWF.clr.1.2.2.2.2.2.1 w0.1 hWF.1.2.2.2.2.2.2.2.1)) w0.stl e5 (fun Λ1 u1 g0 => (c_mrout_ok l D cy base Λ1 u1 M g0 h00 hB n hn h4 hN hD2).mi (fun v w q => ⟨q.1.ext (fun t k hk => by
            have t6 : t ≠ 60 := fun e => by subst e; exact absurd (of_decide_eq_true (show decide (k < mlen 60) = true from hk)) (Nat.not_lt_zero k)
            rw [new60, settle60 t6]), q.2⟩))
      · have hN2 := Bool.eq_false_iff.mpr hN
        exact KR.ok (g := 0) h ⟨by decide, by decide, rfl, rfl⟩ (Or.inl ⟨rfl, by decide, by decide⟩) (vxPre (w_routine_n l D cy base Λ σ _ _ (fun v x q => q.2.2.1) h0 h49 hl49 _ 2 42 (by decide) (by decide) rfl rfl (c_rout_m1 l D cy base Λ σ M h.1 hB n hn h4 hN2))) hWF.clr rfl (fun Λ1 u1 g0 => c_mrout_m1 l D cy base Λ1 u1 M g0 h00 hB n hn h4 hN2)
