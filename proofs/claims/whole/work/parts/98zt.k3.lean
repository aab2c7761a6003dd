/-! ===== WEAKER POSTS; THE LOOP'S INVARIANT ===== -/
theorem va_Qi_mono {S : Type} {post post' : Int32 → S → Prop} {B : S → State → Prop} {A : Nat → Prop} (h : ∀ v u, post v u → post' v u) {a : Array Value} {st : State} {o : Outcome} {t : State} (q : va_Qi post B A a st o t) : va_Qi post' B A a st o t := by
  obtain ⟨⟨r, u, e1, e2, e3⟩, f⟩ := q
  exact ⟨⟨r, u, e1, h r u e2, e3⟩, f⟩
theorem va_Ql_mono {S : Type} {post post' : Int64 → S → Prop} {B : S → State → Prop} {A : Nat → Prop} (h : ∀ v u, post v u → post' v u) {a : Array Value} {st : State} {o : Outcome} {t : State} (q : va_Ql post B A a st o t) : va_Ql post' B A a st o t := by
  obtain ⟨⟨r, u, e1, e2, e3⟩, f⟩ := q
  exact ⟨⟨r, u, e1, h r u e2, e3⟩, f⟩
theorem Met.mi {l : Launch} {y : MethodName} {ws : List Cond} {rm : Room} {Pc : Array Value → State → Prop} {S : Type} {post post' : Int32 → S → Prop} {B : S → State → Prop} {A : Nat → Prop} {mc ms : Nat} {F : Addr → Prop} (hM : Met l y ws rm Pc (va_Qi post B A) mc ms F) (h : ∀ v u, post v u → post' v u) : Met l y ws rm Pc (va_Qi post' B A) mc ms F :=
  MetFree.mono hM (fun _ _ z => z) (fun _ _ _ _ _ z => z) (fun _ _ _ _ _ q => ⟨va_Qi_mono h q.1, q.2⟩)
theorem Met.ml {l : Launch} {y : MethodName} {ws : List Cond} {rm : Room} {Pc : Array Value → State → Prop} {S : Type} {post post' : Int64 → S → Prop} {B : S → State → Prop} {A : Nat → Prop} {mc ms : Nat} {F : Addr → Prop} (hM : Met l y ws rm Pc (va_Ql post B A) mc ms F) (h : ∀ v u, post v u → post' v u) : Met l y ws rm Pc (va_Ql post' B A) mc ms F :=
  MetFree.mono hM (fun _ _ z => z) (fun _ _ _ _ _ z => z) (fun _ _ _ _ _ q => ⟨va_Ql_mono h q.1, q.2⟩)
theorem vxMi {l : Launch} {y : MethodName} {ws : List Cond} {rm : Room} {Pc : Array Value → State → Prop} {S : Type} {post post' : Int32 → S → Prop} {B : S → State → Prop} {A : Nat → Prop} {X : String → State → State → Prop} {mc ms : Nat} {F : Addr → Prop} (hM : vx_Met l y ws rm Pc (va_Qi post B A) X mc ms F) (h : ∀ v u, post v u → post' v u) : vx_Met l y ws rm Pc (va_Qi post' B A) X mc ms F :=
  MetFree.mono hM (fun _ _ z => z) (fun _ _ _ _ _ z => z) (fun _ _ _ _ _ q => q.elim (fun z => Or.inl ⟨va_Qi_mono h z.1, z.2⟩) Or.inr)
theorem CR.sm {ex : Nat → Nat → Nat → Prop} {Λ : LY} {σ u : HS} {M : MM} (h : CR ex Λ σ M) (hs : Same (fun t => t < 31) σ u) : CR ex Λ u M :=
  ⟨h.1, fun i hi => by rw [(hs 1 (by decide)).2.2]; exact h.2.1 i hi, fun t i k ho he => by have := okI_dom ho; rw [(hs t (by omega)).1]; exact h.i t i k ho he, fun t i k ho he => by have := okJ_dom ho; rw [(hs t (by omega)).2.1]; exact h.j t i k ho he, fun t i k ho he => by have := okV_dom ho; rw [(hs t (by omega)).2.2]; exact h.v t i k ho he⟩
theorem INV.sm {Λ : LY} {σ u : HS} {M : MM} (h : INV Λ σ M) (hs : Same (fun t => t < 31) σ u) : INV Λ u M :=
  h.same (h.1.sm hs) (Same.mono hs (fun t ht => by omega)) rfl rfl rfl rfl
theorem INV.to {Λ : LY} {σ : HS} {M M' : MM} (h : INV Λ σ M) (e : ∀ t k, t ≠ 41 → t ≠ 42 → t ≠ 44 → t ≠ 48 → ¬ (t = 31 ∧ k = 0) → ¬ (t = 43 ∧ M 31 18 ≤ k) → M' t k = M t k) : INV Λ σ M' := by
  have r : ∀ t, t ≠ 31 → t ≠ 41 → t ≠ 42 → t ≠ 43 → t ≠ 44 → t ≠ 48 → M' t = M t := fun t a b c d f g => funext fun k => e t k b c f g (fun z => a z.1) (fun z => d z.1)
  refine h.same (h.1.to fun t k q => e t k q.2.2.1 q.2.2.2.1 q.2.2.2.2.1 q.2.2.2.2.2.1 q.2.2.2.2.2.2.1 q.2.2.2.2.2.2.2) Same.rf (e 31 5 (by decide) (by decide) (by decide) (by decide) (fun z => absurd z.2 (by decide)) (fun z => absurd z.1 (by decide))) (r 33 (by decide) (by decide) (by decide) (by decide) (by decide) (by decide)) (r 34 (by decide) (by decide) (by decide) (by decide) (by decide) (by decide)) (r 60 (by decide) (by decide) (by decide) (by decide) (by decide) (by decide))
def OU (Λ : LY) : Prop := gC Λ 49 = 1 ∧ gN Λ 49 0 = 1
def LI (Λ : LY) (σ : HS) (M : MM) : Prop := INV Λ σ M ∧ MR0 Λ σ M ∧ WF M ∧ OU Λ
/-- after the reference's call: kc is what it has thrown -/
def LT (Λ : LY) (σ : HS) (M : MM) (kc : Nat) : Prop := ∃ M', MR Λ σ (mS M' 31 0 kc) ∧ LI Λ σ M' ∧ M' 31 5 = M 31 5
abbrev s31 : Nat → Prop := fun t => 31 ≤ t ∧ t ≠ 49
theorem MR0.same {Λ : LY} {σ u : HS} {M : MM} (h : MR0 Λ σ M) (hs : Same s31 σ u) : MR0 Λ u M := by
  obtain ⟨x, hx⟩ := h
  exact ⟨x, hx.same (Same.mono hs (fun t ht => ⟨ht.1, by omega⟩))⟩
theorem out_s {P : Nat → Prop} {σ u : HS} {x : Int64} (h : Same P σ u) (h49 : ¬ P 49) : Same P σ (sJ u 49 0 0 x) := h.sJ h49
theorem out_at {u w : HS} {x : Int64} (hs : Same nMo (sJ u 49 0 0 x) w) : gJ w 49 0 0 = x := by
  rw [(hs 49 (Or.inr (by decide))).2.1]
  exact gJ_same _ _ _ _ _
theorem LT.err {Λ : LY} {σ w : HS} {M : MM} {kc : Nat} (h : LI Λ σ M) (hM : MR Λ w (mS M 31 0 kc)) (hs : Same nMo σ w) : LT Λ w M kc :=
  ⟨M, hM, ⟨h.1.sm (Same.mono hs (fun t ht => Or.inl ht)), ⟨kc, hM⟩, h.2.2⟩, rfl⟩
theorem LT.fin {Λ : LY} {u w : HS} {M M2 : MM} {x : Int64} (hI : INV Λ u M2) (hM : MR Λ w M2) (hs : Same nMo (sJ u 49 0 0 x) w) (hW : WF M2) (hO : OU Λ) (e5 : M2 31 5 = M 31 5) : LT Λ w M 0 ∧ gJ w 49 0 0 = x := by
  have e0 : mS M2 31 0 0 = M2 := mS_self hW.1.2.1
  have h1 : MR Λ w (mS M2 31 0 0) := by rw [e0]; exact hM
  refine ⟨⟨M2, h1, ⟨?_, ⟨0, h1⟩, hW, hO⟩, e5⟩, out_at hs⟩
  have a : INV Λ (sJ u 49 0 0 x) M2 := hI.sm (Same.rf.sJ (by decide))
  exact a.sm (Same.mono hs (fun t ht => Or.inl ht))
/-- the same where nothing is thrown and out is let be -/
theorem LI.fin {Λ : LY} {u w : HS} {M2 : MM} (hI : INV Λ u M2) (hM : MR Λ w M2) (hs : Same nMo u w) (hW : WF M2) (hO : OU Λ) : LI Λ w M2 := by
  have e0 : mS M2 31 0 0 = M2 := mS_self hW.1.2.1
  have h1 : MR Λ w (mS M2 31 0 0) := by rw [e0]; exact hM
  exact ⟨hI.sm (Same.mono hs (fun t ht => Or.inl ht)), ⟨0, h1⟩, hW, hO⟩
section KCS
variable (l : Launch) (D : va_G) (cy : Nat → ClassId) (base : Nat) (Λ : LY) (σ : HS) (M : MM)
def KC (yL : MethodName) (wsL : List Cond) (yM : MethodName) (wsM : List Cond) (as : List Value) : Prop :=
  ∃ (kc : Nat) (P : HS → Prop) (rm : Room), kc ≤ 2 ∧ (rm.frames ≤ 60 ∧ rm.locals ≤ 900 ∧ rm.cells = 0 ∧ rm.slots = 0) ∧
    vx_Met l yL wsL ({ frames := 100, cells := 1, slots := 6, locals := 2000 }) (va_Pc (.ref (gA Λ 0 0) :: as ++ [.ref (gA Λ 49 0)]) (Wd D cy base Λ σ)) (va_Qi (fun v u => v = nI kc ∧ P u) (Wd D cy base Λ) (Ab base)) NoX 1 6 (Ab base) ∧
    ∀ u1, P u1 → Met l yM wsM rm (va_Pc (.ref (gA Λ 31 0) :: as) (Wd D cy base Λ u1)) (va_Qi (fun v u => LT Λ u M kc ∧ (kc = 0 → gJ u 49 0 0 = v.toInt64)) (Wd D cy base Λ) (Ab base)) 0 0 (Ab base)
/-- the reference answers a long -/
def KCl (yL : MethodName) (wsL : List Cond) (yM : MethodName) (wsM : List Cond) (as : List Value) : Prop :=
  ∃ (kc : Nat) (P : HS → Prop) (rm : Room), kc ≤ 2 ∧ (rm.frames ≤ 60 ∧ rm.locals ≤ 900 ∧ rm.cells = 0 ∧ rm.slots = 0) ∧
    vx_Met l yL wsL ({ frames := 100, cells := 1, slots := 6, locals := 2000 }) (va_Pc (.ref (gA Λ 0 0) :: as ++ [.ref (gA Λ 49 0)]) (Wd D cy base Λ σ)) (va_Qi (fun v u => v = nI kc ∧ P u) (Wd D cy base Λ) (Ab base)) NoX 1 6 (Ab base) ∧
    ∀ u1, P u1 → Met l yM wsM rm (va_Pc (.ref (gA Λ 31 0) :: as) (Wd D cy base Λ u1)) (va_Ql (fun v u => LT Λ u M kc ∧ (kc = 0 → gJ u 49 0 0 = v)) (Wd D cy base Λ) (Ab base)) 0 0 (Ab base)
/-- the reference answers true or false (1 or 0) -/
def KCz (yL : MethodName) (wsL : List Cond) (yM : MethodName) (wsM : List Cond) (as : List Value) : Prop :=
  ∃ (kc : Nat) (P : HS → Prop) (rm : Room), kc ≤ 2 ∧ (rm.frames ≤ 60 ∧ rm.locals ≤ 900 ∧ rm.cells = 0 ∧ rm.slots = 0) ∧
    vx_Met l yL wsL ({ frames := 100, cells := 1, slots := 6, locals := 2000 }) (va_Pc (.ref (gA Λ 0 0) :: as ++ [.ref (gA Λ 49 0)]) (Wd D cy base Λ σ)) (va_Qi (fun v u => v = nI kc ∧ P u) (Wd D cy base Λ) (Ab base)) NoX 1 6 (Ab base) ∧
    ∀ u1, P u1 → Met l yM wsM rm (va_Pc (.ref (gA Λ 31 0) :: as) (Wd D cy base Λ u1)) (va_Qi (fun v u => LT Λ u M kc ∧ (kc = 0 → ∃ b : Nat, b ≤ 1 ∧ v = nI b ∧ gJ u 49 0 0 = zL b)) (Wd D cy base Λ) (Ab base)) 0 0 (Ab base)
/-- a call on which nothing is thrown -/
def KD (yX : MethodName) (wsX : List Cond) (yM : MethodName) (wsM : List Cond) (as : List Value) : Prop :=
  ∃ (P : Int32 → HS → Prop) (r1 rm : Room), (r1.frames ≤ 98 ∧ r1.locals ≤ 1900 ∧ r1.cells = 0 ∧ r1.slots = 0) ∧ (rm.frames ≤ 60 ∧ rm.locals ≤ 900 ∧ rm.cells = 0 ∧ rm.slots = 0) ∧
    Met l yX wsX r1 (va_Pc (.ref (gA Λ 0 0) :: as) (Wd D cy base Λ σ)) (va_Qi P (Wd D cy base Λ) (Ab base)) 0 0 (Ab base) ∧
    ∀ v1 u1, P v1 u1 → Met l yM wsM rm (va_Pc (.ref (gA Λ 31 0) :: as) (Wd D cy base Λ u1)) (va_Qi (fun v u => v = v1 ∧ ∃ M', LI Λ u M' ∧ M' 31 5 = M 31 5) (Wd D cy base Λ) (Ab base)) 0 0 (Ab base)
def KDl (yX : MethodName) (wsX : List Cond) (yM : MethodName) (wsM : List Cond) (as : List Value) : Prop :=
  ∃ (P : Int64 → HS → Prop) (r1 rm : Room), (r1.frames ≤ 98 ∧ r1.locals ≤ 1900 ∧ r1.cells = 0 ∧ r1.slots = 0) ∧ (rm.frames ≤ 60 ∧ rm.locals ≤ 900 ∧ rm.cells = 0 ∧ rm.slots = 0) ∧
    Met l yX wsX r1 (va_Pc (.ref (gA Λ 0 0) :: as) (Wd D cy base Λ σ)) (va_Ql P (Wd D cy base Λ) (Ab base)) 0 0 (Ab base) ∧
    ∀ v1 u1, P v1 u1 → Met l yM wsM rm (va_Pc (.ref (gA Λ 31 0) :: as) (Wd D cy base Λ u1)) (va_Ql (fun v u => v = v1 ∧ ∃ M', LI Λ u M' ∧ M' 31 5 = M 31 5) (Wd D cy base Λ) (Ab base)) 0 0 (Ab base)
end KCS
