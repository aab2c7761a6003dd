/-! ===== CALL BY CALL: the component, then the reference ===== -/
theorem kG_Te (t : Nat) (h : kG t) : nTe t := by
  have h2 : t = 1 ∨ t = 2 ∨ (14 ≤ t ∧ t ≤ 17) := h
  show t ≠ 3 ∧ t ≠ 5 ∧ t ≠ 6 ∧ t ≠ 8 ∧ t ≠ 10 ∧ t ≠ 11
  omega
theorem s31_Te (t : Nat) (h : s31 t) : nTe t := by
  have h2 : 31 ≤ t ∧ t ≠ 49 := h
  show t ≠ 3 ∧ t ≠ 5 ∧ t ≠ 6 ∧ t ≠ 8 ∧ t ≠ 10 ∧ t ≠ 11
  omega
theorem kG_Me (t : Nat) (h : kG t) : nMe t := by
  have h2 : t = 1 ∨ t = 2 ∨ (14 ≤ t ∧ t ≤ 17) := h
  show t ≠ 8 ∧ t ≠ 13 ∧ t ≠ 18 ∧ t ≠ 19
  omega
theorem s31_Me (t : Nat) (h : s31 t) : nMe t := by
  have h2 : 31 ≤ t ∧ t ≠ 49 := h
  show t ≠ 8 ∧ t ≠ 13 ∧ t ≠ 18 ∧ t ≠ 19
  omega
theorem kG_Se (t : Nat) (h : kG t) : nSe t := by
  have h2 : t = 1 ∨ t = 2 ∨ (14 ≤ t ∧ t ≤ 17) := h
  show t ≠ 8 ∧ t ≠ 20 ∧ t ≠ 21 ∧ t ≠ 22
  omega
theorem s31_Se (t : Nat) (h : s31 t) : nSe t := by
  have h2 : 31 ≤ t ∧ t ≠ 49 := h
  show t ≠ 8 ∧ t ≠ 20 ∧ t ≠ 21 ∧ t ≠ 22
  omega
theorem kG_Ke (t : Nat) (h : kG t) : nKe t := by
  have h2 : t = 1 ∨ t = 2 ∨ (14 ≤ t ∧ t ≤ 17) := h
  show t ≠ 27 ∧ t ≠ 28
  omega
theorem s31_Ke (t : Nat) (h : s31 t) : nKe t := by
  have h2 : 31 ≤ t ∧ t ≠ 49 := h
  show t ≠ 27 ∧ t ≠ 28
  omega
theorem kG_Pa (t : Nat) (h : kG t) : nPa t := by
  have h2 : t = 1 ∨ t = 2 ∨ (14 ≤ t ∧ t ≤ 17) := h
  show t ≠ 25 ∧ t ≠ 26
  omega
theorem s31_Pa (t : Nat) (h : s31 t) : nPa t := by
  have h2 : 31 ≤ t ∧ t ≠ 49 := h
  show t ≠ 25 ∧ t ≠ 26
  omega
theorem G7.sm {σ u : HS} (h : G7 σ u) {P : Nat → Prop} (hp : ¬ P 7) : Same P σ u := fun t ht => ⟨by rw [h.1], h.2.2 t (fun e => hp (e ▸ ht)), by rw [h.2.1]⟩
theorem GX.sm {σ u : HS} {i : Nat} (h : GX σ u i) : Same s31 σ u := fun t ht => ⟨funext fun j => h.2.2 t j (Or.inl ⟨fun e => absurd (e ▸ ht.1) (by decide), fun e => absurd (e ▸ ht.1) (by decide)⟩), by rw [h.1], by rw [h.2.1]⟩
theorem GK.sm {σ u : HS} (h : GK σ u) {P : Nat → Prop} (hp : ¬ P 30) : Same P σ u := fun t ht => ⟨h.1 t (fun e => hp (e ▸ ht)), by rw [h.2.1], by rw [h.2.2]⟩
theorem GT.sm {σ u : HS} (h : GT σ u) {P : Nat → Prop} (hp : ¬ P 24) (hp7 : ¬ P 7) : Same P σ u := fun t ht => ⟨h.1 t (fun e => hp (e ▸ ht)), h.2.1 t (fun e => hp7 (e ▸ ht)), by rw [h.2.2]⟩
theorem GM.sm {σ u : HS} (h : GM σ u) {P : Nat → Prop} (h13 : ¬ P 13) (h18 : ¬ P 18) (h19 : ¬ P 19) : Same P σ u := fun t ht => ⟨h.1 t (fun e => h18 (e ▸ ht)) (fun e => h19 (e ▸ ht)), h.2.1 t (fun e => h13 (e ▸ ht)) (fun e => h18 (e ▸ ht)), h.2.2.1 t (fun e => h18 (e ▸ ht))⟩
theorem i32_of {x : Int32} (h : 0 ≤ x.toInt) : ∃ j : Nat, j < 2 ^ 31 ∧ x = nI j ∧ x.toInt = (j : Int) := by
  obtain ⟨j, h1, h2⟩ := nI_of (x := x) (fun z => by rw [Int32.lt_iff_toInt_lt] at z; have : x.toInt < 0 := z; omega)
  exact ⟨j, h1, h2, by rw [h2]; exact nI_toInt h1⟩
theorem fix_of {r : Int32} (h : ¬ (r < -1 ∨ nI 6 ≤ r)) : ∃ x : Nat, x ≤ 6 ∧ r = nI x - 1 := by
  have h1 : ¬ r < -1 := fun z => h (Or.inl z)
  have h2 : ¬ nI 6 ≤ r := fun z => h (Or.inr z)
  rw [Int32.lt_iff_toInt_lt] at h1
  rw [Int32.le_iff_toInt_le] at h2
  have e1 : (-1 : Int32).toInt = -1 := rfl
  have e2 : (nI 6).toInt = 6 := rfl
  rw [e1] at h1
  rw [e2] at h2
  refine ⟨(r.toInt + 1).toNat, by omega, Int32.toInt_inj.mp ?_⟩
  rw [m1_toInt (by omega)]
  omega
theorem rg_one {M : MM} {room X Y n : Nat} (h1 : rgTo M room X n) (h2 : rgTo M room Y n) : X = Y :=
  Nat.eq_of_testBit_eq fun i => Bool.eq_iff_iff.mpr ((h1.2 i).trans (h2.2 i).symm)
theorem ct_lt {f : Nat → Bool} {r : Nat} (h : f r = true) : ∀ {n : Nat}, r < n → fb_ct f r < fb_ct f n
  | 0, hr => absurd hr (Nat.not_lt_zero r)
  | n + 1, hr => by
    by_cases e : r = n
    · subst e
      rw [fb_ct_succ, if_pos h]
      omega
    · have := ct_lt h (n := n) (by omega)
      rw [fb_ct_succ]
      split <;> omega
theorem fc_neg {M : MM} {room : Nat} {k : Int} {v : Int32} (hk : k < 0) (h : fcV M room k v) : v = -1 := by
  rcases h with ⟨r, _, _, a, _⟩ | ⟨a, _⟩
  · omega
  · exact a
theorem fc_one {M : MM} {room : Nat} {k : Int} {v1 v2 : Int32} (h1 : fcV M room k v1) (h2 : fcV M room k v2) : v1 = v2 := by
  rcases h1 with ⟨r, a1, a2, a3, a4⟩ | ⟨a1, a2⟩
  · rcases h2 with ⟨r', b1, b2, b3, b4⟩ | ⟨b1, b2⟩
    · have e : r = r' := by
        rcases Nat.lt_trichotomy r r' with z | z | z
        · have := ct_lt a2 z; omega
        · exact z
        · have := ct_lt b2 z; omega
      rw [a4, b4, e]
    · have := ct_lt a2 a1
      omega
  · rcases h2 with ⟨r', b1, b2, b3, b4⟩ | ⟨b1, b2⟩
    · have := ct_lt b2 b1
      omega
    · rw [a1, b1]
theorem INV.stl {Λ : LY} {σ u : HS} {M M1 : MM} (h : INV Λ σ M) (hC : CR noEx Λ u (settle M1)) (hs : Same nTe σ u) (e5 : M1 31 5 = M 31 5) (e33 : M1 33 = M 33) (e34 : M1 34 = M 34) (e60 : M1 60 = M 60) : INV Λ u (settle M1) :=
  h.same hC (Same.mono hs kG_Te) ((congrFun (settle_nk (by decide) (by decide)) 5).trans e5) ((settle_nk (by decide) (by decide)).trans e33) ((settle_nk (by decide) (by decide)).trans e34) ((settle_nk (by decide) (by decide)).trans e60)

section KCP
variable {l : Launch} {D : va_G} {cy : Nat → ClassId} {base : Nat} {Λ : LY} {σ : HS} {M : MM} {yL yM yX : MethodName} {wsL wsM wsX : List Cond} {as : List Value} {rm r1 : Room}
theorem KC.err {kc : Nat} (h : LI Λ σ M) (hk : kc ≤ 2) (hk0 : kc ≠ 0) (hr : rm.frames ≤ 60 ∧ rm.locals ≤ 900 ∧ rm.cells = 0 ∧ rm.slots = 0) (hw : vx_Met l yL wsL ({ frames := 100, cells := 1, slots := 6, locals := 2000 }) (va_Pc (.ref (gA Λ 0 0) :: as ++ [.ref (gA Λ 49 0)]) (Wd D cy base Λ σ)) (va_Qi (fun v u => v = nI kc ∧ u = σ) (Wd D cy base Λ) (Ab base)) NoX 1 6 (Ab base)) (hm : Met l yM wsM rm (va_Pc (.ref (gA Λ 31 0) :: as) (Wd D cy base Λ σ)) (va_Qi (fun v u => MR Λ u (mS M 31 0 kc) ∧ Same nMo σ u) (Wd D cy base Λ) (Ab base)) 0 0 (Ab base)) : KC l D cy base Λ σ M yL wsL yM wsM as := by
  refine ⟨kc, fun u => u = σ, rm, hk, hr, hw, fun u1 e => ?_⟩
  rw [e]
  exact hm.mi (fun v u q => ⟨LT.err h q.1 q.2, fun z => absurd z hk0⟩)
theorem KCl.err {kc : Nat} (h : LI Λ σ M) (hk : kc ≤ 2) (hk0 : kc ≠ 0) (hr : rm.frames ≤ 60 ∧ rm.locals ≤ 900 ∧ rm.cells = 0 ∧ rm.slots = 0) (hw : vx_Met l yL wsL ({ frames := 100, cells := 1, slots := 6, locals := 2000 }) (va_Pc (.ref (gA Λ 0 0) :: as ++ [.ref (gA Λ 49 0)]) (Wd D cy base Λ σ)) (va_Qi (fun v u => v = nI kc ∧ u = σ) (Wd D cy base Λ) (Ab base)) NoX 1 6 (Ab base)) (hm : Met l yM wsM rm (va_Pc (.ref (gA Λ 31 0) :: as) (Wd D cy base Λ σ)) (va_Ql (fun v u => MR Λ u (mS M 31 0 kc) ∧ Same nMo σ u) (Wd D cy base Λ) (Ab base)) 0 0 (Ab base)) : KCl l D cy base Λ σ M yL wsL yM wsM as := by
  refine ⟨kc, fun u => u = σ, rm, hk, hr, hw, fun u1 e => ?_⟩
  rw [e]
  exact hm.ml (fun v u q => ⟨LT.err h q.1 q.2, fun z => absurd z hk0⟩)
theorem KCz.err {kc : Nat} (h : LI Λ σ M) (hk : kc ≤ 2) (hk0 : kc ≠ 0) (hr : rm.frames ≤ 60 ∧ rm.locals ≤ 900 ∧ rm.cells = 0 ∧ rm.slots = 0) (hw : vx_Met l yL wsL ({ frames := 100, cells := 1, slots := 6, locals := 2000 }) (va_Pc (.ref (gA Λ 0 0) :: as ++ [.ref (gA Λ 49 0)]) (Wd D cy base Λ σ)) (va_Qi (fun v u => v = nI kc ∧ u = σ) (Wd D cy base Λ) (Ab base)) NoX 1 6 (Ab base)) (hm : Met l yM wsM rm (va_Pc (.ref (gA Λ 31 0) :: as) (Wd D cy base Λ σ)) (va_Qi (fun v u => MR Λ u (mS M 31 0 kc) ∧ Same nMo σ u) (Wd D cy base Λ) (Ab base)) 0 0 (Ab base)) : KCz l D cy base Λ σ M yL wsL yM wsM as := by
  refine ⟨kc, fun u => u = σ, rm, hk, hr, hw, fun u1 e => ?_⟩
  rw [e]
  exact hm.mi (fun v u q => ⟨LT.err h q.1 q.2, fun z => absurd z hk0⟩)
theorem KC.ok {post : Int32 → HS → Prop} (h : LI Λ σ M) (hr : rm.frames ≤ 60 ∧ rm.locals ≤ 900 ∧ rm.cells = 0 ∧ rm.slots = 0) (hw : vx_Met l yL wsL ({ frames := 100, cells := 1, slots := 6, locals := 2000 }) (va_Pc (.ref (gA Λ 0 0) :: as ++ [.ref (gA Λ 49 0)]) (Wd D cy base Λ σ)) (va_Qi (fun v u9 => v = nI 0 ∧ ∃ rv u, post rv u ∧ u9 = sJ u 49 0 0 (rv.toInt64)) (Wd D cy base Λ) (Ab base)) NoX 1 6 (Ab base)) (h31 : ∀ rv u, post rv u → Same s31 σ u) (hm : ∀ rv u, post rv u → ∀ u1, MR0 Λ u1 M → Met l yM wsM rm (va_Pc (.ref (gA Λ 31 0) :: as) (Wd D cy base Λ u1)) (va_Qi (fun v w => ∃ M2, MR Λ w M2 ∧ Same nMo u1 w ∧ INV Λ u M2 ∧ WF M2 ∧ M2 31 5 = M 31 5 ∧ v = rv) (Wd D cy base Λ) (Ab base)) 0 0 (Ab base)) : KC l D cy base Λ σ M yL wsL yM wsM as := by
  refine ⟨0, fun u1 => ∃ rv u, post rv u ∧ u1 = sJ u 49 0 0 (rv.toInt64), rm, by decide, hr, hw, fun u1 e => ?_⟩
  obtain ⟨rv, u, hp, rfl⟩ := e
  refine (hm rv u hp _ (h.2.1.same (out_s (h31 rv u hp) (fun z => z.2 rfl)))).mi (fun v w q => ?_)
  obtain ⟨M2, q1, q2, q3, q4, q5, q6⟩ := q
  have z := LT.fin q3 q1 q2 q4 h.2.2.2 q5
  exact ⟨z.1, fun _ => by rw [z.2, q6]⟩
theorem KCl.ok {post : Int64 → HS → Prop} (h : LI Λ σ M) (hr : rm.frames ≤ 60 ∧ rm.locals ≤ 900 ∧ rm.cells = 0 ∧ rm.slots = 0) (hw : vx_Met l yL wsL ({ frames := 100, cells := 1, slots := 6, locals := 2000 }) (va_Pc (.ref (gA Λ 0 0) :: as ++ [.ref (gA Λ 49 0)]) (Wd D cy base Λ σ)) (va_Qi (fun v u9 => v = nI 0 ∧ ∃ rv u, post rv u ∧ u9 = sJ u 49 0 0 (rv)) (Wd D cy base Λ) (Ab base)) NoX 1 6 (Ab base)) (h31 : ∀ rv u, post rv u → Same s31 σ u) (hm : ∀ rv u, post rv u → ∀ u1, MR0 Λ u1 M → Met l yM wsM rm (va_Pc (.ref (gA Λ 31 0) :: as) (Wd D cy base Λ u1)) (va_Ql (fun v w => ∃ M2, MR Λ w M2 ∧ Same nMo u1 w ∧ INV Λ u M2 ∧ WF M2 ∧ M2 31 5 = M 31 5 ∧ v = rv) (Wd D cy base Λ) (Ab base)) 0 0 (Ab base)) : KCl l D cy base Λ σ M yL wsL yM wsM as := by
  refine ⟨0, fun u1 => ∃ rv u, post rv u ∧ u1 = sJ u 49 0 0 (rv), rm, by decide, hr, hw, fun u1 e => ?_⟩
  obtain ⟨rv, u, hp, rfl⟩ := e
  refine (hm rv u hp _ (h.2.1.same (out_s (h31 rv u hp) (fun z => z.2 rfl)))).ml (fun v w q => ?_)
  obtain ⟨M2, q1, q2, q3, q4, q5, q6⟩ := q
  have z := LT.fin q3 q1 q2 q4 h.2.2.2 q5
  exact ⟨z.1, fun _ => by rw [z.2, q6]⟩
theorem KD.ok {post : Int32 → HS → Prop} (h : LI Λ σ M) (hx : r1.frames ≤ 98 ∧ r1.locals ≤ 1900 ∧ r1.cells = 0 ∧ r1.slots = 0) (hr : rm.frames ≤ 60 ∧ rm.locals ≤ 900 ∧ rm.cells = 0 ∧ rm.slots = 0) (hw : Met l yX wsX r1 (va_Pc (.ref (gA Λ 0 0) :: as) (Wd D cy base Λ σ)) (va_Qi post (Wd D cy base Λ) (Ab base)) 0 0 (Ab base)) (h31 : ∀ rv u, post rv u → Same s31 σ u) (hm : ∀ rv u, post rv u → ∀ u1, MR0 Λ u1 M → Met l yM wsM rm (va_Pc (.ref (gA Λ 31 0) :: as) (Wd D cy base Λ u1)) (va_Qi (fun v w => ∃ M2, MR Λ w M2 ∧ Same nMo u1 w ∧ INV Λ u M2 ∧ WF M2 ∧ M2 31 5 = M 31 5 ∧ v = rv) (Wd D cy base Λ) (Ab base)) 0 0 (Ab base)) : KD l D cy base Λ σ M yX wsX yM wsM as := by
  refine ⟨post, r1, rm, hx, hr, hw, fun rv u hp => ?_⟩
  refine (hm rv u hp _ (h.2.1.same (h31 rv u hp))).mi (fun v w q => ?_)
  obtain ⟨M2, q1, q2, q3, q4, q5, q6⟩ := q
  exact ⟨q6, M2, LI.fin q3 q1 q2 q4 h.2.2.2, q5⟩
theorem KDl.ok {post : Int64 → HS → Prop} (h : LI Λ σ M) (hx : r1.frames ≤ 98 ∧ r1.locals ≤ 1900 ∧ r1.cells = 0 ∧ r1.slots = 0) (hr : rm.frames ≤ 60 ∧ rm.locals ≤ 900 ∧ rm.cells = 0 ∧ rm.slots = 0) (hw : Met l yX wsX r1 (va_Pc (.ref (gA Λ 0 0) :: as) (Wd D cy base Λ σ)) (va_Ql post (Wd D cy base Λ) (Ab base)) 0 0 (Ab base)) (h31 : ∀ rv u, post rv u → Same s31 σ u) (hm : ∀ rv u, post rv u → ∀ u1, MR0 Λ u1 M → Met l yM wsM rm (va_Pc (.ref (gA Λ 31 0) :: as) (Wd D cy base Λ u1)) (va_Ql (fun v w => ∃ M2, MR Λ w M2 ∧ Same nMo u1 w ∧ INV Λ u M2 ∧ WF M2 ∧ M2 31 5 = M 31 5 ∧ v = rv) (Wd D cy base Λ) (Ab base)) 0 0 (Ab base)) : KDl l D cy base Λ σ M yX wsX yM wsM as := by
  refine ⟨post, r1, rm, hx, hr, hw, fun rv u hp => ?_⟩
  refine (hm rv u hp _ (h.2.1.same (h31 rv u hp))).ml (fun v w q => ?_)
  obtain ⟨M2, q1, q2, q3, q4, q5, q6⟩ := q
  exact ⟨q6, M2, LI.fin q3 q1 q2 q4 h.2.2.2, q5⟩
end KCP
