/-- what a found step is -/
def bsG (M : MM) (z : BS) : Prop := z.2.1 ≠ 0 → M 37 (z.2.1 - 1) = 0 ∧ (z.2.2.1 = 0 → z.2.2.2 - 1 ≠ M 38 (z.2.1 - 1)) ∧ (z.2.2.1 ≠ 0 → M 37 (z.2.2.1 - 1) = 0 ∧ M 38 (z.2.1 - 1) ≠ M 38 (z.2.2.1 - 1))
theorem mvRow_g {M : MM} {r : Nat} {z : BS} (hr : M 37 r = 0) (hz : z.2.2.1 = 0) (h : bsG M z) : ∀ k, bsG M (mvRow M r z k)
  | 0 => h
  | k + 1 => by
    show bsG M (mvStep M r (mvRow M r z k) k)
    unfold mvStep
    split
    · rename_i hc
      intro _
      refine ⟨hr, fun _ => hc.1, fun q => absurd ?_ q⟩
      exact (mvRow_zero (M := M) (r := r) (s := z) (k := k)).trans hz
    · exact mvRow_g hr hz h k
theorem mvH_zero {M : MM} : ∀ i, (mvH M i).2.2.1 = 0
  | 0 => rfl
  | i + 1 => (mvRow_zero (M := M) (r := hs M i) (s := mvH M i) (k := M 31 10)).trans (mvH_zero i)
theorem mvH_g {M : MM} : ∀ i, i ≤ hcN M → bsG M (mvH M i)
  | 0, _ => fun q => absurd rfl q
  | i + 1, h => mvRow_g (hs_nh (by omega)) (mvH_zero i) (mvH_g i (by omega)) _
theorem swRH_g {M : MM} {i : Nat} {z : BS} (hi : i < hcN M) (h : bsG M z) : ∀ j, j ≤ hcN M → bsG M (swRH M i z j)
  | 0, _ => h
  | j + 1, hj => by
    show bsG M (swStep M (hs M i) (swRH M i z j) (hs M j))
    unfold swStep
    split
    · rename_i hc
      intro _
      exact ⟨hs_nh hi, fun q => absurd q (Nat.succ_ne_zero _), fun _ => ⟨hc.2.1, hc.2.2.1⟩⟩
    · exact swRH_g hi h j (by omega)
theorem swH_g {M : MM} : ∀ i, i ≤ hcN M → bsG M (swH M i)
  | 0, _ => mvH_g _ (Nat.le_refl _)
  | i + 1, h => swRH_g (by omega) (swH_g i (by omega)) _ (Nat.le_refl _)
theorem bst_g {M : MM} : bsG M (bstS M) := by rw [bst_hs]; exact swH_g _ (Nat.le_refl _)
theorem bst_ok {M : MM} (hB : MBd M) (hn : M 31 5 ≤ 40) : bsOk (M 31 5) (M 31 10) (bstS M) := by rw [bst_hs]; exact swH_ok hB hn _ (Nat.le_refl _)
theorem PS.carry {σ1 σ : HS} {M : MM} {r to : Nat} (hS : PS σ M) (hx : gI σ1 = gI σ) (hr : r < M 31 5) (h37 : M 37 r = 0) (hto : to ≠ M 38 r) : PS (sI (sI (sI σ1 19 0 (M 38 r) (nI (szN (mS M 38 r to) (M 38 r)))) 19 0 to (nI (szN (mS M 38 r to) to))) 8 r 11 (nI to)) (mS M 38 r to) := by
  intro k hk
  rw [gI_sI, if_neg (by omega), gI_sI]
  by_cases e : k = to
  · rw [if_pos ⟨rfl, rfl, e⟩, e]
  · rw [if_neg (fun z => e z.2.2), gI_sI]
    by_cases e2 : k = M 38 r
    · rw [if_pos ⟨rfl, rfl, e2⟩, e2]
    · rw [if_neg (fun z => e2 z.2.2), hx, hS k hk]
      have := szN_38 (M := M) (r := r) (to := to) (k := k) hr h37
      rw [if_neg e, if_neg e2] at this
      exact congrArg nI this.symm
theorem nI_dec (x : Nat) : nI (x + 1) - nI 1 = nI x := by
  rw [zI_nI, zI_nI, zI_nI, zI_sub]
  congr 1
  omega
def PC (σ : HS) (M : MM) (r to k : Nat) : Prop := ∀ i, i < hcN M → ∀ q, q < 6 → gJ σ 13 (hs M i) q = zL (if i < k then pulK (mS M 38 r to) (hs M i) q else pulK M (hs M i) q)
theorem PC.skip {σ : HS} {M : MM} {r to k : Nat} (h : PC σ M r to k) (hk : k < hcN M) (e : hs M k = r) : PC σ M r to (k + 1) := by
  intro i hi q hq
  rw [h i hi q hq]
  by_cases e1 : i < k
  · rw [if_pos e1, if_pos (by omega)]
  · rw [if_neg e1]
    by_cases e2 : i = k
    · rw [if_pos (by omega), e2, e, pulK_self]
    · rw [if_neg (by omega)]
theorem PC.step {σ : HS} {M : MM} {r to k : Nat} (h : PC σ M r to k) (hk : k < hcN M) (e : hs M k ≠ r) (hr : r < M 31 5) (h37 : M 37 r = 0) (hto : to ≠ M 38 r) : PC (sJ (sJ σ 13 (hs M k) (M 38 r) (zL (pulK M (hs M k) (M 38 r) - pulZ M (hs M k) r))) 13 (hs M k) to (zL (pulK M (hs M k) to + pulZ M (hs M k) r))) M r to (k + 1) := by
  intro i hi q hq
  rw [gJ_sJ]
  by_cases e2 : i = k
  · subst e2
    rw [if_pos (Nat.lt_succ_self _)]
    have hp := pulK_38 (M := M) (r := r) (to := to) (o := hs M i) (k := q) hr h37 (Ne.symm e)
    by_cases eq1 : q = to
    · subst eq1
      rw [if_pos ⟨rfl, rfl, rfl⟩, hp, if_neg hto, if_pos rfl]
      congr 1
      omega
    · rw [if_neg (fun z => eq1 z.2.2), gJ_sJ]
      by_cases eq2 : q = M 38 r
      · subst eq2
        rw [if_pos ⟨rfl, rfl, rfl⟩, hp, if_pos rfl, if_neg eq1]
        congr 1
        omega
      · rw [if_neg (fun z => eq2 z.2.2), h i hi q hq, if_neg (Nat.lt_irrefl _), hp, if_neg eq2, if_neg eq1]
        congr 1
        omega
  · have ne : hs M i ≠ hs M k := fun z => e2 (hs_inj hi hk z)
    rw [if_neg (fun z => ne z.2.1), gJ_sJ, if_neg (fun z => ne z.2.1), h i hi q hq]
    by_cases e1 : i < k
    · rw [if_pos e1, if_pos (by omega)]
    · rw [if_neg e1, if_neg (by omega)]
/-- all but the mender's search stays -/
def GC (σ u : HS) : Prop := gV u = gV σ ∧ gI u 18 = gI σ 18 ∧ gJ u 18 = gJ σ 18 ∧ Same nMe σ u
theorem GC.tr {σ u v : HS} (h : GC σ u) (g : GC u v) : GC σ v := ⟨g.1.trans h.1, g.2.1.trans h.2.1, g.2.2.1.trans h.2.2.1, Same.tr h.2.2.2 g.2.2.2⟩
set_option maxHeartbeats 4000000 in
set_option maxRecDepth 100000 in
theorem c_X2_carry (l : Launch) (D : va_G) (cy : Nat → ClassId) (base : Nat) (Λ : LY) (σ : HS) (M : MM) (hC : CR noEx Λ σ M) (hB : MBd M) (r to : Nat) (hr0 : r < M 31 5) (h37 : M 37 r = 0) (ht : to < 6) (hto : to ≠ M 38 r) (hS : PS σ M) (hP : ∀ i, i < hcN M → PP σ M (hs M i)) : Met l yX2_carry wsX2_carry ({ frames := 8, cells := 0, slots := 0, locals := 120 }) (va_Pc [.ref (gA Λ 18 0), .ref (gA Λ 8 r), .int (nI to)] (Wd D cy base Λ σ)) (va_Qv (fun u => CR noEx Λ u (mS M 38 r to) ∧ PS u (mS M 38 r to) ∧ (∀ i, i < hcN M → PP u (mS M 38 r to) (hs M i)) ∧ GC σ u) (Wd D cy base Λ) (Ab base)) 0 0 (Ab base) := by
  refine j_start (cc := cX2_carry) (nL := 6) (ret := none) (lv := [(0, .ref (gA Λ 18 0)), (1, .ref (gA Λ 8 r)), (2, .int (nI to))]) (by decide) rfl (Nat.le_of_ble_eq_true rfl) rfl ?_
  intro p e s m below meth c C hr hlk hnm
  have C : Cx p s m ([.ref (gA Λ 18 0), .ref (gA Λ 8 r), .int (nI to)] : List Value).toArray c cX2_carry 6 RX2 wsX2_carry D cy base := C
  have hts := C.2.2.2.2.1
  have hwX2 : ∀ w ∈ u_ws RX2 TX2 6, w ∈ wsX2_carry := by decide +kernel
  have hwX4 : ∀ w ∈ u_ws RX4 TX4 6, w ∈ wsX2_carry := by decide +kernel
  have hwX5 : ∀ w ∈ u_ws RX5 TX5 13, w ∈ wsX2_carry := by decide +kernel
  have hM9 : (Cond.fieldLink RX2 9 (TX2 1).1 (TX2 1).2.1 (TX2 1).2.2.1).before ([.ref (gA Λ 18 0), .ref (gA Λ 8 r), .int (nI to)] : List Value).toArray s = true := hts (.fieldLink RX2 9 "CodeRooms$Mender" "sizes" "[I") (by decide +kernel)
  have hL9 : FL RX2 9 (TX2 1).1 (TX2 1).2.1 (TX2 1).2.2.1 ([.ref (gA Λ 18 0), .ref (gA Λ 8 r), .int (nI to)] : List Value).toArray s := Or.inl hM9
  have hM15 : (Cond.fieldLink RX2 15 (TX2 0).1 (TX2 0).2.1 (TX2 0).2.2.1).before ([.ref (gA Λ 18 0), .ref (gA Λ 8 r), .int (nI to)] : List Value).toArray s = true := hts (.fieldLink RX2 15 "CodeRooms$Mender" "plan" "LCodeRooms$Plan;") (by decide +kernel)
  have hL15 : FL RX2 15 (TX2 0).1 (TX2 0).2.1 (TX2 0).2.2.1 ([.ref (gA Λ 18 0), .ref (gA Λ 8 r), .int (nI to)] : List Value).toArray s := Or.inl hM15
  have hL22 : FL RX2 22 (TX4 5).1 (TX4 5).2.1 (TX4 5).2.2.1 ([.ref (gA Λ 18 0), .ref (gA Λ 8 r), .int (nI to)] : List Value).toArray s := Or.inr ⟨_, Ex.nestF C.2.2.2.2.2.2 nf_X2_22⟩
  have hL28 : FL RX2 28 (TX4 1).1 (TX4 1).2.1 (TX4 1).2.2.1 ([.ref (gA Λ 18 0), .ref (gA Λ 8 r), .int (nI to)] : List Value).toArray s := Or.inr ⟨_, Ex.nestF C.2.2.2.2.2.2 nf_X2_28⟩
  have hL49 : FL RX2 49 (TX5 11).1 (TX5 11).2.1 (TX5 11).2.2.1 ([.ref (gA Λ 18 0), .ref (gA Λ 8 r), .int (nI to)] : List Value).toArray s := Or.inr ⟨_, Ex.nestF C.2.2.2.2.2.2 nf_X2_49⟩
  have hL64 : FL RX2 64 (TX5 6).1 (TX5 6).2.1 (TX5 6).2.2.1 ([.ref (gA Λ 18 0), .ref (gA Λ 8 r), .int (nI to)] : List Value).toArray s := Or.inr ⟨_, Ex.nestF C.2.2.2.2.2.2 nf_X2_64⟩
  have hn : M 31 5 ≤ 40 := hB 31 5 rfl
  have hhc0 := hcN_le M
  have hz1 := szN_38 (M := M) (r := r) (to := to) (k := M 38 r) hr0 h37
  rw [if_pos rfl, if_neg (Ne.symm hto)] at hz1
  have hz2 := szN_38 (M := M) (r := r) (to := to) (k := to) hr0 h37
  rw [if_neg hto, if_pos rfl] at hz2
  have hsz := szN_le M to
  refine j_iconst C (nI 0) dX2_carry_0 (by decide) ?_
  refine j_istore_n C [(3, .int (nI 0)), (0, .ref (gA Λ 18 0)), (1, .ref (gA Λ 8 r)), (2, .int (nI to))] dX2_carry_1 rfl (by decide) rfl ?_
  have lb2 : ∀ (fu : Nat) (σ1 : HS) (k : Nat), (hcN M - k) < fu → (k ≤ hcN M) → (GM σ σ1) → (PC σ1 M r to k) → (gI σ1 = gI σ ∧ gV σ1 = gV σ ∧ ∀ t, t ≠ 13 → gJ σ1 t = gJ σ t) → J p l e ({ frames := 8, cells := 0, slots := 0, locals := 120 }) s m ([.ref (gA Λ 18 0), .ref (gA Λ 8 r), .int (nI to)] : List Value).toArray below meth c 6 D cy base (MQ below (va_Qv (fun u => CR noEx Λ u (mS M 38 r to) ∧ PS u (mS M 38 r to) ∧ (∀ i, i < hcN M → PP u (mS M 38 r to) (hs M i)) ∧ GC σ u) (Wd D cy base Λ) (Ab base)) ([.ref (gA Λ 18 0), .ref (gA Λ 8 r), .int (nI to)] : List Value).toArray s 0 0 (Ab base)) 0 0 Λ 2 [(0, .ref (gA Λ 18 0)), (1, .ref (gA Λ 8 r)), (2, .int (nI to)), (3, .int (nI k))] [] σ1 := by
    intro fu
    induction fu with
    | zero => intro σ1 k hfu; exact absurd hfu (Nat.not_lt_zero _)
    | succ fu ih =>
      intro σ1 k hfu hk hG hm hx
      have ih2 := ih
      refine j_iload_n C dX2_carry_2 rfl 3 rfl ?_
      refine j_aload_n C dX2_carry_3 rfl 0 rfl ?_
      refine j_getV C hwX2 18 0 0 (CR.n1 (hG.cr hC) (by decide)) rfl rfl (by decide) rfl 0 (CR.v (hG.cr hC) 18 0 0 ⟨rfl, by decide⟩ id) hL15 dX2_carry_4 ?_
      have hhc7 := hcN_le M
      refine j_getI C hwX4 3 0 5 (CR.n1 (hG.cr hC) (by decide)) rfl rfl (by decide) rfl (nI (hcN M)) (CR.i (hG.cr hC) 3 0 5 ⟨rfl, Or.inr rfl⟩ id) hL22 dX2_carry_7 ?_
      refine j_icmp_ge (tgt := 73) C dX2_carry_10 (by decide) (nI_leI (by omega) (by omega)) (fun h10 => ?_) (fun h10 => ?_)
      · refine j_aload_n C dX2_carry_73 rfl 0 rfl ?_
        refine j_getV C hwX2 18 0 1 (CR.n1 (hG.cr hC) (by decide)) rfl rfl (by decide) rfl 0 (CR.v (hG.cr hC) 18 0 1 ⟨rfl, by decide⟩ id) hL9 dX2_carry_74 ?_
        refine j_aload_n C dX2_carry_77 rfl 1 rfl ?_
        have hb78 : M 38 r ≤ 5 := hB 38 r (decide_eq_true (show r < 40 by omega))
        refine j_getI C hwX5 8 r 11 (CR.n8 (hG.cr hC) (by decide) (show r < M 31 5 by omega)) rfl rfl (by decide) rfl (nI (M 38 r)) (CR.i (hG.cr hC) 8 r 11 ⟨show r < M 31 5 by omega, Or.inr (Or.inr (Or.inl rfl))⟩ id) hL49 dX2_carry_78 ?_
        refine j_dup2 C dX2_carry_81 rfl rfl ?_
        refine j_iald C 19 0 (M 38 r) (CR.n1 (hG.cr hC) (by decide)) rfl rfl 6 (CR.l1 (hG.cr hC) (by decide)) (by omega) (by omega) (nI (szN M (M 38 r))) (by rw [hx.1]; exact hS _ (by omega)) dX2_carry_82 ?_
        refine j_iconst C (nI 1) dX2_carry_83 (by decide) ?_
        refine j_isub C (nI (szN (mS M 38 r to) (M 38 r))) dX2_carry_84 (by rw [show szN M (M 38 r) = szN (mS M 38 r to) (M 38 r) + 1 by omega]; exact nI_dec _) ?_
        refine j_iast C 19 0 (M 38 r) (CR.n1 (hG.cr hC) (by decide)) rfl rfl 6 (CR.l1 (hG.cr hC) (by decide)) (by omega) (by omega) (nI (szN (mS M 38 r to) (M 38 r))) rfl dX2_carry_85 ?_
        refine j_aload_n C dX2_carry_86 rfl 0 rfl ?_
        refine j_getV C hwX2 18 0 1 (CR.n1 (hG.cr hC) (by decide)) rfl rfl (by decide) rfl 0 (CR.v (hG.cr hC) 18 0 1 ⟨rfl, by decide⟩ id) hL9 dX2_carry_87 ?_
        refine j_iload_n C dX2_carry_90 rfl 2 rfl ?_
        refine j_dup2 C dX2_carry_91 rfl rfl ?_
        refine j_iald C 19 0 to (CR.n1 (hG.cr hC) (by decide)) rfl rfl 6 (CR.l1 (hG.cr hC) (by decide)) (by omega) (by omega) (nI (szN M to)) (by rw [gI_sI, if_neg (by omega), hx.1]; exact hS _ (by omega)) dX2_carry_92 ?_
        refine j_iconst C (nI 1) dX2_carry_93 (by decide) ?_
        refine j_iadd C (nI (szN (mS M 38 r to) to)) dX2_carry_94 (by rw [show szN (mS M 38 r to) to = szN M to + 1 by omega]; exact nI_add _ _) ?_
        refine j_iast C 19 0 to (CR.n1 (hG.cr hC) (by decide)) rfl rfl 6 (CR.l1 (hG.cr hC) (by decide)) (by omega) (by omega) (nI (szN (mS M 38 r to) to)) rfl dX2_carry_95 ?_
        refine j_aload_n C dX2_carry_96 rfl 1 rfl ?_
        refine j_iload_n C dX2_carry_97 rfl 2 rfl ?_
        refine j_putI C hwX5 8 r 11 (CR.n8 (hG.cr hC) (by decide) (show r < M 31 5 by omega)) rfl rfl (by decide) rfl tyX5 tyX5_ok nmX5 rfl rfl rfl hL49 dX2_carry_98 ?_
        exact j_vret C hr hlk (⟨CR.place (((hG.i (Or.inr rfl)).i (Or.inr rfl)).cr hC) rfl, PS.carry hS hx.1 hr0 h37 hto, fun i hi q hq => (hm i hi q hq).trans (by rw [if_pos (by omega)]), ⟨hx.2.1, by rw [gI_nk (by decide), gI_nk (by decide), gI_nk (by decide), hx.1], hx.2.2 18 (by decide), Same.sI (((hG.i (Or.inr rfl)).i (Or.inr rfl)).same) (by decide)⟩⟩) dX2_carry_101
      · refine j_aload_n C dX2_carry_13 rfl 0 rfl ?_
        refine j_getV C hwX2 18 0 0 (CR.n1 (hG.cr hC) (by decide)) rfl rfl (by decide) rfl 0 (CR.v (hG.cr hC) 18 0 0 ⟨rfl, by decide⟩ id) hL15 dX2_carry_14 ?_
        refine j_getV C hwX4 3 0 1 (CR.n1 (hG.cr hC) (by decide)) rfl rfl (by decide) rfl 0 (CR.v (hG.cr hC) 3 0 1 ⟨rfl, by decide⟩ id) hL28 dX2_carry_17 ?_
        refine j_iload_n C dX2_carry_20 rfl 3 rfl ?_
        have hhs21 := hs_lt (M := M) (k := k) (by omega)
        have hhn21 := hs_nh (M := M) (k := k) (by omega)
        refine j_aald C 5 0 k (CR.n1 (hG.cr hC) (by decide)) rfl (by decide) (by decide) 40 (CR.l1 (hG.cr hC) (by decide)) (by omega) (by omega) (hs M k) (CR.v (hG.cr hC) 5 0 k ⟨rfl, by omega⟩ id) dX2_carry_21 ?_
        refine j_astore C [(4, .ref (gA Λ 8 (hs M k))), (0, .ref (gA Λ 18 0)), (1, .ref (gA Λ 8 r)), (2, .int (nI to)), (3, .int (nI k))] dX2_carry_22 (by decide) rfl ?_
        refine j_aload C dX2_carry_24 0 rfl ?_
        refine j_aload_n C dX2_carry_26 rfl 2 rfl ?_
        refine j_acmp_eq (tgt := 67) C 8 (hs M k) r (CR.n8 (hG.cr hC) (by decide) (show hs M k < M 31 5 by omega)) (CR.n8 (hG.cr hC) (by decide) (show r < M 31 5 by omega)) dX2_carry_27 (by decide) (fun h27 => ?_) (fun h27 => ?_)
        · refine j_iinc C [(3, .int (nI (k + 1))), (4, .ref (gA Λ 8 (hs M k))), (0, .ref (gA Λ 18 0)), (1, .ref (gA Λ 8 r)), (2, .int (nI to))] (nI (k + 1)) dX2_carry_67 4 rfl (nI_add _ 1) (by decide) rfl ?_
          refine j_goto (tgt := 2) C dX2_carry_70 (by decide) ?_
          refine j_lv [2, 3, 4, 0] rfl ?_
          exact ih2 σ1 (k + 1) (by omega) (by omega) hG (PC.skip hm (by omega) h27) hx
        · refine j_aload C dX2_carry_30 0 rfl ?_
          refine j_aload_n C dX2_carry_32 rfl 2 rfl ?_
          refine c_i0 C (r_V C 8 (hs M k) [.ref (gA Λ 8 r)] (c_X5_pullOf l D cy base Λ σ1 M (hG.cr hC) hB (hs M k) r (by omega) (by omega)) (cwV 1 hts gX2_carry_X5_pullOf rfl rfl rfl (by decide +kernel) ⟨by decide, by decide⟩) (CR.n8 (hG.cr hC) (by decide) (show hs M k < M 31 5 by omega)) rfl rfl rfl rfl (Nat.le_of_ble_eq_true rfl) dX2_carry_33 ⟨by decide, by decide⟩) (fun rv uu hp => ?_)
          rw [hp.1, hp.2]
          refine j_istore C [(5, .int (zI (pulZ M (hs M k) r))), (4, .ref (gA Λ 8 (hs M k))), (0, .ref (gA Λ 18 0)), (1, .ref (gA Λ 8 r)), (2, .int (nI to)), (3, .int (nI k))] dX2_carry_36 (by decide) rfl ?_
          refine j_aload C dX2_carry_38 1 rfl ?_
          refine j_getV C hwX5 8 (hs M k) 6 (CR.n8 (hG.cr hC) (by decide) (show hs M k < M 31 5 by omega)) rfl rfl (by decide) rfl (hs M k) (CR.v (hG.cr hC) 8 (hs M k) 6 ⟨show hs M k < M 31 5 by omega, by decide, by decide⟩ id) hL64 dX2_carry_40 ?_
          refine j_aload_n C dX2_carry_43 rfl 3 rfl ?_
          have hb44 : M 38 r ≤ 5 := hB 38 r (decide_eq_true (show r < 40 by omega))
          refine j_getI C hwX5 8 r 11 (CR.n8 (hG.cr hC) (by decide) (show r < M 31 5 by omega)) rfl rfl (by decide) rfl (nI (M 38 r)) (CR.i (hG.cr hC) 8 r 11 ⟨show r < M 31 5 by omega, Or.inr (Or.inr (Or.inl rfl))⟩ id) hL49 dX2_carry_44 ?_
          refine j_dup2 C dX2_carry_47 rfl rfl ?_
          refine j_lald C 13 (hs M k) (M 38 r) (CR.n8 (hG.cr hC) (by decide) (show hs M k < M 31 5 by omega)) rfl rfl 6 (CR.l8 (hG.cr hC) (show hs M k < M 31 5 by omega)).2.2.2 (by omega) (by omega) (zL (pulK M (hs M k) (M 38 r))) ((hm k (by omega) _ (by omega)).trans (by rw [if_neg (Nat.lt_irrefl k)])) dX2_carry_48 ?_
          refine j_iload C dX2_carry_49 0 rfl ?_
          refine j_i2l C (zL (pulZ M (hs M k) r)) dX2_carry_51 (zI_zL (by have := pulZ_bd hB (a := (hs M k)) (b := r) (by omega) (by omega); omega) (by have := pulZ_bd hB (a := (hs M k)) (b := r) (by omega) (by omega); omega)) ?_
          refine j_lsub C (zL ((pulK M (hs M k) (M 38 r)) - (pulZ M (hs M k) r))) dX2_carry_52 (zL_sub _ _) ?_
          refine j_last C 13 (hs M k) (M 38 r) (CR.n8 (hG.cr hC) (by decide) (show hs M k < M 31 5 by omega)) rfl rfl 6 (CR.l8 (hG.cr hC) (show hs M k < M 31 5 by omega)).2.2.2 (by omega) (by omega) (zL ((pulK M (hs M k) (M 38 r)) - (pulZ M (hs M k) r))) rfl dX2_carry_53 ?_
          refine j_aload C dX2_carry_54 1 rfl ?_
          refine j_getV C hwX5 8 (hs M k) 6 (CR.n8 (hG.cr hC) (by decide) (show hs M k < M 31 5 by omega)) rfl rfl (by decide) rfl (hs M k) (CR.v (hG.cr hC) 8 (hs M k) 6 ⟨show hs M k < M 31 5 by omega, by decide, by decide⟩ id) hL64 dX2_carry_56 ?_
          refine j_iload_n C dX2_carry_59 rfl 4 rfl ?_
          refine j_dup2 C dX2_carry_60 rfl rfl ?_
          refine j_lald C 13 (hs M k) to (CR.n8 (hG.cr hC) (by decide) (show hs M k < M 31 5 by omega)) rfl rfl 6 (CR.l8 (hG.cr hC) (show hs M k < M 31 5 by omega)).2.2.2 (by omega) (by omega) (zL (pulK M (hs M k) to)) (by rw [gJ_sJ, if_neg (by omega)]; exact (hm k (by omega) _ (by omega)).trans (by rw [if_neg (Nat.lt_irrefl k)])) dX2_carry_61 ?_
          refine j_iload C dX2_carry_62 0 rfl ?_
          refine j_i2l C (zL (pulZ M (hs M k) r)) dX2_carry_64 (zI_zL (by have := pulZ_bd hB (a := (hs M k)) (b := r) (by omega) (by omega); omega) (by have := pulZ_bd hB (a := (hs M k)) (b := r) (by omega) (by omega); omega)) ?_
          refine j_ladd C (zL ((pulK M (hs M k) to) + (pulZ M (hs M k) r))) dX2_carry_65 (zL_add _ _) ?_
          refine j_last C 13 (hs M k) to (CR.n8 (hG.cr hC) (by decide) (show hs M k < M 31 5 by omega)) rfl rfl 6 (CR.l8 (hG.cr hC) (show hs M k < M 31 5 by omega)).2.2.2 (by omega) (by omega) (zL ((pulK M (hs M k) to) + (pulZ M (hs M k) r))) rfl dX2_carry_66 ?_
          refine j_iinc C [(3, .int (nI (k + 1))), (5, .int (zI (pulZ M (hs M k) r))), (4, .ref (gA Λ 8 (hs M k))), (0, .ref (gA Λ 18 0)), (1, .ref (gA Λ 8 r)), (2, .int (nI to))] (nI (k + 1)) dX2_carry_67 5 rfl (nI_add _ 1) (by decide) rfl ?_
          refine j_goto (tgt := 2) C dX2_carry_70 (by decide) ?_
          refine j_lv [3, 4, 5, 0] rfl ?_
          exact ih2 (sJ (sJ σ1 13 (hs M k) (M 38 r) (zL ((pulK M (hs M k) (M 38 r)) - (pulZ M (hs M k) r)))) 13 (hs M k) to (zL ((pulK M (hs M k) to) + (pulZ M (hs M k) r)))) (k + 1) (by omega) (by omega) ((hG.j (Or.inl rfl)).j (Or.inl rfl)) (PC.step hm (by omega) h27 hr0 h37 hto) ⟨hx.1, hx.2.1, fun t9 h9 => by rw [gJ_nk h9, gJ_nk h9]; exact hx.2.2 t9 h9⟩
  refine j_lv [1, 2, 3, 0] rfl ?_
  exact lb2 _ σ 0 (Nat.lt_succ_self _) (by omega) GM.rf (fun i hi q hq => (hP i hi q hq).trans (by rw [if_neg (Nat.not_lt_zero _)])) ⟨rfl, rfl, fun _ _ => rfl⟩

set_option maxHeartbeats 4000000 in
set_option maxRecDepth 100000 in
theorem c_X2_findStep (l : Launch) (D : va_G) (cy : Nat → ClassId) (base : Nat) (Λ : LY) (σ : HS) (M : MM) (hC : CR noEx Λ σ M) (hB : MBd M) (hR : M 31 10 ≤ 6) (hY : ∀ a b, a < 40 → b < 40 → pulZ M a b = pulZ M b a) (hS : PS σ M) (hP : ∀ i, i < hcN M → PP σ M (hs M i)) : Met l yX2_findStep wsX2_findStep ({ frames := 16, cells := 0, slots := 0, locals := 240 }) (va_Pc [.ref (gA Λ 18 0)] (Wd D cy base Λ σ)) (va_Qi (fun v u => v = bI (betB M) ∧ GF σ u ∧ BSR u (bstS M)) (Wd D cy base Λ) (Ab base)) 0 0 (Ab base) := by
  refine j_start (cc := cX2_findStep) (nL := 1) (ret := (some .boolean)) (lv := [(0, .ref (gA Λ 18 0))]) (by decide) rfl (Nat.le_of_ble_eq_true rfl) rfl ?_
  intro p e s m below meth c C hr hlk hnm
  have C : Cx p s m ([.ref (gA Λ 18 0)] : List Value).toArray c cX2_findStep 1 RX2 wsX2_findStep D cy base := C
  have hts := C.2.2.2.2.1
  have hwX2 : ∀ w ∈ u_ws RX2 TX2 6, w ∈ wsX2_findStep := by decide +kernel
  have hM77 : (Cond.fieldLink RX2 77 (TX2 2).1 (TX2 2).2.1 (TX2 2).2.2.1).before ([.ref (gA Λ 18 0)] : List Value).toArray s = true := hts (.fieldLink RX2 77 "CodeRooms$Mender" "least" "J") (by decide +kernel)
  have hL77 : FL RX2 77 (TX2 2).1 (TX2 2).2.1 (TX2 2).2.2.1 ([.ref (gA Λ 18 0)] : List Value).toArray s := Or.inl hM77
  have hM81 : (Cond.fieldLink RX2 81 (TX2 3).1 (TX2 3).2.1 (TX2 3).2.2.1).before ([.ref (gA Λ 18 0)] : List Value).toArray s = true := hts (.fieldLink RX2 81 "CodeRooms$Mender" "mover" "LCodeRooms$Routine;") (by decide +kernel)
  have hL81 : FL RX2 81 (TX2 3).1 (TX2 3).2.1 (TX2 3).2.2.1 ([.ref (gA Λ 18 0)] : List Value).toArray s := Or.inl hM81
  have hM85 : (Cond.fieldLink RX2 85 (TX2 4).1 (TX2 4).2.1 (TX2 4).2.2.1).before ([.ref (gA Λ 18 0)] : List Value).toArray s = true := hts (.fieldLink RX2 85 "CodeRooms$Mender" "partner" "LCodeRooms$Routine;") (by decide +kernel)
  have hL85 : FL RX2 85 (TX2 4).1 (TX2 4).2.1 (TX2 4).2.2.1 ([.ref (gA Λ 18 0)] : List Value).toArray s := Or.inl hM85
  have hn : M 31 5 ≤ 40 := hB 31 5 rfl
  refine j_aload_n C dX2_findStep_0 rfl 0 rfl ?_
  refine j_lconst C (zL 0) dX2_findStep_1 (by decide) ?_
  refine j_putJ C hwX2 18 0 2 (CR.n1 hC (by decide)) rfl rfl (by decide) rfl tyX2 tyX2_ok nmX2 rfl rfl rfl hL77 dX2_findStep_2 ?_
  refine j_aload_n C dX2_findStep_5 rfl 0 rfl ?_
  refine j_null C dX2_findStep_6 ?_
  refine j_putVn C hwX2 18 0 3 (CR.n1 hC (by decide)) rfl rfl (by decide) rfl tyX2 tyX2_ok nmX2 rfl rfl rfl hL81 dX2_findStep_7 ?_
  refine j_aload_n C dX2_findStep_10 rfl 0 rfl ?_
  refine j_null C dX2_findStep_11 ?_
  refine j_putVn C hwX2 18 0 4 (CR.n1 hC (by decide)) rfl rfl (by decide) rfl tyX2 tyX2_ok nmX2 rfl rfl rfl hL85 dX2_findStep_12 ?_
  refine j_aload_n C dX2_findStep_15 rfl 0 rfl ?_
  have hF0 : GF σ (sV (sV (sJ σ 18 0 2 (zL 0)) 18 0 3 none) 18 0 4 none) := GF.v (GF.v (GF.j GF.rf) (by decide)) (by decide)
  refine c_v0 C (r_V C 18 0 [] (c_X2_findMove l D cy base Λ (sV (sV (sJ σ 18 0 2 (zL 0)) 18 0 3 none) 18 0 4 none) M (hF0.gm.cr hC) hB hR (hF0.ps hS) (fun i hi => hF0.pp (hP i hi)) ⟨rfl, rfl, rfl, fun z => absurd rfl z⟩) (cwV 0 hts gX2_findStep_X2_findMove rfl rfl rfl (by decide +kernel) ⟨by decide, by decide⟩) (CR.n1 (hF0.gm.cr hC) (by decide)) rfl rfl rfl rfl (Nat.le_of_ble_eq_true rfl) dX2_findStep_16 ⟨by decide, by decide⟩) (fun uf_1 hp => ?_)
  obtain ⟨hGf_1, hzf_1⟩ := hp
  have hFf_1 := GF.tr hF0 hGf_1
  refine j_aload_n C dX2_findStep_19 rfl 0 rfl ?_
  refine c_v0 C (r_V C 18 0 [] (c_X2_findSwap l D cy base Λ uf_1 M (hFf_1.gm.cr hC) hB hY (hFf_1.ps hS) (fun i hi => hFf_1.pp (hP i hi)) hzf_1) (cwV 0 hts gX2_findStep_X2_findSwap rfl rfl rfl (by decide +kernel) ⟨by decide, by decide⟩) (CR.n1 (hFf_1.gm.cr hC) (by decide)) rfl rfl rfl rfl (Nat.le_of_ble_eq_true rfl) dX2_findStep_20 ⟨by decide, by decide⟩) (fun uf_2 hp => ?_)
  obtain ⟨hGf_2, hzf_2⟩ := hp
  have hFf_2 := GF.tr hFf_1 hGf_2
  refine j_aload_n C dX2_findStep_23 rfl 0 rfl ?_
  by_cases hmz : (bstS M).2.1 = 0
  · refine j_getVn C hwX2 18 0 3 (CR.n1 (hFf_2.gm.cr hC) (by decide)) rfl rfl (by decide) rfl ((hzf_2).2.1.trans (if_pos hmz)) hL81 dX2_findStep_24 ?_
    refine j_ifnullN (tgt := 34) C dX2_findStep_27 (by decide) ?_
    refine j_iconst C (nI 0) dX2_findStep_34 (by decide) ?_
    exact j_zret C (by first | rfl | exact nz_b _ | exact nz_n (by omega)) hr hlk (⟨rt0 (by simp [betB, hmz]), hFf_2, hzf_2⟩) dX2_findStep_35
  · refine j_getV C hwX2 18 0 3 (CR.n1 (hFf_2.gm.cr hC) (by decide)) rfl rfl (by decide) rfl ((bstS M).2.1 - 1) ((hzf_2).2.1.trans (if_neg hmz)) hL81 dX2_findStep_24 ?_
    refine j_ifnull C dX2_findStep_27 ?_
    refine j_iconst C (nI 1) dX2_findStep_30 (by decide) ?_
    refine j_goto (tgt := 35) C dX2_findStep_31 (by decide) ?_
    exact j_zret C (by first | rfl | exact nz_b _ | exact nz_n (by omega)) hr hlk (⟨rt1 (by simp [betB, hmz]), hFf_2, hzf_2⟩) dX2_findStep_35
