abbrev nMe : Nat → Prop := fun t => t ≠ 8 ∧ t ≠ 13 ∧ t ≠ 18 ∧ t ≠ 19
/-- only the mender's cells changed -/
def GM (σ u : HS) : Prop := (∀ t, t ≠ 18 → t ≠ 19 → gI u t = gI σ t) ∧ (∀ t, t ≠ 13 → t ≠ 18 → gJ u t = gJ σ t) ∧ (∀ t, t ≠ 18 → gV u t = gV σ t) ∧ (∀ k, k < 2 → gV u 18 0 k = gV σ 18 0 k)
theorem GM.rf {σ : HS} : GM σ σ := ⟨fun _ _ _ => rfl, fun _ _ _ => rfl, fun _ _ => rfl, fun _ _ => rfl⟩
theorem GM.tr {σ u v : HS} (h : GM σ u) (g : GM u v) : GM σ v := ⟨fun t a b => (g.1 t a b).trans (h.1 t a b), fun t a b => (g.2.1 t a b).trans (h.2.1 t a b), fun t a => (g.2.2.1 t a).trans (h.2.2.1 t a), fun k a => (g.2.2.2 k a).trans (h.2.2.2 k a)⟩
theorem GM.i {σ u : HS} {t i k : Nat} {x : Int32} (h : GM σ u) (ht : t = 18 ∨ t = 19) : GM σ (sI u t i k x) := ⟨fun t' a b => by rw [gI_nk (by omega)]; exact h.1 t' a b, h.2.1, h.2.2.1, h.2.2.2⟩
theorem GM.j {σ u : HS} {t i k : Nat} {x : Int64} (h : GM σ u) (ht : t = 13 ∨ t = 18) : GM σ (sJ u t i k x) := ⟨h.1, fun t' a b => by rw [gJ_nk (by omega)]; exact h.2.1 t' a b, h.2.2.1, h.2.2.2⟩
theorem GM.v {σ u : HS} {i k : Nat} {x : Option Nat} (h : GM σ u) (hk : 2 ≤ k) : GM σ (sV u 18 i k x) := ⟨h.1, h.2.1, fun t' a => by rw [gV_nk (by omega)]; exact h.2.2.1 t' a, fun k' a => by rw [gV_sV, if_neg (by omega)]; exact h.2.2.2 k' a⟩
theorem GM.cr {Λ : LY} {σ u : HS} {M : MM} (h : GM σ u) (hC : CR noEx Λ σ M) : CR noEx Λ u M := by
  refine ⟨hC.1, fun i hi => by rw [h.2.2.1 1 (by decide)]; exact hC.2.1 i hi, fun t i k ho he => ?_, fun t i k ho he => ?_, fun t i k ho he => ?_⟩
  · rw [h.1 t (by intro e; subst e; exact ho.elim) (by intro e; subst e; exact ho.elim)]
    exact hC.i t i k ho he
  · rw [h.2.1 t (by intro e; subst e; exact ho.elim) (by intro e; subst e; exact ho.elim)]
    exact hC.j t i k ho he
  · by_cases e : t = 18
    · subst e
      obtain ⟨rfl, hk⟩ := ho
      rw [h.2.2.2 k hk]
      exact hC.v 18 0 k ⟨rfl, hk⟩ he
    · rw [h.2.2.1 t e]
      exact hC.v t i k ho he
theorem GM.same {σ u : HS} (h : GM σ u) : Same nMe σ u := fun t ht => ⟨h.1 t ht.2.2.1 ht.2.2.2, h.2.1 t ht.2.1 ht.2.2.1, h.2.2.1 t ht.2.2.1⟩
/-- the pulls but one's own stay -/
def PX (σ u : HS) (r : Nat) : Prop := ∀ i, i ≠ r → gJ u 13 i = gJ σ 13 i
theorem PX.j {σ u : HS} {r k : Nat} {x : Int64} (h : PX σ u r) : PX σ (sJ u 13 r k x) r := fun i hi => by rw [gJ_ne (Or.inr hi)]; exact h i hi
set_option maxHeartbeats 4000000 in
set_option maxRecDepth 100000 in
theorem c_X2_countSizes (l : Launch) (D : va_G) (cy : Nat → ClassId) (base : Nat) (Λ : LY) (σ : HS) (M : MM) (hC : CR noEx Λ σ M) (hB : MBd M) : Met l yX2_countSizes wsX2_countSizes ({ frames := 4, cells := 0, slots := 0, locals := 60 }) (va_Pc [.ref (gA Λ 18 0)] (Wd D cy base Λ σ)) (va_Qv (fun u => GM σ u ∧ PS u M ∧ gJ u = gJ σ ∧ gV u = gV σ) (Wd D cy base Λ) (Ab base)) 0 0 (Ab base) := by
  refine j_start (cc := cX2_countSizes) (nL := 2) (ret := none) (lv := [(0, .ref (gA Λ 18 0))]) (by decide) rfl (Nat.le_of_ble_eq_true rfl) rfl ?_
  intro p e s m below meth c C hr hlk hnm
  have C : Cx p s m ([.ref (gA Λ 18 0)] : List Value).toArray c cX2_countSizes 2 RX2 wsX2_countSizes D cy base := C
  have hts := C.2.2.2.2.1
  have hwX2 : ∀ w ∈ u_ws RX2 TX2 6, w ∈ wsX2_countSizes := by decide +kernel
  have hwX4 : ∀ w ∈ u_ws RX4 TX4 6, w ∈ wsX2_countSizes := by decide +kernel
  have hwX5 : ∀ w ∈ u_ws RX5 TX5 13, w ∈ wsX2_countSizes := by decide +kernel
  have hM9 : (Cond.fieldLink RX2 9 (TX2 1).1 (TX2 1).2.1 (TX2 1).2.2.1).before ([.ref (gA Λ 18 0)] : List Value).toArray s = true := hts (.fieldLink RX2 9 "CodeRooms$Mender" "sizes" "[I") (by decide +kernel)
  have hL9 : FL RX2 9 (TX2 1).1 (TX2 1).2.1 (TX2 1).2.2.1 ([.ref (gA Λ 18 0)] : List Value).toArray s := Or.inl hM9
  have hM15 : (Cond.fieldLink RX2 15 (TX2 0).1 (TX2 0).2.1 (TX2 0).2.2.1).before ([.ref (gA Λ 18 0)] : List Value).toArray s = true := hts (.fieldLink RX2 15 "CodeRooms$Mender" "plan" "LCodeRooms$Plan;") (by decide +kernel)
  have hL15 : FL RX2 15 (TX2 0).1 (TX2 0).2.1 (TX2 0).2.2.1 ([.ref (gA Λ 18 0)] : List Value).toArray s := Or.inl hM15
  have hL22 : FL RX2 22 (TX4 5).1 (TX4 5).2.1 (TX4 5).2.2.1 ([.ref (gA Λ 18 0)] : List Value).toArray s := Or.inr ⟨_, Ex.nestF C.2.2.2.2.2.2 nf_X2_22⟩
  have hL28 : FL RX2 28 (TX4 1).1 (TX4 1).2.1 (TX4 1).2.2.1 ([.ref (gA Λ 18 0)] : List Value).toArray s := Or.inr ⟨_, Ex.nestF C.2.2.2.2.2.2 nf_X2_28⟩
  have hL49 : FL RX2 49 (TX5 11).1 (TX5 11).2.1 (TX5 11).2.2.1 ([.ref (gA Λ 18 0)] : List Value).toArray s := Or.inr ⟨_, Ex.nestF C.2.2.2.2.2.2 nf_X2_49⟩
  have hn : M 31 5 ≤ 40 := hB 31 5 rfl
  have hhc0 := hcN_le M
  refine j_iconst C (nI 0) dX2_countSizes_0 (by decide) ?_
  refine j_istore_n C [(1, .int (nI 0)), (0, .ref (gA Λ 18 0))] dX2_countSizes_1 rfl (by decide) rfl ?_
  have lb2 : ∀ (fu : Nat) (σ1 : HS) (i : Nat), (6 - i) < fu → (i ≤ 6) → (GM σ σ1) → (∀ room, room < i → gI σ1 19 0 room = nI 0) → (gJ σ1 = gJ σ ∧ gV σ1 = gV σ) → J p l e ({ frames := 4, cells := 0, slots := 0, locals := 60 }) s m ([.ref (gA Λ 18 0)] : List Value).toArray below meth c 2 D cy base (MQ below (va_Qv (fun u => GM σ u ∧ PS u M ∧ gJ u = gJ σ ∧ gV u = gV σ) (Wd D cy base Λ) (Ab base)) ([.ref (gA Λ 18 0)] : List Value).toArray s 0 0 (Ab base)) 0 0 Λ 2 [(0, .ref (gA Λ 18 0)), (1, .int (nI i))] [] σ1 := by
    intro fu
    induction fu with
    | zero => intro σ1 i hfu; exact absurd hfu (Nat.not_lt_zero _)
    | succ fu ih =>
      intro σ1 i hfu hi hG hz hq
      have ih2 := ih
      refine j_iload_n C dX2_countSizes_2 rfl 1 rfl ?_
      refine j_bipush C (nI 6) dX2_countSizes_3 (by decide) ?_
      refine j_icmp_ge (tgt := 21) C dX2_countSizes_5 (by decide) (nI_leI (by omega) (by omega)) (fun h5 => ?_) (fun h5 => ?_)
      · refine j_iconst C (nI 0) dX2_countSizes_21 (by decide) ?_
        refine j_istore_n C [(1, .int (nI 0)), (0, .ref (gA Λ 18 0))] dX2_countSizes_22 rfl (by decide) rfl ?_
        have lb23 : ∀ (fu : Nat) (σ2 : HS) (k : Nat), (hcN M - k) < fu → (k ≤ hcN M) → (GM σ σ2) → (∀ room, room < 6 → gI σ2 19 0 room = nI (fb_ct (fun x => decide (M 38 (hs M x) = room)) k)) → (gJ σ2 = gJ σ ∧ gV σ2 = gV σ) → J p l e ({ frames := 4, cells := 0, slots := 0, locals := 60 }) s m ([.ref (gA Λ 18 0)] : List Value).toArray below meth c 2 D cy base (MQ below (va_Qv (fun u => GM σ u ∧ PS u M ∧ gJ u = gJ σ ∧ gV u = gV σ) (Wd D cy base Λ) (Ab base)) ([.ref (gA Λ 18 0)] : List Value).toArray s 0 0 (Ab base)) 0 0 Λ 23 [(0, .ref (gA Λ 18 0)), (1, .int (nI k))] [] σ2 := by
          intro fu
          induction fu with
          | zero => intro σ2 k hfu; exact absurd hfu (Nat.not_lt_zero _)
          | succ fu ih =>
            intro σ2 k hfu hk hG2 hm hq2
            have ih23 := ih
            refine j_iload_n C dX2_countSizes_23 rfl 1 rfl ?_
            refine j_aload_n C dX2_countSizes_24 rfl 0 rfl ?_
            refine j_getV C hwX2 18 0 0 (CR.n1 (hG2.cr hC) (by decide)) rfl rfl (by decide) rfl 0 (CR.v (hG2.cr hC) 18 0 0 ⟨rfl, by decide⟩ id) hL15 dX2_countSizes_25 ?_
            have hhc28 := hcN_le M
            refine j_getI C hwX4 3 0 5 (CR.n1 (hG2.cr hC) (by decide)) rfl rfl (by decide) rfl (nI (hcN M)) (CR.i (hG2.cr hC) 3 0 5 ⟨rfl, Or.inr rfl⟩ id) hL22 dX2_countSizes_28 ?_
            refine j_icmp_ge (tgt := 61) C dX2_countSizes_31 (by decide) (nI_leI (by omega) (by omega)) (fun h31 => ?_) (fun h31 => ?_)
            · exact j_vret C hr hlk (⟨hG2, fun room hr => by rw [hm room hr, show k = hcN M by omega]; exact congrArg nI (ct_hs (M := M) (fun r => decide (M 38 r = room)) (Nat.le_refl _)).symm, hq2.1, hq2.2⟩) dX2_countSizes_61
            · refine j_aload_n C dX2_countSizes_34 rfl 0 rfl ?_
              refine j_getV C hwX2 18 0 1 (CR.n1 (hG2.cr hC) (by decide)) rfl rfl (by decide) rfl 0 (CR.v (hG2.cr hC) 18 0 1 ⟨rfl, by decide⟩ id) hL9 dX2_countSizes_35 ?_
              refine j_aload_n C dX2_countSizes_38 rfl 0 rfl ?_
              refine j_getV C hwX2 18 0 0 (CR.n1 (hG2.cr hC) (by decide)) rfl rfl (by decide) rfl 0 (CR.v (hG2.cr hC) 18 0 0 ⟨rfl, by decide⟩ id) hL15 dX2_countSizes_39 ?_
              refine j_getV C hwX4 3 0 1 (CR.n1 (hG2.cr hC) (by decide)) rfl rfl (by decide) rfl 0 (CR.v (hG2.cr hC) 3 0 1 ⟨rfl, by decide⟩ id) hL28 dX2_countSizes_42 ?_
              refine j_iload_n C dX2_countSizes_45 rfl 1 rfl ?_
              have hhs46 := hs_lt (M := M) (k := k) (by omega)
              have hhn46 := hs_nh (M := M) (k := k) (by omega)
              refine j_aald C 5 0 k (CR.n1 (hG2.cr hC) (by decide)) rfl (by decide) (by decide) 40 (CR.l1 (hG2.cr hC) (by decide)) (by omega) (by omega) (hs M k) (CR.v (hG2.cr hC) 5 0 k ⟨rfl, by omega⟩ id) dX2_countSizes_46 ?_
              have hb47 : M 38 (hs M k) ≤ 5 := hB 38 (hs M k) (decide_eq_true (show hs M k < 40 by omega))
              refine j_getI C hwX5 8 (hs M k) 11 (CR.n8 (hG2.cr hC) (by decide) (show hs M k < M 31 5 by omega)) rfl rfl (by decide) rfl (nI (M 38 (hs M k))) (CR.i (hG2.cr hC) 8 (hs M k) 11 ⟨show hs M k < M 31 5 by omega, Or.inr (Or.inr (Or.inl rfl))⟩ id) hL49 dX2_countSizes_47 ?_
              refine j_dup2 C dX2_countSizes_50 rfl rfl ?_
              refine j_iald C 19 0 (M 38 (hs M k)) (CR.n1 (hG2.cr hC) (by decide)) rfl rfl 6 (CR.l1 (hG2.cr hC) (by decide)) (by omega) (by omega) (nI (fb_ct (fun x => decide (M 38 (hs M x) = (M 38 (hs M k)))) k)) (hm _ (by omega)) dX2_countSizes_51 ?_
              refine j_iconst C (nI 1) dX2_countSizes_52 (by decide) ?_
              refine j_iadd C (nI ((fb_ct (fun x => decide (M 38 (hs M x) = (M 38 (hs M k)))) k) + 1)) dX2_countSizes_53 (nI_add _ _) ?_
              refine j_iast C 19 0 (M 38 (hs M k)) (CR.n1 (hG2.cr hC) (by decide)) rfl rfl 6 (CR.l1 (hG2.cr hC) (by decide)) (by omega) (by omega) (nI ((fb_ct (fun x => decide (M 38 (hs M x) = (M 38 (hs M k)))) k) + 1)) rfl dX2_countSizes_54 ?_
              refine j_iinc C [(1, .int (nI (k + 1))), (0, .ref (gA Λ 18 0))] (nI (k + 1)) dX2_countSizes_55 1 rfl (nI_add _ 1) (by decide) rfl ?_
              refine j_goto (tgt := 23) C dX2_countSizes_58 (by decide) ?_
              refine j_lv [1, 0] rfl ?_
              exact ih23 (sI σ2 19 0 (M 38 (hs M k)) (nI ((fb_ct (fun x => decide (M 38 (hs M x) = (M 38 (hs M k)))) k) + 1))) (k + 1) (by omega) (by omega) (hG2.i (Or.inr rfl)) (fun room hr => by rw [gI_sI, fb_ct_succ]; by_cases e : room = M 38 (hs M k); rw [if_pos ⟨rfl, rfl, e⟩, if_pos (decide_eq_true e.symm), e]; rw [if_neg (fun z => e z.2.2), if_neg (fun z => e (of_decide_eq_true z).symm)]; exact hm room hr) hq2
        refine j_lv [1, 0] rfl ?_
        exact lb23 _ σ1 0 (Nat.lt_succ_self _) (by omega) hG (fun room hr => hz room (by omega)) hq
      · refine j_aload_n C dX2_countSizes_8 rfl 0 rfl ?_
        refine j_getV C hwX2 18 0 1 (CR.n1 (hG.cr hC) (by decide)) rfl rfl (by decide) rfl 0 (CR.v (hG.cr hC) 18 0 1 ⟨rfl, by decide⟩ id) hL9 dX2_countSizes_9 ?_
        refine j_iload_n C dX2_countSizes_12 rfl 1 rfl ?_
        refine j_iconst C (nI 0) dX2_countSizes_13 (by decide) ?_
        refine j_iast C 19 0 i (CR.n1 (hG.cr hC) (by decide)) rfl rfl 6 (CR.l1 (hG.cr hC) (by decide)) (by omega) (by omega) (nI 0) rfl dX2_countSizes_14 ?_
        refine j_iinc C [(1, .int (nI (i + 1))), (0, .ref (gA Λ 18 0))] (nI (i + 1)) dX2_countSizes_15 1 rfl (nI_add _ 1) (by decide) rfl ?_
        refine j_goto (tgt := 2) C dX2_countSizes_18 (by decide) ?_
        refine j_lv [1, 0] rfl ?_
        exact ih2 (sI σ1 19 0 i (nI 0)) (i + 1) (by omega) (by omega) (hG.i (Or.inr rfl)) (fun room hr => by rw [gI_sI]; by_cases e : room = i; rw [if_pos ⟨rfl, rfl, e⟩]; rw [if_neg (fun z => e z.2.2)]; exact hz room (by omega)) hq
  refine j_lv [1, 0] rfl ?_
  exact lb2 _ σ 0 (Nat.lt_succ_self _) (by omega) GM.rf (fun room hr => absurd hr (Nat.not_lt_zero _)) ⟨rfl, rfl⟩

theorem pulZ_bd {M : MM} (hB : MBd M) {a b : Nat} (ha : a < 40) (hb : b < 40) : -1000000 ≤ pulZ M a b ∧ pulZ M a b ≤ 37000000 := by
  have := tieN_le hB ha hb
  unfold pulZ
  split
  · omega
  · split <;> omega
theorem zsm_succ {f : Nat → Int} {n : Nat} : zsm f (n + 1) = zsm f n + f n := rfl
set_option maxHeartbeats 4000000 in
set_option maxRecDepth 100000 in
theorem c_X2_weighPulls (l : Launch) (D : va_G) (cy : Nat → ClassId) (base : Nat) (Λ : LY) (σ : HS) (M : MM) (hC : CR noEx Λ σ M) (hB : MBd M) (r : Nat) (hr0 : r < M 31 5) : Met l yX2_weighPulls wsX2_weighPulls ({ frames := 8, cells := 0, slots := 0, locals := 120 }) (va_Pc [.ref (gA Λ 18 0), .ref (gA Λ 8 r)] (Wd D cy base Λ σ)) (va_Qv (fun u => GM σ u ∧ PP u M r ∧ PX σ u r ∧ gI u = gI σ ∧ gV u = gV σ) (Wd D cy base Λ) (Ab base)) 0 0 (Ab base) := by
  refine j_start (cc := cX2_weighPulls) (nL := 4) (ret := none) (lv := [(0, .ref (gA Λ 18 0)), (1, .ref (gA Λ 8 r))]) (by decide) rfl (Nat.le_of_ble_eq_true rfl) rfl ?_
  intro p e s m below meth c C hr hlk hnm
  have C : Cx p s m ([.ref (gA Λ 18 0), .ref (gA Λ 8 r)] : List Value).toArray c cX2_weighPulls 4 RX2 wsX2_weighPulls D cy base := C
  have hts := C.2.2.2.2.1
  have hwX2 : ∀ w ∈ u_ws RX2 TX2 6, w ∈ wsX2_weighPulls := by decide +kernel
  have hwX4 : ∀ w ∈ u_ws RX4 TX4 6, w ∈ wsX2_weighPulls := by decide +kernel
  have hwX5 : ∀ w ∈ u_ws RX5 TX5 13, w ∈ wsX2_weighPulls := by decide +kernel
  have hM15 : (Cond.fieldLink RX2 15 (TX2 0).1 (TX2 0).2.1 (TX2 0).2.2.1).before ([.ref (gA Λ 18 0), .ref (gA Λ 8 r)] : List Value).toArray s = true := hts (.fieldLink RX2 15 "CodeRooms$Mender" "plan" "LCodeRooms$Plan;") (by decide +kernel)
  have hL15 : FL RX2 15 (TX2 0).1 (TX2 0).2.1 (TX2 0).2.2.1 ([.ref (gA Λ 18 0), .ref (gA Λ 8 r)] : List Value).toArray s := Or.inl hM15
  have hL22 : FL RX2 22 (TX4 5).1 (TX4 5).2.1 (TX4 5).2.2.1 ([.ref (gA Λ 18 0), .ref (gA Λ 8 r)] : List Value).toArray s := Or.inr ⟨_, Ex.nestF C.2.2.2.2.2.2 nf_X2_22⟩
  have hL28 : FL RX2 28 (TX4 1).1 (TX4 1).2.1 (TX4 1).2.2.1 ([.ref (gA Λ 18 0), .ref (gA Λ 8 r)] : List Value).toArray s := Or.inr ⟨_, Ex.nestF C.2.2.2.2.2.2 nf_X2_28⟩
  have hL49 : FL RX2 49 (TX5 11).1 (TX5 11).2.1 (TX5 11).2.2.1 ([.ref (gA Λ 18 0), .ref (gA Λ 8 r)] : List Value).toArray s := Or.inr ⟨_, Ex.nestF C.2.2.2.2.2.2 nf_X2_49⟩
  have hL64 : FL RX2 64 (TX5 6).1 (TX5 6).2.1 (TX5 6).2.2.1 ([.ref (gA Λ 18 0), .ref (gA Λ 8 r)] : List Value).toArray s := Or.inr ⟨_, Ex.nestF C.2.2.2.2.2.2 nf_X2_64⟩
  have hL68 : FL RX2 68 (TX5 10).1 (TX5 10).2.1 (TX5 10).2.2.1 ([.ref (gA Λ 18 0), .ref (gA Λ 8 r)] : List Value).toArray s := Or.inr ⟨_, Ex.nestF C.2.2.2.2.2.2 nf_X2_68⟩
  have hC71 : (Jvm.Cond.constantLong RX2 71 1000000).before ([.ref (gA Λ 18 0), .ref (gA Λ 8 r)] : List Value).toArray s = true := hts _ (by decide +kernel)
  have hn : M 31 5 ≤ 40 := hB 31 5 rfl
  have hhc0 := hcN_le M
  refine j_iconst C (nI 0) dX2_weighPulls_0 (by decide) ?_
  refine j_istore_n C [(2, .int (nI 0)), (0, .ref (gA Λ 18 0)), (1, .ref (gA Λ 8 r))] dX2_weighPulls_1 rfl (by decide) rfl ?_
  have lb2 : ∀ (fu : Nat) (σ1 : HS) (i : Nat), (6 - i) < fu → (i ≤ 6) → (GM σ σ1) → (∀ room, room < i → gJ σ1 13 r room = zL (fxZ M r room)) → (PX σ σ1 r ∧ gI σ1 = gI σ ∧ gV σ1 = gV σ) → J p l e ({ frames := 8, cells := 0, slots := 0, locals := 120 }) s m ([.ref (gA Λ 18 0), .ref (gA Λ 8 r)] : List Value).toArray below meth c 4 D cy base (MQ below (va_Qv (fun u => GM σ u ∧ PP u M r ∧ PX σ u r ∧ gI u = gI σ ∧ gV u = gV σ) (Wd D cy base Λ) (Ab base)) ([.ref (gA Λ 18 0), .ref (gA Λ 8 r)] : List Value).toArray s 0 0 (Ab base)) 0 0 Λ 2 [(0, .ref (gA Λ 18 0)), (1, .ref (gA Λ 8 r)), (2, .int (nI i))] [] σ1 := by
    intro fu
    induction fu with
    | zero => intro σ1 i hfu; exact absurd hfu (Nat.not_lt_zero _)
    | succ fu ih =>
      intro σ1 i hfu hi hG hz hq
      have ih2 := ih
      refine j_iload_n C dX2_weighPulls_2 rfl 2 rfl ?_
      refine j_bipush C (nI 6) dX2_weighPulls_3 (by decide) ?_
      refine j_icmp_ge (tgt := 35) C dX2_weighPulls_5 (by decide) (nI_leI (by omega) (by omega)) (fun h5 => ?_) (fun h5 => ?_)
      · refine j_iconst C (nI 0) dX2_weighPulls_35 (by decide) ?_
        refine j_istore_n C [(2, .int (nI 0)), (0, .ref (gA Λ 18 0)), (1, .ref (gA Λ 8 r))] dX2_weighPulls_36 rfl (by decide) rfl ?_
        have lb37 : ∀ (fu : Nat) (σ2 : HS) (k : Nat), (hcN M - k) < fu → (k ≤ hcN M) → (GM σ σ2) → (∀ room, room < 6 → gJ σ2 13 r room = zL (fxZ M r room + zsm (pulH M r room) k)) → (PX σ σ2 r ∧ gI σ2 = gI σ ∧ gV σ2 = gV σ) → J p l e ({ frames := 8, cells := 0, slots := 0, locals := 120 }) s m ([.ref (gA Λ 18 0), .ref (gA Λ 8 r)] : List Value).toArray below meth c 4 D cy base (MQ below (va_Qv (fun u => GM σ u ∧ PP u M r ∧ PX σ u r ∧ gI u = gI σ ∧ gV u = gV σ) (Wd D cy base Λ) (Ab base)) ([.ref (gA Λ 18 0), .ref (gA Λ 8 r)] : List Value).toArray s 0 0 (Ab base)) 0 0 Λ 37 [(0, .ref (gA Λ 18 0)), (1, .ref (gA Λ 8 r)), (2, .int (nI k))] [] σ2 := by
          intro fu
          induction fu with
          | zero => intro σ2 k hfu; exact absurd hfu (Nat.not_lt_zero _)
          | succ fu ih =>
            intro σ2 k hfu hk hG2 hm hq2
            have ih37 := ih
            refine j_iload_n C dX2_weighPulls_37 rfl 2 rfl ?_
            refine j_aload_n C dX2_weighPulls_38 rfl 0 rfl ?_
            refine j_getV C hwX2 18 0 0 (CR.n1 (hG2.cr hC) (by decide)) rfl rfl (by decide) rfl 0 (CR.v (hG2.cr hC) 18 0 0 ⟨rfl, by decide⟩ id) hL15 dX2_weighPulls_39 ?_
            have hhc42 := hcN_le M
            refine j_getI C hwX4 3 0 5 (CR.n1 (hG2.cr hC) (by decide)) rfl rfl (by decide) rfl (nI (hcN M)) (CR.i (hG2.cr hC) 3 0 5 ⟨rfl, Or.inr rfl⟩ id) hL22 dX2_weighPulls_42 ?_
            refine j_icmp_ge (tgt := 87) C dX2_weighPulls_45 (by decide) (nI_leI (by omega) (by omega)) (fun h45 => ?_) (fun h45 => ?_)
            · exact j_vret C hr hlk (⟨hG2, fun room hr => by rw [hm room hr, show k = hcN M by omega]; rfl, hq2⟩) dX2_weighPulls_87
            · refine j_aload_n C dX2_weighPulls_48 rfl 0 rfl ?_
              refine j_getV C hwX2 18 0 0 (CR.n1 (hG2.cr hC) (by decide)) rfl rfl (by decide) rfl 0 (CR.v (hG2.cr hC) 18 0 0 ⟨rfl, by decide⟩ id) hL15 dX2_weighPulls_49 ?_
              refine j_getV C hwX4 3 0 1 (CR.n1 (hG2.cr hC) (by decide)) rfl rfl (by decide) rfl 0 (CR.v (hG2.cr hC) 3 0 1 ⟨rfl, by decide⟩ id) hL28 dX2_weighPulls_52 ?_
              refine j_iload_n C dX2_weighPulls_55 rfl 2 rfl ?_
              have hhs56 := hs_lt (M := M) (k := k) (by omega)
              have hhn56 := hs_nh (M := M) (k := k) (by omega)
              refine j_aald C 5 0 k (CR.n1 (hG2.cr hC) (by decide)) rfl (by decide) (by decide) 40 (CR.l1 (hG2.cr hC) (by decide)) (by omega) (by omega) (hs M k) (CR.v (hG2.cr hC) 5 0 k ⟨rfl, by omega⟩ id) dX2_weighPulls_56 ?_
              refine j_astore_n C [(3, .ref (gA Λ 8 (hs M k))), (0, .ref (gA Λ 18 0)), (1, .ref (gA Λ 8 r)), (2, .int (nI k))] dX2_weighPulls_57 rfl (by decide) rfl ?_
              refine j_aload_n C dX2_weighPulls_58 rfl 0 rfl ?_
              refine j_aload_n C dX2_weighPulls_59 rfl 2 rfl ?_
              refine j_acmp_eq (tgt := 81) C 8 (hs M k) r (CR.n8 (hG2.cr hC) (by decide) (show hs M k < M 31 5 by omega)) (CR.n8 (hG2.cr hC) (by decide) (show r < M 31 5 by omega)) dX2_weighPulls_60 (by decide) (fun h60 => ?_) (fun h60 => ?_)
              · refine j_iinc C [(2, .int (nI (k + 1))), (3, .ref (gA Λ 8 (hs M k))), (0, .ref (gA Λ 18 0)), (1, .ref (gA Λ 8 r))] (nI (k + 1)) dX2_weighPulls_81 3 rfl (nI_add _ 1) (by decide) rfl ?_
                refine j_goto (tgt := 37) C dX2_weighPulls_84 (by decide) ?_
                refine j_lv [2, 3, 0] rfl ?_
                exact ih37 σ2 (k + 1) (by omega) (by omega) hG2 (fun room hr => by rw [zsm_succ]; show _ = zL (_ + (_ + (if _ then _ else _))); rw [if_neg (fun z => z.1 h60), Int.add_zero]; exact hm room hr) hq2
              · refine j_aload_n C dX2_weighPulls_63 rfl 2 rfl ?_
                refine j_getV C hwX5 8 r 6 (CR.n8 (hG2.cr hC) (by decide) (show r < M 31 5 by omega)) rfl rfl (by decide) rfl r (CR.v (hG2.cr hC) 8 r 6 ⟨show r < M 31 5 by omega, by decide, by decide⟩ id) hL64 dX2_weighPulls_64 ?_
                refine j_aload_n C dX2_weighPulls_67 rfl 0 rfl ?_
                have hb68 : M 38 (hs M k) ≤ 5 := hB 38 (hs M k) (decide_eq_true (show hs M k < 40 by omega))
                refine j_getI C hwX5 8 (hs M k) 11 (CR.n8 (hG2.cr hC) (by decide) (show hs M k < M 31 5 by omega)) rfl rfl (by decide) rfl (nI (M 38 (hs M k))) (CR.i (hG2.cr hC) 8 (hs M k) 11 ⟨show hs M k < M 31 5 by omega, Or.inr (Or.inr (Or.inl rfl))⟩ id) hL49 dX2_weighPulls_68 ?_
                refine j_dup2 C dX2_weighPulls_71 rfl rfl ?_
                refine j_lald C 13 r (M 38 (hs M k)) (CR.n8 (hG2.cr hC) (by decide) (show r < M 31 5 by omega)) rfl rfl 6 (CR.l8 (hG2.cr hC) (show r < M 31 5 by omega)).2.2.2 (by omega) (by omega) (zL (fxZ M r (M 38 (hs M k)) + zsm (pulH M r (M 38 (hs M k))) k)) (hm _ (by omega)) dX2_weighPulls_72 ?_
                refine j_aload_n C dX2_weighPulls_73 rfl 2 rfl ?_
                refine j_aload_n C dX2_weighPulls_74 rfl 0 rfl ?_
                refine c_i0 C (r_V C 8 r [.ref (gA Λ 8 (hs M k))] (c_X5_pullOf l D cy base Λ σ2 M (hG2.cr hC) hB r (hs M k) (by omega) (by omega)) (cwV 1 hts gX2_weighPulls_X5_pullOf rfl rfl rfl (by decide +kernel) ⟨by decide, by decide⟩) (CR.n8 (hG2.cr hC) (by decide) (show r < M 31 5 by omega)) rfl rfl rfl rfl (Nat.le_of_ble_eq_true rfl) dX2_weighPulls_75 ⟨by decide, by decide⟩) (fun rv uu hp => ?_)
                rw [hp.1, hp.2]
                refine j_i2l C (zL (pulZ M r (hs M k))) dX2_weighPulls_78 (zI_zL (by have := pulZ_bd hB (a := r) (b := hs M k) (by omega) (by omega); omega) (by have := pulZ_bd hB (a := r) (b := hs M k) (by omega) (by omega); omega)) ?_
                refine j_ladd C (zL (fxZ M r (M 38 (hs M k)) + zsm (pulH M r (M 38 (hs M k))) k + pulZ M r (hs M k))) dX2_weighPulls_79 (zL_add _ _) ?_
                refine j_last C 13 r (M 38 (hs M k)) (CR.n8 (hG2.cr hC) (by decide) (show r < M 31 5 by omega)) rfl rfl 6 (CR.l8 (hG2.cr hC) (show r < M 31 5 by omega)).2.2.2 (by omega) (by omega) (zL (fxZ M r (M 38 (hs M k)) + zsm (pulH M r (M 38 (hs M k))) k + pulZ M r (hs M k))) rfl dX2_weighPulls_80 ?_
                refine j_iinc C [(2, .int (nI (k + 1))), (3, .ref (gA Λ 8 (hs M k))), (0, .ref (gA Λ 18 0)), (1, .ref (gA Λ 8 r))] (nI (k + 1)) dX2_weighPulls_81 3 rfl (nI_add _ 1) (by decide) rfl ?_
                refine j_goto (tgt := 37) C dX2_weighPulls_84 (by decide) ?_
                refine j_lv [2, 3, 0] rfl ?_
                exact ih37 (sJ σ2 13 r (M 38 (hs M k)) (zL (fxZ M r (M 38 (hs M k)) + zsm (pulH M r (M 38 (hs M k))) k + pulZ M r (hs M k)))) (k + 1) (by omega) (by omega) (hG2.j (Or.inl rfl)) (fun room hr => by rw [gJ_sJ, zsm_succ]; unfold pulH; by_cases e : room = M 38 (hs M k); rw [if_pos ⟨rfl, rfl, e⟩, if_pos ⟨h60, e.symm⟩, e]; congr 1; omega; rw [if_neg (fun z => e z.2.2), if_neg (fun z => e z.2.symm), Int.add_zero]; exact hm room hr) ⟨hq2.1.j, hq2.2⟩
        refine j_lv [1, 2, 0] rfl ?_
        exact lb37 _ σ1 0 (Nat.lt_succ_self _) (by omega) hG (fun room hr => by rw [show zsm (pulH M r room) 0 = 0 from rfl, Int.add_zero]; exact hz room (by omega)) hq
      · refine j_aload_n C dX2_weighPulls_8 rfl 1 rfl ?_
        refine j_getV C hwX5 8 r 6 (CR.n8 (hG.cr hC) (by decide) (show r < M 31 5 by omega)) rfl rfl (by decide) rfl r (CR.v (hG.cr hC) 8 r 6 ⟨show r < M 31 5 by omega, by decide, by decide⟩ id) hL64 dX2_weighPulls_9 ?_
        refine j_iload_n C dX2_weighPulls_12 rfl 2 rfl ?_
        refine j_aload_n C dX2_weighPulls_13 rfl 1 rfl ?_
        have hb14 : M 40 r ≤ 6 := hB 40 r (decide_eq_true (show r < 40 by omega))
        refine j_getI C hwX5 8 r 10 (CR.n8 (hG.cr hC) (by decide) (show r < M 31 5 by omega)) rfl rfl (by decide) rfl (nI (M 40 r) - 1) (CR.i (hG.cr hC) 8 r 10 ⟨show r < M 31 5 by omega, Or.inr (Or.inl rfl)⟩ id) hL68 dX2_weighPulls_14 ?_
        refine j_iload_n C dX2_weighPulls_17 rfl 2 rfl ?_
        refine j_icmp_ne (tgt := 27) C dX2_weighPulls_18 (by decide) (m1_eqb (by omega) (by omega)) (fun h18 => ?_) (fun h18 => ?_)
        · refine j_lconst C (zL 0) dX2_weighPulls_27 (by decide) ?_
          have lb28 : ∀ (y : Int64), (y = zL (fxZ M r i)) → J p l e ({ frames := 8, cells := 0, slots := 0, locals := 120 }) s m ([.ref (gA Λ 18 0), .ref (gA Λ 8 r)] : List Value).toArray below meth c 4 D cy base (MQ below (va_Qv (fun u => GM σ u ∧ PP u M r ∧ PX σ u r ∧ gI u = gI σ ∧ gV u = gV σ) (Wd D cy base Λ) (Ab base)) ([.ref (gA Λ 18 0), .ref (gA Λ 8 r)] : List Value).toArray s 0 0 (Ab base)) 0 0 Λ 28 [(0, .ref (gA Λ 18 0)), (1, .ref (gA Λ 8 r)), (2, .int (nI i))] [.long (y), .int (nI i), .ref (gA Λ 13 r)] σ1 := by
            intro y hy
            refine j_last C 13 r i (CR.n8 (hG.cr hC) (by decide) (show r < M 31 5 by omega)) rfl rfl 6 (CR.l8 (hG.cr hC) (show r < M 31 5 by omega)).2.2.2 (by omega) (by omega) (y) rfl dX2_weighPulls_28 ?_
            refine j_iinc C [(2, .int (nI (i + 1))), (0, .ref (gA Λ 18 0)), (1, .ref (gA Λ 8 r))] (nI (i + 1)) dX2_weighPulls_29 2 rfl (nI_add _ 1) (by decide) rfl ?_
            refine j_goto (tgt := 2) C dX2_weighPulls_32 (by decide) ?_
            refine j_lv [1, 2, 0] rfl ?_
            exact ih2 (sJ σ1 13 r i (y)) (i + 1) (by omega) (by omega) (hG.j (Or.inl rfl)) (fun room hr => by rw [gJ_sJ]; by_cases e : room = i; rw [if_pos ⟨rfl, rfl, e⟩, hy, e]; rw [if_neg (fun z => e z.2.2)]; exact hz room (by omega)) ⟨hq.1.j, hq.2⟩
          exact lb28 (zL 0) (by unfold fxZ; rw [if_neg (by omega)])
        · refine j_ldc2 C (zL 1000000) hC71 dX2_weighPulls_21 (by decide) ?_
          refine j_goto (tgt := 28) C dX2_weighPulls_24 (by decide) ?_
          have lb28 : ∀ (y : Int64), (y = zL (fxZ M r i)) → J p l e ({ frames := 8, cells := 0, slots := 0, locals := 120 }) s m ([.ref (gA Λ 18 0), .ref (gA Λ 8 r)] : List Value).toArray below meth c 4 D cy base (MQ below (va_Qv (fun u => GM σ u ∧ PP u M r ∧ PX σ u r ∧ gI u = gI σ ∧ gV u = gV σ) (Wd D cy base Λ) (Ab base)) ([.ref (gA Λ 18 0), .ref (gA Λ 8 r)] : List Value).toArray s 0 0 (Ab base)) 0 0 Λ 28 [(0, .ref (gA Λ 18 0)), (1, .ref (gA Λ 8 r)), (2, .int (nI i))] [.long (y), .int (nI i), .ref (gA Λ 13 r)] σ1 := by
            intro y hy
            refine j_last C 13 r i (CR.n8 (hG.cr hC) (by decide) (show r < M 31 5 by omega)) rfl rfl 6 (CR.l8 (hG.cr hC) (show r < M 31 5 by omega)).2.2.2 (by omega) (by omega) (y) rfl dX2_weighPulls_28 ?_
            refine j_iinc C [(2, .int (nI (i + 1))), (0, .ref (gA Λ 18 0)), (1, .ref (gA Λ 8 r))] (nI (i + 1)) dX2_weighPulls_29 2 rfl (nI_add _ 1) (by decide) rfl ?_
            refine j_goto (tgt := 2) C dX2_weighPulls_32 (by decide) ?_
            refine j_lv [1, 2, 0] rfl ?_
            exact ih2 (sJ σ1 13 r i (y)) (i + 1) (by omega) (by omega) (hG.j (Or.inl rfl)) (fun room hr => by rw [gJ_sJ]; by_cases e : room = i; rw [if_pos ⟨rfl, rfl, e⟩, hy, e]; rw [if_neg (fun z => e z.2.2)]; exact hz room (by omega)) ⟨hq.1.j, hq.2⟩
          exact lb28 (zL 1000000) (by unfold fxZ; rw [if_pos (by omega)])
  refine j_lv [1, 2, 0] rfl ?_
  exact lb2 _ σ 0 (Nat.lt_succ_self _) (by omega) GM.rf (fun room hr => absurd hr (Nat.not_lt_zero _)) ⟨fun _ _ => rfl, rfl, rfl⟩
