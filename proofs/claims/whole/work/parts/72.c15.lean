abbrev ex28 : Nat → Nat → Nat → Prop := fun t _ k => t = 28 ∨ (t = 27 ∧ k = 2)
abbrev nKe : Nat → Prop := fun t => t ≠ 27 ∧ t ≠ 28
def kq (M : MM) (i r : Nat) : Nat := if r < M 31 5 ∧ M 37 r = 0 ∧ rkN M r < i then M 38 r + 1 else 0
theorem kq_0 {M : MM} {r : Nat} : kq M 0 r = 0 := if_neg (fun z => absurd z.2.2 (Nat.not_lt_zero _))
theorem kq_hs {M : MM} {i : Nat} (hi : i < hcN M) : kq M (i + 1) (hs M i) = M 38 (hs M i) + 1 := if_pos ⟨hs_lt hi, hs_nh hi, by rw [hs_rk hi]; omega⟩
theorem kq_ne {M : MM} {i r : Nat} (hi : i < hcN M) (h : r ≠ hs M i) : kq M (i + 1) r = kq M i r := by
  unfold kq
  by_cases e : r < M 31 5 ∧ M 37 r = 0 ∧ rkN M r < i
  · rw [if_pos e, if_pos ⟨e.1, e.2.1, by omega⟩]
  · rw [if_neg e, if_neg]
    rintro ⟨h1, h2, h3⟩
    have : rkN M r = i := by
      by_cases e2 : rkN M r < i
      · exact absurd ⟨h1, h2, e2⟩ e
      · omega
    exact h (by rw [← this, hs_of h1 h2])
theorem kq_all {M : MM} {r : Nat} : kq M (hcN M) r = kpV M r := by
  unfold kq kpV
  by_cases e : r < M 31 5 ∧ M 37 r = 0
  · rw [if_pos e, if_pos ⟨e.1, e.2, rk_lt e.1 e.2⟩]
  · rw [if_neg e, if_neg (fun z => e ⟨z.1, z.2.1⟩)]
theorem kp_ct {M : MM} (hn : M 31 5 ≤ 40) : fb_ct (fun r => decide (kpV M r ≠ 0)) 40 = hcN M := by
  rw [show 40 = M 31 5 + (40 - M 31 5) by omega, fb_ct_split, fb_ct_skip (n := 40 - M 31 5) (fun k _ => by unfold kpV; rw [if_neg (by omega)]; rfl), Nat.add_zero]
  unfold hcN rkN
  refine fb_ct_cong (fun r hr => ?_)
  unfold kpV
  by_cases e : M 37 r = 0
  · rw [if_pos ⟨hr, e⟩]; simp [e]
  · rw [if_neg (fun z => e z.2)]; simp [e]
theorem CR.kept {Λ : LY} {σ : HS} {M : MM} (h : CR ex28 Λ σ M) (h1 : ∀ k, k < 40 → gI σ 28 0 k = nI (kpV M k) - 1) (h2 : gI σ 27 0 2 = nI 1) : CR noEx Λ (σ) (kpTo M 40) := by
  refine ⟨h.1, h.2.1, fun t i k ho he => ?_, fun t i k ho he => ?_, fun t i k ho he => ?_⟩
  · rcases okI_dom ho with rfl | rfl | rfl | rfl | rfl | rfl | rfl | rfl | rfl | rfl | rfl
    · exact CR.i h 1 i k ho (fun z => z.elim (by decide) (fun q => absurd q.1 (by decide)))
    · exact CR.i h 2 i k ho (fun z => z.elim (by decide) (fun q => absurd q.1 (by decide)))
    · exact CR.i h 3 i k ho (fun z => z.elim (by decide) (fun q => absurd q.1 (by decide)))
    · have hk : k < 6 := ho.2
      have e1 : (kpTo M 40) 36 k = M 36 k := rfl
      have e2 : (kpTo M 40) 31 (k + 5) = M 31 (k + 5) := kpTo_31 (by omega)
      refine Eq.trans (CR.i h 6 i k ho (fun z => z.elim (by decide) (fun q => absurd q.1 (by decide)))) ?_
      show nI (stg M k) = nI (stg (kpTo M 40) k)
      unfold stg
      rw [e1, e2]
    · exact CR.i h 8 i k ho (fun z => z.elim (by decide) (fun q => absurd q.1 (by decide)))
    · exact CR.i h 10 i k ho (fun z => z.elim (by decide) (fun q => absurd q.1 (by decide)))
    · exact CR.i h 11 i k ho (fun z => z.elim (by decide) (fun q => absurd q.1 (by decide)))
    · exact CR.i h 12 i k ho (fun z => z.elim (by decide) (fun q => absurd q.1 (by decide)))
    · exact CR.i h 25 i k ho (fun z => z.elim (by decide) (fun q => absurd q.1 (by decide)))
    · obtain ⟨rfl, rfl⟩ := ho
      exact h2
    · obtain ⟨rfl, hk⟩ := ho
      refine (h1 k hk).trans ?_
      show _ = nI ((kpTo M 40) 47 k) - 1
      unfold kpTo
      rw [if_pos ⟨rfl, hk⟩]
  · rcases okJ_dom ho with rfl | rfl
    · exact CR.j h 8 i k ho (fun z => z.elim (by decide) (fun q => absurd q.1 (by decide)))
    · exact CR.j h 26 i k ho (fun z => z.elim (by decide) (fun q => absurd q.1 (by decide)))
  · rcases okV_dom ho with rfl | rfl | rfl | rfl | rfl | rfl | rfl | rfl | rfl | rfl | rfl | rfl | rfl
    · exact CR.v h 0 i k ho (fun z => z.elim (by decide) (fun q => absurd q.1 (by decide)))
    · exact CR.v h 3 i k ho (fun z => z.elim (by decide) (fun q => absurd q.1 (by decide)))
    · exact CR.v h 4 i k ho (fun z => z.elim (by decide) (fun q => absurd q.1 (by decide)))
    · have e1 := hcN_congr (M := M) (M2 := kpTo M 40) (kpTo_nk (by decide) (by decide)) (kpTo_31 (by decide))
      have e2 : hs _ k = hs M k := hs_congr (M := M) (M2 := kpTo M 40) (kpTo_nk (by decide) (by decide)) (kpTo_31 (by decide))
      refine (CR.v h 5 i k ⟨ho.1, by rw [← e1]; exact ho.2⟩ (fun z => z.elim (by decide) (fun q => absurd q.1 (by decide)))).trans ?_
      show some (hs M k) = some (hs _ k)
      rw [e2]
    · exact CR.v h 8 i k ho (fun z => z.elim (by decide) (fun q => absurd q.1 (by decide)))
    · exact CR.v h 9 i k ho (fun z => z.elim (by decide) (fun q => absurd q.1 (by decide)))
    · exact CR.v h 14 i k ho (fun z => z.elim (by decide) (fun q => absurd q.1 (by decide)))
    · exact CR.v h 18 i k ho (fun z => z.elim (by decide) (fun q => absurd q.1 (by decide)))
    · exact CR.v h 20 i k ho (fun z => z.elim (by decide) (fun q => absurd q.1 (by decide)))
    · exact CR.v h 23 i k ho (fun z => z.elim (by decide) (fun q => absurd q.1 (by decide)))
    · exact CR.v h 25 i k ho (fun z => z.elim (by decide) (fun q => absurd q.1 (by decide)))
    · exact CR.v h 27 i k ho (fun z => z.elim (by decide) (fun q => by have := ho.2; omega))
    · exact CR.v h 29 i k ho (fun z => z.elim (by decide) (fun q => absurd q.1 (by decide)))
set_option maxHeartbeats 4000000 in
set_option maxRecDepth 100000 in
theorem c_X1_hold (l : Launch) (D : va_G) (cy : Nat → ClassId) (base : Nat) (Λ : LY) (σ : HS) (M : MM) (hC : CR noEx Λ σ M) (hB : MBd M) : Met l yX1_hold wsX1_hold ({ frames := 4, cells := 0, slots := 0, locals := 60 }) (va_Pc [.ref (gA Λ 27 0), .ref (gA Λ 3 0)] (Wd D cy base Λ σ)) (va_Qi (fun v u => v = nI (hcN M) ∧ CR noEx Λ u (kpTo M 40) ∧ Same nKe σ u) (Wd D cy base Λ) (Ab base)) 0 0 (Ab base) := by
  refine j_start (cc := cX1_hold) (nL := 3) (ret := (some .int)) (lv := [(0, .ref (gA Λ 27 0)), (1, .ref (gA Λ 3 0))]) (by decide) rfl (Nat.le_of_ble_eq_true rfl) rfl ?_
  intro p e s m below meth c C hr hlk hnm
  have C : Cx p s m ([.ref (gA Λ 27 0), .ref (gA Λ 3 0)] : List Value).toArray c cX1_hold 3 RX1 wsX1_hold D cy base := C
  have hts := C.2.2.2.2.1
  have hwX1 : ∀ w ∈ u_ws RX1 TX1 3, w ∈ wsX1_hold := by decide +kernel
  have hwX4 : ∀ w ∈ u_ws RX4 TX4 6, w ∈ wsX1_hold := by decide +kernel
  have hwX5 : ∀ w ∈ u_ws RX5 TX5 13, w ∈ wsX1_hold := by decide +kernel
  have hM9 : (Cond.fieldLink RX1 9 (TX1 0).1 (TX1 0).2.1 (TX1 0).2.2.1).before ([.ref (gA Λ 27 0), .ref (gA Λ 3 0)] : List Value).toArray s = true := hts (.fieldLink RX1 9 "CodeRooms$Kept" "places" "[I") (by decide +kernel)
  have hL9 : FL RX1 9 (TX1 0).1 (TX1 0).2.1 (TX1 0).2.2.1 ([.ref (gA Λ 27 0), .ref (gA Λ 3 0)] : List Value).toArray s := Or.inl hM9
  have hL20 : FL RX1 20 (TX4 5).1 (TX4 5).2.1 (TX4 5).2.2.1 ([.ref (gA Λ 27 0), .ref (gA Λ 3 0)] : List Value).toArray s := Or.inr ⟨_, Ex.nestF C.2.2.2.2.2.2 nf_X1_20⟩
  have hL26 : FL RX1 26 (TX4 1).1 (TX4 1).2.1 (TX4 1).2.2.1 ([.ref (gA Λ 27 0), .ref (gA Λ 3 0)] : List Value).toArray s := Or.inr ⟨_, Ex.nestF C.2.2.2.2.2.2 nf_X1_26⟩
  have hL30 : FL RX1 30 (TX5 0).1 (TX5 0).2.1 (TX5 0).2.2.1 ([.ref (gA Λ 27 0), .ref (gA Λ 3 0)] : List Value).toArray s := Or.inr ⟨_, Ex.nestF C.2.2.2.2.2.2 nf_X1_30⟩
  have hL35 : FL RX1 35 (TX5 11).1 (TX5 11).2.1 (TX5 11).2.2.1 ([.ref (gA Λ 27 0), .ref (gA Λ 3 0)] : List Value).toArray s := Or.inr ⟨_, Ex.nestF C.2.2.2.2.2.2 nf_X1_35⟩
  have hM38 : (Cond.fieldLink RX1 38 (TX1 2).1 (TX1 2).2.1 (TX1 2).2.2.1).before ([.ref (gA Λ 27 0), .ref (gA Λ 3 0)] : List Value).toArray s = true := hts (.fieldLink RX1 38 "CodeRooms$Kept" "isHeld" "Z") (by decide +kernel)
  have hL38 : FL RX1 38 (TX1 2).1 (TX1 2).2.1 (TX1 2).2.2.1 ([.ref (gA Λ 27 0), .ref (gA Λ 3 0)] : List Value).toArray s := Or.inl hM38
  have hn : M 31 5 ≤ 40 := hB 31 5 rfl
  have hhc0 := hcN_le M
  have hC0 : CR ex28 Λ σ M := CR.weak hC (fun _ _ _ z => z.elim)
  refine j_iconst C (nI 0) dX1_hold_0 (by decide) ?_
  refine j_istore_n C [(2, .int (nI 0)), (0, .ref (gA Λ 27 0)), (1, .ref (gA Λ 3 0))] dX1_hold_1 rfl (by decide) rfl ?_
  have lb2 : ∀ (fu : Nat) (σ1 : HS) (i : Nat), (40 - i) < fu → (i ≤ 40) → (CR ex28 Λ σ1 M) → (∀ r, r < i → gI σ1 28 0 r = nI 0 - 1) → (Same nKe σ σ1) → J p l e ({ frames := 4, cells := 0, slots := 0, locals := 60 }) s m ([.ref (gA Λ 27 0), .ref (gA Λ 3 0)] : List Value).toArray below meth c 3 D cy base (MQ below (va_Qi (fun v u => v = nI (hcN M) ∧ CR noEx Λ u (kpTo M 40) ∧ Same nKe σ u) (Wd D cy base Λ) (Ab base)) ([.ref (gA Λ 27 0), .ref (gA Λ 3 0)] : List Value).toArray s 0 0 (Ab base)) 0 0 Λ 2 [(0, .ref (gA Λ 27 0)), (1, .ref (gA Λ 3 0)), (2, .int (nI i))] [] σ1 := by
    intro fu
    induction fu with
    | zero => intro σ1 i hfu; exact absurd hfu (Nat.not_lt_zero _)
    | succ fu ih =>
      intro σ1 i hfu hi hC1 hz hs1
      have ih2 := ih
      refine j_iload_n C dX1_hold_2 rfl 2 rfl ?_
      refine j_bipush C (nI 40) dX1_hold_3 (by decide) ?_
      refine j_icmp_ge (tgt := 21) C dX1_hold_5 (by decide) (nI_leI (by omega) (by omega)) (fun h5 => ?_) (fun h5 => ?_)
      · refine j_iconst C (nI 0) dX1_hold_21 (by decide) ?_
        refine j_istore_n C [(2, .int (nI 0)), (0, .ref (gA Λ 27 0)), (1, .ref (gA Λ 3 0))] dX1_hold_22 rfl (by decide) rfl ?_
        have lb23 : ∀ (fu : Nat) (σ2 : HS) (k : Nat), (hcN M - k) < fu → (k ≤ hcN M) → (CR ex28 Λ σ2 M) → (∀ r, r < 40 → gI σ2 28 0 r = nI (kq M k r) - 1) → (Same nKe σ σ2) → J p l e ({ frames := 4, cells := 0, slots := 0, locals := 60 }) s m ([.ref (gA Λ 27 0), .ref (gA Λ 3 0)] : List Value).toArray below meth c 3 D cy base (MQ below (va_Qi (fun v u => v = nI (hcN M) ∧ CR noEx Λ u (kpTo M 40) ∧ Same nKe σ u) (Wd D cy base Λ) (Ab base)) ([.ref (gA Λ 27 0), .ref (gA Λ 3 0)] : List Value).toArray s 0 0 (Ab base)) 0 0 Λ 23 [(0, .ref (gA Λ 27 0)), (1, .ref (gA Λ 3 0)), (2, .int (nI k))] [] σ2 := by
          intro fu
          induction fu with
          | zero => intro σ2 k hfu; exact absurd hfu (Nat.not_lt_zero _)
          | succ fu ih =>
            intro σ2 k hfu hk hC2 hm hs2
            have ih23 := ih
            refine j_iload_n C dX1_hold_23 rfl 2 rfl ?_
            refine j_aload_n C dX1_hold_24 rfl 1 rfl ?_
            have hhc25 := hcN_le M
            refine j_getI C hwX4 3 0 5 (CR.n1 hC2 (by decide)) rfl rfl (by decide) rfl (nI (hcN M)) (CR.i hC2 3 0 5 ⟨rfl, Or.inr rfl⟩ (fun z => z.elim (by decide) (fun q => absurd q.1 (by decide)))) hL20 dX1_hold_25 ?_
            refine j_icmp_ge (tgt := 60) C dX1_hold_28 (by decide) (nI_leI (by omega) (by omega)) (fun h28 => ?_) (fun h28 => ?_)
            · refine j_aload_n C dX1_hold_60 rfl 0 rfl ?_
              refine j_iconst C (nI 1) dX1_hold_61 (by decide) ?_
              refine j_putI C hwX1 27 0 2 (CR.n1 hC2 (by decide)) rfl rfl (by decide) rfl tyX1 tyX1_ok nmX1 rfl (by first | rfl | exact nz_b _) (by first | rfl | exact fz_b _) hL38 dX1_hold_62 ?_
              have hC_5 := CR.wI (t := 27) (i := 0) (k := 2) (x := nI 1) hC2 (Or.inl (Or.inr ⟨rfl, rfl⟩))
              have hs_6 := Same.sI (t := 27) (i := 0) (k := 2) (x := nI 1) hs2 (by decide)
              refine j_aload_n C dX1_hold_65 rfl 1 rfl ?_
              have hhc66 := hcN_le M
              refine j_getI C hwX4 3 0 5 (CR.n1 hC_5 (by decide)) rfl rfl (by decide) rfl (nI (hcN M)) (CR.i hC_5 3 0 5 ⟨rfl, Or.inr rfl⟩ (fun z => z.elim (by decide) (fun q => absurd q.1 (by decide)))) hL20 dX1_hold_66 ?_
              exact j_iret C hr hlk (⟨rfl, CR.kept hC_5 (fun r hr => by rw [gI_sI, if_neg (by omega), hm r hr, show k = hcN M by omega, kq_all]) (gI_same _ _ _ _ _), hs_6⟩) dX1_hold_69
            · refine j_aload_n C dX1_hold_31 rfl 0 rfl ?_
              refine j_getV C hwX1 27 0 0 (CR.n1 hC2 (by decide)) rfl rfl (by decide) rfl 0 (CR.v hC2 27 0 0 ⟨rfl, by decide⟩ (fun z => z.elim (by decide) (fun q => absurd q.2 (by decide)))) hL9 dX1_hold_32 ?_
              refine j_aload_n C dX1_hold_35 rfl 1 rfl ?_
              refine j_getV C hwX4 3 0 1 (CR.n1 hC2 (by decide)) rfl rfl (by decide) rfl 0 (CR.v hC2 3 0 1 ⟨rfl, by decide⟩ (fun z => z.elim (by decide) (fun q => absurd q.1 (by decide)))) hL26 dX1_hold_36 ?_
              refine j_iload_n C dX1_hold_39 rfl 2 rfl ?_
              have hhs40 := hs_lt (M := M) (k := k) (by omega)
              have hhn40 := hs_nh (M := M) (k := k) (by omega)
              refine j_aald C 5 0 k (CR.n1 hC2 (by decide)) rfl (by decide) (by decide) 40 (CR.l1 hC2 (by decide)) (by omega) (by omega) (hs M k) (CR.v hC2 5 0 k ⟨rfl, by omega⟩ (fun z => z.elim (by decide) (fun q => absurd q.1 (by decide)))) dX1_hold_40 ?_
              refine j_getI C hwX5 8 (hs M k) 0 (CR.n8 hC2 (by decide) (show hs M k < M 31 5 by omega)) rfl rfl (by decide) rfl (nI (hs M k)) (CR.i hC2 8 (hs M k) 0 ⟨show hs M k < M 31 5 by omega, Or.inl rfl⟩ (fun z => z.elim (by decide) (fun q => absurd q.1 (by decide)))) hL30 dX1_hold_41 ?_
              refine j_aload_n C dX1_hold_44 rfl 1 rfl ?_
              refine j_getV C hwX4 3 0 1 (CR.n1 hC2 (by decide)) rfl rfl (by decide) rfl 0 (CR.v hC2 3 0 1 ⟨rfl, by decide⟩ (fun z => z.elim (by decide) (fun q => absurd q.1 (by decide)))) hL26 dX1_hold_45 ?_
              refine j_iload_n C dX1_hold_48 rfl 2 rfl ?_
              have hhs49 := hs_lt (M := M) (k := k) (by omega)
              have hhn49 := hs_nh (M := M) (k := k) (by omega)
              refine j_aald C 5 0 k (CR.n1 hC2 (by decide)) rfl (by decide) (by decide) 40 (CR.l1 hC2 (by decide)) (by omega) (by omega) (hs M k) (CR.v hC2 5 0 k ⟨rfl, by omega⟩ (fun z => z.elim (by decide) (fun q => absurd q.1 (by decide)))) dX1_hold_49 ?_
              have hb50 : M 38 (hs M k) ≤ 5 := hB 38 (hs M k) (decide_eq_true (show hs M k < 40 by omega))
              refine j_getI C hwX5 8 (hs M k) 11 (CR.n8 hC2 (by decide) (show hs M k < M 31 5 by omega)) rfl rfl (by decide) rfl (nI (M 38 (hs M k))) (CR.i hC2 8 (hs M k) 11 ⟨show hs M k < M 31 5 by omega, Or.inr (Or.inr (Or.inl rfl))⟩ (fun z => z.elim (by decide) (fun q => absurd q.1 (by decide)))) hL35 dX1_hold_50 ?_
              refine j_iast C 28 0 (hs M k) (CR.n1 hC2 (by decide)) rfl rfl 40 (CR.l1 hC2 (by decide)) (by omega) (by omega) (nI (M 38 (hs M k))) rfl dX1_hold_53 ?_
              have hC_7 := CR.wI (t := 28) (i := 0) (k := (hs M k)) (x := nI (M 38 (hs M k))) hC2 (Or.inl (Or.inl rfl))
              have hs_8 := Same.sI (t := 28) (i := 0) (k := (hs M k)) (x := nI (M 38 (hs M k))) hs2 (by decide)
              refine j_iinc C [(2, .int (nI (k + 1))), (0, .ref (gA Λ 27 0)), (1, .ref (gA Λ 3 0))] (nI (k + 1)) dX1_hold_54 2 rfl (nI_add _ 1) (by decide) rfl ?_
              refine j_goto (tgt := 23) C dX1_hold_57 (by decide) ?_
              refine j_lv [1, 2, 0] rfl ?_
              exact ih23 (sI σ2 28 0 (hs M k) (nI (M 38 (hs M k)))) (k + 1) (by omega) (by omega) hC_7 (fun r hr => by rw [gI_sI]; by_cases e : r = hs M k; rw [if_pos ⟨rfl, rfl, e⟩, e, kq_hs (by omega)]; exact (nI_pred _).symm; rw [if_neg (fun z => e z.2.2), kq_ne (by omega) e]; exact hm r hr) hs_8
        refine j_lv [1, 2, 0] rfl ?_
        exact lb23 _ σ1 0 (Nat.lt_succ_self _) (by omega) hC1 (fun r hr => by rw [kq_0]; exact hz r (by omega)) hs1
      · refine j_aload_n C dX1_hold_8 rfl 0 rfl ?_
        refine j_getV C hwX1 27 0 0 (CR.n1 hC1 (by decide)) rfl rfl (by decide) rfl 0 (CR.v hC1 27 0 0 ⟨rfl, by decide⟩ (fun z => z.elim (by decide) (fun q => absurd q.2 (by decide)))) hL9 dX1_hold_9 ?_
        refine j_iload_n C dX1_hold_12 rfl 2 rfl ?_
        refine j_iconst C ((-1)) dX1_hold_13 (by decide) ?_
        refine j_iast C 28 0 i (CR.n1 hC1 (by decide)) rfl rfl 40 (CR.l1 hC1 (by decide)) (by omega) (by omega) ((-1)) rfl dX1_hold_14 ?_
        have hC_9 := CR.wI (t := 28) (i := 0) (k := i) (x := (-1)) hC1 (Or.inl (Or.inl rfl))
        have hs_10 := Same.sI (t := 28) (i := 0) (k := i) (x := (-1)) hs1 (by decide)
        refine j_iinc C [(2, .int (nI (i + 1))), (0, .ref (gA Λ 27 0)), (1, .ref (gA Λ 3 0))] (nI (i + 1)) dX1_hold_15 2 rfl (nI_add _ 1) (by decide) rfl ?_
        refine j_goto (tgt := 2) C dX1_hold_18 (by decide) ?_
        refine j_lv [1, 2, 0] rfl ?_
        exact ih2 (sI σ1 28 0 i ((-1))) (i + 1) (by omega) (by omega) hC_9 (fun r hr => by rw [gI_sI]; by_cases e : r = i; rw [if_pos ⟨rfl, rfl, e⟩]; exact m1_0.symm; rw [if_neg (fun z => e z.2.2)]; exact hz r (by omega)) hs_10
  refine j_lv [1, 2, 0] rfl ?_
  exact lb2 _ σ 0 (Nat.lt_succ_self _) (by omega) hC0 (fun r hr => absurd hr (Nat.not_lt_zero _)) Same.rf

def GK (σ u : HS) : Prop := (∀ t, t ≠ 30 → gI u t = gI σ t) ∧ gJ u = gJ σ ∧ gV u = gV σ
theorem GK.s {σ u : HS} {i k : Nat} {x : Int32} (h : GK σ u) : GK σ (sI u 30 i k x) := ⟨fun t ht => by rw [gI_nk ht]; exact h.1 t ht, h.2⟩
theorem GK.cr {Λ : LY} {σ u : HS} {M : MM} (h : GK σ u) (hC : CR noEx Λ σ M) : CR noEx Λ u M := by
  refine ⟨hC.1, by rw [h.2.2]; exact hC.2.1, fun t i k ho he => ?_, by rw [h.2.1]; exact hC.2.2.2.1, by rw [h.2.2]; exact hC.2.2.2.2⟩
  rw [h.1 t (by intro e; subst e; exact ho.elim)]; exact hC.i t i k ho he
theorem GK.same {σ u : HS} (h : GK σ u) : Same nCo σ u := fun t ht => ⟨h.1 t (by intro e; subst e; exact absurd ht (by decide)), by rw [h.2.1], by rw [h.2.2]⟩
theorem GK.rf {σ : HS} : GK σ σ := ⟨fun _ _ => rfl, rfl, rfl⟩
theorem tg_hs {M : MM} {x : Nat} : fb_ct (tgP M x) (M 31 5) = fb_ct (fun k => tgP M x (hs M k)) (hcN M) := by
  refine Eq.trans ?_ (ct_hs (M := M) (tgP M x) (n := M 31 5) (Nat.le_refl _))
  refine fb_ct_cong (fun r _ => ?_)
  unfold tgP
  by_cases e : M 37 r = 0 <;> simp [e]
theorem bo_hs {M : MM} : fb_ct (bothB M) (M 31 5) = fb_ct (fun k => bothB M (hs M k)) (hcN M) := by
  refine Eq.trans ?_ (ct_hs (M := M) (bothB M) (n := M 31 5) (Nat.le_refl _))
  refine fb_ct_cong (fun r _ => ?_)
  unfold bothB
  by_cases e : M 37 r = 0 <;> simp [e]
set_option maxHeartbeats 4000000 in
set_option maxRecDepth 100000 in
theorem c_X1_countPairs (l : Launch) (D : va_G) (cy : Nat → ClassId) (base : Nat) (Λ : LY) (σ : HS) (M : MM) (hC : CR noEx Λ σ M) (hB : MBd M) : Met l yX1_countPairs wsX1_countPairs ({ frames := 4, cells := 0, slots := 0, locals := 60 }) (va_Pc [.ref (gA Λ 27 0), .ref (gA Λ 3 0)] (Wd D cy base Λ σ)) (va_Qi (fun v u => v = nI (fb_ct (bothB M) (M 31 5)) ∧ GK σ u ∧ ∀ x y, x < 6 → y < 6 → gI u 30 x y = nI (fb_ct (tgP M (6 * x + y)) (M 31 5))) (Wd D cy base Λ) (Ab base)) 0 0 (Ab base) := by
  refine j_start (cc := cX1_countPairs) (nL := 5) (ret := (some .int)) (lv := [(0, .ref (gA Λ 27 0)), (1, .ref (gA Λ 3 0))]) (by decide) rfl (Nat.le_of_ble_eq_true rfl) rfl ?_
  intro p e s m below meth c C hr hlk hnm
  have C : Cx p s m ([.ref (gA Λ 27 0), .ref (gA Λ 3 0)] : List Value).toArray c cX1_countPairs 5 RX1 wsX1_countPairs D cy base := C
  have hts := C.2.2.2.2.1
  have hwX1 : ∀ w ∈ u_ws RX1 TX1 3, w ∈ wsX1_countPairs := by decide +kernel
  have hwX4 : ∀ w ∈ u_ws RX4 TX4 6, w ∈ wsX1_countPairs := by decide +kernel
  have hwX5 : ∀ w ∈ u_ws RX5 TX5 13, w ∈ wsX1_countPairs := by decide +kernel
  have hM9 : (Cond.fieldLink RX1 9 (TX1 0).1 (TX1 0).2.1 (TX1 0).2.2.1).before ([.ref (gA Λ 27 0), .ref (gA Λ 3 0)] : List Value).toArray s = true := hts (.fieldLink RX1 9 "CodeRooms$Kept" "places" "[I") (by decide +kernel)
  have hL9 : FL RX1 9 (TX1 0).1 (TX1 0).2.1 (TX1 0).2.2.1 ([.ref (gA Λ 27 0), .ref (gA Λ 3 0)] : List Value).toArray s := Or.inl hM9
  have hM17 : (Cond.fieldLink RX1 17 (TX1 1).1 (TX1 1).2.1 (TX1 1).2.2.1).before ([.ref (gA Λ 27 0), .ref (gA Λ 3 0)] : List Value).toArray s = true := hts (.fieldLink RX1 17 "CodeRooms$Kept" "alike" "[[I") (by decide +kernel)
  have hL17 : FL RX1 17 (TX1 1).1 (TX1 1).2.1 (TX1 1).2.2.1 ([.ref (gA Λ 27 0), .ref (gA Λ 3 0)] : List Value).toArray s := Or.inl hM17
  have hL20 : FL RX1 20 (TX4 5).1 (TX4 5).2.1 (TX4 5).2.2.1 ([.ref (gA Λ 27 0), .ref (gA Λ 3 0)] : List Value).toArray s := Or.inr ⟨_, Ex.nestF C.2.2.2.2.2.2 nf_X1_20⟩
  have hL26 : FL RX1 26 (TX4 1).1 (TX4 1).2.1 (TX4 1).2.2.1 ([.ref (gA Λ 27 0), .ref (gA Λ 3 0)] : List Value).toArray s := Or.inr ⟨_, Ex.nestF C.2.2.2.2.2.2 nf_X1_26⟩
  have hL30 : FL RX1 30 (TX5 0).1 (TX5 0).2.1 (TX5 0).2.2.1 ([.ref (gA Λ 27 0), .ref (gA Λ 3 0)] : List Value).toArray s := Or.inr ⟨_, Ex.nestF C.2.2.2.2.2.2 nf_X1_30⟩
  have hL35 : FL RX1 35 (TX5 11).1 (TX5 11).2.1 (TX5 11).2.2.1 ([.ref (gA Λ 27 0), .ref (gA Λ 3 0)] : List Value).toArray s := Or.inr ⟨_, Ex.nestF C.2.2.2.2.2.2 nf_X1_35⟩
  have hn : M 31 5 ≤ 40 := hB 31 5 rfl
  have hhc0 := hcN_le M
  refine j_iconst C (nI 0) dX1_countPairs_0 (by decide) ?_
  refine j_istore_n C [(2, .int (nI 0)), (0, .ref (gA Λ 27 0)), (1, .ref (gA Λ 3 0))] dX1_countPairs_1 rfl (by decide) rfl ?_
  have lb2 : ∀ (fu : Nat) (σ1 : HS) (i : Nat), (6 - i) < fu → (i ≤ 6) → (GK σ σ1) → (∀ x y, x < 6 → y < 6 → x < i → gI σ1 30 x y = nI 0) → J p l e ({ frames := 4, cells := 0, slots := 0, locals := 60 }) s m ([.ref (gA Λ 27 0), .ref (gA Λ 3 0)] : List Value).toArray below meth c 5 D cy base (MQ below (va_Qi (fun v u => v = nI (fb_ct (bothB M) (M 31 5)) ∧ GK σ u ∧ ∀ x y, x < 6 → y < 6 → gI u 30 x y = nI (fb_ct (tgP M (6 * x + y)) (M 31 5))) (Wd D cy base Λ) (Ab base)) ([.ref (gA Λ 27 0), .ref (gA Λ 3 0)] : List Value).toArray s 0 0 (Ab base)) 0 0 Λ 2 [(0, .ref (gA Λ 27 0)), (1, .ref (gA Λ 3 0)), (2, .int (nI i))] [] σ1 := by
    intro fu
    induction fu with
    | zero => intro σ1 i hfu; exact absurd hfu (Nat.not_lt_zero _)
    | succ fu ih =>
      intro σ1 i hfu hi hG1 hz1
      have ih2 := ih
      refine j_iload_n C dX1_countPairs_2 rfl 2 rfl ?_
      refine j_bipush C (nI 6) dX1_countPairs_3 (by decide) ?_
      refine j_icmp_ge (tgt := 37) C dX1_countPairs_5 (by decide) (nI_leI (by omega) (by omega)) (fun h5 => ?_) (fun h5 => ?_)
      · refine j_iconst C (nI 0) dX1_countPairs_37 (by decide) ?_
        refine j_istore_n C [(2, .int (nI 0)), (0, .ref (gA Λ 27 0)), (1, .ref (gA Λ 3 0))] dX1_countPairs_38 rfl (by decide) rfl ?_
        refine j_iconst C (nI 0) dX1_countPairs_39 (by decide) ?_
        refine j_istore_n C [(3, .int (nI 0)), (2, .int (nI 0)), (0, .ref (gA Λ 27 0)), (1, .ref (gA Λ 3 0))] dX1_countPairs_40 rfl (by decide) rfl ?_
        have lb41 : ∀ (fu : Nat) (σ3 : HS) (a k : Nat), (hcN M - k) < fu → (k ≤ hcN M) → (a = fb_ct (fun x => bothB M (hs M x)) k) → (GK σ σ3) → (∀ x y, x < 6 → y < 6 → gI σ3 30 x y = nI (fb_ct (fun w9 => tgP M (6 * x + y) (hs M w9)) k)) → J p l e ({ frames := 4, cells := 0, slots := 0, locals := 60 }) s m ([.ref (gA Λ 27 0), .ref (gA Λ 3 0)] : List Value).toArray below meth c 5 D cy base (MQ below (va_Qi (fun v u => v = nI (fb_ct (bothB M) (M 31 5)) ∧ GK σ u ∧ ∀ x y, x < 6 → y < 6 → gI u 30 x y = nI (fb_ct (tgP M (6 * x + y)) (M 31 5))) (Wd D cy base Λ) (Ab base)) ([.ref (gA Λ 27 0), .ref (gA Λ 3 0)] : List Value).toArray s 0 0 (Ab base)) 0 0 Λ 41 [(0, .ref (gA Λ 27 0)), (1, .ref (gA Λ 3 0)), (2, .int (nI a)), (3, .int (nI k))] [] σ3 := by
          intro fu
          induction fu with
          | zero => intro σ3 a k hfu; exact absurd hfu (Nat.not_lt_zero _)
          | succ fu ih =>
            intro σ3 a k hfu hk ha hG3 hm
            have ih41 := ih
            refine j_iload_n C dX1_countPairs_41 rfl 3 rfl ?_
            refine j_aload_n C dX1_countPairs_42 rfl 1 rfl ?_
            have hhc43 := hcN_le M
            refine j_getI C hwX4 3 0 5 (CR.n1 (hG3.cr hC) (by decide)) rfl rfl (by decide) rfl (nI (hcN M)) (CR.i (hG3.cr hC) 3 0 5 ⟨rfl, Or.inr rfl⟩ id) hL20 dX1_countPairs_43 ?_
            refine j_icmp_ge (tgt := 101) C dX1_countPairs_46 (by decide) (nI_leI (by omega) (by omega)) (fun h46 => ?_) (fun h46 => ?_)
            · refine j_iload_n C dX1_countPairs_101 rfl 2 rfl ?_
              exact j_iret C hr hlk (⟨by rw [ha, bo_hs, show k = hcN M by omega], hG3, fun x y hx hy => by rw [hm x y hx hy, show k = hcN M by omega, tg_hs]⟩) dX1_countPairs_102
            · refine j_aload_n C dX1_countPairs_49 rfl 0 rfl ?_
              refine j_getV C hwX1 27 0 0 (CR.n1 (hG3.cr hC) (by decide)) rfl rfl (by decide) rfl 0 (CR.v (hG3.cr hC) 27 0 0 ⟨rfl, by decide⟩ id) hL9 dX1_countPairs_50 ?_
              refine j_aload_n C dX1_countPairs_53 rfl 1 rfl ?_
              refine j_getV C hwX4 3 0 1 (CR.n1 (hG3.cr hC) (by decide)) rfl rfl (by decide) rfl 0 (CR.v (hG3.cr hC) 3 0 1 ⟨rfl, by decide⟩ id) hL26 dX1_countPairs_54 ?_
              refine j_iload_n C dX1_countPairs_57 rfl 3 rfl ?_
              have hhs58 := hs_lt (M := M) (k := k) (by omega)
              have hhn58 := hs_nh (M := M) (k := k) (by omega)
              refine j_aald C 5 0 k (CR.n1 (hG3.cr hC) (by decide)) rfl (by decide) (by decide) 40 (CR.l1 (hG3.cr hC) (by decide)) (by omega) (by omega) (hs M k) (CR.v (hG3.cr hC) 5 0 k ⟨rfl, by omega⟩ id) dX1_countPairs_58 ?_
              refine j_getI C hwX5 8 (hs M k) 0 (CR.n8 (hG3.cr hC) (by decide) (show hs M k < M 31 5 by omega)) rfl rfl (by decide) rfl (nI (hs M k)) (CR.i (hG3.cr hC) 8 (hs M k) 0 ⟨show hs M k < M 31 5 by omega, Or.inl rfl⟩ id) hL30 dX1_countPairs_59 ?_
              have hb62 : M 47 (hs M k) ≤ 6 := hB 47 (hs M k) (decide_eq_true (show hs M k < 40 by omega))
              refine j_iald C 28 0 (hs M k) (CR.n1 (hG3.cr hC) (by decide)) rfl rfl 40 (CR.l1 (hG3.cr hC) (by decide)) (by omega) (by omega) (nI (M 47 (hs M k)) - 1) (CR.i (hG3.cr hC) 28 0 (hs M k) ⟨rfl, by omega⟩ id) dX1_countPairs_62 ?_
              refine j_istore C [(4, .int (nI (M 47 (hs M k)) - 1)), (0, .ref (gA Λ 27 0)), (1, .ref (gA Λ 3 0)), (2, .int (nI a)), (3, .int (nI k))] dX1_countPairs_63 (by decide) rfl ?_
              refine j_iload C dX1_countPairs_65 0 rfl ?_
              refine j_iconst C ((-1)) dX1_countPairs_67 (by decide) ?_
              refine j_icmp_eq (tgt := 95) C dX1_countPairs_68 (by decide) (m1_eqm (by omega)) (fun h68 => ?_) (fun h68 => ?_)
              · refine j_iinc C [(3, .int (nI (k + 1))), (4, .int (nI (M 47 (hs M k)) - 1)), (0, .ref (gA Λ 27 0)), (1, .ref (gA Λ 3 0)), (2, .int (nI a))] (nI (k + 1)) dX1_countPairs_95 4 rfl (nI_add _ 1) (by decide) rfl ?_
                refine j_goto (tgt := 41) C dX1_countPairs_98 (by decide) ?_
                refine j_lv [2, 3, 4, 0] rfl ?_
                exact ih41 σ3 a (k + 1) (by omega) (by omega) (by rw [fb_ct_succ, ha, if_neg (fun z => (of_decide_eq_true z).2 h68)]; rfl) hG3 (fun x y hx hy => by rw [fb_ct_succ, if_neg (fun z => (of_decide_eq_true z).2.1 h68)]; exact hm x y hx hy)
              · have hz68 : M 47 (hs M k) ≠ 0 := h68
                · rw [m1_nI hz68]
                  refine j_aload_n C dX1_countPairs_71 rfl 1 rfl ?_
                  refine j_getV C hwX1 27 0 1 (CR.n1 (hG3.cr hC) (by decide)) rfl rfl (by decide) rfl 0 (CR.v (hG3.cr hC) 27 0 1 ⟨rfl, by decide⟩ id) hL17 dX1_countPairs_72 ?_
                  refine j_iload C dX1_countPairs_75 0 rfl ?_
                  refine j_aald C 29 0 (M 47 (hs M k) - 1) (CR.n1 (hG3.cr hC) (by decide)) rfl (by decide) (by decide) 6 (CR.l1 (hG3.cr hC) (by decide)) (by omega) (by omega) (M 47 (hs M k) - 1) (CR.v (hG3.cr hC) 29 0 (M 47 (hs M k) - 1) ⟨rfl, by omega⟩ id) dX1_countPairs_77 ?_
                  refine j_aload_n C dX1_countPairs_78 rfl 2 rfl ?_
                  refine j_getV C hwX4 3 0 1 (CR.n1 (hG3.cr hC) (by decide)) rfl rfl (by decide) rfl 0 (CR.v (hG3.cr hC) 3 0 1 ⟨rfl, by decide⟩ id) hL26 dX1_countPairs_79 ?_
                  refine j_iload_n C dX1_countPairs_82 rfl 4 rfl ?_
                  have hhs83 := hs_lt (M := M) (k := k) (by omega)
                  have hhn83 := hs_nh (M := M) (k := k) (by omega)
                  refine j_aald C 5 0 k (CR.n1 (hG3.cr hC) (by decide)) rfl (by decide) (by decide) 40 (CR.l1 (hG3.cr hC) (by decide)) (by omega) (by omega) (hs M k) (CR.v (hG3.cr hC) 5 0 k ⟨rfl, by omega⟩ id) dX1_countPairs_83 ?_
                  have hb84 : M 38 (hs M k) ≤ 5 := hB 38 (hs M k) (decide_eq_true (show hs M k < 40 by omega))
                  refine j_getI C hwX5 8 (hs M k) 11 (CR.n8 (hG3.cr hC) (by decide) (show hs M k < M 31 5 by omega)) rfl rfl (by decide) rfl (nI (M 38 (hs M k))) (CR.i (hG3.cr hC) 8 (hs M k) 11 ⟨show hs M k < M 31 5 by omega, Or.inr (Or.inr (Or.inl rfl))⟩ id) hL35 dX1_countPairs_84 ?_
                  refine j_dup2 C dX1_countPairs_87 rfl rfl ?_
                  refine j_iald C 30 (M 47 (hs M k) - 1) (M 38 (hs M k)) (CR.n30 (hG3.cr hC) (by omega)) rfl rfl 6 (CR.l30 (hG3.cr hC) (by omega)) (by omega) (by omega) (nI (fb_ct (fun w9 => tgP M (6 * (M 47 (hs M k) - 1) + M 38 (hs M k)) (hs M w9)) k)) (hm _ _ (by omega) (by omega)) dX1_countPairs_88 ?_
                  refine j_iconst C (nI 1) dX1_countPairs_89 (by decide) ?_
                  refine j_iadd C (nI (fb_ct (fun w9 => tgP M (6 * (M 47 (hs M k) - 1) + M 38 (hs M k)) (hs M w9)) k + 1)) dX1_countPairs_90 (nI_add _ _) ?_
                  refine j_iast C 30 (M 47 (hs M k) - 1) (M 38 (hs M k)) (CR.n30 (hG3.cr hC) (by omega)) rfl rfl 6 (CR.l30 (hG3.cr hC) (by omega)) (by omega) (by omega) (nI (fb_ct (fun w9 => tgP M (6 * (M 47 (hs M k) - 1) + M 38 (hs M k)) (hs M w9)) k + 1)) rfl dX1_countPairs_91 ?_
                  refine j_iinc C [(2, .int (nI (a + 1))), (4, .int (nI (M 47 (hs M k) - 1))), (0, .ref (gA Λ 27 0)), (1, .ref (gA Λ 3 0)), (3, .int (nI k))] (nI (a + 1)) dX1_countPairs_92 3 rfl (nI_add _ 1) (by decide) rfl ?_
                  refine j_iinc C [(3, .int (nI (k + 1))), (2, .int (nI (a + 1))), (4, .int (nI (M 47 (hs M k) - 1))), (0, .ref (gA Λ 27 0)), (1, .ref (gA Λ 3 0))] (nI (k + 1)) dX1_countPairs_95 4 rfl (nI_add _ 1) (by decide) rfl ?_
                  refine j_goto (tgt := 41) C dX1_countPairs_98 (by decide) ?_
                  refine j_lv [3, 4, 1, 0] rfl ?_
                  exact ih41 (sI σ3 30 (M 47 (hs M k) - 1) (M 38 (hs M k)) (nI (fb_ct (fun w9 => tgP M (6 * (M 47 (hs M k) - 1) + M 38 (hs M k)) (hs M w9)) k + 1))) (a + 1) (k + 1) (by omega) (by omega) (by rw [fb_ct_succ, ha, if_pos (show bothB M (hs M k) = true from decide_eq_true ⟨hhn58, hz68⟩)]) hG3.s (fun x y hx hy => by rw [gI_sI, fb_ct_succ]; by_cases e : x = M 47 (hs M k) - 1 ∧ y = M 38 (hs M k); rw [if_pos ⟨rfl, e⟩, if_pos (show tgP M (6 * x + y) (hs M k) = true from decide_eq_true ⟨hhn58, hz68, by omega⟩), e.1, e.2]; rw [if_neg (fun z => e z.2), if_neg (fun z => e (by have z3 := (of_decide_eq_true z).2.2; omega))]; exact hm x y hx hy)
        refine j_lv [2, 3, 1, 0] rfl ?_
        exact lb41 _ σ1 0 0 (Nat.lt_succ_self _) (by omega) rfl hG1 (fun x y hx hy => hz1 x y hx hy (by omega))
      · refine j_iconst C (nI 0) dX1_countPairs_8 (by decide) ?_
        refine j_istore_n C [(3, .int (nI 0)), (0, .ref (gA Λ 27 0)), (1, .ref (gA Λ 3 0)), (2, .int (nI i))] dX1_countPairs_9 rfl (by decide) rfl ?_
        have lb10 : ∀ (fu : Nat) (σ2 : HS) (j : Nat), (6 - j) < fu → (j ≤ 6) → (GK σ σ2) → (∀ x y, x < 6 → y < 6 → (x < i ∨ (x = i ∧ y < j)) → gI σ2 30 x y = nI 0) → J p l e ({ frames := 4, cells := 0, slots := 0, locals := 60 }) s m ([.ref (gA Λ 27 0), .ref (gA Λ 3 0)] : List Value).toArray below meth c 5 D cy base (MQ below (va_Qi (fun v u => v = nI (fb_ct (bothB M) (M 31 5)) ∧ GK σ u ∧ ∀ x y, x < 6 → y < 6 → gI u 30 x y = nI (fb_ct (tgP M (6 * x + y)) (M 31 5))) (Wd D cy base Λ) (Ab base)) ([.ref (gA Λ 27 0), .ref (gA Λ 3 0)] : List Value).toArray s 0 0 (Ab base)) 0 0 Λ 10 [(0, .ref (gA Λ 27 0)), (1, .ref (gA Λ 3 0)), (2, .int (nI i)), (3, .int (nI j))] [] σ2 := by
          intro fu
          induction fu with
          | zero => intro σ2 j hfu; exact absurd hfu (Nat.not_lt_zero _)
          | succ fu ih =>
            intro σ2 j hfu hj hG2 hz2
            have ih10 := ih
            refine j_iload_n C dX1_countPairs_10 rfl 3 rfl ?_
            refine j_bipush C (nI 6) dX1_countPairs_11 (by decide) ?_
            refine j_icmp_ge (tgt := 31) C dX1_countPairs_13 (by decide) (nI_leI (by omega) (by omega)) (fun h13 => ?_) (fun h13 => ?_)
            · refine j_iinc C [(2, .int (nI (i + 1))), (0, .ref (gA Λ 27 0)), (1, .ref (gA Λ 3 0)), (3, .int (nI j))] (nI (i + 1)) dX1_countPairs_31 2 rfl (nI_add _ 1) (by decide) rfl ?_
              refine j_goto (tgt := 2) C dX1_countPairs_34 (by decide) ?_
              refine j_lv [1, 2, 0] rfl ?_
              exact ih2 σ2 (i + 1) (by omega) (by omega) hG2 (fun x y hx hy hxi => hz2 x y hx hy (by omega))
            · refine j_aload_n C dX1_countPairs_16 rfl 0 rfl ?_
              refine j_getV C hwX1 27 0 1 (CR.n1 (hG2.cr hC) (by decide)) rfl rfl (by decide) rfl 0 (CR.v (hG2.cr hC) 27 0 1 ⟨rfl, by decide⟩ id) hL17 dX1_countPairs_17 ?_
              refine j_iload_n C dX1_countPairs_20 rfl 2 rfl ?_
              refine j_aald C 29 0 i (CR.n1 (hG2.cr hC) (by decide)) rfl (by decide) (by decide) 6 (CR.l1 (hG2.cr hC) (by decide)) (by omega) (by omega) i (CR.v (hG2.cr hC) 29 0 i ⟨rfl, by omega⟩ id) dX1_countPairs_21 ?_
              refine j_iload_n C dX1_countPairs_22 rfl 3 rfl ?_
              refine j_iconst C (nI 0) dX1_countPairs_23 (by decide) ?_
              refine j_iast C 30 i j (CR.n30 (hG2.cr hC) (by omega)) rfl rfl 6 (CR.l30 (hG2.cr hC) (by omega)) (by omega) (by omega) (nI 0) rfl dX1_countPairs_24 ?_
              refine j_iinc C [(3, .int (nI (j + 1))), (0, .ref (gA Λ 27 0)), (1, .ref (gA Λ 3 0)), (2, .int (nI i))] (nI (j + 1)) dX1_countPairs_25 3 rfl (nI_add _ 1) (by decide) rfl ?_
              refine j_goto (tgt := 10) C dX1_countPairs_28 (by decide) ?_
              refine j_lv [1, 2, 3, 0] rfl ?_
              exact ih10 (sI σ2 30 i j (nI 0)) (j + 1) (by omega) (by omega) hG2.s (fun x y hx hy h => by rw [gI_sI]; by_cases e : x = i ∧ y = j; rw [if_pos ⟨rfl, e⟩]; rw [if_neg (fun z => e z.2)]; exact hz2 x y hx hy (by omega))
        refine j_lv [1, 2, 3, 0] rfl ?_
        exact lb10 _ σ1 0 (Nat.lt_succ_self _) (by omega) hG1 (fun x y hx hy h => hz1 x y hx hy (by omega))
  refine j_lv [1, 2, 0] rfl ?_
  exact lb2 _ σ 0 (Nat.lt_succ_self _) (by omega) GK.rf (fun x y _ _ h => absurd h (Nat.not_lt_zero _))

theorem st_yes {g : Nat → Nat} {us b q : Nat} (hq : q = stRow g us b) (h : us.testBit b = false) : max q (g b) = stRow g us (b + 1) := by
  show _ = (if us.testBit b = true then stRow g us b else if g b ≤ stRow g us b then stRow g us b else g b)
  rw [if_neg (by rw [h]; decide), ← hq]
  split <;> omega
theorem st_no {g : Nat → Nat} {us b q : Nat} (hq : q = stRow g us b) (h : us.testBit b = true) : q = stRow g us (b + 1) := by
  show _ = (if us.testBit b = true then stRow g us b else if g b ≤ stRow g us b then stRow g us b else g b)
  rw [if_pos h, ← hq]
set_option maxHeartbeats 4000000 in
set_option maxRecDepth 100000 in
theorem c_most_6 (l : Launch) (D : va_G) (cy : Nat → ClassId) (base : Nat) (Λ : LY) (σ : HS) (M : MM) (hC : CR noEx Λ σ M) (hB : MBd M) (f : Nat → Nat) (hF : ∀ x y, x < 6 → y < 6 → gI σ 30 x y = nI (f (6 * x + y))) (hf : ∀ x, x < 36 → f x ≤ 40) (us : Nat) (hus : us < 64) : Met l yX1_mostAlike wsX1_mostAlike ({ frames := 4, cells := 0, slots := 0, locals := 60 }) (va_Pc [.ref (gA Λ 29 0), .int (nI 6), .int (nI us)] (Wd D cy base Λ σ)) (va_Qi (fun v u => v = nI (stF f 0 6 us) ∧ u = σ) (Wd D cy base Λ) (Ab base)) 0 0 (Ab base) := by
  refine j_start (cc := cX1_mostAlike) (nL := 5) (ret := (some .int)) (lv := [(0, .ref (gA Λ 29 0)), (1, .int (nI 6)), (2, .int (nI us))]) (by decide) rfl (Nat.le_of_ble_eq_true rfl) rfl ?_
  intro p e s m below meth c C hr hlk hnm
  have C : Cx p s m ([.ref (gA Λ 29 0), .int (nI 6), .int (nI us)] : List Value).toArray c cX1_mostAlike 5 RX1 wsX1_mostAlike D cy base := C
  have hts := C.2.2.2.2.1
  refine j_iload_n C dX1_mostAlike_0 rfl 1 rfl ?_
  refine j_bipush C (nI 6) dX1_mostAlike_1 (by decide) ?_
  refine j_icmp_lt (tgt := 8) C (P := False) dX1_mostAlike_3 (by decide) (by decide) (fun z => ?_) (fun z => ?_)
  · exact z.elim
  · refine j_iconst C (nI 0) dX1_mostAlike_6 (by decide) ?_
    exact j_iret C hr hlk (⟨rfl, rfl⟩) dX1_mostAlike_7

set_option maxHeartbeats 4000000 in
set_option maxRecDepth 100000 in
theorem c_most_5 (l : Launch) (D : va_G) (cy : Nat → ClassId) (base : Nat) (Λ : LY) (σ : HS) (M : MM) (hC : CR noEx Λ σ M) (hB : MBd M) (f : Nat → Nat) (hF : ∀ x y, x < 6 → y < 6 → gI σ 30 x y = nI (f (6 * x + y))) (hf : ∀ x, x < 36 → f x ≤ 40) (us : Nat) (hus : us < 64) : Met l yX1_mostAlike wsX1_mostAlike ({ frames := 8, cells := 0, slots := 0, locals := 120 }) (va_Pc [.ref (gA Λ 29 0), .int (nI 5), .int (nI us)] (Wd D cy base Λ σ)) (va_Qi (fun v u => v = nI (stF f 1 5 us) ∧ u = σ) (Wd D cy base Λ) (Ab base)) 0 0 (Ab base) := by
  refine j_start (cc := cX1_mostAlike) (nL := 5) (ret := (some .int)) (lv := [(0, .ref (gA Λ 29 0)), (1, .int (nI 5)), (2, .int (nI us))]) (by decide) rfl (Nat.le_of_ble_eq_true rfl) rfl ?_
  intro p e s m below meth c C hr hlk hnm
  have C : Cx p s m ([.ref (gA Λ 29 0), .int (nI 5), .int (nI us)] : List Value).toArray c cX1_mostAlike 5 RX1 wsX1_mostAlike D cy base := C
  have hts := C.2.2.2.2.1
  refine j_iload_n C dX1_mostAlike_0 rfl 1 rfl ?_
  refine j_bipush C (nI 6) dX1_mostAlike_1 (by decide) ?_
  refine j_icmp_lt (tgt := 8) C (P := True) dX1_mostAlike_3 (by decide) (by decide) (fun z => ?_) (fun z => ?_)
  · refine j_iconst C (nI 0) dX1_mostAlike_8 (by decide) ?_
    refine j_istore_n C [(3, .int (nI 0)), (0, .ref (gA Λ 29 0)), (1, .int (nI 5)), (2, .int (nI us))] dX1_mostAlike_9 rfl (by decide) rfl ?_
    refine j_iconst C (nI 0) dX1_mostAlike_10 (by decide) ?_
    refine j_istore C [(4, .int (nI 0)), (3, .int (nI 0)), (0, .ref (gA Λ 29 0)), (1, .int (nI 5)), (2, .int (nI us))] dX1_mostAlike_11 (by decide) rfl ?_
    have lb13 : ∀ (fu : Nat) (q b : Nat), (6 - b) < fu → (b ≤ 6) → (q = stRow (fun b => f (6 * 5 + b) + stF f 0 (5 + 1) (us ||| 2 ^ b)) us b) → J p l e ({ frames := 8, cells := 0, slots := 0, locals := 120 }) s m ([.ref (gA Λ 29 0), .int (nI 5), .int (nI us)] : List Value).toArray below meth c 5 D cy base (MQ below (va_Qi (fun v u => v = nI (stF f 1 5 us) ∧ u = σ) (Wd D cy base Λ) (Ab base)) ([.ref (gA Λ 29 0), .int (nI 5), .int (nI us)] : List Value).toArray s 0 0 (Ab base)) 0 0 Λ 13 [(0, .ref (gA Λ 29 0)), (1, .int (nI 5)), (2, .int (nI us)), (3, .int (nI q)), (4, .int (nI b))] [] σ := by
      intro fu
      induction fu with
      | zero => intro q b hfu; exact absurd hfu (Nat.not_lt_zero _)
      | succ fu ih =>
        intro q b hfu hb hq
        have hq240 : q ≤ 240 := by rw [hq]; exact stRow_le (fun x hx => by have q1 := stF_le (f := f) (d := 0) (a := 5 + 1) (used := us ||| 2 ^ x) (by omega) hf; have q2 := hf (6 * 5 + x) (by omega); show f (6 * 5 + x) + stF f 0 (5 + 1) (us ||| 2 ^ x) ≤ 240; omega)
        have ih13 := ih
        refine j_iload C dX1_mostAlike_13 4 rfl ?_
        refine j_bipush C (nI 6) dX1_mostAlike_15 (by decide) ?_
        refine j_icmp_ge (tgt := 60) C dX1_mostAlike_17 (by decide) (nI_leI (by omega) (by omega)) (fun h17 => ?_) (fun h17 => ?_)
        · refine j_iload_n C dX1_mostAlike_60 rfl 3 rfl ?_
          exact j_iret C hr hlk (⟨by rw [hq, show b = 6 by omega]; rfl, rfl⟩) dX1_mostAlike_61
        · refine j_iload_n C dX1_mostAlike_20 rfl 2 rfl ?_
          refine j_iconst C (nI 1) dX1_mostAlike_21 (by decide) ?_
          refine j_iload C dX1_mostAlike_22 4 rfl ?_
          refine j_ishl C (nI (2 ^ b)) dX1_mostAlike_24 (shl1 (by omega)) ?_
          refine j_iand C (nI us &&& nI (2 ^ b)) dX1_mostAlike_25 rfl ?_
          refine j_if_ne (tgt := 54) C dX1_mostAlike_26 (by decide) (and_bit (by omega)) (fun h26 => ?_) (fun h26 => ?_)
          · refine j_iinc C [(4, .int (nI (b + 1))), (0, .ref (gA Λ 29 0)), (1, .int (nI 5)), (2, .int (nI us)), (3, .int (nI q))] (nI (b + 1)) dX1_mostAlike_54 4 rfl (nI_add _ 1) (by decide) rfl ?_
            refine j_goto (tgt := 13) C dX1_mostAlike_57 (by decide) ?_
            refine j_lv [1, 2, 3, 4, 0] rfl ?_
            exact ih13 q (b + 1) (by omega) (by omega) (st_no hq (by simpa using h26))
          · refine j_iload_n C dX1_mostAlike_29 rfl 3 rfl ?_
            refine j_aload_n C dX1_mostAlike_30 rfl 0 rfl ?_
            refine j_iload_n C dX1_mostAlike_31 rfl 1 rfl ?_
            refine j_aald C 29 0 5 (CR.n1 hC (by decide)) rfl (by decide) (by decide) 6 (CR.l1 hC (by decide)) (by omega) (by omega) 5 (CR.v hC 29 0 5 ⟨rfl, by omega⟩ id) dX1_mostAlike_32 ?_
            refine j_iload C dX1_mostAlike_33 4 rfl ?_
            have hfb35 := hf (6 * 5 + b) (by omega)
            refine j_iald C 30 5 b (CR.n30 hC (by omega)) rfl rfl 6 (CR.l30 hC (by omega)) (by omega) (by omega) (nI (f (6 * 5 + b))) (hF _ _ (by omega) (by omega)) dX1_mostAlike_35 ?_
            refine j_aload_n C dX1_mostAlike_36 rfl 0 rfl ?_
            refine j_iload_n C dX1_mostAlike_37 rfl 1 rfl ?_
            refine j_iconst C (nI 1) dX1_mostAlike_38 (by decide) ?_
            refine j_iadd C (nI 6) dX1_mostAlike_39 (by decide) ?_
            refine j_iload_n C dX1_mostAlike_40 rfl 2 rfl ?_
            refine j_iconst C (nI 1) dX1_mostAlike_41 (by decide) ?_
            refine j_iload C dX1_mostAlike_42 4 rfl ?_
            refine j_ishl C (nI (2 ^ b)) dX1_mostAlike_44 (shl1 (by omega)) ?_
            refine j_ior C (nI (us ||| 2 ^ b)) dX1_mostAlike_45 (fa_or _ _) ?_
            have hsb := stF_le (f := f) (d := 0) (a := 6) (used := us ||| 2 ^ b) (by omega) hf
            refine c_i0 C (r_S C [.ref (gA Λ 29 0), .int (nI 6), .int (nI (us ||| 2 ^ b))] (c_most_6 l D cy base Λ σ M hC hB f hF hf (us ||| 2 ^ b) (or_lt (by omega) (pow6 (by omega)))) (va_cwS 3 hts gX1_mostAlike_X1_mostAlike rfl rfl rfl (by decide +kernel) ⟨by decide, by decide⟩) rfl rfl (Nat.le_of_ble_eq_true rfl) dX1_mostAlike_46 ⟨by decide, by decide⟩) (fun rv uu hp => ?_)
            rw [hp.1, hp.2]
            refine j_iadd C (nI (f (6 * 5 + b) + (stF f 0 6 (us ||| 2 ^ b)))) dX1_mostAlike_49 (nI_add _ _) ?_
            refine j_mmax C (nI (max q (f (6 * 5 + b) + (stF f 0 6 (us ||| 2 ^ b))))) (by decide +kernel) rfl rfl rfl rfl dX1_mostAlike_50 (nI_max (by omega) (by omega)) ?_
            refine j_istore_n C [(3, .int (nI (max q (f (6 * 5 + b) + (stF f 0 6 (us ||| 2 ^ b)))))), (0, .ref (gA Λ 29 0)), (1, .int (nI 5)), (2, .int (nI us)), (4, .int (nI b))] dX1_mostAlike_53 rfl (by decide) rfl ?_
            refine j_iinc C [(4, .int (nI (b + 1))), (3, .int (nI (max q (f (6 * 5 + b) + (stF f 0 6 (us ||| 2 ^ b)))))), (0, .ref (gA Λ 29 0)), (1, .int (nI 5)), (2, .int (nI us))] (nI (b + 1)) dX1_mostAlike_54 4 rfl (nI_add _ 1) (by decide) rfl ?_
            refine j_goto (tgt := 13) C dX1_mostAlike_57 (by decide) ?_
            refine j_lv [2, 3, 4, 1, 0] rfl ?_
            exact ih13 (max q (f (6 * 5 + b) + (stF f 0 6 (us ||| 2 ^ b)))) (b + 1) (by omega) (by omega) (st_yes hq h26)
    refine j_lv [2, 3, 4, 1, 0] rfl ?_
    exact lb13 _ 0 0 (Nat.lt_succ_self _) (by omega) rfl
  · exact absurd trivial z

set_option maxHeartbeats 4000000 in
set_option maxRecDepth 100000 in
theorem c_most_4 (l : Launch) (D : va_G) (cy : Nat → ClassId) (base : Nat) (Λ : LY) (σ : HS) (M : MM) (hC : CR noEx Λ σ M) (hB : MBd M) (f : Nat → Nat) (hF : ∀ x y, x < 6 → y < 6 → gI σ 30 x y = nI (f (6 * x + y))) (hf : ∀ x, x < 36 → f x ≤ 40) (us : Nat) (hus : us < 64) : Met l yX1_mostAlike wsX1_mostAlike ({ frames := 12, cells := 0, slots := 0, locals := 180 }) (va_Pc [.ref (gA Λ 29 0), .int (nI 4), .int (nI us)] (Wd D cy base Λ σ)) (va_Qi (fun v u => v = nI (stF f 2 4 us) ∧ u = σ) (Wd D cy base Λ) (Ab base)) 0 0 (Ab base) := by
  refine j_start (cc := cX1_mostAlike) (nL := 5) (ret := (some .int)) (lv := [(0, .ref (gA Λ 29 0)), (1, .int (nI 4)), (2, .int (nI us))]) (by decide) rfl (Nat.le_of_ble_eq_true rfl) rfl ?_
  intro p e s m below meth c C hr hlk hnm
  have C : Cx p s m ([.ref (gA Λ 29 0), .int (nI 4), .int (nI us)] : List Value).toArray c cX1_mostAlike 5 RX1 wsX1_mostAlike D cy base := C
  have hts := C.2.2.2.2.1
  refine j_iload_n C dX1_mostAlike_0 rfl 1 rfl ?_
  refine j_bipush C (nI 6) dX1_mostAlike_1 (by decide) ?_
  refine j_icmp_lt (tgt := 8) C (P := True) dX1_mostAlike_3 (by decide) (by decide) (fun z => ?_) (fun z => ?_)
  · refine j_iconst C (nI 0) dX1_mostAlike_8 (by decide) ?_
    refine j_istore_n C [(3, .int (nI 0)), (0, .ref (gA Λ 29 0)), (1, .int (nI 4)), (2, .int (nI us))] dX1_mostAlike_9 rfl (by decide) rfl ?_
    refine j_iconst C (nI 0) dX1_mostAlike_10 (by decide) ?_
    refine j_istore C [(4, .int (nI 0)), (3, .int (nI 0)), (0, .ref (gA Λ 29 0)), (1, .int (nI 4)), (2, .int (nI us))] dX1_mostAlike_11 (by decide) rfl ?_
    have lb13 : ∀ (fu : Nat) (q b : Nat), (6 - b) < fu → (b ≤ 6) → (q = stRow (fun b => f (6 * 4 + b) + stF f 1 (4 + 1) (us ||| 2 ^ b)) us b) → J p l e ({ frames := 12, cells := 0, slots := 0, locals := 180 }) s m ([.ref (gA Λ 29 0), .int (nI 4), .int (nI us)] : List Value).toArray below meth c 5 D cy base (MQ below (va_Qi (fun v u => v = nI (stF f 2 4 us) ∧ u = σ) (Wd D cy base Λ) (Ab base)) ([.ref (gA Λ 29 0), .int (nI 4), .int (nI us)] : List Value).toArray s 0 0 (Ab base)) 0 0 Λ 13 [(0, .ref (gA Λ 29 0)), (1, .int (nI 4)), (2, .int (nI us)), (3, .int (nI q)), (4, .int (nI b))] [] σ := by
      intro fu
      induction fu with
      | zero => intro q b hfu; exact absurd hfu (Nat.not_lt_zero _)
      | succ fu ih =>
        intro q b hfu hb hq
        have hq240 : q ≤ 240 := by rw [hq]; exact stRow_le (fun x hx => by have q1 := stF_le (f := f) (d := 1) (a := 4 + 1) (used := us ||| 2 ^ x) (by omega) hf; have q2 := hf (6 * 4 + x) (by omega); show f (6 * 4 + x) + stF f 1 (4 + 1) (us ||| 2 ^ x) ≤ 240; omega)
        have ih13 := ih
        refine j_iload C dX1_mostAlike_13 4 rfl ?_
        refine j_bipush C (nI 6) dX1_mostAlike_15 (by decide) ?_
        refine j_icmp_ge (tgt := 60) C dX1_mostAlike_17 (by decide) (nI_leI (by omega) (by omega)) (fun h17 => ?_) (fun h17 => ?_)
        · refine j_iload_n C dX1_mostAlike_60 rfl 3 rfl ?_
          exact j_iret C hr hlk (⟨by rw [hq, show b = 6 by omega]; rfl, rfl⟩) dX1_mostAlike_61
        · refine j_iload_n C dX1_mostAlike_20 rfl 2 rfl ?_
          refine j_iconst C (nI 1) dX1_mostAlike_21 (by decide) ?_
          refine j_iload C dX1_mostAlike_22 4 rfl ?_
          refine j_ishl C (nI (2 ^ b)) dX1_mostAlike_24 (shl1 (by omega)) ?_
          refine j_iand C (nI us &&& nI (2 ^ b)) dX1_mostAlike_25 rfl ?_
          refine j_if_ne (tgt := 54) C dX1_mostAlike_26 (by decide) (and_bit (by omega)) (fun h26 => ?_) (fun h26 => ?_)
          · refine j_iinc C [(4, .int (nI (b + 1))), (0, .ref (gA Λ 29 0)), (1, .int (nI 4)), (2, .int (nI us)), (3, .int (nI q))] (nI (b + 1)) dX1_mostAlike_54 4 rfl (nI_add _ 1) (by decide) rfl ?_
            refine j_goto (tgt := 13) C dX1_mostAlike_57 (by decide) ?_
            refine j_lv [1, 2, 3, 4, 0] rfl ?_
            exact ih13 q (b + 1) (by omega) (by omega) (st_no hq (by simpa using h26))
          · refine j_iload_n C dX1_mostAlike_29 rfl 3 rfl ?_
            refine j_aload_n C dX1_mostAlike_30 rfl 0 rfl ?_
            refine j_iload_n C dX1_mostAlike_31 rfl 1 rfl ?_
            refine j_aald C 29 0 4 (CR.n1 hC (by decide)) rfl (by decide) (by decide) 6 (CR.l1 hC (by decide)) (by omega) (by omega) 4 (CR.v hC 29 0 4 ⟨rfl, by omega⟩ id) dX1_mostAlike_32 ?_
            refine j_iload C dX1_mostAlike_33 4 rfl ?_
            have hfb35 := hf (6 * 4 + b) (by omega)
            refine j_iald C 30 4 b (CR.n30 hC (by omega)) rfl rfl 6 (CR.l30 hC (by omega)) (by omega) (by omega) (nI (f (6 * 4 + b))) (hF _ _ (by omega) (by omega)) dX1_mostAlike_35 ?_
            refine j_aload_n C dX1_mostAlike_36 rfl 0 rfl ?_
            refine j_iload_n C dX1_mostAlike_37 rfl 1 rfl ?_
            refine j_iconst C (nI 1) dX1_mostAlike_38 (by decide) ?_
            refine j_iadd C (nI 5) dX1_mostAlike_39 (by decide) ?_
            refine j_iload_n C dX1_mostAlike_40 rfl 2 rfl ?_
            refine j_iconst C (nI 1) dX1_mostAlike_41 (by decide) ?_
            refine j_iload C dX1_mostAlike_42 4 rfl ?_
            refine j_ishl C (nI (2 ^ b)) dX1_mostAlike_44 (shl1 (by omega)) ?_
            refine j_ior C (nI (us ||| 2 ^ b)) dX1_mostAlike_45 (fa_or _ _) ?_
            have hsb := stF_le (f := f) (d := 1) (a := 5) (used := us ||| 2 ^ b) (by omega) hf
            refine c_i0 C (r_S C [.ref (gA Λ 29 0), .int (nI 5), .int (nI (us ||| 2 ^ b))] (c_most_5 l D cy base Λ σ M hC hB f hF hf (us ||| 2 ^ b) (or_lt (by omega) (pow6 (by omega)))) (va_cwS 3 hts gX1_mostAlike_X1_mostAlike rfl rfl rfl (by decide +kernel) ⟨by decide, by decide⟩) rfl rfl (Nat.le_of_ble_eq_true rfl) dX1_mostAlike_46 ⟨by decide, by decide⟩) (fun rv uu hp => ?_)
            rw [hp.1, hp.2]
            refine j_iadd C (nI (f (6 * 4 + b) + (stF f 1 5 (us ||| 2 ^ b)))) dX1_mostAlike_49 (nI_add _ _) ?_
            refine j_mmax C (nI (max q (f (6 * 4 + b) + (stF f 1 5 (us ||| 2 ^ b))))) (by decide +kernel) rfl rfl rfl rfl dX1_mostAlike_50 (nI_max (by omega) (by omega)) ?_
            refine j_istore_n C [(3, .int (nI (max q (f (6 * 4 + b) + (stF f 1 5 (us ||| 2 ^ b)))))), (0, .ref (gA Λ 29 0)), (1, .int (nI 4)), (2, .int (nI us)), (4, .int (nI b))] dX1_mostAlike_53 rfl (by decide) rfl ?_
            refine j_iinc C [(4, .int (nI (b + 1))), (3, .int (nI (max q (f (6 * 4 + b) + (stF f 1 5 (us ||| 2 ^ b)))))), (0, .ref (gA Λ 29 0)), (1, .int (nI 4)), (2, .int (nI us))] (nI (b + 1)) dX1_mostAlike_54 4 rfl (nI_add _ 1) (by decide) rfl ?_
            refine j_goto (tgt := 13) C dX1_mostAlike_57 (by decide) ?_
            refine j_lv [2, 3, 4, 1, 0] rfl ?_
            exact ih13 (max q (f (6 * 4 + b) + (stF f 1 5 (us ||| 2 ^ b)))) (b + 1) (by omega) (by omega) (st_yes hq h26)
    refine j_lv [2, 3, 4, 1, 0] rfl ?_
    exact lb13 _ 0 0 (Nat.lt_succ_self _) (by omega) rfl
  · exact absurd trivial z

set_option maxHeartbeats 4000000 in
set_option maxRecDepth 100000 in
theorem c_most_3 (l : Launch) (D : va_G) (cy : Nat → ClassId) (base : Nat) (Λ : LY) (σ : HS) (M : MM) (hC : CR noEx Λ σ M) (hB : MBd M) (f : Nat → Nat) (hF : ∀ x y, x < 6 → y < 6 → gI σ 30 x y = nI (f (6 * x + y))) (hf : ∀ x, x < 36 → f x ≤ 40) (us : Nat) (hus : us < 64) : Met l yX1_mostAlike wsX1_mostAlike ({ frames := 16, cells := 0, slots := 0, locals := 240 }) (va_Pc [.ref (gA Λ 29 0), .int (nI 3), .int (nI us)] (Wd D cy base Λ σ)) (va_Qi (fun v u => v = nI (stF f 3 3 us) ∧ u = σ) (Wd D cy base Λ) (Ab base)) 0 0 (Ab base) := by
  refine j_start (cc := cX1_mostAlike) (nL := 5) (ret := (some .int)) (lv := [(0, .ref (gA Λ 29 0)), (1, .int (nI 3)), (2, .int (nI us))]) (by decide) rfl (Nat.le_of_ble_eq_true rfl) rfl ?_
  intro p e s m below meth c C hr hlk hnm
  have C : Cx p s m ([.ref (gA Λ 29 0), .int (nI 3), .int (nI us)] : List Value).toArray c cX1_mostAlike 5 RX1 wsX1_mostAlike D cy base := C
  have hts := C.2.2.2.2.1
  refine j_iload_n C dX1_mostAlike_0 rfl 1 rfl ?_
  refine j_bipush C (nI 6) dX1_mostAlike_1 (by decide) ?_
  refine j_icmp_lt (tgt := 8) C (P := True) dX1_mostAlike_3 (by decide) (by decide) (fun z => ?_) (fun z => ?_)
  · refine j_iconst C (nI 0) dX1_mostAlike_8 (by decide) ?_
    refine j_istore_n C [(3, .int (nI 0)), (0, .ref (gA Λ 29 0)), (1, .int (nI 3)), (2, .int (nI us))] dX1_mostAlike_9 rfl (by decide) rfl ?_
    refine j_iconst C (nI 0) dX1_mostAlike_10 (by decide) ?_
    refine j_istore C [(4, .int (nI 0)), (3, .int (nI 0)), (0, .ref (gA Λ 29 0)), (1, .int (nI 3)), (2, .int (nI us))] dX1_mostAlike_11 (by decide) rfl ?_
    have lb13 : ∀ (fu : Nat) (q b : Nat), (6 - b) < fu → (b ≤ 6) → (q = stRow (fun b => f (6 * 3 + b) + stF f 2 (3 + 1) (us ||| 2 ^ b)) us b) → J p l e ({ frames := 16, cells := 0, slots := 0, locals := 240 }) s m ([.ref (gA Λ 29 0), .int (nI 3), .int (nI us)] : List Value).toArray below meth c 5 D cy base (MQ below (va_Qi (fun v u => v = nI (stF f 3 3 us) ∧ u = σ) (Wd D cy base Λ) (Ab base)) ([.ref (gA Λ 29 0), .int (nI 3), .int (nI us)] : List Value).toArray s 0 0 (Ab base)) 0 0 Λ 13 [(0, .ref (gA Λ 29 0)), (1, .int (nI 3)), (2, .int (nI us)), (3, .int (nI q)), (4, .int (nI b))] [] σ := by
      intro fu
      induction fu with
      | zero => intro q b hfu; exact absurd hfu (Nat.not_lt_zero _)
      | succ fu ih =>
        intro q b hfu hb hq
        have hq240 : q ≤ 240 := by rw [hq]; exact stRow_le (fun x hx => by have q1 := stF_le (f := f) (d := 2) (a := 3 + 1) (used := us ||| 2 ^ x) (by omega) hf; have q2 := hf (6 * 3 + x) (by omega); show f (6 * 3 + x) + stF f 2 (3 + 1) (us ||| 2 ^ x) ≤ 240; omega)
        have ih13 := ih
        refine j_iload C dX1_mostAlike_13 4 rfl ?_
        refine j_bipush C (nI 6) dX1_mostAlike_15 (by decide) ?_
        refine j_icmp_ge (tgt := 60) C dX1_mostAlike_17 (by decide) (nI_leI (by omega) (by omega)) (fun h17 => ?_) (fun h17 => ?_)
        · refine j_iload_n C dX1_mostAlike_60 rfl 3 rfl ?_
          exact j_iret C hr hlk (⟨by rw [hq, show b = 6 by omega]; rfl, rfl⟩) dX1_mostAlike_61
        · refine j_iload_n C dX1_mostAlike_20 rfl 2 rfl ?_
          refine j_iconst C (nI 1) dX1_mostAlike_21 (by decide) ?_
          refine j_iload C dX1_mostAlike_22 4 rfl ?_
          refine j_ishl C (nI (2 ^ b)) dX1_mostAlike_24 (shl1 (by omega)) ?_
          refine j_iand C (nI us &&& nI (2 ^ b)) dX1_mostAlike_25 rfl ?_
          refine j_if_ne (tgt := 54) C dX1_mostAlike_26 (by decide) (and_bit (by omega)) (fun h26 => ?_) (fun h26 => ?_)
          · refine j_iinc C [(4, .int (nI (b + 1))), (0, .ref (gA Λ 29 0)), (1, .int (nI 3)), (2, .int (nI us)), (3, .int (nI q))] (nI (b + 1)) dX1_mostAlike_54 4 rfl (nI_add _ 1) (by decide) rfl ?_
            refine j_goto (tgt := 13) C dX1_mostAlike_57 (by decide) ?_
            refine j_lv [1, 2, 3, 4, 0] rfl ?_
            exact ih13 q (b + 1) (by omega) (by omega) (st_no hq (by simpa using h26))
          · refine j_iload_n C dX1_mostAlike_29 rfl 3 rfl ?_
            refine j_aload_n C dX1_mostAlike_30 rfl 0 rfl ?_
            refine j_iload_n C dX1_mostAlike_31 rfl 1 rfl ?_
            refine j_aald C 29 0 3 (CR.n1 hC (by decide)) rfl (by decide) (by decide) 6 (CR.l1 hC (by decide)) (by omega) (by omega) 3 (CR.v hC 29 0 3 ⟨rfl, by omega⟩ id) dX1_mostAlike_32 ?_
            refine j_iload C dX1_mostAlike_33 4 rfl ?_
            have hfb35 := hf (6 * 3 + b) (by omega)
            refine j_iald C 30 3 b (CR.n30 hC (by omega)) rfl rfl 6 (CR.l30 hC (by omega)) (by omega) (by omega) (nI (f (6 * 3 + b))) (hF _ _ (by omega) (by omega)) dX1_mostAlike_35 ?_
            refine j_aload_n C dX1_mostAlike_36 rfl 0 rfl ?_
            refine j_iload_n C dX1_mostAlike_37 rfl 1 rfl ?_
            refine j_iconst C (nI 1) dX1_mostAlike_38 (by decide) ?_
            refine j_iadd C (nI 4) dX1_mostAlike_39 (by decide) ?_
            refine j_iload_n C dX1_mostAlike_40 rfl 2 rfl ?_
            refine j_iconst C (nI 1) dX1_mostAlike_41 (by decide) ?_
            refine j_iload C dX1_mostAlike_42 4 rfl ?_
            refine j_ishl C (nI (2 ^ b)) dX1_mostAlike_44 (shl1 (by omega)) ?_
            refine j_ior C (nI (us ||| 2 ^ b)) dX1_mostAlike_45 (fa_or _ _) ?_
            have hsb := stF_le (f := f) (d := 2) (a := 4) (used := us ||| 2 ^ b) (by omega) hf
            refine c_i0 C (r_S C [.ref (gA Λ 29 0), .int (nI 4), .int (nI (us ||| 2 ^ b))] (c_most_4 l D cy base Λ σ M hC hB f hF hf (us ||| 2 ^ b) (or_lt (by omega) (pow6 (by omega)))) (va_cwS 3 hts gX1_mostAlike_X1_mostAlike rfl rfl rfl (by decide +kernel) ⟨by decide, by decide⟩) rfl rfl (Nat.le_of_ble_eq_true rfl) dX1_mostAlike_46 ⟨by decide, by decide⟩) (fun rv uu hp => ?_)
            rw [hp.1, hp.2]
            refine j_iadd C (nI (f (6 * 3 + b) + (stF f 2 4 (us ||| 2 ^ b)))) dX1_mostAlike_49 (nI_add _ _) ?_
            refine j_mmax C (nI (max q (f (6 * 3 + b) + (stF f 2 4 (us ||| 2 ^ b))))) (by decide +kernel) rfl rfl rfl rfl dX1_mostAlike_50 (nI_max (by omega) (by omega)) ?_
            refine j_istore_n C [(3, .int (nI (max q (f (6 * 3 + b) + (stF f 2 4 (us ||| 2 ^ b)))))), (0, .ref (gA Λ 29 0)), (1, .int (nI 3)), (2, .int (nI us)), (4, .int (nI b))] dX1_mostAlike_53 rfl (by decide) rfl ?_
            refine j_iinc C [(4, .int (nI (b + 1))), (3, .int (nI (max q (f (6 * 3 + b) + (stF f 2 4 (us ||| 2 ^ b)))))), (0, .ref (gA Λ 29 0)), (1, .int (nI 3)), (2, .int (nI us))] (nI (b + 1)) dX1_mostAlike_54 4 rfl (nI_add _ 1) (by decide) rfl ?_
            refine j_goto (tgt := 13) C dX1_mostAlike_57 (by decide) ?_
            refine j_lv [2, 3, 4, 1, 0] rfl ?_
            exact ih13 (max q (f (6 * 3 + b) + (stF f 2 4 (us ||| 2 ^ b)))) (b + 1) (by omega) (by omega) (st_yes hq h26)
    refine j_lv [2, 3, 4, 1, 0] rfl ?_
    exact lb13 _ 0 0 (Nat.lt_succ_self _) (by omega) rfl
  · exact absurd trivial z

set_option maxHeartbeats 4000000 in
set_option maxRecDepth 100000 in
theorem c_most_2 (l : Launch) (D : va_G) (cy : Nat → ClassId) (base : Nat) (Λ : LY) (σ : HS) (M : MM) (hC : CR noEx Λ σ M) (hB : MBd M) (f : Nat → Nat) (hF : ∀ x y, x < 6 → y < 6 → gI σ 30 x y = nI (f (6 * x + y))) (hf : ∀ x, x < 36 → f x ≤ 40) (us : Nat) (hus : us < 64) : Met l yX1_mostAlike wsX1_mostAlike ({ frames := 20, cells := 0, slots := 0, locals := 300 }) (va_Pc [.ref (gA Λ 29 0), .int (nI 2), .int (nI us)] (Wd D cy base Λ σ)) (va_Qi (fun v u => v = nI (stF f 4 2 us) ∧ u = σ) (Wd D cy base Λ) (Ab base)) 0 0 (Ab base) := by
  refine j_start (cc := cX1_mostAlike) (nL := 5) (ret := (some .int)) (lv := [(0, .ref (gA Λ 29 0)), (1, .int (nI 2)), (2, .int (nI us))]) (by decide) rfl (Nat.le_of_ble_eq_true rfl) rfl ?_
  intro p e s m below meth c C hr hlk hnm
  have C : Cx p s m ([.ref (gA Λ 29 0), .int (nI 2), .int (nI us)] : List Value).toArray c cX1_mostAlike 5 RX1 wsX1_mostAlike D cy base := C
  have hts := C.2.2.2.2.1
  refine j_iload_n C dX1_mostAlike_0 rfl 1 rfl ?_
  refine j_bipush C (nI 6) dX1_mostAlike_1 (by decide) ?_
  refine j_icmp_lt (tgt := 8) C (P := True) dX1_mostAlike_3 (by decide) (by decide) (fun z => ?_) (fun z => ?_)
  · refine j_iconst C (nI 0) dX1_mostAlike_8 (by decide) ?_
    refine j_istore_n C [(3, .int (nI 0)), (0, .ref (gA Λ 29 0)), (1, .int (nI 2)), (2, .int (nI us))] dX1_mostAlike_9 rfl (by decide) rfl ?_
    refine j_iconst C (nI 0) dX1_mostAlike_10 (by decide) ?_
    refine j_istore C [(4, .int (nI 0)), (3, .int (nI 0)), (0, .ref (gA Λ 29 0)), (1, .int (nI 2)), (2, .int (nI us))] dX1_mostAlike_11 (by decide) rfl ?_
    have lb13 : ∀ (fu : Nat) (q b : Nat), (6 - b) < fu → (b ≤ 6) → (q = stRow (fun b => f (6 * 2 + b) + stF f 3 (2 + 1) (us ||| 2 ^ b)) us b) → J p l e ({ frames := 20, cells := 0, slots := 0, locals := 300 }) s m ([.ref (gA Λ 29 0), .int (nI 2), .int (nI us)] : List Value).toArray below meth c 5 D cy base (MQ below (va_Qi (fun v u => v = nI (stF f 4 2 us) ∧ u = σ) (Wd D cy base Λ) (Ab base)) ([.ref (gA Λ 29 0), .int (nI 2), .int (nI us)] : List Value).toArray s 0 0 (Ab base)) 0 0 Λ 13 [(0, .ref (gA Λ 29 0)), (1, .int (nI 2)), (2, .int (nI us)), (3, .int (nI q)), (4, .int (nI b))] [] σ := by
      intro fu
      induction fu with
      | zero => intro q b hfu; exact absurd hfu (Nat.not_lt_zero _)
      | succ fu ih =>
        intro q b hfu hb hq
        have hq240 : q ≤ 240 := by rw [hq]; exact stRow_le (fun x hx => by have q1 := stF_le (f := f) (d := 3) (a := 2 + 1) (used := us ||| 2 ^ x) (by omega) hf; have q2 := hf (6 * 2 + x) (by omega); show f (6 * 2 + x) + stF f 3 (2 + 1) (us ||| 2 ^ x) ≤ 240; omega)
        have ih13 := ih
        refine j_iload C dX1_mostAlike_13 4 rfl ?_
        refine j_bipush C (nI 6) dX1_mostAlike_15 (by decide) ?_
        refine j_icmp_ge (tgt := 60) C dX1_mostAlike_17 (by decide) (nI_leI (by omega) (by omega)) (fun h17 => ?_) (fun h17 => ?_)
        · refine j_iload_n C dX1_mostAlike_60 rfl 3 rfl ?_
          exact j_iret C hr hlk (⟨by rw [hq, show b = 6 by omega]; rfl, rfl⟩) dX1_mostAlike_61
        · refine j_iload_n C dX1_mostAlike_20 rfl 2 rfl ?_
          refine j_iconst C (nI 1) dX1_mostAlike_21 (by decide) ?_
          refine j_iload C dX1_mostAlike_22 4 rfl ?_
          refine j_ishl C (nI (2 ^ b)) dX1_mostAlike_24 (shl1 (by omega)) ?_
          refine j_iand C (nI us &&& nI (2 ^ b)) dX1_mostAlike_25 rfl ?_
          refine j_if_ne (tgt := 54) C dX1_mostAlike_26 (by decide) (and_bit (by omega)) (fun h26 => ?_) (fun h26 => ?_)
          · refine j_iinc C [(4, .int (nI (b + 1))), (0, .ref (gA Λ 29 0)), (1, .int (nI 2)), (2, .int (nI us)), (3, .int (nI q))] (nI (b + 1)) dX1_mostAlike_54 4 rfl (nI_add _ 1) (by decide) rfl ?_
            refine j_goto (tgt := 13) C dX1_mostAlike_57 (by decide) ?_
            refine j_lv [1, 2, 3, 4, 0] rfl ?_
            exact ih13 q (b + 1) (by omega) (by omega) (st_no hq (by simpa using h26))
          · refine j_iload_n C dX1_mostAlike_29 rfl 3 rfl ?_
            refine j_aload_n C dX1_mostAlike_30 rfl 0 rfl ?_
            refine j_iload_n C dX1_mostAlike_31 rfl 1 rfl ?_
            refine j_aald C 29 0 2 (CR.n1 hC (by decide)) rfl (by decide) (by decide) 6 (CR.l1 hC (by decide)) (by omega) (by omega) 2 (CR.v hC 29 0 2 ⟨rfl, by omega⟩ id) dX1_mostAlike_32 ?_
            refine j_iload C dX1_mostAlike_33 4 rfl ?_
            have hfb35 := hf (6 * 2 + b) (by omega)
            refine j_iald C 30 2 b (CR.n30 hC (by omega)) rfl rfl 6 (CR.l30 hC (by omega)) (by omega) (by omega) (nI (f (6 * 2 + b))) (hF _ _ (by omega) (by omega)) dX1_mostAlike_35 ?_
            refine j_aload_n C dX1_mostAlike_36 rfl 0 rfl ?_
            refine j_iload_n C dX1_mostAlike_37 rfl 1 rfl ?_
            refine j_iconst C (nI 1) dX1_mostAlike_38 (by decide) ?_
            refine j_iadd C (nI 3) dX1_mostAlike_39 (by decide) ?_
            refine j_iload_n C dX1_mostAlike_40 rfl 2 rfl ?_
            refine j_iconst C (nI 1) dX1_mostAlike_41 (by decide) ?_
            refine j_iload C dX1_mostAlike_42 4 rfl ?_
            refine j_ishl C (nI (2 ^ b)) dX1_mostAlike_44 (shl1 (by omega)) ?_
            refine j_ior C (nI (us ||| 2 ^ b)) dX1_mostAlike_45 (fa_or _ _) ?_
            have hsb := stF_le (f := f) (d := 3) (a := 3) (used := us ||| 2 ^ b) (by omega) hf
            refine c_i0 C (r_S C [.ref (gA Λ 29 0), .int (nI 3), .int (nI (us ||| 2 ^ b))] (c_most_3 l D cy base Λ σ M hC hB f hF hf (us ||| 2 ^ b) (or_lt (by omega) (pow6 (by omega)))) (va_cwS 3 hts gX1_mostAlike_X1_mostAlike rfl rfl rfl (by decide +kernel) ⟨by decide, by decide⟩) rfl rfl (Nat.le_of_ble_eq_true rfl) dX1_mostAlike_46 ⟨by decide, by decide⟩) (fun rv uu hp => ?_)
            rw [hp.1, hp.2]
            refine j_iadd C (nI (f (6 * 2 + b) + (stF f 3 3 (us ||| 2 ^ b)))) dX1_mostAlike_49 (nI_add _ _) ?_
            refine j_mmax C (nI (max q (f (6 * 2 + b) + (stF f 3 3 (us ||| 2 ^ b))))) (by decide +kernel) rfl rfl rfl rfl dX1_mostAlike_50 (nI_max (by omega) (by omega)) ?_
            refine j_istore_n C [(3, .int (nI (max q (f (6 * 2 + b) + (stF f 3 3 (us ||| 2 ^ b)))))), (0, .ref (gA Λ 29 0)), (1, .int (nI 2)), (2, .int (nI us)), (4, .int (nI b))] dX1_mostAlike_53 rfl (by decide) rfl ?_
            refine j_iinc C [(4, .int (nI (b + 1))), (3, .int (nI (max q (f (6 * 2 + b) + (stF f 3 3 (us ||| 2 ^ b)))))), (0, .ref (gA Λ 29 0)), (1, .int (nI 2)), (2, .int (nI us))] (nI (b + 1)) dX1_mostAlike_54 4 rfl (nI_add _ 1) (by decide) rfl ?_
            refine j_goto (tgt := 13) C dX1_mostAlike_57 (by decide) ?_
            refine j_lv [2, 3, 4, 1, 0] rfl ?_
            exact ih13 (max q (f (6 * 2 + b) + (stF f 3 3 (us ||| 2 ^ b)))) (b + 1) (by omega) (by omega) (st_yes hq h26)
    refine j_lv [2, 3, 4, 1, 0] rfl ?_
    exact lb13 _ 0 0 (Nat.lt_succ_self _) (by omega) rfl
  · exact absurd trivial z

set_option maxHeartbeats 4000000 in
set_option maxRecDepth 100000 in
theorem c_most_1 (l : Launch) (D : va_G) (cy : Nat → ClassId) (base : Nat) (Λ : LY) (σ : HS) (M : MM) (hC : CR noEx Λ σ M) (hB : MBd M) (f : Nat → Nat) (hF : ∀ x y, x < 6 → y < 6 → gI σ 30 x y = nI (f (6 * x + y))) (hf : ∀ x, x < 36 → f x ≤ 40) (us : Nat) (hus : us < 64) : Met l yX1_mostAlike wsX1_mostAlike ({ frames := 24, cells := 0, slots := 0, locals := 360 }) (va_Pc [.ref (gA Λ 29 0), .int (nI 1), .int (nI us)] (Wd D cy base Λ σ)) (va_Qi (fun v u => v = nI (stF f 5 1 us) ∧ u = σ) (Wd D cy base Λ) (Ab base)) 0 0 (Ab base) := by
  refine j_start (cc := cX1_mostAlike) (nL := 5) (ret := (some .int)) (lv := [(0, .ref (gA Λ 29 0)), (1, .int (nI 1)), (2, .int (nI us))]) (by decide) rfl (Nat.le_of_ble_eq_true rfl) rfl ?_
  intro p e s m below meth c C hr hlk hnm
  have C : Cx p s m ([.ref (gA Λ 29 0), .int (nI 1), .int (nI us)] : List Value).toArray c cX1_mostAlike 5 RX1 wsX1_mostAlike D cy base := C
  have hts := C.2.2.2.2.1
  refine j_iload_n C dX1_mostAlike_0 rfl 1 rfl ?_
  refine j_bipush C (nI 6) dX1_mostAlike_1 (by decide) ?_
  refine j_icmp_lt (tgt := 8) C (P := True) dX1_mostAlike_3 (by decide) (by decide) (fun z => ?_) (fun z => ?_)
  · refine j_iconst C (nI 0) dX1_mostAlike_8 (by decide) ?_
    refine j_istore_n C [(3, .int (nI 0)), (0, .ref (gA Λ 29 0)), (1, .int (nI 1)), (2, .int (nI us))] dX1_mostAlike_9 rfl (by decide) rfl ?_
    refine j_iconst C (nI 0) dX1_mostAlike_10 (by decide) ?_
    refine j_istore C [(4, .int (nI 0)), (3, .int (nI 0)), (0, .ref (gA Λ 29 0)), (1, .int (nI 1)), (2, .int (nI us))] dX1_mostAlike_11 (by decide) rfl ?_
    have lb13 : ∀ (fu : Nat) (q b : Nat), (6 - b) < fu → (b ≤ 6) → (q = stRow (fun b => f (6 * 1 + b) + stF f 4 (1 + 1) (us ||| 2 ^ b)) us b) → J p l e ({ frames := 24, cells := 0, slots := 0, locals := 360 }) s m ([.ref (gA Λ 29 0), .int (nI 1), .int (nI us)] : List Value).toArray below meth c 5 D cy base (MQ below (va_Qi (fun v u => v = nI (stF f 5 1 us) ∧ u = σ) (Wd D cy base Λ) (Ab base)) ([.ref (gA Λ 29 0), .int (nI 1), .int (nI us)] : List Value).toArray s 0 0 (Ab base)) 0 0 Λ 13 [(0, .ref (gA Λ 29 0)), (1, .int (nI 1)), (2, .int (nI us)), (3, .int (nI q)), (4, .int (nI b))] [] σ := by
      intro fu
      induction fu with
      | zero => intro q b hfu; exact absurd hfu (Nat.not_lt_zero _)
      | succ fu ih =>
        intro q b hfu hb hq
        have hq240 : q ≤ 240 := by rw [hq]; exact stRow_le (fun x hx => by have q1 := stF_le (f := f) (d := 4) (a := 1 + 1) (used := us ||| 2 ^ x) (by omega) hf; have q2 := hf (6 * 1 + x) (by omega); show f (6 * 1 + x) + stF f 4 (1 + 1) (us ||| 2 ^ x) ≤ 240; omega)
        have ih13 := ih
        refine j_iload C dX1_mostAlike_13 4 rfl ?_
        refine j_bipush C (nI 6) dX1_mostAlike_15 (by decide) ?_
        refine j_icmp_ge (tgt := 60) C dX1_mostAlike_17 (by decide) (nI_leI (by omega) (by omega)) (fun h17 => ?_) (fun h17 => ?_)
        · refine j_iload_n C dX1_mostAlike_60 rfl 3 rfl ?_
          exact j_iret C hr hlk (⟨by rw [hq, show b = 6 by omega]; rfl, rfl⟩) dX1_mostAlike_61
        · refine j_iload_n C dX1_mostAlike_20 rfl 2 rfl ?_
          refine j_iconst C (nI 1) dX1_mostAlike_21 (by decide) ?_
          refine j_iload C dX1_mostAlike_22 4 rfl ?_
          refine j_ishl C (nI (2 ^ b)) dX1_mostAlike_24 (shl1 (by omega)) ?_
          refine j_iand C (nI us &&& nI (2 ^ b)) dX1_mostAlike_25 rfl ?_
          refine j_if_ne (tgt := 54) C dX1_mostAlike_26 (by decide) (and_bit (by omega)) (fun h26 => ?_) (fun h26 => ?_)
          · refine j_iinc C [(4, .int (nI (b + 1))), (0, .ref (gA Λ 29 0)), (1, .int (nI 1)), (2, .int (nI us)), (3, .int (nI q))] (nI (b + 1)) dX1_mostAlike_54 4 rfl (nI_add _ 1) (by decide) rfl ?_
            refine j_goto (tgt := 13) C dX1_mostAlike_57 (by decide) ?_
            refine j_lv [1, 2, 3, 4, 0] rfl ?_
            exact ih13 q (b + 1) (by omega) (by omega) (st_no hq (by simpa using h26))
          · refine j_iload_n C dX1_mostAlike_29 rfl 3 rfl ?_
            refine j_aload_n C dX1_mostAlike_30 rfl 0 rfl ?_
            refine j_iload_n C dX1_mostAlike_31 rfl 1 rfl ?_
            refine j_aald C 29 0 1 (CR.n1 hC (by decide)) rfl (by decide) (by decide) 6 (CR.l1 hC (by decide)) (by omega) (by omega) 1 (CR.v hC 29 0 1 ⟨rfl, by omega⟩ id) dX1_mostAlike_32 ?_
            refine j_iload C dX1_mostAlike_33 4 rfl ?_
            have hfb35 := hf (6 * 1 + b) (by omega)
            refine j_iald C 30 1 b (CR.n30 hC (by omega)) rfl rfl 6 (CR.l30 hC (by omega)) (by omega) (by omega) (nI (f (6 * 1 + b))) (hF _ _ (by omega) (by omega)) dX1_mostAlike_35 ?_
            refine j_aload_n C dX1_mostAlike_36 rfl 0 rfl ?_
            refine j_iload_n C dX1_mostAlike_37 rfl 1 rfl ?_
            refine j_iconst C (nI 1) dX1_mostAlike_38 (by decide) ?_
            refine j_iadd C (nI 2) dX1_mostAlike_39 (by decide) ?_
            refine j_iload_n C dX1_mostAlike_40 rfl 2 rfl ?_
            refine j_iconst C (nI 1) dX1_mostAlike_41 (by decide) ?_
            refine j_iload C dX1_mostAlike_42 4 rfl ?_
            refine j_ishl C (nI (2 ^ b)) dX1_mostAlike_44 (shl1 (by omega)) ?_
            refine j_ior C (nI (us ||| 2 ^ b)) dX1_mostAlike_45 (fa_or _ _) ?_
            have hsb := stF_le (f := f) (d := 4) (a := 2) (used := us ||| 2 ^ b) (by omega) hf
            refine c_i0 C (r_S C [.ref (gA Λ 29 0), .int (nI 2), .int (nI (us ||| 2 ^ b))] (c_most_2 l D cy base Λ σ M hC hB f hF hf (us ||| 2 ^ b) (or_lt (by omega) (pow6 (by omega)))) (va_cwS 3 hts gX1_mostAlike_X1_mostAlike rfl rfl rfl (by decide +kernel) ⟨by decide, by decide⟩) rfl rfl (Nat.le_of_ble_eq_true rfl) dX1_mostAlike_46 ⟨by decide, by decide⟩) (fun rv uu hp => ?_)
            rw [hp.1, hp.2]
            refine j_iadd C (nI (f (6 * 1 + b) + (stF f 4 2 (us ||| 2 ^ b)))) dX1_mostAlike_49 (nI_add _ _) ?_
            refine j_mmax C (nI (max q (f (6 * 1 + b) + (stF f 4 2 (us ||| 2 ^ b))))) (by decide +kernel) rfl rfl rfl rfl dX1_mostAlike_50 (nI_max (by omega) (by omega)) ?_
            refine j_istore_n C [(3, .int (nI (max q (f (6 * 1 + b) + (stF f 4 2 (us ||| 2 ^ b)))))), (0, .ref (gA Λ 29 0)), (1, .int (nI 1)), (2, .int (nI us)), (4, .int (nI b))] dX1_mostAlike_53 rfl (by decide) rfl ?_
            refine j_iinc C [(4, .int (nI (b + 1))), (3, .int (nI (max q (f (6 * 1 + b) + (stF f 4 2 (us ||| 2 ^ b)))))), (0, .ref (gA Λ 29 0)), (1, .int (nI 1)), (2, .int (nI us))] (nI (b + 1)) dX1_mostAlike_54 4 rfl (nI_add _ 1) (by decide) rfl ?_
            refine j_goto (tgt := 13) C dX1_mostAlike_57 (by decide) ?_
            refine j_lv [2, 3, 4, 1, 0] rfl ?_
            exact ih13 (max q (f (6 * 1 + b) + (stF f 4 2 (us ||| 2 ^ b)))) (b + 1) (by omega) (by omega) (st_yes hq h26)
    refine j_lv [2, 3, 4, 1, 0] rfl ?_
    exact lb13 _ 0 0 (Nat.lt_succ_self _) (by omega) rfl
  · exact absurd trivial z

set_option maxHeartbeats 4000000 in
set_option maxRecDepth 100000 in
theorem c_most_0 (l : Launch) (D : va_G) (cy : Nat → ClassId) (base : Nat) (Λ : LY) (σ : HS) (M : MM) (hC : CR noEx Λ σ M) (hB : MBd M) (f : Nat → Nat) (hF : ∀ x y, x < 6 → y < 6 → gI σ 30 x y = nI (f (6 * x + y))) (hf : ∀ x, x < 36 → f x ≤ 40) (us : Nat) (hus : us < 64) : Met l yX1_mostAlike wsX1_mostAlike ({ frames := 28, cells := 0, slots := 0, locals := 420 }) (va_Pc [.ref (gA Λ 29 0), .int (nI 0), .int (nI us)] (Wd D cy base Λ σ)) (va_Qi (fun v u => v = nI (stF f 6 0 us) ∧ u = σ) (Wd D cy base Λ) (Ab base)) 0 0 (Ab base) := by
  refine j_start (cc := cX1_mostAlike) (nL := 5) (ret := (some .int)) (lv := [(0, .ref (gA Λ 29 0)), (1, .int (nI 0)), (2, .int (nI us))]) (by decide) rfl (Nat.le_of_ble_eq_true rfl) rfl ?_
  intro p e s m below meth c C hr hlk hnm
  have C : Cx p s m ([.ref (gA Λ 29 0), .int (nI 0), .int (nI us)] : List Value).toArray c cX1_mostAlike 5 RX1 wsX1_mostAlike D cy base := C
  have hts := C.2.2.2.2.1
  refine j_iload_n C dX1_mostAlike_0 rfl 1 rfl ?_
  refine j_bipush C (nI 6) dX1_mostAlike_1 (by decide) ?_
  refine j_icmp_lt (tgt := 8) C (P := True) dX1_mostAlike_3 (by decide) (by decide) (fun z => ?_) (fun z => ?_)
  · refine j_iconst C (nI 0) dX1_mostAlike_8 (by decide) ?_
    refine j_istore_n C [(3, .int (nI 0)), (0, .ref (gA Λ 29 0)), (1, .int (nI 0)), (2, .int (nI us))] dX1_mostAlike_9 rfl (by decide) rfl ?_
    refine j_iconst C (nI 0) dX1_mostAlike_10 (by decide) ?_
    refine j_istore C [(4, .int (nI 0)), (3, .int (nI 0)), (0, .ref (gA Λ 29 0)), (1, .int (nI 0)), (2, .int (nI us))] dX1_mostAlike_11 (by decide) rfl ?_
    have lb13 : ∀ (fu : Nat) (q b : Nat), (6 - b) < fu → (b ≤ 6) → (q = stRow (fun b => f (6 * 0 + b) + stF f 5 (0 + 1) (us ||| 2 ^ b)) us b) → J p l e ({ frames := 28, cells := 0, slots := 0, locals := 420 }) s m ([.ref (gA Λ 29 0), .int (nI 0), .int (nI us)] : List Value).toArray below meth c 5 D cy base (MQ below (va_Qi (fun v u => v = nI (stF f 6 0 us) ∧ u = σ) (Wd D cy base Λ) (Ab base)) ([.ref (gA Λ 29 0), .int (nI 0), .int (nI us)] : List Value).toArray s 0 0 (Ab base)) 0 0 Λ 13 [(0, .ref (gA Λ 29 0)), (1, .int (nI 0)), (2, .int (nI us)), (3, .int (nI q)), (4, .int (nI b))] [] σ := by
      intro fu
      induction fu with
      | zero => intro q b hfu; exact absurd hfu (Nat.not_lt_zero _)
      | succ fu ih =>
        intro q b hfu hb hq
        have hq240 : q ≤ 240 := by rw [hq]; exact stRow_le (fun x hx => by have q1 := stF_le (f := f) (d := 5) (a := 0 + 1) (used := us ||| 2 ^ x) (by omega) hf; have q2 := hf (6 * 0 + x) (by omega); show f (6 * 0 + x) + stF f 5 (0 + 1) (us ||| 2 ^ x) ≤ 240; omega)
        have ih13 := ih
        refine j_iload C dX1_mostAlike_13 4 rfl ?_
        refine j_bipush C (nI 6) dX1_mostAlike_15 (by decide) ?_
        refine j_icmp_ge (tgt := 60) C dX1_mostAlike_17 (by decide) (nI_leI (by omega) (by omega)) (fun h17 => ?_) (fun h17 => ?_)
        · refine j_iload_n C dX1_mostAlike_60 rfl 3 rfl ?_
          exact j_iret C hr hlk (⟨by rw [hq, show b = 6 by omega]; rfl, rfl⟩) dX1_mostAlike_61
        · refine j_iload_n C dX1_mostAlike_20 rfl 2 rfl ?_
          refine j_iconst C (nI 1) dX1_mostAlike_21 (by decide) ?_
          refine j_iload C dX1_mostAlike_22 4 rfl ?_
          refine j_ishl C (nI (2 ^ b)) dX1_mostAlike_24 (shl1 (by omega)) ?_
          refine j_iand C (nI us &&& nI (2 ^ b)) dX1_mostAlike_25 rfl ?_
          refine j_if_ne (tgt := 54) C dX1_mostAlike_26 (by decide) (and_bit (by omega)) (fun h26 => ?_) (fun h26 => ?_)
          · refine j_iinc C [(4, .int (nI (b + 1))), (0, .ref (gA Λ 29 0)), (1, .int (nI 0)), (2, .int (nI us)), (3, .int (nI q))] (nI (b + 1)) dX1_mostAlike_54 4 rfl (nI_add _ 1) (by decide) rfl ?_
            refine j_goto (tgt := 13) C dX1_mostAlike_57 (by decide) ?_
            refine j_lv [1, 2, 3, 4, 0] rfl ?_
            exact ih13 q (b + 1) (by omega) (by omega) (st_no hq (by simpa using h26))
          · refine j_iload_n C dX1_mostAlike_29 rfl 3 rfl ?_
            refine j_aload_n C dX1_mostAlike_30 rfl 0 rfl ?_
            refine j_iload_n C dX1_mostAlike_31 rfl 1 rfl ?_
            refine j_aald C 29 0 0 (CR.n1 hC (by decide)) rfl (by decide) (by decide) 6 (CR.l1 hC (by decide)) (by omega) (by omega) 0 (CR.v hC 29 0 0 ⟨rfl, by omega⟩ id) dX1_mostAlike_32 ?_
            refine j_iload C dX1_mostAlike_33 4 rfl ?_
            have hfb35 := hf (6 * 0 + b) (by omega)
            refine j_iald C 30 0 b (CR.n30 hC (by omega)) rfl rfl 6 (CR.l30 hC (by omega)) (by omega) (by omega) (nI (f (6 * 0 + b))) (hF _ _ (by omega) (by omega)) dX1_mostAlike_35 ?_
            refine j_aload_n C dX1_mostAlike_36 rfl 0 rfl ?_
            refine j_iload_n C dX1_mostAlike_37 rfl 1 rfl ?_
            refine j_iconst C (nI 1) dX1_mostAlike_38 (by decide) ?_
            refine j_iadd C (nI 1) dX1_mostAlike_39 (by decide) ?_
            refine j_iload_n C dX1_mostAlike_40 rfl 2 rfl ?_
            refine j_iconst C (nI 1) dX1_mostAlike_41 (by decide) ?_
            refine j_iload C dX1_mostAlike_42 4 rfl ?_
            refine j_ishl C (nI (2 ^ b)) dX1_mostAlike_44 (shl1 (by omega)) ?_
            refine j_ior C (nI (us ||| 2 ^ b)) dX1_mostAlike_45 (fa_or _ _) ?_
            have hsb := stF_le (f := f) (d := 5) (a := 1) (used := us ||| 2 ^ b) (by omega) hf
            refine c_i0 C (r_S C [.ref (gA Λ 29 0), .int (nI 1), .int (nI (us ||| 2 ^ b))] (c_most_1 l D cy base Λ σ M hC hB f hF hf (us ||| 2 ^ b) (or_lt (by omega) (pow6 (by omega)))) (va_cwS 3 hts gX1_mostAlike_X1_mostAlike rfl rfl rfl (by decide +kernel) ⟨by decide, by decide⟩) rfl rfl (Nat.le_of_ble_eq_true rfl) dX1_mostAlike_46 ⟨by decide, by decide⟩) (fun rv uu hp => ?_)
            rw [hp.1, hp.2]
            refine j_iadd C (nI (f (6 * 0 + b) + (stF f 5 1 (us ||| 2 ^ b)))) dX1_mostAlike_49 (nI_add _ _) ?_
            refine j_mmax C (nI (max q (f (6 * 0 + b) + (stF f 5 1 (us ||| 2 ^ b))))) (by decide +kernel) rfl rfl rfl rfl dX1_mostAlike_50 (nI_max (by omega) (by omega)) ?_
            refine j_istore_n C [(3, .int (nI (max q (f (6 * 0 + b) + (stF f 5 1 (us ||| 2 ^ b)))))), (0, .ref (gA Λ 29 0)), (1, .int (nI 0)), (2, .int (nI us)), (4, .int (nI b))] dX1_mostAlike_53 rfl (by decide) rfl ?_
            refine j_iinc C [(4, .int (nI (b + 1))), (3, .int (nI (max q (f (6 * 0 + b) + (stF f 5 1 (us ||| 2 ^ b)))))), (0, .ref (gA Λ 29 0)), (1, .int (nI 0)), (2, .int (nI us))] (nI (b + 1)) dX1_mostAlike_54 4 rfl (nI_add _ 1) (by decide) rfl ?_
            refine j_goto (tgt := 13) C dX1_mostAlike_57 (by decide) ?_
            refine j_lv [2, 3, 4, 1, 0] rfl ?_
            exact ih13 (max q (f (6 * 0 + b) + (stF f 5 1 (us ||| 2 ^ b)))) (b + 1) (by omega) (by omega) (st_yes hq h26)
    refine j_lv [2, 3, 4, 1, 0] rfl ?_
    exact lb13 _ 0 0 (Nat.lt_succ_self _) (by omega) rfl
  · exact absurd trivial z

set_option maxHeartbeats 4000000 in
set_option maxRecDepth 100000 in
theorem c_dist_no (l : Launch) (D : va_G) (cy : Nat → ClassId) (base : Nat) (Λ : LY) (σ : HS) (M : MM) (hC : CR noEx Λ σ M) (hB : MBd M) (hk : M 31 23 = 0) : Met l yX1_distance wsX1_distance ({ frames := 36, cells := 0, slots := 0, locals := 540 }) (va_Pc [.ref (gA Λ 27 0), .ref (gA Λ 3 0)] (Wd D cy base Λ σ)) (va_Qi (fun v u => v = -1 ∧ u = σ) (Wd D cy base Λ) (Ab base)) 0 0 (Ab base) := by
  refine j_start (cc := cX1_distance) (nL := 2) (ret := (some .int)) (lv := [(0, .ref (gA Λ 27 0)), (1, .ref (gA Λ 3 0))]) (by decide) rfl (Nat.le_of_ble_eq_true rfl) rfl ?_
  intro p e s m below meth c C hr hlk hnm
  have C : Cx p s m ([.ref (gA Λ 27 0), .ref (gA Λ 3 0)] : List Value).toArray c cX1_distance 2 RX1 wsX1_distance D cy base := C
  have hts := C.2.2.2.2.1
  have hwX1 : ∀ w ∈ u_ws RX1 TX1 3, w ∈ wsX1_distance := by decide +kernel
  have hM38 : (Cond.fieldLink RX1 38 (TX1 2).1 (TX1 2).2.1 (TX1 2).2.2.1).before ([.ref (gA Λ 27 0), .ref (gA Λ 3 0)] : List Value).toArray s = true := hts (.fieldLink RX1 38 "CodeRooms$Kept" "isHeld" "Z") (by decide +kernel)
  have hL38 : FL RX1 38 (TX1 2).1 (TX1 2).2.1 (TX1 2).2.2.1 ([.ref (gA Λ 27 0), .ref (gA Λ 3 0)] : List Value).toArray s := Or.inl hM38
  refine j_aload_n C dX1_distance_0 rfl 0 rfl ?_
  have hb1 : M 31 23 ≤ 40 := hB 31 23 rfl
  refine j_getI C hwX1 27 0 2 (CR.n1 hC (by decide)) rfl rfl (by decide) rfl (nI (M 31 23)) (CR.i hC 27 0 2 ⟨rfl, rfl⟩ id) hL38 dX1_distance_1 ?_
  refine j_if_eq (tgt := 25) C dX1_distance_4 (by decide) (nJ_eq0 (by omega)) (fun h4 => ?_) (fun h4 => ?_)
  · refine j_iconst C ((-1)) dX1_distance_25 (by decide) ?_
    exact j_iret C hr hlk (⟨rfl, rfl⟩) dX1_distance_26
  · omega

set_option maxHeartbeats 4000000 in
set_option maxRecDepth 100000 in
theorem c_dist_ok (l : Launch) (D : va_G) (cy : Nat → ClassId) (base : Nat) (Λ : LY) (σ : HS) (M : MM) (hC : CR noEx Λ σ M) (hB : MBd M) (hk : M 31 23 ≠ 0) : Met l yX1_distance wsX1_distance ({ frames := 36, cells := 0, slots := 0, locals := 540 }) (va_Pc [.ref (gA Λ 27 0), .ref (gA Λ 3 0)] (Wd D cy base Λ σ)) (va_Qi (fun v u => v = nI (fb_ct (bothB M) (M 31 5)) - nI (stF (fun x => fb_ct (tgP M x) (M 31 5)) 6 0 0) ∧ GK σ u) (Wd D cy base Λ) (Ab base)) 0 0 (Ab base) := by
  refine j_start (cc := cX1_distance) (nL := 2) (ret := (some .int)) (lv := [(0, .ref (gA Λ 27 0)), (1, .ref (gA Λ 3 0))]) (by decide) rfl (Nat.le_of_ble_eq_true rfl) rfl ?_
  intro p e s m below meth c C hr hlk hnm
  have C : Cx p s m ([.ref (gA Λ 27 0), .ref (gA Λ 3 0)] : List Value).toArray c cX1_distance 2 RX1 wsX1_distance D cy base := C
  have hts := C.2.2.2.2.1
  have hwX1 : ∀ w ∈ u_ws RX1 TX1 3, w ∈ wsX1_distance := by decide +kernel
  have hM17 : (Cond.fieldLink RX1 17 (TX1 1).1 (TX1 1).2.1 (TX1 1).2.2.1).before ([.ref (gA Λ 27 0), .ref (gA Λ 3 0)] : List Value).toArray s = true := hts (.fieldLink RX1 17 "CodeRooms$Kept" "alike" "[[I") (by decide +kernel)
  have hL17 : FL RX1 17 (TX1 1).1 (TX1 1).2.1 (TX1 1).2.2.1 ([.ref (gA Λ 27 0), .ref (gA Λ 3 0)] : List Value).toArray s := Or.inl hM17
  have hM38 : (Cond.fieldLink RX1 38 (TX1 2).1 (TX1 2).2.1 (TX1 2).2.2.1).before ([.ref (gA Λ 27 0), .ref (gA Λ 3 0)] : List Value).toArray s = true := hts (.fieldLink RX1 38 "CodeRooms$Kept" "isHeld" "Z") (by decide +kernel)
  have hL38 : FL RX1 38 (TX1 2).1 (TX1 2).2.1 (TX1 2).2.2.1 ([.ref (gA Λ 27 0), .ref (gA Λ 3 0)] : List Value).toArray s := Or.inl hM38
  have hn : M 31 5 ≤ 40 := hB 31 5 rfl
  refine j_aload_n C dX1_distance_0 rfl 0 rfl ?_
  have hb1 : M 31 23 ≤ 40 := hB 31 23 rfl
  refine j_getI C hwX1 27 0 2 (CR.n1 hC (by decide)) rfl rfl (by decide) rfl (nI (M 31 23)) (CR.i hC 27 0 2 ⟨rfl, rfl⟩ id) hL38 dX1_distance_1 ?_
  refine j_if_eq (tgt := 25) C dX1_distance_4 (by decide) (nJ_eq0 (by omega)) (fun h4 => ?_) (fun h4 => ?_)
  · omega
  · refine j_aload_n C dX1_distance_7 rfl 0 rfl ?_
    refine j_aload_n C dX1_distance_8 rfl 1 rfl ?_
    refine c_i0 C (r_V C 27 0 [.ref (gA Λ 3 0)] (c_X1_countPairs l D cy base Λ σ M hC hB) (cwV 1 hts gX1_distance_X1_countPairs rfl rfl rfl (by decide +kernel) ⟨by decide, by decide⟩) (CR.n1 hC (by decide)) rfl rfl rfl rfl (Nat.le_of_ble_eq_true rfl) dX1_distance_9 ⟨by decide, by decide⟩) (fun rv u1 hp => ?_)
    obtain ⟨hp1, hG1, hF1⟩ := hp
    rw [hp1]
    refine j_aload_n C dX1_distance_12 rfl 0 rfl ?_
    refine j_getV C hwX1 27 0 1 (CR.n1 (hG1.cr hC) (by decide)) rfl rfl (by decide) rfl 0 (CR.v (hG1.cr hC) 27 0 1 ⟨rfl, by decide⟩ id) hL17 dX1_distance_13 ?_
    refine j_iconst C (nI 0) dX1_distance_16 (by decide) ?_
    refine j_iconst C (nI 0) dX1_distance_17 (by decide) ?_
    refine c_i0 C (r_S C [.ref (gA Λ 29 0), .int (nI 0), .int (nI 0)] (c_most_0 l D cy base Λ u1 M (hG1.cr hC) hB (fun x => fb_ct (tgP M x) (M 31 5)) hF1 (fun x _ => Nat.le_trans (fb_ct_le _ _) hn) 0 (by decide)) (va_cwS 3 hts gX1_distance_X1_mostAlike rfl rfl rfl (by decide +kernel) ⟨by decide, by decide⟩) rfl rfl (Nat.le_of_ble_eq_true rfl) dX1_distance_18 ⟨by decide, by decide⟩) (fun rv uu hp => ?_)
    rw [hp.1, hp.2]
    refine j_isub C ((nI (fb_ct (bothB M) (M 31 5))) - (nI (stF (fun x => fb_ct (tgP M x) (M 31 5)) 6 0 0))) dX1_distance_21 rfl ?_
    refine j_goto (tgt := 26) C dX1_distance_22 (by decide) ?_
    exact j_iret C hr hlk (⟨rfl, hG1⟩) dX1_distance_26
