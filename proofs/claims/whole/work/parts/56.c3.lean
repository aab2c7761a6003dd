set_option maxHeartbeats 4000000 in
set_option maxRecDepth 100000 in
theorem c_X4_gather (l : Launch) (D : va_G) (cy : Nat → ClassId) (base : Nat) (Λ : LY) (σ : HS) (M : MM) (hC : CR noEx Λ σ M) (hB : MBd M) : Met l yX4_gather wsX4_gather ({ frames := 4, cells := 0, slots := 0, locals := 60 }) (va_Pc [.ref (gA Λ 3 0)] (Wd D cy base Λ σ)) (va_Qv (fun u => G7 σ u ∧ ∀ room, room < 6 → gJ u 7 0 room = lN (memS M room)) (Wd D cy base Λ) (Ab base)) 0 0 (Ab base) := by
  refine j_start (cc := cX4_gather) (nL := 2) (ret := none) (lv := [(0, .ref (gA Λ 3 0))]) (by decide) rfl (Nat.le_of_ble_eq_true rfl) rfl ?_
  intro p e s m below meth c C hr hlk hnm
  have C : Cx p s m ([.ref (gA Λ 3 0)] : List Value).toArray c cX4_gather 2 RX4 wsX4_gather D cy base := C
  have hts := C.2.2.2.2.1
  have hwX4 : ∀ w ∈ u_ws RX4 TX4 6, w ∈ wsX4_gather := by decide +kernel
  have hwX5 : ∀ w ∈ u_ws RX5 TX5 13, w ∈ wsX4_gather := by decide +kernel
  have hM17 : (Cond.fieldLink RX4 17 (TX4 1).1 (TX4 1).2.1 (TX4 1).2.2.1).before ([.ref (gA Λ 3 0)] : List Value).toArray s = true := hts (.fieldLink RX4 17 "CodeRooms$Plan" "housed" "[LCodeRooms$Routine;") (by decide +kernel)
  have hL17 : FL RX4 17 (TX4 1).1 (TX4 1).2.1 (TX4 1).2.2.1 ([.ref (gA Λ 3 0)] : List Value).toArray s := Or.inl hM17
  have hM24 : (Cond.fieldLink RX4 24 (TX4 3).1 (TX4 3).2.1 (TX4 3).2.2.1).before ([.ref (gA Λ 3 0)] : List Value).toArray s = true := hts (.fieldLink RX4 24 "CodeRooms$Plan" "members" "[J") (by decide +kernel)
  have hL24 : FL RX4 24 (TX4 3).1 (TX4 3).2.1 (TX4 3).2.2.1 ([.ref (gA Λ 3 0)] : List Value).toArray s := Or.inl hM24
  have hL66 : FL RX4 66 (TX5 1).1 (TX5 1).2.1 (TX5 1).2.2.1 ([.ref (gA Λ 3 0)] : List Value).toArray s := Or.inr ⟨_, Ex.nestF C.2.2.2.2.2.2 nf_X4_66⟩
  have hM83 : (Cond.fieldLink RX4 83 (TX4 5).1 (TX4 5).2.1 (TX4 5).2.2.1).before ([.ref (gA Λ 3 0)] : List Value).toArray s = true := hts (.fieldLink RX4 83 "CodeRooms$Plan" "housedCount" "I") (by decide +kernel)
  have hL83 : FL RX4 83 (TX4 5).1 (TX4 5).2.1 (TX4 5).2.2.1 ([.ref (gA Λ 3 0)] : List Value).toArray s := Or.inl hM83
  have hL99 : FL RX4 99 (TX5 11).1 (TX5 11).2.1 (TX5 11).2.2.1 ([.ref (gA Λ 3 0)] : List Value).toArray s := Or.inr ⟨_, Ex.nestF C.2.2.2.2.2.2 nf_X4_99⟩
  have hn : M 31 5 ≤ 40 := hB 31 5 rfl
  refine j_iconst C (nI 0) dX4_gather_0 (by decide) ?_
  refine j_istore_n C [(1, .int (nI 0)), (0, .ref (gA Λ 3 0))] dX4_gather_1 rfl (by decide) rfl ?_
  have lb2 : ∀ (fu : Nat) (σ1 : HS) (i : Nat), (6 - i) < fu → (i ≤ 6) → (G7 σ σ1) → (∀ room, room < i → gJ σ1 7 0 room = lN 0) → J p l e ({ frames := 4, cells := 0, slots := 0, locals := 60 }) s m ([.ref (gA Λ 3 0)] : List Value).toArray below meth c 2 D cy base (MQ below (va_Qv (fun u => G7 σ u ∧ ∀ room, room < 6 → gJ u 7 0 room = lN (memS M room)) (Wd D cy base Λ) (Ab base)) ([.ref (gA Λ 3 0)] : List Value).toArray s 0 0 (Ab base)) 0 0 Λ 2 [(0, .ref (gA Λ 3 0)), (1, .int (nI i))] [] σ1 := by
    intro fu
    induction fu with
    | zero => intro σ1 i hfu; exact absurd hfu (Nat.not_lt_zero _)
    | succ fu ih =>
      intro σ1 i hfu hi hG hz
      have ih2 := ih
      refine j_iload_n C dX4_gather_2 rfl 1 rfl ?_
      refine j_bipush C (nI 6) dX4_gather_3 (by decide) ?_
      refine j_icmp_ge (tgt := 21) C dX4_gather_5 (by decide) (nI_leI (by omega) (by omega)) (fun h5 => ?_) (fun h5 => ?_)
      · refine j_iconst C (nI 0) dX4_gather_21 (by decide) ?_
        refine j_istore_n C [(1, .int (nI 0)), (0, .ref (gA Λ 3 0))] dX4_gather_22 rfl (by decide) rfl ?_
        have lb23 : ∀ (fu : Nat) (σ2 : HS) (k : Nat), (hcN M - k) < fu → (k ≤ hcN M) → (G7 σ σ2) → (∀ room, room < 6 → gJ σ2 7 0 room = lN (orH M (fun r => decide (M 38 r = room)) k)) → J p l e ({ frames := 4, cells := 0, slots := 0, locals := 60 }) s m ([.ref (gA Λ 3 0)] : List Value).toArray below meth c 2 D cy base (MQ below (va_Qv (fun u => G7 σ u ∧ ∀ room, room < 6 → gJ u 7 0 room = lN (memS M room)) (Wd D cy base Λ) (Ab base)) ([.ref (gA Λ 3 0)] : List Value).toArray s 0 0 (Ab base)) 0 0 Λ 23 [(0, .ref (gA Λ 3 0)), (1, .int (nI k))] [] σ2 := by
          intro fu
          induction fu with
          | zero => intro σ2 k hfu; exact absurd hfu (Nat.not_lt_zero _)
          | succ fu ih =>
            intro σ2 k hfu hk hG2 hm
            have hhc0 := hcN_le M
            have ih23 := ih
            refine j_iload_n C dX4_gather_23 rfl 1 rfl ?_
            refine j_aload_n C dX4_gather_24 rfl 0 rfl ?_
            have hhc25 := hcN_le M
            refine j_getI C hwX4 3 0 5 (CR.n1 (hG2.cr hC) (by decide)) rfl rfl (by decide) rfl (nI (hcN M)) (CR.i (hG2.cr hC) 3 0 5 ⟨rfl, Or.inr rfl⟩ id) hL83 dX4_gather_25 ?_
            refine j_icmp_ge (tgt := 63) C dX4_gather_28 (by decide) (nI_leI (by omega) (by omega)) (fun h28 => ?_) (fun h28 => ?_)
            · exact j_vret C hr hlk (⟨hG2, fun room hr => by rw [hm room hr, show k = hcN M by omega, orH_all]; rfl⟩) dX4_gather_63
            · refine j_aload_n C dX4_gather_31 rfl 0 rfl ?_
              refine j_getV C hwX4 3 0 3 (CR.n1 (hG2.cr hC) (by decide)) rfl rfl (by decide) rfl 0 (CR.v (hG2.cr hC) 3 0 3 ⟨rfl, by decide⟩ id) hL24 dX4_gather_32 ?_
              refine j_aload_n C dX4_gather_35 rfl 0 rfl ?_
              refine j_getV C hwX4 3 0 1 (CR.n1 (hG2.cr hC) (by decide)) rfl rfl (by decide) rfl 0 (CR.v (hG2.cr hC) 3 0 1 ⟨rfl, by decide⟩ id) hL17 dX4_gather_36 ?_
              refine j_iload_n C dX4_gather_39 rfl 1 rfl ?_
              have hhs40 := hs_lt (M := M) (k := k) (by omega)
              have hhn40 := hs_nh (M := M) (k := k) (by omega)
              refine j_aald C 5 0 k (CR.n1 (hG2.cr hC) (by decide)) rfl (by decide) (by decide) 40 (CR.l1 (hG2.cr hC) (by decide)) (by omega) (by omega) (hs M k) (CR.v (hG2.cr hC) 5 0 k ⟨rfl, by omega⟩ id) dX4_gather_40 ?_
              have hb41 : M 38 (hs M k) ≤ 5 := hB 38 (hs M k) (decide_eq_true (show hs M k < 40 by omega))
              refine j_getI C hwX5 8 (hs M k) 11 (CR.n8 (hG2.cr hC) (by decide) (show hs M k < M 31 5 by omega)) rfl rfl (by decide) rfl (nI (M 38 (hs M k))) (CR.i (hG2.cr hC) 8 (hs M k) 11 ⟨show hs M k < M 31 5 by omega, Or.inr (Or.inr (Or.inl rfl))⟩ id) hL99 dX4_gather_41 ?_
              refine j_dup2 C dX4_gather_44 rfl rfl ?_
              refine j_lald C 7 0 (M 38 (hs M k)) (CR.n1 (hG2.cr hC) (by decide)) rfl rfl 6 (CR.l1 (hG2.cr hC) (by decide)) (by omega) (by omega) (lN (orH M (fun r => decide (M 38 r = (M 38 (hs M k)))) k)) (hm _ (by omega)) dX4_gather_45 ?_
              refine j_aload_n C dX4_gather_46 rfl 0 rfl ?_
              refine j_getV C hwX4 3 0 1 (CR.n1 (hG2.cr hC) (by decide)) rfl rfl (by decide) rfl 0 (CR.v (hG2.cr hC) 3 0 1 ⟨rfl, by decide⟩ id) hL17 dX4_gather_47 ?_
              refine j_iload_n C dX4_gather_50 rfl 1 rfl ?_
              have hhs51 := hs_lt (M := M) (k := k) (by omega)
              have hhn51 := hs_nh (M := M) (k := k) (by omega)
              refine j_aald C 5 0 k (CR.n1 (hG2.cr hC) (by decide)) rfl (by decide) (by decide) 40 (CR.l1 (hG2.cr hC) (by decide)) (by omega) (by omega) (hs M k) (CR.v (hG2.cr hC) 5 0 k ⟨rfl, by omega⟩ id) dX4_gather_51 ?_
              refine j_getJ C hwX5 8 (hs M k) 1 (CR.n8 (hG2.cr hC) (by decide) (show hs M k < M 31 5 by omega)) rfl rfl (by decide) rfl (lN (2 ^ (hs M k))) (CR.j (hG2.cr hC) 8 (hs M k) 1 ⟨show hs M k < M 31 5 by omega, Or.inl rfl⟩ id) hL66 dX4_gather_52 ?_
              refine j_lor C (lN ((orH M (fun r => decide (M 38 r = (M 38 (hs M k)))) k) ||| (2 ^ (hs M k)))) dX4_gather_55 (fb_orL _ _) ?_
              refine j_last C 7 0 (M 38 (hs M k)) (CR.n1 (hG2.cr hC) (by decide)) rfl rfl 6 (CR.l1 (hG2.cr hC) (by decide)) (by omega) (by omega) (lN ((orH M (fun r => decide (M 38 r = (M 38 (hs M k)))) k) ||| (2 ^ (hs M k)))) rfl dX4_gather_56 ?_
              refine j_iinc C [(1, .int (nI (k + 1))), (0, .ref (gA Λ 3 0))] (nI (k + 1)) dX4_gather_57 1 rfl (nI_add _ 1) (by decide) rfl ?_
              refine j_goto (tgt := 23) C dX4_gather_60 (by decide) ?_
              refine j_lv [1, 0] rfl ?_
              exact ih23 (sJ σ2 7 0 (M 38 (hs M k)) (lN ((orH M (fun r => decide (M 38 r = (M 38 (hs M k)))) k) ||| (2 ^ (hs M k))))) (k + 1) (by omega) (by omega) hG2.s (fun room hr => by rw [gJ_sJ]; show _ = lN (orH M (fun r => decide (M 38 r = room)) k ||| (if decide (M 38 (hs M k) = room) = true then 2 ^ hs M k else 0)); by_cases e : room = M 38 (hs M k); rw [if_pos ⟨rfl, rfl, e⟩, if_pos (decide_eq_true e.symm), e]; rw [if_neg (fun z => e z.2.2), if_neg (fun z => e (of_decide_eq_true z).symm), Nat.or_zero]; exact hm room hr)
        refine j_lv [1, 0] rfl ?_
        exact lb23 _ σ1 0 (Nat.lt_succ_self _) (by omega) hG (fun room hr => hz room (by omega))
      · refine j_aload_n C dX4_gather_8 rfl 0 rfl ?_
        refine j_getV C hwX4 3 0 3 (CR.n1 (hG.cr hC) (by decide)) rfl rfl (by decide) rfl 0 (CR.v (hG.cr hC) 3 0 3 ⟨rfl, by decide⟩ id) hL24 dX4_gather_9 ?_
        refine j_iload_n C dX4_gather_12 rfl 1 rfl ?_
        refine j_lconst C (lN 0) dX4_gather_13 (by decide) ?_
        refine j_last C 7 0 i (CR.n1 (hG.cr hC) (by decide)) rfl rfl 6 (CR.l1 (hG.cr hC) (by decide)) (by omega) (by omega) (lN 0) rfl dX4_gather_14 ?_
        refine j_iinc C [(1, .int (nI (i + 1))), (0, .ref (gA Λ 3 0))] (nI (i + 1)) dX4_gather_15 1 rfl (nI_add _ 1) (by decide) rfl ?_
        refine j_goto (tgt := 2) C dX4_gather_18 (by decide) ?_
        refine j_lv [1, 0] rfl ?_
        exact ih2 (sJ σ1 7 0 i (lN 0)) (i + 1) (by omega) (by omega) hG.s (fun room hr => by rw [gJ_sJ]; by_cases e : room = i; rw [if_pos ⟨rfl, rfl, e⟩]; rw [if_neg (fun z => e z.2.2)]; exact hz room (by omega))
  refine j_lv [1, 0] rfl ?_
  exact lb2 _ σ 0 (Nat.lt_succ_self _) (by omega) G7.rf (fun room hr => absurd hr (Nat.not_lt_zero _))

set_option maxHeartbeats 4000000 in
set_option maxRecDepth 100000 in
theorem c_X4_housedBits (l : Launch) (D : va_G) (cy : Nat → ClassId) (base : Nat) (Λ : LY) (σ : HS) (M : MM) (hC : CR noEx Λ σ M) (hB : MBd M) : Met l yX4_housedBits wsX4_housedBits ({ frames := 4, cells := 0, slots := 0, locals := 60 }) (va_Pc [.ref (gA Λ 3 0)] (Wd D cy base Λ σ)) (va_Ql (fun v u => v = lN (hbS M) ∧ u = σ) (Wd D cy base Λ) (Ab base)) 0 0 (Ab base) := by
  refine j_start (cc := cX4_housedBits) (nL := 4) (ret := (some .long)) (lv := [(0, .ref (gA Λ 3 0))]) (by decide) rfl (Nat.le_of_ble_eq_true rfl) rfl ?_
  intro p e s m below meth c C hr hlk hnm
  have C : Cx p s m ([.ref (gA Λ 3 0)] : List Value).toArray c cX4_housedBits 4 RX4 wsX4_housedBits D cy base := C
  have hts := C.2.2.2.2.1
  have hwX4 : ∀ w ∈ u_ws RX4 TX4 6, w ∈ wsX4_housedBits := by decide +kernel
  have hwX5 : ∀ w ∈ u_ws RX5 TX5 13, w ∈ wsX4_housedBits := by decide +kernel
  have hM17 : (Cond.fieldLink RX4 17 (TX4 1).1 (TX4 1).2.1 (TX4 1).2.2.1).before ([.ref (gA Λ 3 0)] : List Value).toArray s = true := hts (.fieldLink RX4 17 "CodeRooms$Plan" "housed" "[LCodeRooms$Routine;") (by decide +kernel)
  have hL17 : FL RX4 17 (TX4 1).1 (TX4 1).2.1 (TX4 1).2.2.1 ([.ref (gA Λ 3 0)] : List Value).toArray s := Or.inl hM17
  have hL66 : FL RX4 66 (TX5 1).1 (TX5 1).2.1 (TX5 1).2.2.1 ([.ref (gA Λ 3 0)] : List Value).toArray s := Or.inr ⟨_, Ex.nestF C.2.2.2.2.2.2 nf_X4_66⟩
  have hM83 : (Cond.fieldLink RX4 83 (TX4 5).1 (TX4 5).2.1 (TX4 5).2.2.1).before ([.ref (gA Λ 3 0)] : List Value).toArray s = true := hts (.fieldLink RX4 83 "CodeRooms$Plan" "housedCount" "I") (by decide +kernel)
  have hL83 : FL RX4 83 (TX4 5).1 (TX4 5).2.1 (TX4 5).2.2.1 ([.ref (gA Λ 3 0)] : List Value).toArray s := Or.inl hM83
  have hn : M 31 5 ≤ 40 := hB 31 5 rfl
  have hhc0 := hcN_le M
  refine j_lconst C (lN 0) dX4_housedBits_0 (by decide) ?_
  refine j_lstore_n C [(1, .long (lN 0)), (0, .ref (gA Λ 3 0))] dX4_housedBits_1 rfl (by decide) rfl ?_
  refine j_iconst C (nI 0) dX4_housedBits_2 (by decide) ?_
  refine j_istore_n C [(3, .int (nI 0)), (1, .long (lN 0)), (0, .ref (gA Λ 3 0))] dX4_housedBits_3 rfl (by decide) rfl ?_
  have lb4 : ∀ (fu : Nat) (a k : Nat), (hcN M - k) < fu → (k ≤ hcN M) → (a = orH M (fun _ => true) k) → J p l e ({ frames := 4, cells := 0, slots := 0, locals := 60 }) s m ([.ref (gA Λ 3 0)] : List Value).toArray below meth c 4 D cy base (MQ below (va_Ql (fun v u => v = lN (hbS M) ∧ u = σ) (Wd D cy base Λ) (Ab base)) ([.ref (gA Λ 3 0)] : List Value).toArray s 0 0 (Ab base)) 0 0 Λ 4 [(0, .ref (gA Λ 3 0)), (1, .long (lN a)), (3, .int (nI k))] [] σ := by
    intro fu
    induction fu with
    | zero => intro a k hfu; exact absurd hfu (Nat.not_lt_zero _)
    | succ fu ih =>
      intro a k hfu hk ha
      have ih4 := ih
      refine j_iload_n C dX4_housedBits_4 rfl 2 rfl ?_
      refine j_aload_n C dX4_housedBits_5 rfl 0 rfl ?_
      have hhc6 := hcN_le M
      refine j_getI C hwX4 3 0 5 (CR.n1 hC (by decide)) rfl rfl (by decide) rfl (nI (hcN M)) (CR.i hC 3 0 5 ⟨rfl, Or.inr rfl⟩ id) hL83 dX4_housedBits_6 ?_
      refine j_icmp_ge (tgt := 30) C dX4_housedBits_9 (by decide) (nI_leI (by omega) (by omega)) (fun h9 => ?_) (fun h9 => ?_)
      · refine j_lload_n C dX4_housedBits_30 rfl 1 rfl ?_
        exact j_lret C hr hlk (⟨by rw [ha, show k = hcN M by omega, orH_all]; rfl, rfl⟩) dX4_housedBits_31
      · refine j_lload_n C dX4_housedBits_12 rfl 1 rfl ?_
        refine j_aload_n C dX4_housedBits_13 rfl 0 rfl ?_
        refine j_getV C hwX4 3 0 1 (CR.n1 hC (by decide)) rfl rfl (by decide) rfl 0 (CR.v hC 3 0 1 ⟨rfl, by decide⟩ id) hL17 dX4_housedBits_14 ?_
        refine j_iload_n C dX4_housedBits_17 rfl 2 rfl ?_
        have hhs18 := hs_lt (M := M) (k := k) (by omega)
        have hhn18 := hs_nh (M := M) (k := k) (by omega)
        refine j_aald C 5 0 k (CR.n1 hC (by decide)) rfl (by decide) (by decide) 40 (CR.l1 hC (by decide)) (by omega) (by omega) (hs M k) (CR.v hC 5 0 k ⟨rfl, by omega⟩ id) dX4_housedBits_18 ?_
        refine j_getJ C hwX5 8 (hs M k) 1 (CR.n8 hC (by decide) (show hs M k < M 31 5 by omega)) rfl rfl (by decide) rfl (lN (2 ^ (hs M k))) (CR.j hC 8 (hs M k) 1 ⟨show hs M k < M 31 5 by omega, Or.inl rfl⟩ id) hL66 dX4_housedBits_19 ?_
        refine j_lor C (lN (a ||| (2 ^ (hs M k)))) dX4_housedBits_22 (fb_orL _ _) ?_
        refine j_lstore_n C [(1, .long (lN (a ||| (2 ^ (hs M k))))), (0, .ref (gA Λ 3 0)), (3, .int (nI k))] dX4_housedBits_23 rfl (by decide) rfl ?_
        refine j_iinc C [(3, .int (nI (k + 1))), (1, .long (lN (a ||| (2 ^ (hs M k))))), (0, .ref (gA Λ 3 0))] (nI (k + 1)) dX4_housedBits_24 2 rfl (nI_add _ 1) (by decide) rfl ?_
        refine j_goto (tgt := 4) C dX4_housedBits_27 (by decide) ?_
        refine j_lv [2, 1, 0] rfl ?_
        exact ih4 (a ||| (2 ^ (hs M k))) (k + 1) (by omega) (by omega) (by rw [ha]; rfl)
  refine j_lv [2, 1, 0] rfl ?_
  exact lb4 _ 0 0 (Nat.lt_succ_self _) (by omega) rfl

set_option maxHeartbeats 4000000 in
set_option maxRecDepth 100000 in
theorem c_X4_brokenMusts (l : Launch) (D : va_G) (cy : Nat → ClassId) (base : Nat) (Λ : LY) (σ : HS) (M : MM) (hC : CR noEx Λ σ M) (hB : MBd M) : Met l yX4_brokenMusts wsX4_brokenMusts ({ frames := 8, cells := 0, slots := 0, locals := 120 }) (va_Pc [.ref (gA Λ 3 0)] (Wd D cy base Λ σ)) (va_Qi (fun v u => v = nI (brkN M) ∧ u = σ) (Wd D cy base Λ) (Ab base)) 0 0 (Ab base) := by
  refine j_start (cc := cX4_brokenMusts) (nL := 4) (ret := (some .int)) (lv := [(0, .ref (gA Λ 3 0))]) (by decide) rfl (Nat.le_of_ble_eq_true rfl) rfl ?_
  intro p e s m below meth c C hr hlk hnm
  have C : Cx p s m ([.ref (gA Λ 3 0)] : List Value).toArray c cX4_brokenMusts 4 RX4 wsX4_brokenMusts D cy base := C
  have hts := C.2.2.2.2.1
  have hwX4 : ∀ w ∈ u_ws RX4 TX4 6, w ∈ wsX4_brokenMusts := by decide +kernel
  have hM17 : (Cond.fieldLink RX4 17 (TX4 1).1 (TX4 1).2.1 (TX4 1).2.2.1).before ([.ref (gA Λ 3 0)] : List Value).toArray s = true := hts (.fieldLink RX4 17 "CodeRooms$Plan" "housed" "[LCodeRooms$Routine;") (by decide +kernel)
  have hL17 : FL RX4 17 (TX4 1).1 (TX4 1).2.1 (TX4 1).2.2.1 ([.ref (gA Λ 3 0)] : List Value).toArray s := Or.inl hM17
  have hM83 : (Cond.fieldLink RX4 83 (TX4 5).1 (TX4 5).2.1 (TX4 5).2.2.1).before ([.ref (gA Λ 3 0)] : List Value).toArray s = true := hts (.fieldLink RX4 83 "CodeRooms$Plan" "housedCount" "I") (by decide +kernel)
  have hL83 : FL RX4 83 (TX4 5).1 (TX4 5).2.1 (TX4 5).2.2.1 ([.ref (gA Λ 3 0)] : List Value).toArray s := Or.inl hM83
  have hn : M 31 5 ≤ 40 := hB 31 5 rfl
  have hhc0 := hcN_le M
  refine j_iconst C (nI 0) dX4_brokenMusts_0 (by decide) ?_
  refine j_istore_n C [(1, .int (nI 0)), (0, .ref (gA Λ 3 0))] dX4_brokenMusts_1 rfl (by decide) rfl ?_
  refine j_iconst C (nI 0) dX4_brokenMusts_2 (by decide) ?_
  refine j_istore_n C [(2, .int (nI 0)), (1, .int (nI 0)), (0, .ref (gA Λ 3 0))] dX4_brokenMusts_3 rfl (by decide) rfl ?_
  have lb4 : ∀ (fu : Nat) (a i : Nat), (hcN M - i) < fu → (i ≤ hcN M) → (a = fb_sm (brkH M) i) → J p l e ({ frames := 8, cells := 0, slots := 0, locals := 120 }) s m ([.ref (gA Λ 3 0)] : List Value).toArray below meth c 4 D cy base (MQ below (va_Qi (fun v u => v = nI (brkN M) ∧ u = σ) (Wd D cy base Λ) (Ab base)) ([.ref (gA Λ 3 0)] : List Value).toArray s 0 0 (Ab base)) 0 0 Λ 4 [(0, .ref (gA Λ 3 0)), (1, .int (nI a)), (2, .int (nI i))] [] σ := by
    intro fu
    induction fu with
    | zero => intro a i hfu; exact absurd hfu (Nat.not_lt_zero _)
    | succ fu ih =>
      intro a i hfu hi ha
      have ih4 := ih
      refine j_iload_n C dX4_brokenMusts_4 rfl 2 rfl ?_
      refine j_aload_n C dX4_brokenMusts_5 rfl 0 rfl ?_
      have hhc6 := hcN_le M
      refine j_getI C hwX4 3 0 5 (CR.n1 hC (by decide)) rfl rfl (by decide) rfl (nI (hcN M)) (CR.i hC 3 0 5 ⟨rfl, Or.inr rfl⟩ id) hL83 dX4_brokenMusts_6 ?_
      refine j_icmp_ge (tgt := 72) C dX4_brokenMusts_9 (by decide) (nI_leI (by omega) (by omega)) (fun h9 => ?_) (fun h9 => ?_)
      · refine j_iload_n C dX4_brokenMusts_72 rfl 1 rfl ?_
        exact j_iret C hr hlk (⟨by rw [ha, show i = hcN M by omega, brkH_all], rfl⟩) dX4_brokenMusts_73
      · have lb31 : ∀ (fu : Nat) (q j : Nat), (hcN M - j) < fu → (j ≤ hcN M) → (i < j) → (q = a + (if fxB M (hs M i) (M 38 (hs M i)) = true then 1 else 0) + fb_ct (fun j => decide (i < j) && brk (M 39 (40 * hs M i + hs M j)) (M 38 (hs M i)) (M 38 (hs M j))) j) → J p l e ({ frames := 8, cells := 0, slots := 0, locals := 120 }) s m ([.ref (gA Λ 3 0)] : List Value).toArray below meth c 4 D cy base (MQ below (va_Qi (fun v u => v = nI (brkN M) ∧ u = σ) (Wd D cy base Λ) (Ab base)) ([.ref (gA Λ 3 0)] : List Value).toArray s 0 0 (Ab base)) 0 0 Λ 31 [(0, .ref (gA Λ 3 0)), (1, .int (nI q)), (2, .int (nI i)), (3, .int (nI j))] [] σ := by
          intro fu
          induction fu with
          | zero => intro q j hfu; exact absurd hfu (Nat.not_lt_zero _)
          | succ fu ih =>
            intro q j hfu hj hij hq
            have ih31 := ih
            refine j_iload_n C dX4_brokenMusts_31 rfl 3 rfl ?_
            refine j_aload_n C dX4_brokenMusts_32 rfl 0 rfl ?_
            have hhc33 := hcN_le M
            refine j_getI C hwX4 3 0 5 (CR.n1 hC (by decide)) rfl rfl (by decide) rfl (nI (hcN M)) (CR.i hC 3 0 5 ⟨rfl, Or.inr rfl⟩ id) hL83 dX4_brokenMusts_33 ?_
            refine j_icmp_ge (tgt := 66) C dX4_brokenMusts_36 (by decide) (nI_leI (by omega) (by omega)) (fun h36 => ?_) (fun h36 => ?_)
            · refine j_iinc C [(2, .int (nI (i + 1))), (0, .ref (gA Λ 3 0)), (1, .int (nI q)), (3, .int (nI j))] (nI (i + 1)) dX4_brokenMusts_66 2 rfl (nI_add _ 1) (by decide) rfl ?_
              refine j_goto (tgt := 4) C dX4_brokenMusts_69 (by decide) ?_
              refine j_lv [1, 2, 0] rfl ?_
              exact ih4 q (i + 1) (by omega) (by omega) (by rw [fb_sm_succ, ← ha, hq, show j = hcN M by omega]; unfold brkH; omega)
            · refine j_aload_n C dX4_brokenMusts_39 rfl 0 rfl ?_
              refine j_getV C hwX4 3 0 1 (CR.n1 hC (by decide)) rfl rfl (by decide) rfl 0 (CR.v hC 3 0 1 ⟨rfl, by decide⟩ id) hL17 dX4_brokenMusts_40 ?_
              refine j_iload_n C dX4_brokenMusts_43 rfl 2 rfl ?_
              have hhs44 := hs_lt (M := M) (k := i) (by omega)
              have hhn44 := hs_nh (M := M) (k := i) (by omega)
              refine j_aald C 5 0 i (CR.n1 hC (by decide)) rfl (by decide) (by decide) 40 (CR.l1 hC (by decide)) (by omega) (by omega) (hs M i) (CR.v hC 5 0 i ⟨rfl, by omega⟩ id) dX4_brokenMusts_44 ?_
              refine j_aload_n C dX4_brokenMusts_45 rfl 0 rfl ?_
              refine j_getV C hwX4 3 0 1 (CR.n1 hC (by decide)) rfl rfl (by decide) rfl 0 (CR.v hC 3 0 1 ⟨rfl, by decide⟩ id) hL17 dX4_brokenMusts_46 ?_
              refine j_iload_n C dX4_brokenMusts_49 rfl 3 rfl ?_
              have hhs50 := hs_lt (M := M) (k := j) (by omega)
              have hhn50 := hs_nh (M := M) (k := j) (by omega)
              refine j_aald C 5 0 j (CR.n1 hC (by decide)) rfl (by decide) (by decide) 40 (CR.l1 hC (by decide)) (by omega) (by omega) (hs M j) (CR.v hC 5 0 j ⟨rfl, by omega⟩ id) dX4_brokenMusts_50 ?_
              refine c_i0 C (r_V C 8 (hs M i) [.ref (gA Λ 8 (hs M j))] (c_X5_clashesWith l D cy base Λ σ M hC hB (hs M i) (hs M j) (by omega) (by omega)) (cwV 1 hts gX4_brokenMusts_X5_clashesWith rfl rfl rfl (by decide +kernel) ⟨by decide, by decide⟩) (CR.n8 hC (by decide) (show hs M i < M 31 5 by omega)) rfl rfl rfl rfl (Nat.le_of_ble_eq_true rfl) dX4_brokenMusts_51 ⟨by decide, by decide⟩) (fun rv uu hp => ?_)
              rw [hp.1, hp.2]
              refine j_ifeq_b (tgt := 60) C dX4_brokenMusts_54 (by decide) (fun h54 => ?_) (fun h54 => ?_)
              · refine j_iinc C [(3, .int (nI (j + 1))), (0, .ref (gA Λ 3 0)), (1, .int (nI q)), (2, .int (nI i))] (nI (j + 1)) dX4_brokenMusts_60 3 rfl (nI_add _ 1) (by decide) rfl ?_
                refine j_goto (tgt := 31) C dX4_brokenMusts_63 (by decide) ?_
                refine j_lv [1, 2, 3, 0] rfl ?_
                exact ih31 q (j + 1) (by omega) (by omega) (by omega) (by rw [fb_ct_succ, hq]; simp [hij, h54])
              · refine j_iinc C [(1, .int (nI (q + 1))), (0, .ref (gA Λ 3 0)), (2, .int (nI i)), (3, .int (nI j))] (nI (q + 1)) dX4_brokenMusts_57 1 rfl (nI_add _ 1) (by decide) rfl ?_
                refine j_iinc C [(3, .int (nI (j + 1))), (1, .int (nI (q + 1))), (0, .ref (gA Λ 3 0)), (2, .int (nI i))] (nI (j + 1)) dX4_brokenMusts_60 3 rfl (nI_add _ 1) (by decide) rfl ?_
                refine j_goto (tgt := 31) C dX4_brokenMusts_63 (by decide) ?_
                refine j_lv [2, 1, 3, 0] rfl ?_
                exact ih31 (q + 1) (j + 1) (by omega) (by omega) (by omega) (by rw [fb_ct_succ, hq]; simp [hij, h54]; omega)
        refine j_aload_n C dX4_brokenMusts_12 rfl 0 rfl ?_
        refine j_getV C hwX4 3 0 1 (CR.n1 hC (by decide)) rfl rfl (by decide) rfl 0 (CR.v hC 3 0 1 ⟨rfl, by decide⟩ id) hL17 dX4_brokenMusts_13 ?_
        refine j_iload_n C dX4_brokenMusts_16 rfl 2 rfl ?_
        have hhs17 := hs_lt (M := M) (k := i) (by omega)
        have hhn17 := hs_nh (M := M) (k := i) (by omega)
        refine j_aald C 5 0 i (CR.n1 hC (by decide)) rfl (by decide) (by decide) 40 (CR.l1 hC (by decide)) (by omega) (by omega) (hs M i) (CR.v hC 5 0 i ⟨rfl, by omega⟩ id) dX4_brokenMusts_17 ?_
        refine c_i0 C (r_V C 8 (hs M i) [] (c_X5_isMisplaced l D cy base Λ σ M hC hB (hs M i) (by omega)) (cwV 0 hts gX4_brokenMusts_X5_isMisplaced rfl rfl rfl (by decide +kernel) ⟨by decide, by decide⟩) (CR.n8 hC (by decide) (show hs M i < M 31 5 by omega)) rfl rfl rfl rfl (Nat.le_of_ble_eq_true rfl) dX4_brokenMusts_18 ⟨by decide, by decide⟩) (fun rv uu hp => ?_)
        rw [hp.1, hp.2]
        refine j_ifeq_b (tgt := 27) C dX4_brokenMusts_21 (by decide) (fun h21 => ?_) (fun h21 => ?_)
        · refine j_iload_n C dX4_brokenMusts_27 rfl 2 rfl ?_
          refine j_iconst C (nI 1) dX4_brokenMusts_28 (by decide) ?_
          refine j_iadd C (nI (i + 1)) dX4_brokenMusts_29 (nI_add _ _) ?_
          refine j_istore_n C [(3, .int (nI (i + 1))), (0, .ref (gA Λ 3 0)), (1, .int (nI a)), (2, .int (nI i))] dX4_brokenMusts_30 rfl (by decide) rfl ?_
          refine j_lv [1, 2, 3, 0] rfl ?_
          exact lb31 _ a (i + 1) (Nat.lt_succ_self _) (by omega) (by omega) (by rw [fb_ct_skip (fun k hk => by simp; omega)]; simp [h21])
        · refine j_iinc C [(1, .int (nI (a + 1))), (0, .ref (gA Λ 3 0)), (2, .int (nI i))] (nI (a + 1)) dX4_brokenMusts_24 1 rfl (nI_add _ 1) (by decide) rfl ?_
          refine j_iload_n C dX4_brokenMusts_27 rfl 2 rfl ?_
          refine j_iconst C (nI 1) dX4_brokenMusts_28 (by decide) ?_
          refine j_iadd C (nI (i + 1)) dX4_brokenMusts_29 (nI_add _ _) ?_
          refine j_istore_n C [(3, .int (nI (i + 1))), (1, .int (nI (a + 1))), (0, .ref (gA Λ 3 0)), (2, .int (nI i))] dX4_brokenMusts_30 rfl (by decide) rfl ?_
          refine j_lv [2, 1, 3, 0] rfl ?_
          exact lb31 _ (a + 1) (i + 1) (Nat.lt_succ_self _) (by omega) (by omega) (by rw [fb_ct_skip (fun k hk => by simp; omega)]; simp [h21])
  refine j_lv [2, 1, 0] rfl ?_
  exact lb4 _ 0 0 (Nat.lt_succ_self _) (by omega) rfl

set_option maxHeartbeats 4000000 in
set_option maxRecDepth 100000 in
theorem c_X4_tiesBetweenRooms (l : Launch) (D : va_G) (cy : Nat → ClassId) (base : Nat) (Λ : LY) (σ : HS) (M : MM) (hC : CR noEx Λ σ M) (hB : MBd M) : Met l yX4_tiesBetweenRooms wsX4_tiesBetweenRooms ({ frames := 4, cells := 0, slots := 0, locals := 60 }) (va_Pc [.ref (gA Λ 3 0)] (Wd D cy base Λ σ)) (va_Ql (fun v u => v = zL ((fb_sm (fun a => fb_sm (cutT M a) (M 31 5)) (M 31 5) : Nat) : Int) ∧ u = σ) (Wd D cy base Λ) (Ab base)) 0 0 (Ab base) := by
  refine j_start (cc := cX4_tiesBetweenRooms) (nL := 5) (ret := (some .long)) (lv := [(0, .ref (gA Λ 3 0))]) (by decide) rfl (Nat.le_of_ble_eq_true rfl) rfl ?_
  intro p e s m below meth c C hr hlk hnm
  have C : Cx p s m ([.ref (gA Λ 3 0)] : List Value).toArray c cX4_tiesBetweenRooms 5 RX4 wsX4_tiesBetweenRooms D cy base := C
  have hts := C.2.2.2.2.1
  have hwX4 : ∀ w ∈ u_ws RX4 TX4 6, w ∈ wsX4_tiesBetweenRooms := by decide +kernel
  have hwX5 : ∀ w ∈ u_ws RX5 TX5 13, w ∈ wsX4_tiesBetweenRooms := by decide +kernel
  have hM17 : (Cond.fieldLink RX4 17 (TX4 1).1 (TX4 1).2.1 (TX4 1).2.2.1).before ([.ref (gA Λ 3 0)] : List Value).toArray s = true := hts (.fieldLink RX4 17 "CodeRooms$Plan" "housed" "[LCodeRooms$Routine;") (by decide +kernel)
  have hL17 : FL RX4 17 (TX4 1).1 (TX4 1).2.1 (TX4 1).2.2.1 ([.ref (gA Λ 3 0)] : List Value).toArray s := Or.inl hM17
  have hL53 : FL RX4 53 (TX5 0).1 (TX5 0).2.1 (TX5 0).2.2.1 ([.ref (gA Λ 3 0)] : List Value).toArray s := Or.inr ⟨_, Ex.nestF C.2.2.2.2.2.2 nf_X4_53⟩
  have hM83 : (Cond.fieldLink RX4 83 (TX4 5).1 (TX4 5).2.1 (TX4 5).2.2.1).before ([.ref (gA Λ 3 0)] : List Value).toArray s = true := hts (.fieldLink RX4 83 "CodeRooms$Plan" "housedCount" "I") (by decide +kernel)
  have hL83 : FL RX4 83 (TX4 5).1 (TX4 5).2.1 (TX4 5).2.2.1 ([.ref (gA Λ 3 0)] : List Value).toArray s := Or.inl hM83
  have hL99 : FL RX4 99 (TX5 11).1 (TX5 11).2.1 (TX5 11).2.2.1 ([.ref (gA Λ 3 0)] : List Value).toArray s := Or.inr ⟨_, Ex.nestF C.2.2.2.2.2.2 nf_X4_99⟩
  have hL132 : FL RX4 132 (TX5 4).1 (TX5 4).2.1 (TX5 4).2.2.1 ([.ref (gA Λ 3 0)] : List Value).toArray s := Or.inr ⟨_, Ex.nestF C.2.2.2.2.2.2 nf_X4_132⟩
  have hn : M 31 5 ≤ 40 := hB 31 5 rfl
  have hhc0 := hcN_le M
  refine j_lconst C (zL 0) dX4_tiesBetweenRooms_0 (by decide) ?_
  refine j_lstore_n C [(1, .long (zL 0)), (0, .ref (gA Λ 3 0))] dX4_tiesBetweenRooms_1 rfl (by decide) rfl ?_
  refine j_iconst C (nI 0) dX4_tiesBetweenRooms_2 (by decide) ?_
  refine j_istore_n C [(3, .int (nI 0)), (1, .long (zL 0)), (0, .ref (gA Λ 3 0))] dX4_tiesBetweenRooms_3 rfl (by decide) rfl ?_
  have lb4 : ∀ (fu : Nat) (z : Int) (i : Nat), (hcN M - i) < fu → (i ≤ hcN M) → (z = ((fb_sm (fun k => fb_sm (cutH M k) (hcN M)) i : Nat) : Int)) → J p l e ({ frames := 4, cells := 0, slots := 0, locals := 60 }) s m ([.ref (gA Λ 3 0)] : List Value).toArray below meth c 5 D cy base (MQ below (va_Ql (fun v u => v = zL ((fb_sm (fun a => fb_sm (cutT M a) (M 31 5)) (M 31 5) : Nat) : Int) ∧ u = σ) (Wd D cy base Λ) (Ab base)) ([.ref (gA Λ 3 0)] : List Value).toArray s 0 0 (Ab base)) 0 0 Λ 4 [(0, .ref (gA Λ 3 0)), (1, .long (zL z)), (3, .int (nI i))] [] σ := by
    intro fu
    induction fu with
    | zero => intro z i hfu; exact absurd hfu (Nat.not_lt_zero _)
    | succ fu ih =>
      intro z i hfu hi hz
      have ih4 := ih
      refine j_iload_n C dX4_tiesBetweenRooms_4 rfl 2 rfl ?_
      refine j_aload_n C dX4_tiesBetweenRooms_5 rfl 0 rfl ?_
      have hhc6 := hcN_le M
      refine j_getI C hwX4 3 0 5 (CR.n1 hC (by decide)) rfl rfl (by decide) rfl (nI (hcN M)) (CR.i hC 3 0 5 ⟨rfl, Or.inr rfl⟩ id) hL83 dX4_tiesBetweenRooms_6 ?_
      refine j_icmp_ge (tgt := 84) C dX4_tiesBetweenRooms_9 (by decide) (nI_leI (by omega) (by omega)) (fun h9 => ?_) (fun h9 => ?_)
      · refine j_lload_n C dX4_tiesBetweenRooms_84 rfl 1 rfl ?_
        exact j_lret C hr hlk (⟨by rw [hz, show i = hcN M by omega, cutH_all], rfl⟩) dX4_tiesBetweenRooms_85
      · refine j_iload_n C dX4_tiesBetweenRooms_12 rfl 2 rfl ?_
        refine j_iconst C (nI 1) dX4_tiesBetweenRooms_13 (by decide) ?_
        refine j_iadd C (nI (i + 1)) dX4_tiesBetweenRooms_14 (nI_add _ _) ?_
        refine j_istore C [(4, .int (nI (i + 1))), (0, .ref (gA Λ 3 0)), (1, .long (zL z)), (3, .int (nI i))] dX4_tiesBetweenRooms_15 (by decide) rfl ?_
        have lb17 : ∀ (fu : Nat) (z2 : Int) (j : Nat), (hcN M - j) < fu → (j ≤ hcN M) → (i < j) → (z2 = z + ((fb_sm (cutH M i) j : Nat) : Int)) → J p l e ({ frames := 4, cells := 0, slots := 0, locals := 60 }) s m ([.ref (gA Λ 3 0)] : List Value).toArray below meth c 5 D cy base (MQ below (va_Ql (fun v u => v = zL ((fb_sm (fun a => fb_sm (cutT M a) (M 31 5)) (M 31 5) : Nat) : Int) ∧ u = σ) (Wd D cy base Λ) (Ab base)) ([.ref (gA Λ 3 0)] : List Value).toArray s 0 0 (Ab base)) 0 0 Λ 17 [(0, .ref (gA Λ 3 0)), (1, .long (zL z2)), (3, .int (nI i)), (4, .int (nI j))] [] σ := by
          intro fu
          induction fu with
          | zero => intro z2 j hfu; exact absurd hfu (Nat.not_lt_zero _)
          | succ fu ih =>
            intro z2 j hfu hj hij hz2
            have ih17 := ih
            refine j_iload C dX4_tiesBetweenRooms_17 3 rfl ?_
            refine j_aload_n C dX4_tiesBetweenRooms_19 rfl 0 rfl ?_
            have hhc20 := hcN_le M
            refine j_getI C hwX4 3 0 5 (CR.n1 hC (by decide)) rfl rfl (by decide) rfl (nI (hcN M)) (CR.i hC 3 0 5 ⟨rfl, Or.inr rfl⟩ id) hL83 dX4_tiesBetweenRooms_20 ?_
            refine j_icmp_ge (tgt := 78) C dX4_tiesBetweenRooms_23 (by decide) (nI_leI (by omega) (by omega)) (fun h23 => ?_) (fun h23 => ?_)
            · refine j_iinc C [(3, .int (nI (i + 1))), (0, .ref (gA Λ 3 0)), (1, .long (zL z2)), (4, .int (nI j))] (nI (i + 1)) dX4_tiesBetweenRooms_78 2 rfl (nI_add _ 1) (by decide) rfl ?_
              refine j_goto (tgt := 4) C dX4_tiesBetweenRooms_81 (by decide) ?_
              refine j_lv [1, 2, 0] rfl ?_
              exact ih4 z2 (i + 1) (by omega) (by omega) (by rw [fb_sm_succ, hz2, hz, show j = hcN M by omega]; omega)
            · refine j_aload_n C dX4_tiesBetweenRooms_26 rfl 0 rfl ?_
              refine j_getV C hwX4 3 0 1 (CR.n1 hC (by decide)) rfl rfl (by decide) rfl 0 (CR.v hC 3 0 1 ⟨rfl, by decide⟩ id) hL17 dX4_tiesBetweenRooms_27 ?_
              refine j_iload_n C dX4_tiesBetweenRooms_30 rfl 2 rfl ?_
              have hhs31 := hs_lt (M := M) (k := i) (by omega)
              have hhn31 := hs_nh (M := M) (k := i) (by omega)
              refine j_aald C 5 0 i (CR.n1 hC (by decide)) rfl (by decide) (by decide) 40 (CR.l1 hC (by decide)) (by omega) (by omega) (hs M i) (CR.v hC 5 0 i ⟨rfl, by omega⟩ id) dX4_tiesBetweenRooms_31 ?_
              have hb32 : M 38 (hs M i) ≤ 5 := hB 38 (hs M i) (decide_eq_true (show hs M i < 40 by omega))
              refine j_getI C hwX5 8 (hs M i) 11 (CR.n8 hC (by decide) (show hs M i < M 31 5 by omega)) rfl rfl (by decide) rfl (nI (M 38 (hs M i))) (CR.i hC 8 (hs M i) 11 ⟨show hs M i < M 31 5 by omega, Or.inr (Or.inr (Or.inl rfl))⟩ id) hL99 dX4_tiesBetweenRooms_32 ?_
              refine j_aload_n C dX4_tiesBetweenRooms_35 rfl 0 rfl ?_
              refine j_getV C hwX4 3 0 1 (CR.n1 hC (by decide)) rfl rfl (by decide) rfl 0 (CR.v hC 3 0 1 ⟨rfl, by decide⟩ id) hL17 dX4_tiesBetweenRooms_36 ?_
              refine j_iload C dX4_tiesBetweenRooms_39 3 rfl ?_
              have hhs41 := hs_lt (M := M) (k := j) (by omega)
              have hhn41 := hs_nh (M := M) (k := j) (by omega)
              refine j_aald C 5 0 j (CR.n1 hC (by decide)) rfl (by decide) (by decide) 40 (CR.l1 hC (by decide)) (by omega) (by omega) (hs M j) (CR.v hC 5 0 j ⟨rfl, by omega⟩ id) dX4_tiesBetweenRooms_41 ?_
              have hb42 : M 38 (hs M j) ≤ 5 := hB 38 (hs M j) (decide_eq_true (show hs M j < 40 by omega))
              refine j_getI C hwX5 8 (hs M j) 11 (CR.n8 hC (by decide) (show hs M j < M 31 5 by omega)) rfl rfl (by decide) rfl (nI (M 38 (hs M j))) (CR.i hC 8 (hs M j) 11 ⟨show hs M j < M 31 5 by omega, Or.inr (Or.inr (Or.inl rfl))⟩ id) hL99 dX4_tiesBetweenRooms_42 ?_
              refine j_icmp_eq (tgt := 72) C dX4_tiesBetweenRooms_45 (by decide) (nI_eq (by omega) (by omega)) (fun h45 => ?_) (fun h45 => ?_)
              · refine j_iinc C [(4, .int (nI (j + 1))), (0, .ref (gA Λ 3 0)), (1, .long (zL z2)), (3, .int (nI i))] (nI (j + 1)) dX4_tiesBetweenRooms_72 3 rfl (nI_add _ 1) (by decide) rfl ?_
                refine j_goto (tgt := 17) C dX4_tiesBetweenRooms_75 (by decide) ?_
                refine j_lv [1, 2, 3, 0] rfl ?_
                exact ih17 z2 (j + 1) (by omega) (by omega) (by omega) (by rw [fb_sm_succ, hz2]; unfold cutH; rw [if_neg (fun z => z.2 h45)]; omega)
              · refine j_lload_n C dX4_tiesBetweenRooms_48 rfl 1 rfl ?_
                refine j_aload_n C dX4_tiesBetweenRooms_49 rfl 0 rfl ?_
                refine j_getV C hwX4 3 0 1 (CR.n1 hC (by decide)) rfl rfl (by decide) rfl 0 (CR.v hC 3 0 1 ⟨rfl, by decide⟩ id) hL17 dX4_tiesBetweenRooms_50 ?_
                refine j_iload_n C dX4_tiesBetweenRooms_53 rfl 2 rfl ?_
                have hhs54 := hs_lt (M := M) (k := i) (by omega)
                have hhn54 := hs_nh (M := M) (k := i) (by omega)
                refine j_aald C 5 0 i (CR.n1 hC (by decide)) rfl (by decide) (by decide) 40 (CR.l1 hC (by decide)) (by omega) (by omega) (hs M i) (CR.v hC 5 0 i ⟨rfl, by omega⟩ id) dX4_tiesBetweenRooms_54 ?_
                refine j_getV C hwX5 8 (hs M i) 4 (CR.n8 hC (by decide) (show hs M i < M 31 5 by omega)) rfl rfl (by decide) rfl (hs M i) (CR.v hC 8 (hs M i) 4 ⟨show hs M i < M 31 5 by omega, by decide, by decide⟩ id) hL132 dX4_tiesBetweenRooms_55 ?_
                refine j_aload_n C dX4_tiesBetweenRooms_58 rfl 0 rfl ?_
                refine j_getV C hwX4 3 0 1 (CR.n1 hC (by decide)) rfl rfl (by decide) rfl 0 (CR.v hC 3 0 1 ⟨rfl, by decide⟩ id) hL17 dX4_tiesBetweenRooms_59 ?_
                refine j_iload C dX4_tiesBetweenRooms_62 3 rfl ?_
                have hhs64 := hs_lt (M := M) (k := j) (by omega)
                have hhn64 := hs_nh (M := M) (k := j) (by omega)
                refine j_aald C 5 0 j (CR.n1 hC (by decide)) rfl (by decide) (by decide) 40 (CR.l1 hC (by decide)) (by omega) (by omega) (hs M j) (CR.v hC 5 0 j ⟨rfl, by omega⟩ id) dX4_tiesBetweenRooms_64 ?_
                refine j_getI C hwX5 8 (hs M j) 0 (CR.n8 hC (by decide) (show hs M j < M 31 5 by omega)) rfl rfl (by decide) rfl (nI (hs M j)) (CR.i hC 8 (hs M j) 0 ⟨show hs M j < M 31 5 by omega, Or.inl rfl⟩ id) hL53 dX4_tiesBetweenRooms_65 ?_
                have hb68 := tieN_le hB (a := (hs M i)) (b := (hs M j)) (by omega) (by omega)
                refine j_iald C 11 (hs M i) (hs M j) (CR.n8 hC (by decide) (show hs M i < M 31 5 by omega)) rfl rfl 40 (CR.l8 hC (show hs M i < M 31 5 by omega)).2.1 (by omega) (by omega) (nI (tieN M (hs M i) (hs M j))) (CR.i hC 11 (hs M i) (hs M j) ⟨show hs M i < M 31 5 by omega, by omega⟩ id) dX4_tiesBetweenRooms_68 ?_
                refine j_i2l C (zL (tieN M (hs M i) (hs M j) : Int)) dX4_tiesBetweenRooms_69 (nI_zL (by omega)) ?_
                refine j_ladd C (zL (z2 + (tieN M (hs M i) (hs M j) : Int))) dX4_tiesBetweenRooms_70 (zL_add _ _) ?_
                refine j_lstore_n C [(1, .long (zL (z2 + (tieN M (hs M i) (hs M j) : Int)))), (0, .ref (gA Λ 3 0)), (3, .int (nI i)), (4, .int (nI j))] dX4_tiesBetweenRooms_71 rfl (by decide) rfl ?_
                refine j_iinc C [(4, .int (nI (j + 1))), (1, .long (zL (z2 + (tieN M (hs M i) (hs M j) : Int)))), (0, .ref (gA Λ 3 0)), (3, .int (nI i))] (nI (j + 1)) dX4_tiesBetweenRooms_72 3 rfl (nI_add _ 1) (by decide) rfl ?_
                refine j_goto (tgt := 17) C dX4_tiesBetweenRooms_75 (by decide) ?_
                refine j_lv [2, 1, 3, 0] rfl ?_
                exact ih17 (z2 + (tieN M (hs M i) (hs M j) : Int)) (j + 1) (by omega) (by omega) (by omega) (by rw [fb_sm_succ, hz2]; unfold cutH; rw [if_pos ⟨hij, h45⟩]; omega)
        refine j_lv [1, 2, 3, 0] rfl ?_
        exact lb17 _ z (i + 1) (Nat.lt_succ_self _) (by omega) (by omega) (by rw [fb_sm_skip (fun k hk => by unfold cutH; rw [if_neg (fun z => absurd z.1 (by omega))])]; simp)
  refine j_lv [2, 1, 0] rfl ?_
  exact lb4 _ 0 0 (Nat.lt_succ_self _) (by omega) rfl
