def asgTo (M : MM) (F : Nat → Nat) (i : Nat) : MM := fun t k => if t = 38 ∧ k < M 31 5 ∧ M 37 k = 0 ∧ rkN M k < i then F (rkN M k) else M t k
theorem asgTo_0 {M : MM} {F : Nat → Nat} : asgTo M F 0 = M := by
  funext t k
  unfold asgTo
  rw [if_neg (fun z => absurd z.2.2.2 (Nat.not_lt_zero _))]
theorem asgTo_nk {M : MM} {F : Nat → Nat} {i t : Nat} (h : t ≠ 38) : asgTo M F i t = M t := by
  funext k
  unfold asgTo
  rw [if_neg (fun z => h z.1)]
theorem asgTo_s {M : MM} {F : Nat → Nat} {i : Nat} (hi : i < hcN M) : mS (asgTo M F i) 38 (hs M i) (F i) = asgTo M F (i + 1) := by
  funext t k
  unfold mS asgTo
  by_cases h : t = 38 ∧ k = hs M i
  · rw [if_pos h, if_pos ⟨h.1, by rw [h.2]; exact hs_lt hi, by rw [h.2]; exact hs_nh hi, by rw [h.2, hs_rk hi]; omega⟩, h.2, hs_rk hi]
  · rw [if_neg h]
    by_cases h2 : t = 38 ∧ k < M 31 5 ∧ M 37 k = 0 ∧ rkN M k < i
    · rw [if_pos h2, if_pos ⟨h2.1, h2.2.1, h2.2.2.1, by omega⟩]
    · rw [if_neg h2, if_neg]
      rintro ⟨z1, z2, z3, z4⟩
      have : rkN M k = i := by
        by_cases q : rkN M k < i
        · exact absurd ⟨z1, z2, z3, q⟩ h2
        · omega
      exact h ⟨z1, by rw [← this, hs_of z2 z3]⟩
theorem asgTo_all {M : MM} {F : Nat → Nat} : asgTo M F (hcN M) = asg M F := by
  funext t k
  unfold asgTo asg
  by_cases h : t = 38 ∧ k < M 31 5 ∧ M 37 k = 0
  · rw [if_pos h, if_pos ⟨h.1, h.2.1, h.2.2, rk_lt h.2.1 h.2.2⟩]
  · rw [if_neg h, if_neg (fun z => h ⟨z.1, z.2.1, z.2.2.1⟩)]
theorem hs_aT {M : MM} {F : Nat → Nat} {i k : Nat} : hs (asgTo M F i) k = hs M k := hs_congr (asgTo_nk (by decide)) (by rw [asgTo_nk (by decide)])
theorem hcN_aT {M : MM} {F : Nat → Nat} {i : Nat} : hcN (asgTo M F i) = hcN M := hcN_congr (asgTo_nk (by decide)) (by rw [asgTo_nk (by decide)])
abbrev nSe : Nat → Prop := fun t => t ≠ 8 ∧ t ≠ 20 ∧ t ≠ 21 ∧ t ≠ 22
theorem GS.se {σ u : HS} (h : GS σ u) : Same nSe σ u := fun t ht => ⟨h.1 t ht.2.2.1 ht.2.2.2, h.2.1 t ht.2.1, by rw [h.2.2]⟩
set_option maxHeartbeats 4000000 in
set_option maxRecDepth 100000 in
theorem c_sbest_no (l : Launch) (D : va_G) (cy : Nat → ClassId) (base : Nat) (Λ : LY) (σ : HS) (M : MM) (hC : CR noEx Λ σ M) (hB : MBd M) (h : 9 < hcN M ∨ 3 < M 31 10) : Met l yX6_settleBest wsX6_settleBest ({ frames := 88, cells := 0, slots := 0, locals := 1320 }) (va_Pc [.ref (gA Λ 20 0)] (Wd D cy base Λ σ)) (va_Ql (fun v u => v = -1 ∧ u = σ) (Wd D cy base Λ) (Ab base)) 0 0 (Ab base) := by
  refine j_start (cc := cX6_settleBest) (nL := 2) (ret := (some .long)) (lv := [(0, .ref (gA Λ 20 0))]) (by decide) rfl (Nat.le_of_ble_eq_true rfl) rfl ?_
  intro p e s m below meth c C hr hlk hnm
  have C : Cx p s m ([.ref (gA Λ 20 0)] : List Value).toArray c cX6_settleBest 2 RX6 wsX6_settleBest D cy base := C
  have hts := C.2.2.2.2.1
  have hwX4 : ∀ w ∈ u_ws RX4 TX4 6, w ∈ wsX6_settleBest := by decide +kernel
  have hwX6 : ∀ w ∈ u_ws RX6 TX6 4, w ∈ wsX6_settleBest := by decide +kernel
  have hM18 : (Cond.fieldLink RX6 18 (TX6 0).1 (TX6 0).2.1 (TX6 0).2.2.1).before ([.ref (gA Λ 20 0)] : List Value).toArray s = true := hts (.fieldLink RX6 18 "CodeRooms$Search" "plan" "LCodeRooms$Plan;") (by decide +kernel)
  have hL18 : FL RX6 18 (TX6 0).1 (TX6 0).2.1 (TX6 0).2.2.1 ([.ref (gA Λ 20 0)] : List Value).toArray s := Or.inl hM18
  have hL22 : FL RX6 22 (TX4 5).1 (TX4 5).2.1 (TX4 5).2.2.1 ([.ref (gA Λ 20 0)] : List Value).toArray s := Or.inr ⟨_, Ex.nestF C.2.2.2.2.2.2 nf_X6_22⟩
  have hC32 : (Jvm.Cond.constantLong RX6 32 (-1)).before ([.ref (gA Λ 20 0)] : List Value).toArray s = true := hts _ (by decide +kernel)
  have hn : M 31 5 ≤ 40 := hB 31 5 rfl
  have hhc0 := hcN_le M
  have hR40 : M 31 10 ≤ 40 := hB 31 10 rfl
  refine j_aload_n C dX6_settleBest_0 rfl 0 rfl ?_
  refine j_getV C hwX6 20 0 0 (CR.n1 hC (by decide)) rfl rfl (by decide) rfl 0 (CR.v hC 20 0 0 ⟨rfl, by decide⟩ id) hL18 dX6_settleBest_1 ?_
  have hhc4 := hcN_le M
  refine j_getI C hwX4 3 0 5 (CR.n1 hC (by decide)) rfl rfl (by decide) rfl (nI (hcN M)) (CR.i hC 3 0 5 ⟨rfl, Or.inr rfl⟩ id) hL22 dX6_settleBest_4 ?_
  refine j_bipush C (nI 9) dX6_settleBest_7 (by decide) ?_
  refine j_icmp_gt (tgt := 23) C dX6_settleBest_9 (by decide) (nI_ltI (by omega) (by omega)) (fun h9 => ?_) (fun h9 => ?_)
  · refine j_ldc2 C (zL (-1)) hC32 dX6_settleBest_23 (by decide) ?_
    exact j_lret C hr hlk (⟨by decide, rfl⟩) dX6_settleBest_26
  · refine j_aload_n C dX6_settleBest_12 rfl 0 rfl ?_
    refine j_getV C hwX6 20 0 0 (CR.n1 hC (by decide)) rfl rfl (by decide) rfl 0 (CR.v hC 20 0 0 ⟨rfl, by decide⟩ id) hL18 dX6_settleBest_13 ?_
    refine c_i0 C (r_V C 3 0 [] (c_X4_roomCount l D cy base Λ σ M hC hB) (cwV 0 hts gX6_settleBest_X4_roomCount rfl rfl rfl (by decide +kernel) ⟨by decide, by decide⟩) (CR.n1 hC (by decide)) rfl rfl rfl rfl (Nat.le_of_ble_eq_true rfl) dX6_settleBest_16 ⟨by decide, by decide⟩) (fun rv uu hp => ?_)
    rw [hp.1, hp.2]
    refine j_iconst C (nI 3) dX6_settleBest_19 (by decide) ?_
    refine j_icmp_le (tgt := 27) C dX6_settleBest_20 (by decide) (nI_leI (by omega) (by omega)) (fun h20 => ?_) (fun h20 => ?_)
    · omega
    · refine j_ldc2 C (zL (-1)) hC32 dX6_settleBest_23 (by decide) ?_
      exact j_lret C hr hlk (⟨by decide, rfl⟩) dX6_settleBest_26

set_option maxHeartbeats 4000000 in
set_option maxRecDepth 100000 in
theorem c_sbest_ok (l : Launch) (D : va_G) (cy : Nat → ClassId) (base : Nat) (Λ : LY) (σ : HS) (M : MM) (hC : CR noEx Λ σ M) (hB : MBd M) (hm9 : hcN M ≤ 9) (hR1 : 1 ≤ M 31 10) (hR3 : M 31 10 ≤ 3) : Met l yX6_settleBest wsX6_settleBest ({ frames := 88, cells := 0, slots := 0, locals := 1320 }) (va_Pc [.ref (gA Λ 20 0)] (Wd D cy base Λ σ)) (va_Ql (fun v u => ∃ b2 F2, v = zL ((b2 : Nat) : Int) ∧ FM M (M 31 10) (hcN M) (M 31 10 ^ hcN M) b2 F2 ∧ CR noEx Λ u (asg M F2) ∧ Same nSe σ u) (Wd D cy base Λ) (Ab base)) 0 0 (Ab base) := by
  refine j_start (cc := cX6_settleBest) (nL := 2) (ret := (some .long)) (lv := [(0, .ref (gA Λ 20 0))]) (by decide) rfl (Nat.le_of_ble_eq_true rfl) rfl ?_
  intro p e s m below meth c C hr hlk hnm
  have C : Cx p s m ([.ref (gA Λ 20 0)] : List Value).toArray c cX6_settleBest 2 RX6 wsX6_settleBest D cy base := C
  have hts := C.2.2.2.2.1
  have hwX4 : ∀ w ∈ u_ws RX4 TX4 6, w ∈ wsX6_settleBest := by decide +kernel
  have hwX5 : ∀ w ∈ u_ws RX5 TX5 13, w ∈ wsX6_settleBest := by decide +kernel
  have hwX6 : ∀ w ∈ u_ws RX6 TX6 4, w ∈ wsX6_settleBest := by decide +kernel
  have hM15 : (Cond.fieldLink RX6 15 (TX6 2).1 (TX6 2).2.1 (TX6 2).2.2.1).before ([.ref (gA Λ 20 0)] : List Value).toArray s = true := hts (.fieldLink RX6 15 "CodeRooms$Search" "found" "[I") (by decide +kernel)
  have hL15 : FL RX6 15 (TX6 2).1 (TX6 2).2.1 (TX6 2).2.2.1 ([.ref (gA Λ 20 0)] : List Value).toArray s := Or.inl hM15
  have hM18 : (Cond.fieldLink RX6 18 (TX6 0).1 (TX6 0).2.1 (TX6 0).2.2.1).before ([.ref (gA Λ 20 0)] : List Value).toArray s = true := hts (.fieldLink RX6 18 "CodeRooms$Search" "plan" "LCodeRooms$Plan;") (by decide +kernel)
  have hL18 : FL RX6 18 (TX6 0).1 (TX6 0).2.1 (TX6 0).2.2.1 ([.ref (gA Λ 20 0)] : List Value).toArray s := Or.inl hM18
  have hL22 : FL RX6 22 (TX4 5).1 (TX4 5).2.1 (TX4 5).2.2.1 ([.ref (gA Λ 20 0)] : List Value).toArray s := Or.inr ⟨_, Ex.nestF C.2.2.2.2.2.2 nf_X6_22⟩
  have hM36 : (Cond.fieldLink RX6 36 (TX6 3).1 (TX6 3).2.1 (TX6 3).2.2.1).before ([.ref (gA Λ 20 0)] : List Value).toArray s = true := hts (.fieldLink RX6 36 "CodeRooms$Search" "least" "J") (by decide +kernel)
  have hL36 : FL RX6 36 (TX6 3).1 (TX6 3).2.1 (TX6 3).2.2.1 ([.ref (gA Λ 20 0)] : List Value).toArray s := Or.inl hM36
  have hL47 : FL RX6 47 (TX4 1).1 (TX4 1).2.1 (TX4 1).2.2.1 ([.ref (gA Λ 20 0)] : List Value).toArray s := Or.inr ⟨_, Ex.nestF C.2.2.2.2.2.2 nf_X6_47⟩
  have hL51 : FL RX6 51 (TX5 11).1 (TX5 11).2.1 (TX5 11).2.2.1 ([.ref (gA Λ 20 0)] : List Value).toArray s := Or.inr ⟨_, Ex.nestF C.2.2.2.2.2.2 nf_X6_51⟩
  have hC34 : (Jvm.Cond.constantLong RX6 34 1000000000000000).before ([.ref (gA Λ 20 0)] : List Value).toArray s = true := hts _ (by decide +kernel)
  have hn : M 31 5 ≤ 40 := hB 31 5 rfl
  have hhc0 := hcN_le M
  refine j_aload_n C dX6_settleBest_0 rfl 0 rfl ?_
  refine j_getV C hwX6 20 0 0 (CR.n1 hC (by decide)) rfl rfl (by decide) rfl 0 (CR.v hC 20 0 0 ⟨rfl, by decide⟩ id) hL18 dX6_settleBest_1 ?_
  have hhc4 := hcN_le M
  refine j_getI C hwX4 3 0 5 (CR.n1 hC (by decide)) rfl rfl (by decide) rfl (nI (hcN M)) (CR.i hC 3 0 5 ⟨rfl, Or.inr rfl⟩ id) hL22 dX6_settleBest_4 ?_
  refine j_bipush C (nI 9) dX6_settleBest_7 (by decide) ?_
  refine j_icmp_gt (tgt := 23) C dX6_settleBest_9 (by decide) (nI_ltI (by omega) (by omega)) (fun h9 => ?_) (fun h9 => ?_)
  · omega
  · refine j_aload_n C dX6_settleBest_12 rfl 0 rfl ?_
    refine j_getV C hwX6 20 0 0 (CR.n1 hC (by decide)) rfl rfl (by decide) rfl 0 (CR.v hC 20 0 0 ⟨rfl, by decide⟩ id) hL18 dX6_settleBest_13 ?_
    refine c_i0 C (r_V C 3 0 [] (c_X4_roomCount l D cy base Λ σ M hC hB) (cwV 0 hts gX6_settleBest_X4_roomCount rfl rfl rfl (by decide +kernel) ⟨by decide, by decide⟩) (CR.n1 hC (by decide)) rfl rfl rfl rfl (Nat.le_of_ble_eq_true rfl) dX6_settleBest_16 ⟨by decide, by decide⟩) (fun rv uu hp => ?_)
    rw [hp.1, hp.2]
    refine j_iconst C (nI 3) dX6_settleBest_19 (by decide) ?_
    refine j_icmp_le (tgt := 27) C dX6_settleBest_20 (by decide) (nI_leI (by omega) (by omega)) (fun h20 => ?_) (fun h20 => ?_)
    · refine j_aload_n C dX6_settleBest_27 rfl 0 rfl ?_
      refine j_ldc2 C (zL 1000000000000000) hC34 dX6_settleBest_28 (by decide) ?_
      refine j_putJ C hwX6 20 0 3 (CR.n1 hC (by decide)) rfl rfl (by decide) rfl tyX6 tyX6_ok nmX6 rfl rfl rfl hL36 dX6_settleBest_31 ?_
      refine j_aload_n C dX6_settleBest_34 rfl 0 rfl ?_
      refine j_iconst C (nI 0) dX6_settleBest_35 (by decide) ?_
      refine j_lconst C (zL 0) dX6_settleBest_36 (by decide) ?_
      refine j_aload_n C dX6_settleBest_37 rfl 0 rfl ?_
      have hG0 : GS σ (sJ σ 20 0 3 (zL 1000000000000000)) := GS.j GS.rf
      refine c_i0 C (r_V C 20 0 [] (c_X6_fixedRooms l D cy base Λ (sJ σ 20 0 3 (zL 1000000000000000)) M (hG0.cr hC) hB) (cwV 0 hts gX6_settleBest_X6_fixedRooms rfl rfl rfl (by decide +kernel) ⟨by decide, by decide⟩) (CR.n1 hC (by decide)) rfl rfl rfl rfl (Nat.le_of_ble_eq_true rfl) dX6_settleBest_38 ⟨by decide, by decide⟩) (fun rv uu hp => ?_)
      obtain ⟨⟨U, hU, hv, bU⟩, hu⟩ := hp
      rw [hv, hu]
      refine c_v0 C (r_V C 20 0 [.int (nI 0), .long (zL 0), .int (nI U)] (c_tryFrom_0 l D cy base Λ (sJ σ 20 0 3 (zL 1000000000000000)) M (hG0.cr hC) hB hm9 hR1 hR3 (hcN M) (Nat.zero_add _).symm (fun _ => 0) (fun _ => 0) 1000000000000000 U (Nat.le_refl _) (fun i hi => absurd hi (Nat.not_lt_zero _)) (fun i hi => absurd hi (Nat.not_lt_zero _)) (gJ_same _ _ _ _ _) (fun z => absurd z (by rw [show nm (M 31 10) (fun _ => 0) 0 = 0 from rfl, Nat.zero_mul]; decide)) ⟨fun A _ z => absurd z (by rw [show nm (M 31 10) (fun _ => 0) 0 = 0 from rfl, Nat.zero_mul]; exact Nat.not_lt_zero _), fun z => absurd z (by rw [show nm (M 31 10) (fun _ => 0) 0 = 0 from rfl, Nat.zero_mul]; decide), fun _ => rfl⟩ hU (fun t => (bU t).trans ⟨Or.inl, fun z => z.elim id (fun q => by obtain ⟨i, hi, -⟩ := q; omega)⟩)) (cwV 3 hts gX6_settleBest_X6_tryFrom rfl rfl rfl (by decide +kernel) ⟨by decide, by decide⟩) (CR.n1 hC (by decide)) rfl rfl rfl rfl (Nat.le_of_ble_eq_true rfl) dX6_settleBest_41 ⟨by decide, by decide⟩) (fun u3 hp => ?_)
      obtain ⟨hG3, -, b2, F2, hb2, hL2, hf2, hM2⟩ := hp
      have hM3 : FM M (M 31 10) (hcN M) (M 31 10 ^ hcN M) b2 F2 := by have q := hM2; rw [show nm (M 31 10) (fun _ => 0) 0 = 0 from rfl, Nat.zero_add, Nat.one_mul] at q; exact q
      have hF5 : ∀ i, i < hcN M → F2 i < 6 := fun i hi => by have q := (hM3.2.1 (Nat.pow_pos (by omega))).1 i hi; omega
      have hG4 := GS.tr hG0 hG3
      refine j_iconst C (nI 0) dX6_settleBest_44 (by decide) ?_
      refine j_istore_n C [(1, .int (nI 0)), (0, .ref (gA Λ 20 0))] dX6_settleBest_45 rfl (by decide) rfl ?_
      have lb46 : ∀ (fu : Nat) (σ1 : HS) (k : Nat), (hcN M - k) < fu → (k ≤ hcN M) → (CR noEx Λ σ1 (asgTo M F2 k)) → (∀ i, i < hcN M → gI σ1 22 0 i = nI (F2 i)) → (gJ σ1 20 0 3 = zL ((b2 : Nat) : Int)) → (Same nSe σ σ1) → J p l e ({ frames := 88, cells := 0, slots := 0, locals := 1320 }) s m ([.ref (gA Λ 20 0)] : List Value).toArray below meth c 2 D cy base (MQ below (va_Ql (fun v u => ∃ b2 F2, v = zL ((b2 : Nat) : Int) ∧ FM M (M 31 10) (hcN M) (M 31 10 ^ hcN M) b2 F2 ∧ CR noEx Λ u (asg M F2) ∧ Same nSe σ u) (Wd D cy base Λ) (Ab base)) ([.ref (gA Λ 20 0)] : List Value).toArray s 0 0 (Ab base)) 0 0 Λ 46 [(0, .ref (gA Λ 20 0)), (1, .int (nI k))] [] σ1 := by
        intro fu
        induction fu with
        | zero => intro σ1 k hfu; exact absurd hfu (Nat.not_lt_zero _)
        | succ fu ih =>
          intro σ1 k hfu hk hC1 hf1 hl1 hs1
          have h5T : (asgTo M F2 k) 31 5 = M 31 5 := rfl
          have ih46 := ih
          refine j_iload_n C dX6_settleBest_46 rfl 1 rfl ?_
          refine j_aload_n C dX6_settleBest_47 rfl 0 rfl ?_
          refine j_getV C hwX6 20 0 0 (CR.n1 hC1 (by decide)) rfl rfl (by decide) rfl 0 (CR.v hC1 20 0 0 ⟨rfl, by decide⟩ id) hL18 dX6_settleBest_48 ?_
          refine j_getI C hwX4 3 0 5 (CR.n1 hC1 (by decide)) rfl rfl (by decide) rfl (nI (hcN M)) ((CR.i hC1 3 0 5 ⟨rfl, Or.inr rfl⟩ id).trans (congrArg nI hcN_aT)) hL22 dX6_settleBest_51 ?_
          refine j_icmp_ge (tgt := 81) C dX6_settleBest_54 (by decide) (nI_leI (by omega) (by omega)) (fun h54 => ?_) (fun h54 => ?_)
          · refine j_aload_n C dX6_settleBest_81 rfl 0 rfl ?_
            refine j_getJ C hwX6 20 0 3 (CR.n1 hC1 (by decide)) rfl rfl (by decide) rfl (zL ((b2 : Nat) : Int)) hl1 hL36 dX6_settleBest_82 ?_
            exact j_lret C hr hlk (⟨b2, F2, rfl, hM3, by have q := hC1; rw [show k = hcN M by omega, asgTo_all] at q; exact q, hs1⟩) dX6_settleBest_85
          · refine j_aload_n C dX6_settleBest_57 rfl 0 rfl ?_
            refine j_getV C hwX6 20 0 0 (CR.n1 hC1 (by decide)) rfl rfl (by decide) rfl 0 (CR.v hC1 20 0 0 ⟨rfl, by decide⟩ id) hL18 dX6_settleBest_58 ?_
            refine j_getV C hwX4 3 0 1 (CR.n1 hC1 (by decide)) rfl rfl (by decide) rfl 0 (CR.v hC1 3 0 1 ⟨rfl, by decide⟩ id) hL47 dX6_settleBest_61 ?_
            refine j_iload_n C dX6_settleBest_64 rfl 1 rfl ?_
            refine j_aald C 5 0 k (CR.n1 hC1 (by decide)) rfl (by decide) (by decide) 40 (CR.l1 hC1 (by decide)) (by omega) (by omega) (hs M k) ((CR.v hC1 5 0 k ⟨rfl, by rw [hcN_aT]; omega⟩ id).trans (congrArg some hs_aT)) dX6_settleBest_65 ?_
            have hhl := hs_lt (M := M) (k := k) (by omega)
            have hF6 := hF5 k (by omega)
            refine j_aload_n C dX6_settleBest_66 rfl 0 rfl ?_
            refine j_getV C hwX6 20 0 2 (CR.n1 hC1 (by decide)) rfl rfl (by decide) rfl 0 (CR.v hC1 20 0 2 ⟨rfl, by decide⟩ id) hL15 dX6_settleBest_67 ?_
            refine j_iload_n C dX6_settleBest_70 rfl 1 rfl ?_
            refine j_iald C 22 0 k (CR.n1 hC1 (by decide)) rfl rfl 9 (CR.l1 hC1 (by decide)) (by omega) (by omega) (nI (F2 k)) (hf1 _ (by omega)) dX6_settleBest_71 ?_
            refine j_putI C hwX5 8 (hs M k) 11 (CR.n8 hC1 (by decide) (show hs M k < (asgTo M F2 k) 31 5 by omega)) rfl rfl (by decide) rfl tyX5 tyX5_ok nmX5 rfl rfl rfl hL51 dX6_settleBest_72 ?_
            refine j_iinc C [(1, .int (nI (k + 1))), (0, .ref (gA Λ 20 0))] (nI (k + 1)) dX6_settleBest_75 1 rfl (nI_add _ 1) (by decide) rfl ?_
            refine j_goto (tgt := 46) C dX6_settleBest_78 (by decide) ?_
            refine j_lv [1, 0] rfl ?_
            exact ih46 (sI σ1 8 (hs M k) 11 (nI (F2 k))) (k + 1) (by omega) (by omega) (by rw [← asgTo_s (by omega)]; exact CR.place hC1 rfl) (fun i hi => by rw [gI_sI, if_neg (by omega)]; exact hf1 i hi) hl1 (Same.sI hs1 (by decide))
      refine j_lv [1, 0] rfl ?_
      exact lb46 _ u3 0 (Nat.lt_succ_self _) (by omega) (by rw [asgTo_0]; exact hG4.cr hC) hf2 hL2 hG4.se
    · omega
