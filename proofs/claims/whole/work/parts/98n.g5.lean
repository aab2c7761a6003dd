theorem nI_sub2 {a b : Nat} (h : a ≤ b) (hb : b < 2 ^ 31) : nI b - nI a = nI (b - a) := by
  have e : b = (b - a) + a := by omega
  have k := nI_add (b - a) a
  rw [← e] at k
  rw [← k]
  exact Int32.add_sub_cancel _ _
set_option maxHeartbeats 4000000 in
set_option maxRecDepth 100000 in
theorem c_X7_part (l : Launch) (D : va_G) (cy : Nat → ClassId) (base : Nat) (Λ : LY) (σ : HS) (i n cp : Nat) (f : Nat → Nat) (hT : TX Λ σ i n cp f) (hE12 : gC Λ 2 = gC Λ 1) (a b : Nat) (hab : a ≤ b) (hbn : b ≤ n) : Met l yX7_part wsX7_part ({ frames := 12, cells := 2, slots := 42, locals := 180 }) (va_Pc [.ref (gA Λ 1 i), .int (nI a), .int (nI b)] (Wd D cy base Λ σ)) (va_Qr (fun x => x.2.2 = gC Λ 1 ∧ Gw Λ x.1 ∧ Kp Λ σ x.2.1 ∧ gC x.1 1 = gC Λ 1 + 1 ∧ gC x.1 2 = gC Λ 2 + 1 ∧ (∀ t, t ≠ 1 → t ≠ 2 → gC x.1 t = gC Λ t) ∧ TX x.1 x.2.1 (gC Λ 1) (b - a) (b - a) (fun k => f (a + k)) ∧ Same (fun t => t ≠ 1 ∧ t ≠ 2) σ x.2.1) (Wy D cy base 1) (Ab base)) 2 42 (Ab base) := by
  refine j_start (cc := cX7_part) (nL := 5) (ret := (some (.object "CodeRooms$Text"))) (lv := [(0, .ref (gA Λ 1 i)), (1, .int (nI a)), (2, .int (nI b))]) (by decide) rfl (Nat.le_of_ble_eq_true rfl) rfl ?_
  intro p e s m below meth c C hr hlk hnm
  have C : Cx p s m ([.ref (gA Λ 1 i), .int (nI a), .int (nI b)] : List Value).toArray c cX7_part 5 RX7 wsX7_part D cy base := C
  have hts := C.2.2.2.2.1
  have hwX7 : ∀ w ∈ u_ws RX7 TX7 2, w ∈ wsX7_part := by decide +kernel
  have hi1 := hT.1
  have hncp := hT.2.2.2.2.1
  have hcp := hT.2.2.2.2.2.2.1
  refine j_new C hwX7 1 (by decide) rfl rfl tyX7 tyX7_ok (hts (.classLink RX7 16 RX7) (by decide +kernel)) (hts (.instantiable RX7 2) (by decide +kernel)) (hts (.initialized RX7) (by decide +kernel)) (by decide +kernel) (by decide) (by decide) dX7_part_0 (fun Λ_1 qΛ_1 hyΛ_1 => ?_)
  have hGΛ_1 : Gw Λ Λ_1 := by rw [hyΛ_1]; exact Gw.nY (by decide)
  have hb_2 : i < gC Λ_1 1 := Nat.lt_of_lt_of_le hi1 (hGΛ_1.1 1)
  have he_3 : gA Λ_1 1 i = gA Λ 1 i := (hGΛ_1.2.1 1 i (by first | assumption | omega)).1
  refine j_eq (lv' := [(0, .ref (gA Λ_1 1 i)), (1, .int (nI a)), (2, .int (nI b))]) (st' := [.ref (gA Λ_1 1 (gC Λ 1))]) (by simp only [he_3]) (by simp only [he_3]) ?_
  have hb_4 : gC Λ 1 < gC Λ_1 1 := by rw [hyΛ_1, gC_nL, if_pos rfl]; omega
  refine j_dup C dX7_part_3 rfl ?_
  refine j_iload_n C dX7_part_4 rfl 2 rfl ?_
  refine j_iload_n C dX7_part_5 rfl 1 rfl ?_
  refine j_isub C (nI (b - a)) dX7_part_6 (nI_sub2 (by omega) (by omega)) ?_
  refine c_vx C (r_I C 1 (gC Λ 1) [.int (nI (b - a))] (c_X7_init l D cy base Λ_1 (nS Λ σ 1) (gC Λ 1) (b - a) hb_4 (by omega)) (cwI 1 hts gX7_part_X7_init rfl rfl rfl (hts (.initialized RX7) (by decide +kernel)) (hts (.methodLink RX7 29 yX7_init) (by decide +kernel)) (hts (.instanceMethod yX7_init) (by decide +kernel)) rfl (by decide +kernel) ⟨by decide, by decide⟩) rfl rfl (Nat.le_of_ble_eq_true rfl) dX7_part_7 ⟨by decide, by decide⟩) (fun Λ_5 σ_6 hp => ?_)
  obtain ⟨qΛ_1v5, Λ_1v5, hyΛ_1v5, hu5⟩ := hp
  obtain ⟨hl5, hs5⟩ := Prod.mk.inj hu5
  have hGΛ_5 : Gw Λ_1 Λ_5 := by rw [hl5]; exact (by rw [hyΛ_1v5]; exact Gw.nY (by decide) : Gw _ Λ_1v5)
  have hb_7 : i < gC Λ_5 1 := Nat.lt_of_lt_of_le hb_2 (hGΛ_5.1 1)
  have hb_8 : (gC Λ 1) < gC Λ_5 1 := Nat.lt_of_lt_of_le hb_4 (hGΛ_5.1 1)
  have he_9 : gA Λ_5 1 i = gA Λ_1 1 i := (hGΛ_5.2.1 1 i (by first | assumption | omega)).1
  have he_10 : gA Λ_5 1 (gC Λ 1) = gA Λ_1 1 (gC Λ 1) := (hGΛ_5.2.1 1 (gC Λ 1) (by first | assumption | omega)).1
  refine j_eq (lv' := [(0, .ref (gA Λ_5 1 i)), (1, .int (nI a)), (2, .int (nI b))]) (st' := [.ref (gA Λ_5 1 (gC Λ 1))]) (by simp only [he_9, he_10]) (by simp only [he_9, he_10]) ?_
  have hnw := TX.new (σ := σ) (f := fun k => f (a + k)) (n := b - a) hE12 (by omega) hyΛ_1 hyΛ_1v5
  rw [← hl5, ← hs5] at hnw
  obtain ⟨hT0, hK0, hd1, hd2, hd3, hsm0⟩ := hnw
  have hGt : Gw Λ Λ_5 := hGΛ_1.tr hGΛ_5
  refine j_astore_n C [(3, .ref (gA Λ_5 1 (gC Λ 1))), (0, .ref (gA Λ_5 1 i)), (1, .int (nI a)), (2, .int (nI b))] dX7_part_10 rfl (by decide) rfl ?_
  refine j_iload_n C dX7_part_11 rfl 2 rfl ?_
  refine j_istore C [(4, .int (nI a)), (3, .ref (gA Λ_5 1 (gC Λ 1))), (0, .ref (gA Λ_5 1 i)), (1, .int (nI a)), (2, .int (nI b))] dX7_part_12 (by decide) rfl ?_
  have lb14 : ∀ (fu : Nat) (d9 : Nat) (u : HS), (b - d9) < fu → (a ≤ d9) → (d9 ≤ b) → (TX Λ_5 u (gC Λ 1) (d9 - a) (b - a) (fun k => f (a + k))) → (GX σ_6 u (gC Λ 1)) → J p l e ({ frames := 12, cells := 2, slots := 42, locals := 180 }) s m ([.ref (gA Λ 1 i), .int (nI a), .int (nI b)] : List Value).toArray below meth c 5 D cy base (MQ below (va_Qr (fun x => x.2.2 = gC Λ 1 ∧ Gw Λ x.1 ∧ Kp Λ σ x.2.1 ∧ gC x.1 1 = gC Λ 1 + 1 ∧ gC x.1 2 = gC Λ 2 + 1 ∧ (∀ t, t ≠ 1 → t ≠ 2 → gC x.1 t = gC Λ t) ∧ TX x.1 x.2.1 (gC Λ 1) (b - a) (b - a) (fun k => f (a + k)) ∧ Same (fun t => t ≠ 1 ∧ t ≠ 2) σ x.2.1) (Wy D cy base 1) (Ab base)) ([.ref (gA Λ 1 i), .int (nI a), .int (nI b)] : List Value).toArray s 2 42 (Ab base)) 2 42 Λ_5 14 [(0, .ref (gA Λ_5 1 i)), (1, .int (nI a)), (2, .int (nI b)), (3, .ref (gA Λ_5 1 (gC Λ 1))), (4, .int (nI d9))] [] u := by
    intro fu
    induction fu with
    | zero => intro d9 u hfu; exact absurd hfu (Nat.not_lt_zero _)
    | succ fu ih =>
      intro d9 u hfu hac hcb hT3 hGx
      have ih14 := ih
      refine j_iload C dX7_part_14 4 rfl ?_
      refine j_iload_n C dX7_part_16 rfl 2 rfl ?_
      refine j_icmp_ge (tgt := 36) C dX7_part_17 (by decide) (nI_leI (by omega) (by omega)) (fun h17 => ?_) (fun h17 => ?_)
      · refine j_aload_n C dX7_part_36 rfl 3 rfl ?_
        exact j_aretx C (Or.inl ⟨_, rfl⟩) hr hlk (⟨rfl, hGt, Kp.gx hK0 hGx (Nat.le_refl _) (by omega), hd1, hd2, hd3, (by rw [show d9 = b by omega] at hT3; exact hT3), Same.gx hsm0 hGx (fun _ z => z)⟩) dX7_part_37
      · refine j_aload_n C dX7_part_20 rfl 3 rfl ?_
        refine j_aload_n C dX7_part_21 rfl 0 rfl ?_
        refine j_iload C dX7_part_22 4 rfl ?_
        have hTo : TX Λ_5 u i n cp f := GX.tx hGx (by omega) (TX.old hT hGt hK0)
        refine c_i0 C (r_V C 1 i [.int (nI d9)] (c_at_in l D cy base Λ_5 u i n cp f hTo d9 (by omega)) (cwV 1 hts gX7_part_X7_at rfl rfl rfl (by decide +kernel) ⟨by decide, by decide⟩) hTo.1 rfl rfl rfl rfl (Nat.le_of_ble_eq_true rfl) dX7_part_24 ⟨by decide, by decide⟩) (fun rv u1 hp => ?_)
        rw [hp.1, hp.2]
        refine c_v0 C (r_V C 1 (gC Λ 1) [.int (nI (f d9))] (c_add_in l D cy base Λ_5 u (gC Λ 1) (d9 - a) (b - a) (fun k => f (a + k)) hT3 (nI (f d9)) (by omega)) (cwV 1 hts gX7_part_X7_add rfl rfl rfl (by decide +kernel) ⟨by decide, by decide⟩) hT3.1 rfl rfl rfl rfl (Nat.le_of_ble_eq_true rfl) dX7_part_27 ⟨by decide, by decide⟩) (fun u1 hp => ?_)
        have hT4 := TX.add (y := f d9) (x := (nI (f d9)).toInt8.toInt32) hT3 (by omega) (hT.2.2.2.2.2.2.2.2 d9 (by omega)) rfl
        have hT5 := TX.ext (g := fun k => f (a + k)) hT4 (fun k hk => by by_cases e : k = d9 - a; rw [if_pos e, e]; congr 1; omega; rw [if_neg e])
        have hG5 := GX.s (k := 1) (x := nI (d9 - a + 1)) (GX.s (k := d9 - a) (x := (nI (f d9)).toInt8.toInt32) hGx (Or.inr rfl)) (Or.inl rfl)
        rw [← hp] at hT5 hG5
        rw [show d9 - a + 1 = d9 + 1 - a by omega] at hT5
        refine j_iinc C [(4, .int (nI (d9 + 1))), (0, .ref (gA Λ_5 1 i)), (1, .int (nI a)), (2, .int (nI b)), (3, .ref (gA Λ_5 1 (gC Λ 1)))] (nI (d9 + 1)) dX7_part_30 4 rfl (nI_add _ 1) (by decide) rfl ?_
        refine j_goto (tgt := 14) C dX7_part_33 (by decide) ?_
        refine j_lv [1, 2, 3, 4, 0] rfl ?_
        exact ih14 (d9 + 1) u1 (by omega) (by omega) (by omega) hT5 hG5
  refine j_lv [2, 3, 4, 1, 0] rfl ?_
  exact lb14 _ a σ_6 (Nat.lt_succ_self _) (by omega) (by omega) (by rw [Nat.sub_self]; exact hT0) GX.rf
