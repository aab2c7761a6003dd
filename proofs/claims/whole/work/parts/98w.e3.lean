def LnP (Λ : LY) (σ : HS) (n r : Nat) (M : MM) (P : Nat → Nat → (Nat → Nat) → Prop) (x : LY × HS) : Prop := ∃ n2 ar2 cp2 wf2 tx2 ln2 hd2 lt2, GL x.1 x.2 n2 ar2 cp2 wf2 tx2 ln2 hd2 lt2 ∧ n2 ≤ n + 10 ∧ GW (fun r' m' g' => P r' m' g' ∨ (r' = r ∧ m' ≠ 0 ∧ hasW M r m' g')) n2 ln2 hd2 lt2 ∧ LnI Λ σ x.1 x.2
set_option maxHeartbeats 4000000 in
set_option maxRecDepth 100000 in
theorem c_X0_learn (l : Launch) (D : va_G) (cy : Nat → ClassId) (base : Nat) (Λ : LY) (σ : HS) (n ar cp : Nat) (wf tx ln hd : Nat → Nat) (lt : Nat → Nat → Nat) (hL : GL Λ σ n ar cp wf tx ln hd lt) (r : Nat) (P : Nat → Nat → (Nat → Nat) → Prop) (hW : GW P n ln hd lt) (hr40 : r < 40) (jl nl cpl : Nat) (f : Nat → Nat) (hTl : TX Λ σ jl nl cpl f) (hE12 : gC Λ 2 = gC Λ 1) (hC12 : ∀ i, i < gC Λ 1 → gV σ 1 i 0 = some i) (h2c : 2 ≤ gC Λ 1) (M : MM) (hM34 : M 34 r = nl) (hnl : nl ≤ 20) (hf : ∀ q, q < nl → M 33 (20 * r + q) = f q) (hn400 : n ≤ 400) : Met l yX0_learn wsX0_learn ({ frames := 40, cells := 44, slots := 11484, locals := 600 }) (va_Pc [.ref (gA Λ 14 0), .ref (gA Λ 1 jl), .long (lN (2 ^ r))] (Wg D cy base Λ σ)) (va_Qv (fun x => LnP Λ σ n r M P x) (Wx D cy base) (Ab base)) 44 11484 (Ab base) := by
  refine j_startG (cc := cX0_learn) (nL := 6) (ret := none) (lv := [(0, .ref (gA Λ 14 0)), (1, .ref (gA Λ 1 jl)), (2, .long (lN (2 ^ r)))]) (by decide) rfl (Nat.le_of_ble_eq_true rfl) rfl ?_
  intro p e s m below meth c C hr hlk hnm hZ
  have C : Cx p s m ([.ref (gA Λ 14 0), .ref (gA Λ 1 jl), .long (lN (2 ^ r))] : List Value).toArray c cX0_learn 6 RX0 wsX0_learn D cy base := C
  have hts := C.2.2.2.2.1
  have hwX7 : ∀ w ∈ u_ws RX7 TX7 2, w ∈ wsX0_learn := by decide +kernel
  have hL16 : FL RX0 16 (TX7 1).1 (TX7 1).2.1 (TX7 1).2.2.1 ([.ref (gA Λ 14 0), .ref (gA Λ 1 jl), .long (lN (2 ^ r))] : List Value).toArray s := Or.inr ⟨_, Ex.nestF C.2.2.2.2.2.2 nf_X0_16⟩
  refine j_iconst C (nI 0) dX0_learn_0 (by decide) ?_
  refine j_istore C [(4, .int (nI 0)), (0, .ref (gA Λ 14 0)), (1, .ref (gA Λ 1 jl)), (2, .long (lN (2 ^ r)))] dX0_learn_1 (by decide) rfl ?_
  refine j_iconst C (nI 0) dX0_learn_3 (by decide) ?_
  refine j_istore C [(5, .int (nI 0)), (4, .int (nI 0)), (0, .ref (gA Λ 14 0)), (1, .ref (gA Λ 1 jl)), (2, .long (lN (2 ^ r)))] dX0_learn_4 (by decide) rfl ?_
  have lb6 : ∀ (fu : Nat) (Λ2 : LY) (σ2 : HS) (st9 k9 e9 : Nat) (n2 ar2 cp2 : Nat) (wf2 tx2 ln2 hd2 : Nat → Nat) (lt2 : Nat → Nat → Nat), (nl + 1 - k9) < fu → (st9 ≤ k9) → (k9 ≤ nl + 1) → (2 * e9 ≤ st9) → (st9 = 0 ∨ f (st9 - 1) = 95 ∨ st9 = nl + 1) → (∀ q, st9 ≤ q → q < k9 → f q ≠ 95) → (k9 = nl + 1 → st9 = nl + 1) → (GL Λ2 σ2 n2 ar2 cp2 wf2 tx2 ln2 hd2 lt2) → (n2 ≤ n + e9) → (GW (wdB M r st9 P) n2 ln2 hd2 lt2) → (LnI Λ σ Λ2 σ2) → J p l e ({ frames := 40, cells := 44, slots := 11484, locals := 600 }) s m ([.ref (gA Λ 14 0), .ref (gA Λ 1 jl), .long (lN (2 ^ r))] : List Value).toArray below meth c 6 D cy base (MQ below (va_Qv (fun x => LnP Λ σ n r M P x) (Wx D cy base) (Ab base)) ([.ref (gA Λ 14 0), .ref (gA Λ 1 jl), .long (lN (2 ^ r))] : List Value).toArray s 44 11484 (Ab base)) (4 * e9) (1044 * e9) Λ2 6 [(0, .ref (gA Λ2 14 0)), (1, .ref (gA Λ2 1 jl)), (2, .long (lN (2 ^ r))), (4, .int (nI st9)), (5, .int (nI k9))] [] σ2 := by
    intro fu
    induction fu with
    | zero => intro Λ2 σ2 st9 k9 e9 n2 ar2 cp2 wf2 tx2 ln2 hd2 lt2 hfu; exact absurd hfu (Nat.not_lt_zero _)
    | succ fu ih =>
      intro Λ2 σ2 st9 k9 e9 n2 ar2 cp2 wf2 tx2 ln2 hd2 lt2 hfu hst hkn he9 h09 hno hfi hL2 hn2 hW2 hI2
      have hTl2 := hI2.tx hTl
      have ih6 := ih
      refine j_iload C dX0_learn_6 4 rfl ?_
      have lb35 : (k9 ≤ nl) → (k9 = nl ∨ f k9 = 95) → J p l e ({ frames := 40, cells := 44, slots := 11484, locals := 600 }) s m ([.ref (gA Λ 14 0), .ref (gA Λ 1 jl), .long (lN (2 ^ r))] : List Value).toArray below meth c 6 D cy base (MQ below (va_Qv (fun x => LnP Λ σ n r M P x) (Wx D cy base) (Ab base)) ([.ref (gA Λ 14 0), .ref (gA Λ 1 jl), .long (lN (2 ^ r))] : List Value).toArray s 44 11484 (Ab base)) (4 * e9) (1044 * e9) Λ2 35 [(0, .ref (gA Λ2 14 0)), (1, .ref (gA Λ2 1 jl)), (2, .long (lN (2 ^ r))), (4, .int (nI st9)), (5, .int (nI k9))] [] σ2 := by
        intro  hkn2 hen
        refine j_iload C dX0_learn_35 4 rfl ?_
        refine j_iload C dX0_learn_37 3 rfl ?_
        refine j_icmp_le (tgt := 55) C dX0_learn_39 (by decide) (nI_leI (by omega) (by omega)) (fun h39 => ?_) (fun h39 => ?_)
        · have hek : k9 = st9 := by omega
          have hW5 : GW (wdB M r (k9 + 1) P) n2 ln2 hd2 lt2 := hW2.iff (fun r' m' g' => by rw [← hek]; exact wdB_none (P := P) (f := f) (k := k9) (fun q hq => hf q (by omega)) (by rw [hM34]; exact hen) r' m' g')
          have hsep : k9 + 1 = 0 ∨ f (k9 + 1 - 1) = 95 ∨ k9 + 1 = nl + 1 := by rcases hen with z | z; exact Or.inr (Or.inr (by omega)); exact Or.inr (Or.inl z)
          refine j_iload C dX0_learn_55 4 rfl ?_
          refine j_iconst C (nI 1) dX0_learn_57 (by decide) ?_
          refine j_iadd C (nI (k9 + 1)) dX0_learn_58 (nI_add _ _) ?_
          refine j_istore C [(4, .int (nI (k9 + 1))), (0, .ref (gA Λ2 14 0)), (1, .ref (gA Λ2 1 jl)), (2, .long (lN (2 ^ r))), (5, .int (nI k9))] dX0_learn_59 (by decide) rfl ?_
          skip
          refine j_iinc C [(5, .int (nI (k9 + 1))), (4, .int (nI (k9 + 1))), (0, .ref (gA Λ2 14 0)), (1, .ref (gA Λ2 1 jl)), (2, .long (lN (2 ^ r)))] (nI (k9 + 1)) dX0_learn_61 4 rfl (nI_add _ 1) (by decide) rfl ?_
          refine j_goto (tgt := 6) C dX0_learn_64 (by decide) ?_
          refine j_lv [2, 3, 4, 1, 0] rfl ?_
          refine j_wide (k := 4 * (e9)) (n := 1044 * (e9)) (by omega) (by omega) ?_
          exact ih6 Λ2 σ2 (k9 + 1) (k9 + 1) e9 _ _ _ _ _ _ _ _ (by omega) (by omega) (by omega) (by omega) hsep (fun q h1 h2 => absurd h2 (by omega)) (fun z => z) hL2 (by omega) hW5 hI2
        · refine j_aload_n C dX0_learn_42 rfl 0 rfl ?_
          refine j_aload_n C dX0_learn_43 rfl 1 rfl ?_
          refine j_iload C dX0_learn_44 3 rfl ?_
          refine j_iload C dX0_learn_46 4 rfl ?_
          refine c_rx C (r_V C 1 jl [.int (nI st9), .int (nI k9)] (c_X7_part l D cy base Λ2 σ2 jl nl cpl f hTl2 hI2.2.2.2.2.1 st9 k9 (by omega) (by omega)) (cwV 2 hts gX0_learn_X7_part rfl rfl rfl (by decide +kernel) ⟨by decide, by decide⟩) hTl2.1 rfl rfl rfl rfl (Nat.le_of_ble_eq_true rfl) dX0_learn_48 ⟨by show 4 * e9 + 2 ≤ 44; omega, by show 1044 * e9 + 42 ≤ 11484; omega⟩) (fun Λ3 u3 j3 hp3 => ?_)
          obtain ⟨p1, p2, p3, p4, p5, p6, p7, p8⟩ := hp3
          dsimp only at p1 p2 p3 p4 p5 p6 p7 p8
          subst p1
          have hb14 := hL2.2.2.1.1
          have hbjl := hTl2.1
          have hz2 : Zx base (gA Λ2 50 0) s := by rw [hI2.1.2.2]; exact hZ
          have hb_4 : 0 < gC Λ3 14 := Nat.lt_of_lt_of_le hb14 (p2.1 14)
          have hb_5 : jl < gC Λ3 1 := Nat.lt_of_lt_of_le hbjl (p2.1 1)
          have hz_6 : Zx base (gA Λ3 50 0) s := by rw [p2.2.2]; exact hz2
          have he_7 : gA Λ3 14 0 = gA Λ2 14 0 := (p2.2.1 14 0 (by first | assumption | omega)).1
          have he_8 : gA Λ3 1 jl = gA Λ2 1 jl := (p2.2.1 1 jl (by first | assumption | omega)).1
          refine j_eq (lv' := [(0, .ref (gA Λ3 14 0)), (1, .ref (gA Λ3 1 jl)), (2, .long (lN (2 ^ r))), (4, .int (nI st9)), (5, .int (nI k9))]) (st' := [.ref (gA Λ3 1 (gC Λ2 1)), .ref (gA Λ3 14 0)]) (by simp only [he_7, he_8]) (by simp only [he_7, he_8]) ?_
          refine j_lload_n C dX0_learn_51 rfl 2 rfl ?_
          have hc21 : 2 ≤ gC Λ2 1 := Nat.le_trans h2c (hI2.1.1 1)
          refine c_vx C (r_Vg C hz_6 14 0 [.ref (gA Λ3 1 (gC Λ2 1)), .long (lN (2 ^ r))] (c_X0_enter l D cy base Λ3 u3 n2 ar2 cp2 wf2 tx2 ln2 hd2 lt2 (hL2.old p2 p3) r (wdB M r st9 P) hW2 hr40 (gC Λ2 1) (k9 - st9) (fun q => f (st9 + q)) p7 hc21 (by omega) (by omega)) (cwV 2 hts gX0_learn_X0_enter rfl rfl rfl (by decide +kernel) ⟨by decide, by decide⟩) hb_4 rfl rfl rfl rfl (Nat.le_of_ble_eq_true rfl) dX0_learn_52 ⟨by show 4 * e9 + 2 + 2 ≤ 44; omega, by show 1044 * e9 + 42 + 1002 ≤ 11484; omega⟩) (fun Λ4 u4 hp4 => ?_)
          obtain ⟨n4, ar4, cp4, wf4, tx4, ln4, hd4, lt4, hL4, hn4, hW4, hG4, hc4, hs4⟩ := hp4
          dsimp only at hL4 hG4 hc4 hs4
          have hI4 := hI2.step p2 p3 p4 p5 p6 p8 p7 hG4 hc4 hs4
          have h0a : st9 = 0 ∨ f (st9 - 1) = 95 := by rcases h09 with z | z | z; exact Or.inl z; exact Or.inr z; omega
          have hW5 : GW (wdB M r (k9 + 1) P) n4 ln4 hd4 lt4 := hW4.iff (wdB_word (P := P) (f := f) (by omega) (by omega) (fun q hq => hf q (by omega)) h0a hno (by rw [hM34]; exact hen))
          have hsep : k9 + 1 = 0 ∨ f (k9 + 1 - 1) = 95 ∨ k9 + 1 = nl + 1 := by rcases hen with z | z; exact Or.inr (Or.inr (by omega)); exact Or.inr (Or.inl z)
          have hb_9 : 0 < gC Λ4 14 := Nat.lt_of_lt_of_le hb_4 (hG4.1 14)
          have hb_10 : jl < gC Λ4 1 := Nat.lt_of_lt_of_le hb_5 (hG4.1 1)
          have he_11 : gA Λ4 14 0 = gA Λ3 14 0 := (hG4.2.1 14 0 (by first | assumption | omega)).1
          have he_12 : gA Λ4 1 jl = gA Λ3 1 jl := (hG4.2.1 1 jl (by first | assumption | omega)).1
          refine j_eq (lv' := [(0, .ref (gA Λ4 14 0)), (1, .ref (gA Λ4 1 jl)), (2, .long (lN (2 ^ r))), (4, .int (nI st9)), (5, .int (nI k9))]) (st' := []) (by simp only [he_11, he_12]) (by rfl) ?_
          skip
          refine j_iload C dX0_learn_55 4 rfl ?_
          refine j_iconst C (nI 1) dX0_learn_57 (by decide) ?_
          refine j_iadd C (nI (k9 + 1)) dX0_learn_58 (nI_add _ _) ?_
          refine j_istore C [(4, .int (nI (k9 + 1))), (0, .ref (gA Λ4 14 0)), (1, .ref (gA Λ4 1 jl)), (2, .long (lN (2 ^ r))), (5, .int (nI k9))] dX0_learn_59 (by decide) rfl ?_
          skip
          refine j_iinc C [(5, .int (nI (k9 + 1))), (4, .int (nI (k9 + 1))), (0, .ref (gA Λ4 14 0)), (1, .ref (gA Λ4 1 jl)), (2, .long (lN (2 ^ r)))] (nI (k9 + 1)) dX0_learn_61 4 rfl (nI_add _ 1) (by decide) rfl ?_
          refine j_goto (tgt := 6) C dX0_learn_64 (by decide) ?_
          refine j_lv [2, 3, 4, 1, 0] rfl ?_
          refine j_wide (k := 4 * (e9 + 1)) (n := 1044 * (e9 + 1)) (by omega) (by omega) ?_
          exact ih6 Λ4 u4 (k9 + 1) (k9 + 1) (e9 + 1) _ _ _ _ _ _ _ _ (by omega) (by omega) (by omega) (by omega) hsep (fun q h1 h2 => absurd h2 (by omega)) (fun z => z) hL4 (by omega) hW5 hI4
      refine j_aload_n C dX0_learn_8 rfl 1 rfl ?_
      refine j_getI C hwX7 1 jl 1 hTl2.1 rfl rfl (by decide) rfl (nI nl) hTl2.2.2.2.1 hL16 dX0_learn_9 ?_
      refine j_icmp_gt (tgt := 67) C dX0_learn_12 (by decide) (nI_ltI (by omega) (by omega)) (fun h12 => ?_) (fun h12 => ?_)
      · refine j_wide (k := 44) (n := 11484) (by omega) (by omega) ?_
        exact j_vretx C hr hlk (⟨n2, ar2, cp2, wf2, tx2, ln2, hd2, lt2, hL2, by omega, hW2.iff (wdB_all (by omega)), hI2⟩) dX0_learn_67
      · refine j_iload C dX0_learn_15 4 rfl ?_
        refine j_aload_n C dX0_learn_17 rfl 1 rfl ?_
        refine j_getI C hwX7 1 jl 1 hTl2.1 rfl rfl (by decide) rfl (nI nl) hTl2.2.2.2.1 hL16 dX0_learn_18 ?_
        refine j_icmp_eq (tgt := 35) C dX0_learn_21 (by decide) (nI_eq (by omega) (by omega)) (fun h21 => ?_) (fun h21 => ?_)
        · exact lb35  (by omega) (Or.inl (by omega))
        · refine j_aload_n C dX0_learn_24 rfl 1 rfl ?_
          refine j_iload C dX0_learn_25 4 rfl ?_
          refine c_i0 C (r_V C 1 jl [.int (nI k9)] (c_at_in l D cy base Λ2 σ2 jl nl cpl f hTl2 k9 (by omega)) (cwV 1 hts gX0_learn_X7_at rfl rfl rfl (by decide +kernel) ⟨by decide, by decide⟩) hTl2.1 rfl rfl rfl rfl (Nat.le_of_ble_eq_true rfl) dX0_learn_27 ⟨by show 4 * e9 + 0 ≤ 44; omega, by show 1044 * e9 + 0 ≤ 11484; omega⟩) (fun rv uu hp => ?_)
          rw [hp.1, hp.2]
          have hf255 := hTl2.2.2.2.2.2.2.2.2 k9 (by omega)
          refine j_bipush C (nI 95) dX0_learn_30 (by decide) ?_
          refine j_icmp_ne (tgt := 61) C dX0_learn_32 (by decide) (nI_eq (by omega) (by omega)) (fun h32 => ?_) (fun h32 => ?_)
          · have hn95 : f k9 ≠ 95 := h32
            refine j_iinc C [(5, .int (nI (k9 + 1))), (0, .ref (gA Λ2 14 0)), (1, .ref (gA Λ2 1 jl)), (2, .long (lN (2 ^ r))), (4, .int (nI st9))] (nI (k9 + 1)) dX0_learn_61 4 rfl (nI_add _ 1) (by decide) rfl ?_
            refine j_goto (tgt := 6) C dX0_learn_64 (by decide) ?_
            refine j_lv [1, 2, 3, 4, 0] rfl ?_
            refine j_wide (k := 4 * (e9)) (n := 1044 * (e9)) (by omega) (by omega) ?_
            exact ih6 Λ2 σ2 st9 (k9 + 1) e9 _ _ _ _ _ _ _ _ (by omega) (by omega) (by omega) (by omega) h09 (fun q h1 h2 => by by_cases z : q = k9; rw [z]; exact hn95; exact hno q h1 (by omega)) (fun z => absurd z (by omega)) hL2 hn2 hW2 hI2
          · exact lb35  (by omega) (Or.inr (by omega))
  refine j_lv [2, 3, 4, 1, 0] rfl ?_
  refine j_wide (k := 4 * (0)) (n := 1044 * (0)) (by omega) (by omega) ?_
  exact lb6 _ Λ σ 0 0 0 _ _ _ _ _ _ _ _ (Nat.lt_succ_self _) (by omega) (by omega) (by omega) (Or.inl rfl) (fun q h1 h2 => absurd h2 (by omega)) (fun z => absurd z (by omega)) hL (by omega) (hW.iff wdB_0) (LnI.rf hE12 hC12)
