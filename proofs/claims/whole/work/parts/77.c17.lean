def upA (A : Nat → Nat) (d to : Nat) : Nat → Nat := fun i => if i = d then to else A i
theorem upA_d {A : Nat → Nat} {d to : Nat} : upA A d to d = to := if_pos rfl
theorem upA_lt {A : Nat → Nat} {d to i : Nat} (h : i < d) : upA A d to i = A i := if_neg (by omega)
theorem nm_up {R : Nat} {A : Nat → Nat} {d to : Nat} : nm R (upA A d to) (d + 1) = nm R A d * R + to := by
  show nm R (upA A d to) d * R + upA A d to d = _
  rw [nm_congr (fun i hi => upA_lt hi), upA_d]
theorem sm_up {M : MM} {A : Nat → Nat} {d to : Nat} : fb_sm (padd M (upA A d to)) (d + 1) = fb_sm (padd M A) d + padd M (upA A d to) d := by
  rw [fb_sm_succ, sm_pre (fun i hi => upA_lt hi)]
theorem vA_up {R : Nat} {A : Nat → Nat} {d to : Nat} (h : vA R d A) (ht : to < R) : vA R (d + 1) (upA A d to) := fun i hi => by
  by_cases e : i = d
  · rw [e, upA_d]; exact ht
  · rw [upA_lt (by omega)]; exact h i (by omega)
theorem padd_le {M : MM} (hB : MBd M) {A : Nat → Nat} {k : Nat} (hk : k < hcN M) (h9 : k < 9) : padd M A k ≤ 400000000 := by
  have hn : M 31 5 ≤ 40 := hB 31 5 rfl
  have h8 : M 31 8 ≤ 100 := hB 31 8 rfl
  have hl := hs_lt hk
  have h1 := fb_sm_bound (f := prI M A k) (n := k) (c := 37000000) (fun i hi => by
    have l2 := hs_lt (M := M) (k := i) (by omega)
    have := tieN_le hB (a := hs M k) (b := hs M i) (by omega) (by omega)
    unfold prI
    split
    · split <;> omega
    · split <;> omega)
  have h2 : alr A k ≤ k := fb_ct_le _ _
  have h3 : M 31 8 * (2 * alr A k + 1) ≤ 100 * 19 := Nat.mul_le_mul h8 (by omega)
  unfold padd
  split <;> omega
theorem sm_le {M : MM} (hB : MBd M) {A : Nat → Nat} {d : Nat} (hd : d ≤ hcN M) (h9 : d ≤ 9) : fb_sm (padd M A) d ≤ 3600000000 := by
  have := fb_sm_bound (f := padd M A) (n := d) (c := 400000000) (fun k hk => padd_le hB (by omega) (by omega))
  omega
theorem FM.small {M : MM} (hB : MBd M) {R K b : Nat} {F : Nat → Nat} (h9 : hcN M ≤ 9) (h : FM M R (hcN M) K b F) (hK : 0 < K) : b ≤ 3600000000 := by
  obtain ⟨-, -, e, -⟩ := h.2.1 hK
  rw [← e]
  exact sm_le hB (Nat.le_refl _) h9
theorem node_end {P R e : Nat} : (P * R + R) * R ^ e = (P + 1) * R ^ (e + 1) := by
  rw [Nat.pow_succ, Nat.mul_comm (R ^ e) R, ← Nat.mul_assoc, Nat.succ_mul]
theorem node_beg {P R e : Nat} : P * R ^ (e + 1) = (P * R + 0) * R ^ e := by
  rw [Nat.pow_succ, Nat.mul_comm (R ^ e) R, ← Nat.mul_assoc, Nat.add_zero]
theorem c_price (l : Launch) (D : va_G) (cy : Nat → ClassId) (base : Nat) (Λ : LY) (σ : HS) (M : MM) (hC : CR noEx Λ σ M) (hB : MBd M) (A : Nat → Nat) (d : Nat) (hd : d < hcN M) (hd9 : d < 9) (hA6 : ∀ i, i ≤ d → A i < 6) (hTr : ∀ i, i < d → gI σ 21 0 i = nI (A i)) (to : Nat) (hto : A d = to) : Met l yX6_priceOfAdding wsX6_priceOfAdding ({ frames := 8, cells := 0, slots := 0, locals := 120 }) (va_Pc [.ref (gA Λ 20 0), .int (nI d), .int (nI to)] (Wd D cy base Λ σ)) (va_Ql (fun v u => v = zL (padd M A d : Int) ∧ u = σ) (Wd D cy base Λ) (Ab base)) 0 0 (Ab base) := by
  subst hto
  exact c_X6_priceOfAdding l D cy base Λ σ M hC hB A d hd hd9 hA6 hTr
theorem bitU_up {M : MM} {A : Nat → Nat} {d to t : Nat} : ((fxP M (hcN M) t ∨ ∃ i, i < d ∧ A i = t) ∨ t = to) ↔ (fxP M (hcN M) t ∨ ∃ i, i < d + 1 ∧ upA A d to i = t) := by
  constructor
  · rintro ((h | ⟨i, h1, h2⟩) | e)
    · exact Or.inl h
    · exact Or.inr ⟨i, by omega, by rw [upA_lt h1]; exact h2⟩
    · exact Or.inr ⟨d, by omega, by rw [upA_d]; exact e.symm⟩
  · rintro (h | ⟨i, h1, h2⟩)
    · exact Or.inl (Or.inl h)
    · by_cases e : i = d
      · rw [e, upA_d] at h2; exact Or.inr h2.symm
      · rw [upA_lt (by omega)] at h2; exact Or.inl (Or.inr ⟨i, by omega, h2⟩)
set_option maxHeartbeats 4000000 in
set_option maxRecDepth 100000 in
theorem c_tryFrom_9 (l : Launch) (D : va_G) (cy : Nat → ClassId) (base : Nat) (Λ : LY) (σ : HS) (M : MM) (hC : CR noEx Λ σ M) (hB : MBd M) (hm9 : hcN M ≤ 9) (hR1 : 1 ≤ M 31 10) (hR3 : M 31 10 ≤ 3) (e9 : Nat) (hde : hcN M = 9 + e9) (A F : Nat → Nat) (b U : Nat) (hbb : b ≤ 1000000000000000) (hAv : vA (M 31 10) 9 A) (hTr : ∀ i, i < 9 → gI σ 21 0 i = nI (A i)) (hL : gJ σ 20 0 3 = zL (b : Int)) (hFo : 0 < nm (M 31 10) A 9 * M 31 10 ^ e9 → ∀ i, i < hcN M → gI σ 22 0 i = nI (F i)) (hFM : FM M (M 31 10) (hcN M) (nm (M 31 10) A 9 * M 31 10 ^ e9) b F) (hU : U < 64) (bU : ∀ t, U.testBit t = true ↔ fxP M (hcN M) t ∨ ∃ i, i < 9 ∧ A i = t) : Met l yX6_tryFrom wsX6_tryFrom ({ frames := 12, cells := 0, slots := 0, locals := 180 }) (va_Pc [.ref (gA Λ 20 0), .int (nI 9), .long (zL ((fb_sm (padd M A) 9 : Nat) : Int)), .int (nI U)] (Wd D cy base Λ σ)) (va_Qv (fun u => GS σ u ∧ (∀ i, i < 9 → gI u 21 0 i = nI (A i)) ∧ ∃ b2 F2, b2 ≤ 1000000000000000 ∧ gJ u 20 0 3 = zL ((b2 : Nat) : Int) ∧ (∀ i, i < hcN M → gI u 22 0 i = nI (F2 i)) ∧ FM M (M 31 10) (hcN M) ((nm (M 31 10) A 9 + 1) * M 31 10 ^ e9) b2 F2) (Wd D cy base Λ) (Ab base)) 0 0 (Ab base) := by
  refine j_start (cc := cX6_tryFrom) (nL := 5) (ret := none) (lv := [(0, .ref (gA Λ 20 0)), (1, .int (nI 9)), (2, .long (zL ((fb_sm (padd M A) 9 : Nat) : Int))), (4, .int (nI U))]) (by decide) rfl (Nat.le_of_ble_eq_true rfl) rfl ?_
  intro p e s m below meth c C hr hlk hnm
  have C : Cx p s m ([.ref (gA Λ 20 0), .int (nI 9), .long (zL ((fb_sm (padd M A) 9 : Nat) : Int)), .int (nI U)] : List Value).toArray c cX6_tryFrom 5 RX6 wsX6_tryFrom D cy base := C
  have hts := C.2.2.2.2.1
  have hwX4 : ∀ w ∈ u_ws RX4 TX4 6, w ∈ wsX6_tryFrom := by decide +kernel
  have hwX6 : ∀ w ∈ u_ws RX6 TX6 4, w ∈ wsX6_tryFrom := by decide +kernel
  have hM9 : (Cond.fieldLink RX6 9 (TX6 1).1 (TX6 1).2.1 (TX6 1).2.2.1).before ([.ref (gA Λ 20 0), .int (nI 9), .long (zL ((fb_sm (padd M A) 9 : Nat) : Int)), .int (nI U)] : List Value).toArray s = true := hts (.fieldLink RX6 9 "CodeRooms$Search" "trial" "[I") (by decide +kernel)
  have hL9 : FL RX6 9 (TX6 1).1 (TX6 1).2.1 (TX6 1).2.2.1 ([.ref (gA Λ 20 0), .int (nI 9), .long (zL ((fb_sm (padd M A) 9 : Nat) : Int)), .int (nI U)] : List Value).toArray s := Or.inl hM9
  have hM15 : (Cond.fieldLink RX6 15 (TX6 2).1 (TX6 2).2.1 (TX6 2).2.2.1).before ([.ref (gA Λ 20 0), .int (nI 9), .long (zL ((fb_sm (padd M A) 9 : Nat) : Int)), .int (nI U)] : List Value).toArray s = true := hts (.fieldLink RX6 15 "CodeRooms$Search" "found" "[I") (by decide +kernel)
  have hL15 : FL RX6 15 (TX6 2).1 (TX6 2).2.1 (TX6 2).2.2.1 ([.ref (gA Λ 20 0), .int (nI 9), .long (zL ((fb_sm (padd M A) 9 : Nat) : Int)), .int (nI U)] : List Value).toArray s := Or.inl hM15
  have hM18 : (Cond.fieldLink RX6 18 (TX6 0).1 (TX6 0).2.1 (TX6 0).2.2.1).before ([.ref (gA Λ 20 0), .int (nI 9), .long (zL ((fb_sm (padd M A) 9 : Nat) : Int)), .int (nI U)] : List Value).toArray s = true := hts (.fieldLink RX6 18 "CodeRooms$Search" "plan" "LCodeRooms$Plan;") (by decide +kernel)
  have hL18 : FL RX6 18 (TX6 0).1 (TX6 0).2.1 (TX6 0).2.2.1 ([.ref (gA Λ 20 0), .int (nI 9), .long (zL ((fb_sm (padd M A) 9 : Nat) : Int)), .int (nI U)] : List Value).toArray s := Or.inl hM18
  have hL22 : FL RX6 22 (TX4 5).1 (TX4 5).2.1 (TX4 5).2.2.1 ([.ref (gA Λ 20 0), .int (nI 9), .long (zL ((fb_sm (padd M A) 9 : Nat) : Int)), .int (nI U)] : List Value).toArray s := Or.inr ⟨_, Ex.nestF C.2.2.2.2.2.2 nf_X6_22⟩
  have hM36 : (Cond.fieldLink RX6 36 (TX6 3).1 (TX6 3).2.1 (TX6 3).2.2.1).before ([.ref (gA Λ 20 0), .int (nI 9), .long (zL ((fb_sm (padd M A) 9 : Nat) : Int)), .int (nI U)] : List Value).toArray s = true := hts (.fieldLink RX6 36 "CodeRooms$Search" "least" "J") (by decide +kernel)
  have hL36 : FL RX6 36 (TX6 3).1 (TX6 3).2.1 (TX6 3).2.2.1 ([.ref (gA Λ 20 0), .int (nI 9), .long (zL ((fb_sm (padd M A) 9 : Nat) : Int)), .int (nI U)] : List Value).toArray s := Or.inl hM36
  have hn : M 31 5 ≤ 40 := hB 31 5 rfl
  have hhc0 := hcN_le M
  have hS := sm_le hB (A := A) (d := 9) (by omega) (by decide)
  have hKp : b ≠ 1000000000000000 → 0 < nm (M 31 10) A 9 * M 31 10 ^ e9 := fun z => Nat.pos_of_ne_zero (fun q => z (hFM.2.2 q))
  refine j_lload_n C dX6_tryFrom_0 rfl 2 rfl ?_
  refine j_aload_n C dX6_tryFrom_1 rfl 0 rfl ?_
  refine j_getJ C hwX6 20 0 3 (CR.n1 hC (by decide)) rfl rfl (by decide) rfl (zL (b : Int)) hL hL36 dX6_tryFrom_2 ?_
  refine j_lcmp_lt (tgt := 10) C dX6_tryFrom_5 dX6_tryFrom_6 (by decide) ((zL_lt (by omega) (by omega) (by omega) (by omega)).trans Int.ofNat_lt) (fun h5 => ?_) (fun h5 => ?_)
  · refine j_iload_n C dX6_tryFrom_10 rfl 1 rfl ?_
    refine j_aload_n C dX6_tryFrom_11 rfl 0 rfl ?_
    refine j_getV C hwX6 20 0 0 (CR.n1 hC (by decide)) rfl rfl (by decide) rfl 0 (CR.v hC 20 0 0 ⟨rfl, by decide⟩ id) hL18 dX6_tryFrom_12 ?_
    have hhc15 := hcN_le M
    refine j_getI C hwX4 3 0 5 (CR.n1 hC (by decide)) rfl rfl (by decide) rfl (nI (hcN M)) (CR.i hC 3 0 5 ⟨rfl, Or.inr rfl⟩ id) hL22 dX6_tryFrom_15 ?_
    refine j_icmp_ge (tgt := 27) C dX6_tryFrom_18 (by decide) (nI_leI (by omega) (by omega)) (fun h18 => ?_) (fun h18 => ?_)
    · refine j_aload_n C dX6_tryFrom_27 rfl 0 rfl ?_
      refine j_lload_n C dX6_tryFrom_28 rfl 2 rfl ?_
      refine j_putJ C hwX6 20 0 3 (CR.n1 hC (by decide)) rfl rfl (by decide) rfl tyX6 tyX6_ok nmX6 rfl rfl rfl hL36 dX6_tryFrom_29 ?_
      refine j_aload_n C dX6_tryFrom_32 rfl 0 rfl ?_
      refine j_getV C hwX6 20 0 1 (CR.n1 hC (by decide)) rfl rfl (by decide) rfl 0 (CR.v hC 20 0 1 ⟨rfl, by decide⟩ id) hL9 dX6_tryFrom_33 ?_
      refine j_iconst C (nI 0) dX6_tryFrom_36 (by decide) ?_
      refine j_aload_n C dX6_tryFrom_37 rfl 0 rfl ?_
      refine j_getV C hwX6 20 0 2 (CR.n1 hC (by decide)) rfl rfl (by decide) rfl 0 (CR.v hC 20 0 2 ⟨rfl, by decide⟩ id) hL15 dX6_tryFrom_38 ?_
      refine j_iconst C (nI 0) dX6_tryFrom_41 (by decide) ?_
      refine j_bipush C (nI 9) dX6_tryFrom_42 (by decide) ?_
      refine j_cpi C 21 0 22 0 9 (CR.n1 hC (by decide)) (CR.n1 hC (by decide)) rfl rfl rfl rfl (CR.l1 hC (by decide)) (CR.l1 hC (by decide)) (by decide) (by decide +kernel) rfl rfl dX6_tryFrom_44 ?_
      exact j_vret C hr hlk (⟨GS.r (GS.j GS.rf), fun i hi => by rw [gI_sRn (Or.inl (by decide))]; exact hTr i hi, fb_sm (padd M A) 9, A, by omega, gJ_same _ _ _ _ _, fun i hi => by rw [gI_sR]; unfold va_cpy; rw [if_pos (by omega)]; exact (congrArg _ (by omega)).trans (hTr i (by omega)), by have e0 : e9 = 0 := (by omega); subst e0; rw [Nat.pow_zero, Nat.mul_one] at hFM ⊢; rw [show hcN M = 9 from hde] at hFM ⊢; exact FM.leaf hFM hAv h5⟩) dX6_tryFrom_47
    · refine j_iload_n C dX6_tryFrom_21 rfl 1 rfl ?_
      refine j_bipush C (nI 9) dX6_tryFrom_22 (by decide) ?_
      refine j_icmp_lt (tgt := 48) C (P := False) dX6_tryFrom_24 (by decide) (by decide) (fun z => ?_) (fun z => ?_)
      · exact z.elim
      · refine j_aload_n C dX6_tryFrom_27 rfl 0 rfl ?_
        refine j_lload_n C dX6_tryFrom_28 rfl 2 rfl ?_
        refine j_putJ C hwX6 20 0 3 (CR.n1 hC (by decide)) rfl rfl (by decide) rfl tyX6 tyX6_ok nmX6 rfl rfl rfl hL36 dX6_tryFrom_29 ?_
        refine j_aload_n C dX6_tryFrom_32 rfl 0 rfl ?_
        refine j_getV C hwX6 20 0 1 (CR.n1 hC (by decide)) rfl rfl (by decide) rfl 0 (CR.v hC 20 0 1 ⟨rfl, by decide⟩ id) hL9 dX6_tryFrom_33 ?_
        refine j_iconst C (nI 0) dX6_tryFrom_36 (by decide) ?_
        refine j_aload_n C dX6_tryFrom_37 rfl 0 rfl ?_
        refine j_getV C hwX6 20 0 2 (CR.n1 hC (by decide)) rfl rfl (by decide) rfl 0 (CR.v hC 20 0 2 ⟨rfl, by decide⟩ id) hL15 dX6_tryFrom_38 ?_
        refine j_iconst C (nI 0) dX6_tryFrom_41 (by decide) ?_
        refine j_bipush C (nI 9) dX6_tryFrom_42 (by decide) ?_
        refine j_cpi C 21 0 22 0 9 (CR.n1 hC (by decide)) (CR.n1 hC (by decide)) rfl rfl rfl rfl (CR.l1 hC (by decide)) (CR.l1 hC (by decide)) (by decide) (by decide +kernel) rfl rfl dX6_tryFrom_44 ?_
        exact j_vret C hr hlk (⟨GS.r (GS.j GS.rf), fun i hi => by rw [gI_sRn (Or.inl (by decide))]; exact hTr i hi, fb_sm (padd M A) 9, A, by omega, gJ_same _ _ _ _ _, fun i hi => by rw [gI_sR]; unfold va_cpy; rw [if_pos (by omega)]; exact (congrArg _ (by omega)).trans (hTr i (by omega)), by have e0 : e9 = 0 := (by omega); subst e0; rw [Nat.pow_zero, Nat.mul_one] at hFM ⊢; rw [show hcN M = 9 from hde] at hFM ⊢; exact FM.leaf hFM hAv h5⟩) dX6_tryFrom_47
  · exact j_vret C hr hlk (⟨GS.rf, hTr, b, F, hbb, hL, hFo (hKp (by omega)), by rw [hde] at hFM ⊢; exact FM.prune hFM hAv rfl (by omega) (by omega) (by omega)⟩) dX6_tryFrom_9

set_option maxHeartbeats 8000000 in
set_option maxRecDepth 100000 in
theorem c_tryRooms_8 (l : Launch) (D : va_G) (cy : Nat → ClassId) (base : Nat) (Λ : LY) (σ : HS) (M : MM) (hC : CR noEx Λ σ M) (hB : MBd M) (hm9 : hcN M ≤ 9) (hR1 : 1 ≤ M 31 10) (hR3 : M 31 10 ≤ 3) (e9 : Nat) (hde : hcN M = 8 + e9) (A F : Nat → Nat) (b U : Nat) (hbb : b ≤ 1000000000000000) (hAv : vA (M 31 10) 8 A) (hTr : ∀ i, i < 8 → gI σ 21 0 i = nI (A i)) (hL : gJ σ 20 0 3 = zL (b : Int)) (hFo : 0 < nm (M 31 10) A 8 * M 31 10 ^ e9 → ∀ i, i < hcN M → gI σ 22 0 i = nI (F i)) (hFM : FM M (M 31 10) (hcN M) (nm (M 31 10) A 8 * M 31 10 ^ e9) b F) (hU : U < 64) (bU : ∀ t, U.testBit t = true ↔ fxP M (hcN M) t ∨ ∃ i, i < 8 ∧ A i = t) (hdd : 8 < hcN M) : Met l yX6_tryRooms wsX6_tryRooms ({ frames := 16, cells := 0, slots := 0, locals := 240 }) (va_Pc [.ref (gA Λ 20 0), .int (nI 8), .long (zL ((fb_sm (padd M A) 8 : Nat) : Int)), .int (nI U)] (Wd D cy base Λ σ)) (va_Qv (fun u => GS σ u ∧ (∀ i, i < 8 → gI u 21 0 i = nI (A i)) ∧ ∃ b2 F2, b2 ≤ 1000000000000000 ∧ gJ u 20 0 3 = zL ((b2 : Nat) : Int) ∧ (∀ i, i < hcN M → gI u 22 0 i = nI (F2 i)) ∧ FM M (M 31 10) (hcN M) ((nm (M 31 10) A 8 + 1) * M 31 10 ^ e9) b2 F2) (Wd D cy base Λ) (Ab base)) 0 0 (Ab base) := by
  refine j_start (cc := cX6_tryRooms) (nL := 8) (ret := none) (lv := [(0, .ref (gA Λ 20 0)), (1, .int (nI 8)), (2, .long (zL ((fb_sm (padd M A) 8 : Nat) : Int))), (4, .int (nI U))]) (by decide) rfl (Nat.le_of_ble_eq_true rfl) rfl ?_
  intro p e s m below meth c C hr hlk hnm
  have C : Cx p s m ([.ref (gA Λ 20 0), .int (nI 8), .long (zL ((fb_sm (padd M A) 8 : Nat) : Int)), .int (nI U)] : List Value).toArray c cX6_tryRooms 8 RX6 wsX6_tryRooms D cy base := C
  have hts := C.2.2.2.2.1
  have hwX6 : ∀ w ∈ u_ws RX6 TX6 4, w ∈ wsX6_tryRooms := by decide +kernel
  have hM9 : (Cond.fieldLink RX6 9 (TX6 1).1 (TX6 1).2.1 (TX6 1).2.2.1).before ([.ref (gA Λ 20 0), .int (nI 8), .long (zL ((fb_sm (padd M A) 8 : Nat) : Int)), .int (nI U)] : List Value).toArray s = true := hts (.fieldLink RX6 9 "CodeRooms$Search" "trial" "[I") (by decide +kernel)
  have hL9 : FL RX6 9 (TX6 1).1 (TX6 1).2.1 (TX6 1).2.2.1 ([.ref (gA Λ 20 0), .int (nI 8), .long (zL ((fb_sm (padd M A) 8 : Nat) : Int)), .int (nI U)] : List Value).toArray s := Or.inl hM9
  have hM18 : (Cond.fieldLink RX6 18 (TX6 0).1 (TX6 0).2.1 (TX6 0).2.2.1).before ([.ref (gA Λ 20 0), .int (nI 8), .long (zL ((fb_sm (padd M A) 8 : Nat) : Int)), .int (nI U)] : List Value).toArray s = true := hts (.fieldLink RX6 18 "CodeRooms$Search" "plan" "LCodeRooms$Plan;") (by decide +kernel)
  have hL18 : FL RX6 18 (TX6 0).1 (TX6 0).2.1 (TX6 0).2.2.1 ([.ref (gA Λ 20 0), .int (nI 8), .long (zL ((fb_sm (padd M A) 8 : Nat) : Int)), .int (nI U)] : List Value).toArray s := Or.inl hM18
  have hn : M 31 5 ≤ 40 := hB 31 5 rfl
  have hhc0 := hcN_le M
  obtain ⟨e1, he1⟩ : ∃ e1, e9 = e1 + 1 := ⟨e9 - 1, by omega⟩
  refine j_iconst C (nI 0) dX6_tryRooms_0 (by decide) ?_
  refine j_istore C [(5, .int (nI 0)), (0, .ref (gA Λ 20 0)), (1, .int (nI 8)), (2, .long (zL ((fb_sm (padd M A) 8 : Nat) : Int))), (4, .int (nI U))] dX6_tryRooms_1 (by decide) rfl ?_
  refine j_iconst C (nI 0) dX6_tryRooms_3 (by decide) ?_
  refine j_istore C [(6, .int (nI 0)), (5, .int (nI 0)), (0, .ref (gA Λ 20 0)), (1, .int (nI 8)), (2, .long (zL ((fb_sm (padd M A) 8 : Nat) : Int))), (4, .int (nI U))] dX6_tryRooms_4 (by decide) rfl ?_
  have lb6 : ∀ (fu : Nat) (σ1 : HS) (g to : Nat) (b1 : Nat) (F1 : Nat → Nat), (M 31 10 - to) < fu → (to ≤ M 31 10) → (GS σ σ1) → (∀ i, i < 8 → gI σ1 21 0 i = nI (A i)) → (b1 ≤ 1000000000000000) → (gJ σ1 20 0 3 = zL (b1 : Int)) → (0 < (nm (M 31 10) A 8 * M 31 10 + to) * M 31 10 ^ e1 → ∀ i, i < hcN M → gI σ1 22 0 i = nI (F1 i)) → (FM M (M 31 10) (hcN M) ((nm (M 31 10) A 8 * M 31 10 + to) * M 31 10 ^ e1) b1 F1) → ((g = 0 ∧ ∀ t, t < to → U.testBit t = true) ∨ (g = 1 ∧ ∃ t, t < to ∧ U.testBit t = false)) → J p l e ({ frames := 16, cells := 0, slots := 0, locals := 240 }) s m ([.ref (gA Λ 20 0), .int (nI 8), .long (zL ((fb_sm (padd M A) 8 : Nat) : Int)), .int (nI U)] : List Value).toArray below meth c 8 D cy base (MQ below (va_Qv (fun u => GS σ u ∧ (∀ i, i < 8 → gI u 21 0 i = nI (A i)) ∧ ∃ b2 F2, b2 ≤ 1000000000000000 ∧ gJ u 20 0 3 = zL ((b2 : Nat) : Int) ∧ (∀ i, i < hcN M → gI u 22 0 i = nI (F2 i)) ∧ FM M (M 31 10) (hcN M) ((nm (M 31 10) A 8 + 1) * M 31 10 ^ e9) b2 F2) (Wd D cy base Λ) (Ab base)) ([.ref (gA Λ 20 0), .int (nI 8), .long (zL ((fb_sm (padd M A) 8 : Nat) : Int)), .int (nI U)] : List Value).toArray s 0 0 (Ab base)) 0 0 Λ 6 [(0, .ref (gA Λ 20 0)), (1, .int (nI 8)), (2, .long (zL ((fb_sm (padd M A) 8 : Nat) : Int))), (4, .int (nI U)), (5, .int (nI g)), (6, .int (nI to))] [] σ1 := by
    intro fu
    induction fu with
    | zero => intro σ1 g to b1 F1 hfu; exact absurd hfu (Nat.not_lt_zero _)
    | succ fu ih =>
      intro σ1 g to b1 F1 hfu hto hG1 hT1 hb1 hL1 hF1 hM1 hg
      have ih6 := ih
      refine j_iload C dX6_tryRooms_6 5 rfl ?_
      refine j_aload_n C dX6_tryRooms_8 rfl 0 rfl ?_
      refine j_getV C hwX6 20 0 0 (CR.n1 (hG1.cr hC) (by decide)) rfl rfl (by decide) rfl 0 (CR.v (hG1.cr hC) 20 0 0 ⟨rfl, by decide⟩ id) hL18 dX6_tryRooms_9 ?_
      refine c_i0 C (r_V C 3 0 [] (c_X4_roomCount l D cy base Λ σ1 M (hG1.cr hC) hB) (cwV 0 hts gX6_tryRooms_X4_roomCount rfl rfl rfl (by decide +kernel) ⟨by decide, by decide⟩) (CR.n1 (hG1.cr hC) (by decide)) rfl rfl rfl rfl (Nat.le_of_ble_eq_true rfl) dX6_tryRooms_12 ⟨by decide, by decide⟩) (fun rv uu hp => ?_)
      rw [hp.1, hp.2]
      refine j_icmp_ge (tgt := 89) C dX6_tryRooms_15 (by decide) (nI_leI (by omega) (by omega)) (fun h15 => ?_) (fun h15 => ?_)
      · exact j_vret C hr hlk (⟨hG1, hT1, b1, F1, hb1, hL1, hF1 (Nat.mul_pos (by omega) (Nat.pow_pos (by omega))), by have q := hM1; rw [show to = M 31 10 by omega, node_end, ← he1] at q; exact q⟩) dX6_tryRooms_89
      · refine j_iload C dX6_tryRooms_18 3 rfl ?_
        refine j_iconst C (nI 1) dX6_tryRooms_20 (by decide) ?_
        refine j_iload C dX6_tryRooms_21 5 rfl ?_
        refine j_ishl C (nI (2 ^ to)) dX6_tryRooms_23 (shl1 (by omega)) ?_
        refine j_iand C (nI U &&& nI (2 ^ to)) dX6_tryRooms_24 rfl ?_
        refine j_if_ne (tgt := 32) C dX6_tryRooms_25 (by decide) (and_bit (by omega)) (fun h25 => ?_) (fun h25 => ?_)
        · refine j_iconst C (nI 0) dX6_tryRooms_32 (by decide) ?_
          refine j_istore C [(7, .int (nI 0)), (0, .ref (gA Λ 20 0)), (1, .int (nI 8)), (2, .long (zL ((fb_sm (padd M A) 8 : Nat) : Int))), (4, .int (nI U)), (5, .int (nI g)), (6, .int (nI to))] dX6_tryRooms_33 (by decide) rfl ?_
          refine j_iload C dX6_tryRooms_35 0 rfl ?_
          refine j_if_eq (tgt := 45) C (P := True) dX6_tryRooms_37 (by decide) (by decide) (fun z => ?_) (fun z => ?_)
          · refine j_aload_n C dX6_tryRooms_45 rfl 1 rfl ?_
            refine j_getV C hwX6 20 0 1 (CR.n1 (hG1.cr hC) (by decide)) rfl rfl (by decide) rfl 0 (CR.v (hG1.cr hC) 20 0 1 ⟨rfl, by decide⟩ id) hL9 dX6_tryRooms_46 ?_
            refine j_iload_n C dX6_tryRooms_49 rfl 2 rfl ?_
            refine j_iload C dX6_tryRooms_50 6 rfl ?_
            refine j_iast C 21 0 8 (CR.n1 (hG1.cr hC) (by decide)) rfl rfl 9 (CR.l1 (hG1.cr hC) (by decide)) (by omega) (by omega) (nI to) rfl dX6_tryRooms_52 ?_
            refine j_aload_n C dX6_tryRooms_53 rfl 1 rfl ?_
            refine j_iload_n C dX6_tryRooms_54 rfl 2 rfl ?_
            refine j_iconst C (nI 1) dX6_tryRooms_55 (by decide) ?_
            refine j_iadd C (nI 9) dX6_tryRooms_56 (by decide) ?_
            refine j_lload_n C dX6_tryRooms_57 rfl 3 rfl ?_
            refine j_aload_n C dX6_tryRooms_58 rfl 1 rfl ?_
            refine j_iload_n C dX6_tryRooms_59 rfl 2 rfl ?_
            refine j_iload C dX6_tryRooms_60 6 rfl ?_
            have hTu : ∀ i, i < 8 → gI (sI σ1 21 0 8 (nI to)) 21 0 i = nI (upA A 8 to i) := fun i hi => by rw [upA_lt hi, gI_sI, if_neg (by omega)]; exact hT1 i hi
            have hvu := vA_up hAv (show to < M 31 10 by omega)
            have hG5 := GS.i (k := 8) (x := nI to) hG1
            refine c_l0 C (r_V C 20 0 [.int (nI 8), .int (nI to)] (c_price l D cy base Λ (sI σ1 21 0 8 (nI to)) M (hG5.cr hC) hB (upA A 8 to) 8 (by omega) (by decide) (fun i hi => Nat.lt_of_lt_of_le (hvu i (by omega)) (by omega)) hTu to upA_d) (cwV 2 hts gX6_tryRooms_X6_priceOfAdding rfl rfl rfl (by decide +kernel) ⟨by decide, by decide⟩) (CR.n1 (hG1.cr hC) (by decide)) rfl rfl rfl rfl (Nat.le_of_ble_eq_true rfl) dX6_tryRooms_62 ⟨by decide, by decide⟩) (fun rv uu hp => ?_)
            rw [hp.1, hp.2]
            refine j_ladd C (zL ((fb_sm (padd M (upA A 8 to)) 9 : Nat) : Int)) dX6_tryRooms_65 ((zL_add _ _).trans (congrArg zL (by rw [sm_up]; omega))) ?_
            refine j_iload C dX6_tryRooms_66 4 rfl ?_
            refine j_iconst C (nI 1) dX6_tryRooms_68 (by decide) ?_
            refine j_iload C dX6_tryRooms_69 6 rfl ?_
            refine j_ishl C (nI (2 ^ to)) dX6_tryRooms_71 (shl1 (by omega)) ?_
            refine j_ior C (nI (U ||| 2 ^ to)) dX6_tryRooms_72 (fa_or _ _) ?_
            have hTv : ∀ i, i < 9 → gI (sI σ1 21 0 8 (nI to)) 21 0 i = nI (upA A 8 to i) := fun i hi => by by_cases e8 : i = 8; rw [e8, upA_d]; exact gI_same _ _ _ _ _; exact hTu i (by omega)
            refine c_v0 C (r_V C 20 0 [.int (nI 9), .long (zL ((fb_sm (padd M (upA A 8 to)) 9 : Nat) : Int)), .int (nI (U ||| 2 ^ to))] (c_tryFrom_9 l D cy base Λ (sI σ1 21 0 8 (nI to)) M (hG5.cr hC) hB hm9 hR1 hR3 e1 (by omega) (upA A 8 to) F1 b1 (U ||| 2 ^ to) hb1 hvu hTv hL1 (by rw [nm_up]; exact hF1) (by rw [nm_up]; exact hM1) (or_lt hU (pow6 (by omega))) (fun t => by rw [bit_or_pow, Bool.or_eq_true, decide_eq_true_eq, bU]; exact bitU_up)) (cwV 3 hts gX6_tryRooms_X6_tryFrom rfl rfl rfl (by decide +kernel) ⟨by decide, by decide⟩) (CR.n1 (hG1.cr hC) (by decide)) rfl rfl rfl rfl (Nat.le_of_ble_eq_true rfl) dX6_tryRooms_73 ⟨by decide, by decide⟩) (fun u3 hp => ?_)
            obtain ⟨hG3, hT3, b3, F3, hb3, hL3, hf3, hM3⟩ := hp
            rw [nm_up] at hM3
            skip
            refine j_iload C dX6_tryRooms_76 5 rfl ?_
            refine j_iload C dX6_tryRooms_78 0 rfl ?_
            refine j_ior C (nI g) dX6_tryRooms_80 (by rcases hg with z | z <;> rw [z.1] <;> decide) ?_
            refine j_istore C [(5, .int (nI g)), (7, .int (nI 0)), (0, .ref (gA Λ 20 0)), (1, .int (nI 8)), (2, .long (zL ((fb_sm (padd M A) 8 : Nat) : Int))), (4, .int (nI U)), (6, .int (nI to))] dX6_tryRooms_81 (by decide) rfl ?_
            refine j_iinc C [(6, .int (nI (to + 1))), (5, .int (nI g)), (7, .int (nI 0)), (0, .ref (gA Λ 20 0)), (1, .int (nI 8)), (2, .long (zL ((fb_sm (padd M A) 8 : Nat) : Int))), (4, .int (nI U))] (nI (to + 1)) dX6_tryRooms_83 6 rfl (nI_add _ 1) (by decide) rfl ?_
            refine j_goto (tgt := 6) C dX6_tryRooms_86 (by decide) ?_
            refine j_lv [3, 4, 5, 6, 1, 0] rfl ?_
            exact ih6 u3 g (to + 1) b3 F3 (by omega) (by omega) (GS.tr hG5 hG3) (fun i hi => by rw [hT3 i (by omega), upA_lt hi]) hb3 hL3 (fun _ => hf3) hM3 (by rcases hg with ⟨z1, z2⟩ | ⟨z1, z2, z3, z4⟩; exact Or.inl ⟨z1, fun t ht => by by_cases e8 : t = to; rw [e8]; simpa using h25; exact z2 t (by omega)⟩; exact Or.inr ⟨z1, z2, by omega, z4⟩)
          · exact absurd trivial z
        · refine j_iconst C (nI 1) dX6_tryRooms_28 (by decide) ?_
          refine j_goto (tgt := 33) C dX6_tryRooms_29 (by decide) ?_
          refine j_istore C [(7, .int (nI 1)), (0, .ref (gA Λ 20 0)), (1, .int (nI 8)), (2, .long (zL ((fb_sm (padd M A) 8 : Nat) : Int))), (4, .int (nI U)), (5, .int (nI g)), (6, .int (nI to))] dX6_tryRooms_33 (by decide) rfl ?_
          refine j_iload C dX6_tryRooms_35 0 rfl ?_
          refine j_if_eq (tgt := 45) C (P := False) dX6_tryRooms_37 (by decide) (by decide) (fun z => ?_) (fun z => ?_)
          · exact z.elim
          · refine j_iload C dX6_tryRooms_40 5 rfl ?_
            refine j_if_ne (tgt := 76) C dX6_tryRooms_42 (by decide) (nJ_ne0 (by rcases hg with z | z <;> omega)) (fun h42 => ?_) (fun h42 => ?_)
            · obtain ⟨xx, hxx, bxx⟩ : ∃ t, t < to ∧ U.testBit t = false := by
                rcases hg with z | z
                · exact absurd z.1 h42
                · exact z.2
              have hKt : 0 < (nm (M 31 10) A 8 * M 31 10 + to) * M 31 10 ^ e1 := Nat.mul_pos (by omega) (Nat.pow_pos (by omega))
              have hbs := FM.small hB hm9 hM1 hKt
              have nx : ∀ t, U.testBit t = false → (∀ k, k < hcN M → M 40 (hs M k) ≠ t + 1) ∧ ∀ i, i < 8 → A i ≠ t := fun t ht => by
                have q : ¬ (fxP M (hcN M) t ∨ ∃ i, i < 8 ∧ A i = t) := fun z => by rw [(bU t).mpr z] at ht; exact absurd ht (by decide)
                exact ⟨fun k hk z => q (Or.inl ⟨k, hk, z⟩), fun i hi z => q (Or.inr ⟨i, hi, z⟩)⟩
              have hsk : FM M (M 31 10) (hcN M) ((nm (M 31 10) A 8 * M 31 10 + (to + 1)) * M 31 10 ^ e1) b1 F1 := by
                have hm0 := hM1
                have hc0 : hcN M = 8 + 1 + e1 := by omega
                have n1 := nx xx bxx
                have n2 := nx to h25
                rw [hc0] at hm0 n1 n2 ⊢
                exact FM.skip hm0 hAv rfl hxx (by omega) n1.2 n2.2 n1.1 n2.1 (by omega)
              refine j_iload C dX6_tryRooms_76 5 rfl ?_
              refine j_iload C dX6_tryRooms_78 0 rfl ?_
              refine j_ior C (nI 1) dX6_tryRooms_80 (by rcases hg with z | z <;> rw [z.1] <;> decide) ?_
              refine j_istore C [(5, .int (nI 1)), (7, .int (nI 1)), (0, .ref (gA Λ 20 0)), (1, .int (nI 8)), (2, .long (zL ((fb_sm (padd M A) 8 : Nat) : Int))), (4, .int (nI U)), (6, .int (nI to))] dX6_tryRooms_81 (by decide) rfl ?_
              refine j_iinc C [(6, .int (nI (to + 1))), (5, .int (nI 1)), (7, .int (nI 1)), (0, .ref (gA Λ 20 0)), (1, .int (nI 8)), (2, .long (zL ((fb_sm (padd M A) 8 : Nat) : Int))), (4, .int (nI U))] (nI (to + 1)) dX6_tryRooms_83 6 rfl (nI_add _ 1) (by decide) rfl ?_
              refine j_goto (tgt := 6) C dX6_tryRooms_86 (by decide) ?_
              refine j_lv [3, 4, 5, 6, 1, 0] rfl ?_
              exact ih6 σ1 1 (to + 1) b1 F1 (by omega) (by omega) hG1 hT1 hb1 hL1 (fun _ => hF1 hKt) hsk (Or.inr ⟨rfl, to, by omega, h25⟩)
            · refine j_aload_n C dX6_tryRooms_45 rfl 1 rfl ?_
              refine j_getV C hwX6 20 0 1 (CR.n1 (hG1.cr hC) (by decide)) rfl rfl (by decide) rfl 0 (CR.v (hG1.cr hC) 20 0 1 ⟨rfl, by decide⟩ id) hL9 dX6_tryRooms_46 ?_
              refine j_iload_n C dX6_tryRooms_49 rfl 2 rfl ?_
              refine j_iload C dX6_tryRooms_50 6 rfl ?_
              refine j_iast C 21 0 8 (CR.n1 (hG1.cr hC) (by decide)) rfl rfl 9 (CR.l1 (hG1.cr hC) (by decide)) (by omega) (by omega) (nI to) rfl dX6_tryRooms_52 ?_
              refine j_aload_n C dX6_tryRooms_53 rfl 1 rfl ?_
              refine j_iload_n C dX6_tryRooms_54 rfl 2 rfl ?_
              refine j_iconst C (nI 1) dX6_tryRooms_55 (by decide) ?_
              refine j_iadd C (nI 9) dX6_tryRooms_56 (by decide) ?_
              refine j_lload_n C dX6_tryRooms_57 rfl 3 rfl ?_
              refine j_aload_n C dX6_tryRooms_58 rfl 1 rfl ?_
              refine j_iload_n C dX6_tryRooms_59 rfl 2 rfl ?_
              refine j_iload C dX6_tryRooms_60 6 rfl ?_
              have hTu : ∀ i, i < 8 → gI (sI σ1 21 0 8 (nI to)) 21 0 i = nI (upA A 8 to i) := fun i hi => by rw [upA_lt hi, gI_sI, if_neg (by omega)]; exact hT1 i hi
              have hvu := vA_up hAv (show to < M 31 10 by omega)
              have hG5 := GS.i (k := 8) (x := nI to) hG1
              refine c_l0 C (r_V C 20 0 [.int (nI 8), .int (nI to)] (c_price l D cy base Λ (sI σ1 21 0 8 (nI to)) M (hG5.cr hC) hB (upA A 8 to) 8 (by omega) (by decide) (fun i hi => Nat.lt_of_lt_of_le (hvu i (by omega)) (by omega)) hTu to upA_d) (cwV 2 hts gX6_tryRooms_X6_priceOfAdding rfl rfl rfl (by decide +kernel) ⟨by decide, by decide⟩) (CR.n1 (hG1.cr hC) (by decide)) rfl rfl rfl rfl (Nat.le_of_ble_eq_true rfl) dX6_tryRooms_62 ⟨by decide, by decide⟩) (fun rv uu hp => ?_)
              rw [hp.1, hp.2]
              refine j_ladd C (zL ((fb_sm (padd M (upA A 8 to)) 9 : Nat) : Int)) dX6_tryRooms_65 ((zL_add _ _).trans (congrArg zL (by rw [sm_up]; omega))) ?_
              refine j_iload C dX6_tryRooms_66 4 rfl ?_
              refine j_iconst C (nI 1) dX6_tryRooms_68 (by decide) ?_
              refine j_iload C dX6_tryRooms_69 6 rfl ?_
              refine j_ishl C (nI (2 ^ to)) dX6_tryRooms_71 (shl1 (by omega)) ?_
              refine j_ior C (nI (U ||| 2 ^ to)) dX6_tryRooms_72 (fa_or _ _) ?_
              have hTv : ∀ i, i < 9 → gI (sI σ1 21 0 8 (nI to)) 21 0 i = nI (upA A 8 to i) := fun i hi => by by_cases e8 : i = 8; rw [e8, upA_d]; exact gI_same _ _ _ _ _; exact hTu i (by omega)
              refine c_v0 C (r_V C 20 0 [.int (nI 9), .long (zL ((fb_sm (padd M (upA A 8 to)) 9 : Nat) : Int)), .int (nI (U ||| 2 ^ to))] (c_tryFrom_9 l D cy base Λ (sI σ1 21 0 8 (nI to)) M (hG5.cr hC) hB hm9 hR1 hR3 e1 (by omega) (upA A 8 to) F1 b1 (U ||| 2 ^ to) hb1 hvu hTv hL1 (by rw [nm_up]; exact hF1) (by rw [nm_up]; exact hM1) (or_lt hU (pow6 (by omega))) (fun t => by rw [bit_or_pow, Bool.or_eq_true, decide_eq_true_eq, bU]; exact bitU_up)) (cwV 3 hts gX6_tryRooms_X6_tryFrom rfl rfl rfl (by decide +kernel) ⟨by decide, by decide⟩) (CR.n1 (hG1.cr hC) (by decide)) rfl rfl rfl rfl (Nat.le_of_ble_eq_true rfl) dX6_tryRooms_73 ⟨by decide, by decide⟩) (fun u3 hp => ?_)
              obtain ⟨hG3, hT3, b3, F3, hb3, hL3, hf3, hM3⟩ := hp
              rw [nm_up] at hM3
              skip
              refine j_iload C dX6_tryRooms_76 5 rfl ?_
              refine j_iload C dX6_tryRooms_78 0 rfl ?_
              refine j_ior C (nI 1) dX6_tryRooms_80 (by rcases hg with z | z <;> rw [z.1] <;> decide) ?_
              refine j_istore C [(5, .int (nI 1)), (7, .int (nI 1)), (0, .ref (gA Λ 20 0)), (1, .int (nI 8)), (2, .long (zL ((fb_sm (padd M A) 8 : Nat) : Int))), (4, .int (nI U)), (6, .int (nI to))] dX6_tryRooms_81 (by decide) rfl ?_
              refine j_iinc C [(6, .int (nI (to + 1))), (5, .int (nI 1)), (7, .int (nI 1)), (0, .ref (gA Λ 20 0)), (1, .int (nI 8)), (2, .long (zL ((fb_sm (padd M A) 8 : Nat) : Int))), (4, .int (nI U))] (nI (to + 1)) dX6_tryRooms_83 6 rfl (nI_add _ 1) (by decide) rfl ?_
              refine j_goto (tgt := 6) C dX6_tryRooms_86 (by decide) ?_
              refine j_lv [3, 4, 5, 6, 1, 0] rfl ?_
              exact ih6 u3 1 (to + 1) b3 F3 (by omega) (by omega) (GS.tr hG5 hG3) (fun i hi => by rw [hT3 i (by omega), upA_lt hi]) hb3 hL3 (fun _ => hf3) hM3 (Or.inr ⟨rfl, to, by omega, h25⟩)
  refine j_lv [2, 3, 4, 5, 1, 0] rfl ?_
  exact lb6 _ σ 0 0 b F (Nat.lt_succ_self _) (by omega) GS.rf hTr hbb hL (by rw [he1, node_beg] at hFo; exact hFo) (by rw [he1, node_beg] at hFM; exact hFM) (Or.inl ⟨rfl, fun t ht => absurd ht (Nat.not_lt_zero _)⟩)
