/-! ===== the past ===== -/
def ouB (M : MM) (p : Nat → Bool) (k : Nat) : Bool := anyB (fun r => p r && !(decide (M 37 r = 0) && decide (M 38 r = k))) (M 31 5)
def onB (M : MM) (p : Nat → Bool) (k : Nat) : Bool := anyB p (M 31 5) && !ouB M p k
theorem any_out {M : MM} {p : Nat → Bool} (hn : M 31 5 ≤ 40) : lN (bitS p (M 31 5)) = lN 0 ↔ anyB p (M 31 5) = false := by rw [bs_zero hn, ← anyB_f]
theorem ou_out {M : MM} {p : Nat → Bool} {k : Nat} (hn : M 31 5 ≤ 40) : lN (bitS p (M 31 5)) &&& (lN (memS M k) ^^^ zL (-1)) = lN 0 ↔ ouB M p k = false := by
  rw [bs_andn (q := fun j => decide (M 37 j = 0) && decide (M 38 j = k)) (r := fun r => p r && !(decide (M 37 r = 0) && decide (M 38 r = k))) hn (fun j hj => by unfold memS; rw [bitS_bit]; simp [hj]) (fun _ _ => rfl), bs_zero hn, ← anyB_f]
  rfl
def chP (M : MM) (k r : Nat) : Bool := memB M k r && (decide (M 37 r = 0) && true)
theorem ch_and {M : MM} (hB : MBd M) {k : Nat} (hk : k < 60) : lN (M 45 k + 2 ^ 20 * M 46 k) &&& lN (hbS M) = lN (bitS (chP M k) (M 31 5)) := by
  have h1 : M 45 k ≤ 1048575 := hB 45 k (decide_eq_true (show k < 60 from hk))
  rw [fb_andL]
  refine lN_ext (fun j => ?_)
  unfold hbS
  rw [Nat.testBit_and, bitS_bit, bitS_bit, Nat.add_comm, Nat.testBit_two_pow_mul_add _ (by omega)]
  unfold chP memB
  by_cases e : j < 20 <;> by_cases e2 : j < M 31 5 <;> simp [e, e2]
theorem alb_bit {M : MM} {k x : Nat} : ∀ {n : Nat}, (alb M k n).testBit x = true ↔ ∃ r, r < n ∧ memB M k r = true ∧ M 37 r = 0 ∧ M 38 r = x
  | 0 => by
    show Nat.testBit 0 x = true ↔ _
    simp
  | n + 1 => by
    show (alb M k n ||| _).testBit x = true ↔ _
    rw [Nat.testBit_or, Bool.or_eq_true, alb_bit]
    by_cases h : memB M k n = true ∧ M 37 n = 0
    · rw [if_pos h, Nat.testBit_two_pow, decide_eq_true_eq]
      constructor
      · rintro (⟨r, h1, h2⟩ | e)
        · exact ⟨r, by omega, h2⟩
        · exact ⟨n, by omega, h.1, h.2, e⟩
      · rintro ⟨r, h1, h2⟩
        by_cases e : r = n
        · subst e; exact Or.inr h2.2.2
        · exact Or.inl ⟨r, by omega, h2⟩
    · rw [if_neg h, Nat.zero_testBit]
      constructor
      · rintro (⟨r, h1, h2⟩ | e)
        · exact ⟨r, by omega, h2⟩
        · cases e
      · rintro ⟨r, h1, h2⟩
        by_cases e : r = n
        · subst e; exact absurd ⟨h2.1, h2.2.1⟩ h
        · exact Or.inl ⟨r, by omega, h2⟩
theorem one_bit : ∀ x, x < 64 → ((x ≠ 0 ∧ x &&& (x - 1) = 0) ↔ ∃ y, y < 6 ∧ x = 2 ^ y) := by decide +kernel
theorem al_on {M : MM} (hB : MBd M) {k : Nat} : anyB (onB M (chP M k)) 6 = alnB M k := by
  have hn : M 31 5 ≤ 40 := hB 31 5 rfl
  have hl := alb_lt hB (k := k) hn
  rw [Bool.eq_iff_iff]
  unfold alnB
  rw [decide_eq_true_eq, one_bit _ hl, anyB_t]
  constructor
  · rintro ⟨y, hy, h⟩
    refine ⟨y, hy, ?_⟩
    unfold onB at h
    rw [Bool.and_eq_true, anyB_t, Bool.not_eq_true'] at h
    obtain ⟨⟨r0, h1, h2⟩, h3⟩ := h
    unfold ouB at h3
    rw [anyB_f] at h3
    have key : ∀ r, r < M 31 5 → memB M k r = true → M 37 r = 0 → M 38 r = y := by
      intro r hr hm h37
      have := h3 r hr
      unfold chP at this
      simp [hm, h37] at this
      exact this
    unfold chP at h2
    simp only [Bool.and_eq_true, decide_eq_true_eq] at h2
    apply Nat.eq_of_testBit_eq
    intro j
    rw [Bool.eq_iff_iff, alb_bit, Nat.testBit_two_pow, decide_eq_true_eq]
    constructor
    · rintro ⟨r, g1, g2, g3, g4⟩
      exact (key r g1 g2 g3).symm.trans g4
    · intro e
      exact ⟨r0, h1, h2.1, h2.2.1, (key r0 h1 h2.1 h2.2.1).trans e⟩
  · rintro ⟨y, hy, h⟩
    refine ⟨y, hy, ?_⟩
    have hb : ∀ j, (∃ r, r < M 31 5 ∧ memB M k r = true ∧ M 37 r = 0 ∧ M 38 r = j) ↔ y = j := by
      intro j
      rw [← alb_bit, h, Nat.testBit_two_pow, decide_eq_true_eq]
    obtain ⟨r0, h1, h2, h3, -⟩ := (hb y).mpr rfl
    unfold onB
    rw [Bool.and_eq_true, anyB_t, Bool.not_eq_true']
    refine ⟨⟨r0, h1, by unfold chP; simp [h2, h3]⟩, ?_⟩
    unfold ouB
    rw [anyB_f]
    intro r hr
    unfold chP
    by_cases e1 : memB M k r = true
    · by_cases e2 : M 37 r = 0
      · have := (hb (M 38 r)).mp ⟨r, hr, e1, e2, rfl⟩
        simp [e1, e2, this]
      · simp [e2]
    · simp [e1]
theorem anyB_succ {p : Nat → Bool} {n : Nat} (h : anyB p n = false) (h2 : p n = false) : anyB p (n + 1) = false := by
  rw [anyB_f] at h ⊢
  intro k hk
  by_cases e : k = n
  · subst e; exact h2
  · exact h k (by omega)
set_option maxHeartbeats 4000000 in
set_option maxRecDepth 100000 in
theorem c_X3_isInOneRoom (l : Launch) (D : va_G) (cy : Nat → ClassId) (base : Nat) (Λ : LY) (σ : HS) (M : MM) (hC : CR noEx Λ σ M) (hB : MBd M) (pb : Nat → Bool) (hm : ∀ room, room < 6 → gJ σ 7 0 room = lN (memS M room)) : Met l yX3_isInOneRoom wsX3_isInOneRoom ({ frames := 4, cells := 0, slots := 0, locals := 60 }) (va_Pc [.long (lN (bitS pb (M 31 5))), .ref (gA Λ 3 0)] (Wd D cy base Λ σ)) (va_Qi (fun v u => v = bI (anyB (onB M pb) 6) ∧ u = σ) (Wd D cy base Λ) (Ab base)) 0 0 (Ab base) := by
  refine j_start (cc := cX3_isInOneRoom) (nL := 4) (ret := (some .boolean)) (lv := [(0, .long (lN (bitS pb (M 31 5)))), (2, .ref (gA Λ 3 0))]) (by decide) rfl (Nat.le_of_ble_eq_true rfl) rfl ?_
  intro p e s m below meth c C hr hlk hnm
  have C : Cx p s m ([.long (lN (bitS pb (M 31 5))), .ref (gA Λ 3 0)] : List Value).toArray c cX3_isInOneRoom 4 RX3 wsX3_isInOneRoom D cy base := C
  have hts := C.2.2.2.2.1
  have hwX4 : ∀ w ∈ u_ws RX4 TX4 6, w ∈ wsX3_isInOneRoom := by decide +kernel
  have hL29 : FL RX3 29 (TX4 3).1 (TX4 3).2.1 (TX4 3).2.2.1 ([.long (lN (bitS pb (M 31 5))), .ref (gA Λ 3 0)] : List Value).toArray s := Or.inr ⟨_, Ex.nestF C.2.2.2.2.2.2 nf_X3_29⟩
  have hC32 : (Jvm.Cond.constantLong RX3 32 (-1)).before ([.long (lN (bitS pb (M 31 5))), .ref (gA Λ 3 0)] : List Value).toArray s = true := hts _ (by decide +kernel)
  have hn : M 31 5 ≤ 40 := hB 31 5 rfl
  refine j_iconst C (nI 0) dX3_isInOneRoom_0 (by decide) ?_
  refine j_istore_n C [(3, .int (nI 0)), (0, .long (lN (bitS pb (M 31 5)))), (2, .ref (gA Λ 3 0))] dX3_isInOneRoom_1 rfl (by decide) rfl ?_
  have lb2 : ∀ (fu : Nat) (k : Nat), (6 - k) < fu → (k ≤ 6) → (anyB (onB M pb) k = false) → J p l e ({ frames := 4, cells := 0, slots := 0, locals := 60 }) s m ([.long (lN (bitS pb (M 31 5))), .ref (gA Λ 3 0)] : List Value).toArray below meth c 4 D cy base (MQ below (va_Qi (fun v u => v = bI (anyB (onB M pb) 6) ∧ u = σ) (Wd D cy base Λ) (Ab base)) ([.long (lN (bitS pb (M 31 5))), .ref (gA Λ 3 0)] : List Value).toArray s 0 0 (Ab base)) 0 0 Λ 2 [(0, .long (lN (bitS pb (M 31 5)))), (2, .ref (gA Λ 3 0)), (3, .int (nI k))] [] σ := by
    intro fu
    induction fu with
    | zero => intro k hfu; exact absurd hfu (Nat.not_lt_zero _)
    | succ fu ih =>
      intro k hfu hk hno
      have ih2 := ih
      refine j_iload_n C dX3_isInOneRoom_2 rfl 2 rfl ?_
      refine j_bipush C (nI 6) dX3_isInOneRoom_3 (by decide) ?_
      refine j_icmp_ge (tgt := 39) C dX3_isInOneRoom_5 (by decide) (nI_leI (by omega) (by omega)) (fun h5 => ?_) (fun h5 => ?_)
      · refine j_iconst C (nI 0) dX3_isInOneRoom_39 (by decide) ?_
        exact j_zret C (by first | rfl | exact nz_b _ | exact nz_n (by omega)) hr hlk (⟨rt0 (by rw [show (6 : Nat) = k by omega]; exact hno), rfl⟩) dX3_isInOneRoom_40
      · refine j_lload_n C dX3_isInOneRoom_8 rfl 0 rfl ?_
        refine j_lconst C (lN 0) dX3_isInOneRoom_9 (by decide) ?_
        refine j_lcmp_eq (tgt := 33) C dX3_isInOneRoom_10 dX3_isInOneRoom_11 (by decide) (any_out hn) (fun h10 => ?_) (fun h10 => ?_)
        · refine j_iinc C [(3, .int (nI (k + 1))), (0, .long (lN (bitS pb (M 31 5)))), (2, .ref (gA Λ 3 0))] (nI (k + 1)) dX3_isInOneRoom_33 2 rfl (nI_add _ 1) (by decide) rfl ?_
          refine j_goto (tgt := 2) C dX3_isInOneRoom_36 (by decide) ?_
          refine j_lv [1, 2, 0] rfl ?_
          exact ih2 (k + 1) (by omega) (by omega) (anyB_succ hno (by unfold onB; rw [h10]; rfl))
        · refine j_lload_n C dX3_isInOneRoom_14 rfl 0 rfl ?_
          refine j_aload_n C dX3_isInOneRoom_15 rfl 1 rfl ?_
          refine j_getV C hwX4 3 0 3 (CR.n1 hC (by decide)) rfl rfl (by decide) rfl 0 (CR.v hC 3 0 3 ⟨rfl, by decide⟩ id) hL29 dX3_isInOneRoom_16 ?_
          refine j_iload_n C dX3_isInOneRoom_19 rfl 2 rfl ?_
          refine j_lald C 7 0 k (CR.n1 hC (by decide)) rfl rfl 6 (CR.l1 hC (by decide)) (by omega) (by omega) (lN (memS M k)) (hm _ (by omega)) dX3_isInOneRoom_20 ?_
          refine j_ldc2 C (zL (-1)) hC32 dX3_isInOneRoom_21 (by decide) ?_
          refine j_lxor C ((lN (memS M k)) ^^^ (zL (-1))) dX3_isInOneRoom_24 rfl ?_
          refine j_land C ((lN (bitS pb (M 31 5))) &&& ((lN (memS M k)) ^^^ (zL (-1)))) dX3_isInOneRoom_25 rfl ?_
          refine j_lconst C (lN 0) dX3_isInOneRoom_26 (by decide) ?_
          refine j_lcmp_ne (tgt := 33) C dX3_isInOneRoom_27 dX3_isInOneRoom_28 (by decide) (ou_out hn) (fun h27 => ?_) (fun h27 => ?_)
          · refine j_iinc C [(3, .int (nI (k + 1))), (0, .long (lN (bitS pb (M 31 5)))), (2, .ref (gA Λ 3 0))] (nI (k + 1)) dX3_isInOneRoom_33 2 rfl (nI_add _ 1) (by decide) rfl ?_
            refine j_goto (tgt := 2) C dX3_isInOneRoom_36 (by decide) ?_
            refine j_lv [1, 2, 0] rfl ?_
            exact ih2 (k + 1) (by omega) (by omega) (anyB_succ hno (by unfold onB; rw [show ouB M pb k = true by simpa using h27]; simp))
          · refine j_iconst C (nI 1) dX3_isInOneRoom_31 (by decide) ?_
            exact j_zret C (by first | rfl | exact nz_b _ | exact nz_n (by omega)) hr hlk (⟨rt1 (anyB_t.mpr ⟨k, by omega, by unfold onB; rw [h27, show anyB pb (M 31 5) = true by simpa using h10]; rfl⟩), rfl⟩) dX3_isInOneRoom_32
  refine j_lv [1, 2, 0] rfl ?_
  exact lb2 _ 0 (Nat.lt_succ_self _) (by omega) rfl

set_option maxHeartbeats 4000000 in
set_option maxRecDepth 100000 in
theorem c_X3_countAlone (l : Launch) (D : va_G) (cy : Nat → ClassId) (base : Nat) (Λ : LY) (σ : HS) (M : MM) (hC : CR noEx Λ σ M) (hB : MBd M) (hm : ∀ room, room < 6 → gJ σ 7 0 room = lN (memS M room)) : Met l yX3_countAlone wsX3_countAlone ({ frames := 8, cells := 0, slots := 0, locals := 120 }) (va_Pc [.ref (gA Λ 25 0), .ref (gA Λ 3 0)] (Wd D cy base Λ σ)) (va_Qi (fun v u => v = nI (fb_ct (alnB M) (M 31 22)) ∧ u = σ) (Wd D cy base Λ) (Ab base)) 0 0 (Ab base) := by
  refine j_start (cc := cX3_countAlone) (nL := 6) (ret := (some .int)) (lv := [(0, .ref (gA Λ 25 0)), (1, .ref (gA Λ 3 0))]) (by decide) rfl (Nat.le_of_ble_eq_true rfl) rfl ?_
  intro p e s m below meth c C hr hlk hnm
  have C : Cx p s m ([.ref (gA Λ 25 0), .ref (gA Λ 3 0)] : List Value).toArray c cX3_countAlone 6 RX3 wsX3_countAlone D cy base := C
  have hts := C.2.2.2.2.1
  have hwX3 : ∀ w ∈ u_ws RX3 TX3 2, w ∈ wsX3_countAlone := by decide +kernel
  have hM9 : (Cond.fieldLink RX3 9 (TX3 0).1 (TX3 0).2.1 (TX3 0).2.2.1).before ([.ref (gA Λ 25 0), .ref (gA Λ 3 0)] : List Value).toArray s = true := hts (.fieldLink RX3 9 "CodeRooms$Past" "changes" "[J") (by decide +kernel)
  have hL9 : FL RX3 9 (TX3 0).1 (TX3 0).2.1 (TX3 0).2.2.1 ([.ref (gA Λ 25 0), .ref (gA Λ 3 0)] : List Value).toArray s := Or.inl hM9
  have hM15 : (Cond.fieldLink RX3 15 (TX3 1).1 (TX3 1).2.1 (TX3 1).2.2.1).before ([.ref (gA Λ 25 0), .ref (gA Λ 3 0)] : List Value).toArray s = true := hts (.fieldLink RX3 15 "CodeRooms$Past" "size" "I") (by decide +kernel)
  have hL15 : FL RX3 15 (TX3 1).1 (TX3 1).2.1 (TX3 1).2.2.1 ([.ref (gA Λ 25 0), .ref (gA Λ 3 0)] : List Value).toArray s := Or.inl hM15
  have hn : M 31 5 ≤ 40 := hB 31 5 rfl
  have h22 : M 31 22 ≤ 60 := hB 31 22 rfl
  refine j_aload_n C dX3_countAlone_0 rfl 1 rfl ?_
  refine c_l0 C (r_V C 3 0 [] (c_X4_housedBits l D cy base Λ σ M hC hB) (cwV 0 hts gX3_countAlone_X4_housedBits rfl rfl rfl (by decide +kernel) ⟨by decide, by decide⟩) (CR.n1 hC (by decide)) rfl rfl rfl rfl (Nat.le_of_ble_eq_true rfl) dX3_countAlone_1 ⟨by decide, by decide⟩) (fun rv uu hp => ?_)
  rw [hp.1, hp.2]
  refine j_lstore_n C [(2, .long (lN (hbS M))), (0, .ref (gA Λ 25 0)), (1, .ref (gA Λ 3 0))] dX3_countAlone_4 rfl (by decide) rfl ?_
  refine j_iconst C (nI 0) dX3_countAlone_5 (by decide) ?_
  refine j_istore C [(4, .int (nI 0)), (2, .long (lN (hbS M))), (0, .ref (gA Λ 25 0)), (1, .ref (gA Λ 3 0))] dX3_countAlone_6 (by decide) rfl ?_
  refine j_iconst C (nI 0) dX3_countAlone_8 (by decide) ?_
  refine j_istore C [(5, .int (nI 0)), (4, .int (nI 0)), (2, .long (lN (hbS M))), (0, .ref (gA Λ 25 0)), (1, .ref (gA Λ 3 0))] dX3_countAlone_9 (by decide) rfl ?_
  have lb11 : ∀ (fu : Nat) (a k : Nat), (M 31 22 - k) < fu → (k ≤ M 31 22) → (a = fb_ct (alnB M) k) → J p l e ({ frames := 8, cells := 0, slots := 0, locals := 120 }) s m ([.ref (gA Λ 25 0), .ref (gA Λ 3 0)] : List Value).toArray below meth c 6 D cy base (MQ below (va_Qi (fun v u => v = nI (fb_ct (alnB M) (M 31 22)) ∧ u = σ) (Wd D cy base Λ) (Ab base)) ([.ref (gA Λ 25 0), .ref (gA Λ 3 0)] : List Value).toArray s 0 0 (Ab base)) 0 0 Λ 11 [(0, .ref (gA Λ 25 0)), (1, .ref (gA Λ 3 0)), (2, .long (lN (hbS M))), (4, .int (nI a)), (5, .int (nI k))] [] σ := by
    intro fu
    induction fu with
    | zero => intro a k hfu; exact absurd hfu (Nat.not_lt_zero _)
    | succ fu ih =>
      intro a k hfu hk ha
      have ih11 := ih
      refine j_iload C dX3_countAlone_11 4 rfl ?_
      refine j_aload_n C dX3_countAlone_13 rfl 0 rfl ?_
      have hb14 : M 31 22 ≤ 60 := hB 31 22 rfl
      refine j_getI C hwX3 25 0 1 (CR.n1 hC (by decide)) rfl rfl (by decide) rfl (nI (M 31 22)) (CR.i hC 25 0 1 ⟨rfl, rfl⟩ id) hL15 dX3_countAlone_14 ?_
      refine j_icmp_ge (tgt := 45) C dX3_countAlone_17 (by decide) (nI_leI (by omega) (by omega)) (fun h17 => ?_) (fun h17 => ?_)
      · refine j_iload C dX3_countAlone_45 3 rfl ?_
        exact j_iret C hr hlk (⟨by rw [ha, show k = M 31 22 by omega], rfl⟩) dX3_countAlone_47
      · refine j_aload_n C dX3_countAlone_20 rfl 0 rfl ?_
        refine j_getV C hwX3 25 0 0 (CR.n1 hC (by decide)) rfl rfl (by decide) rfl 0 (CR.v hC 25 0 0 ⟨rfl, rfl⟩ id) hL9 dX3_countAlone_21 ?_
        refine j_iload C dX3_countAlone_24 4 rfl ?_
        refine j_lald C 26 0 k (CR.n1 hC (by decide)) rfl rfl 60 (CR.l1 hC (by decide)) (by omega) (by omega) (lN (M 45 k + 2 ^ 20 * M 46 k)) (CR.j hC 26 0 k ⟨rfl, by omega⟩ id) dX3_countAlone_26 ?_
        refine j_lload_n C dX3_countAlone_27 rfl 2 rfl ?_
        refine j_land C (lN (bitS (chP M k) (M 31 5))) dX3_countAlone_28 (ch_and hB (by omega)) ?_
        refine j_aload_n C dX3_countAlone_29 rfl 1 rfl ?_
        refine c_i0 C (r_S C [.long (lN (bitS (chP M k) (M 31 5))), .ref (gA Λ 3 0)] (c_X3_isInOneRoom l D cy base Λ σ M hC hB (chP M k) hm) (va_cwS 2 hts gX3_countAlone_X3_isInOneRoom rfl rfl rfl (by decide +kernel) ⟨by decide, by decide⟩) rfl rfl (Nat.le_of_ble_eq_true rfl) dX3_countAlone_30 ⟨by decide, by decide⟩) (fun rv uu hp => ?_)
        rw [hp.1, hp.2, al_on hB]
        refine j_ifeq_b (tgt := 39) C dX3_countAlone_33 (by decide) (fun h33 => ?_) (fun h33 => ?_)
        · refine j_iinc C [(5, .int (nI (k + 1))), (0, .ref (gA Λ 25 0)), (1, .ref (gA Λ 3 0)), (2, .long (lN (hbS M))), (4, .int (nI a))] (nI (k + 1)) dX3_countAlone_39 4 rfl (nI_add _ 1) (by decide) rfl ?_
          refine j_goto (tgt := 11) C dX3_countAlone_42 (by decide) ?_
          refine j_lv [1, 2, 3, 4, 0] rfl ?_
          exact ih11 a (k + 1) (by omega) (by omega) (by rw [fb_ct_succ, ha, h33]; rfl)
        · refine j_iinc C [(4, .int (nI (a + 1))), (0, .ref (gA Λ 25 0)), (1, .ref (gA Λ 3 0)), (2, .long (lN (hbS M))), (5, .int (nI k))] (nI (a + 1)) dX3_countAlone_36 3 rfl (nI_add _ 1) (by decide) rfl ?_
          refine j_iinc C [(5, .int (nI (k + 1))), (4, .int (nI (a + 1))), (0, .ref (gA Λ 25 0)), (1, .ref (gA Λ 3 0)), (2, .long (lN (hbS M)))] (nI (k + 1)) dX3_countAlone_39 4 rfl (nI_add _ 1) (by decide) rfl ?_
          refine j_goto (tgt := 11) C dX3_countAlone_42 (by decide) ?_
          refine j_lv [2, 3, 4, 1, 0] rfl ?_
          exact ih11 (a + 1) (k + 1) (by omega) (by omega) (by rw [fb_ct_succ, ha, h33]; rfl)
  refine j_lv [3, 4, 2, 1, 0] rfl ?_
  exact lb11 _ 0 0 (Nat.lt_succ_self _) (by omega) rfl

theorem CR.chg {ex : Nat → Nat → Nat → Prop} {Λ : LY} {σ : HS} {M : MM} (h : CR ex Λ σ M) {lo hi : Nat} {v : Int64} {z : Int32} (hv : v = lN (lo + 2 ^ 20 * hi)) (hz : z = nI (M 31 22 + 1)) : CR ex Λ (sI (sJ σ 26 0 (M 31 22) v) 25 0 1 z) (mS (mS (mS M 45 (M 31 22) lo) 46 (M 31 22) hi) 31 22 (M 31 22 + 1)) := by
  refine ⟨h.1, h.2.1, fun t i k ho he => ?_, fun t i k ho he => ?_, fun t i k ho he => ?_⟩
  · rcases okI_dom ho with rfl | rfl | rfl | rfl | rfl | rfl | rfl | rfl | rfl | rfl | rfl
    · exact CR.i h 1 i k ho he
    · exact CR.i h 2 i k ho he
    · exact CR.i h 3 i k ho he
    · have hk : k < 6 := ho.2
      have e1 : (mS (mS (mS M 45 (M 31 22) lo) 46 (M 31 22) hi) 31 22 (M 31 22 + 1)) 36 k = M 36 k := rfl
      have e2 : (mS (mS (mS M 45 (M 31 22) lo) 46 (M 31 22) hi) 31 22 (M 31 22 + 1)) 31 (k + 5) = M 31 (k + 5) := (mS_ne (Or.inr (by omega))).trans rfl
      refine Eq.trans (CR.i h 6 i k ho he) ?_
      show nI (stg M k) = nI (stg (mS (mS (mS M 45 (M 31 22) lo) 46 (M 31 22) hi) 31 22 (M 31 22 + 1)) k)
      unfold stg
      rw [e1, e2]
    · exact CR.i h 8 i k ho he
    · exact CR.i h 10 i k ho he
    · exact CR.i h 11 i k ho he
    · exact CR.i h 12 i k ho he
    · obtain ⟨rfl, rfl⟩ := ho
      rw [gI_same, hz]
      show _ = nI ((mS (mS (mS M 45 (M 31 22) lo) 46 (M 31 22) hi) 31 22 (M 31 22 + 1)) 31 22)
      rw [mS_same]
    · exact CR.i h 27 i k ho he
    · exact CR.i h 28 i k ho he
  · rcases okJ_dom ho with rfl | rfl
    · exact CR.j h 8 i k ho he
    · obtain ⟨rfl, hk⟩ := ho
      have hk2 : k < M 31 22 + 1 := by have q := hk; rw [mS_same] at q; exact q
      rw [gJ_sI, gJ_sJ]
      show _ = lN ((mS (mS (mS M 45 (M 31 22) lo) 46 (M 31 22) hi) 31 22 (M 31 22 + 1)) 45 k + 2 ^ 20 * (mS (mS (mS M 45 (M 31 22) lo) 46 (M 31 22) hi) 31 22 (M 31 22 + 1)) 46 k)
      rw [mS_ne (Or.inl (by decide)), mS_ne (Or.inl (by decide)), mS_ne (t := 31) (Or.inl (by decide))]
      by_cases e : k = M 31 22
      · rw [if_pos ⟨rfl, rfl, e⟩, hv, e, mS_same, mS_same]
      · rw [if_neg (fun z => e z.2.2), mS_ne (Or.inr e), mS_ne (Or.inr e)]
        exact CR.j h 26 0 k ⟨rfl, by omega⟩ he
  · rcases okV_dom ho with rfl | rfl | rfl | rfl | rfl | rfl | rfl | rfl | rfl | rfl | rfl | rfl | rfl
    · exact CR.v h 0 i k ho he
    · exact CR.v h 3 i k ho he
    · exact CR.v h 4 i k ho he
    · have e1 := hcN_congr (M := M) (M2 := mS (mS (mS M 45 (M 31 22) lo) 46 (M 31 22) hi) 31 22 (M 31 22 + 1)) ((mS_nk (by decide)).trans ((mS_nk (by decide)).trans (mS_nk (by decide)))) ((mS_ne (Or.inr (by decide))).trans ((mS_ne (Or.inl (by decide))).trans (mS_ne (Or.inl (by decide)))))
      have e2 : hs _ k = hs M k := hs_congr (M := M) (M2 := mS (mS (mS M 45 (M 31 22) lo) 46 (M 31 22) hi) 31 22 (M 31 22 + 1)) ((mS_nk (by decide)).trans ((mS_nk (by decide)).trans (mS_nk (by decide)))) ((mS_ne (Or.inr (by decide))).trans ((mS_ne (Or.inl (by decide))).trans (mS_ne (Or.inl (by decide)))))
      refine (CR.v h 5 i k ⟨ho.1, by rw [← e1]; exact ho.2⟩ he).trans ?_
      show some (hs M k) = some (hs _ k)
      rw [e2]
    · exact CR.v h 8 i k ho he
    · exact CR.v h 9 i k ho he
    · exact CR.v h 14 i k ho he
    · exact CR.v h 18 i k ho he
    · exact CR.v h 20 i k ho he
    · exact CR.v h 23 i k ho he
    · exact CR.v h 25 i k ho he
    · exact CR.v h 27 i k ho he
    · exact CR.v h 29 i k ho he
abbrev nPa : Nat → Prop := fun t => t ≠ 25 ∧ t ≠ 26
set_option maxHeartbeats 4000000 in
set_option maxRecDepth 100000 in
theorem c_padd_no (l : Launch) (D : va_G) (cy : Nat → ClassId) (base : Nat) (Λ : LY) (σ : HS) (M : MM) (hC : CR noEx Λ σ M) (hB : MBd M) (x : Int64) (hc : M 31 22 = 60) : Met l yX3_add wsX3_add ({ frames := 4, cells := 0, slots := 0, locals := 60 }) (va_Pc [.ref (gA Λ 25 0), .long (x)] (Wd D cy base Λ σ)) (va_Qi (fun v u => v = -1 ∧ u = σ) (Wd D cy base Λ) (Ab base)) 0 0 (Ab base) := by
  refine j_start (cc := cX3_add) (nL := 3) (ret := (some .int)) (lv := [(0, .ref (gA Λ 25 0)), (1, .long (x))]) (by decide) rfl (Nat.le_of_ble_eq_true rfl) rfl ?_
  intro p e s m below meth c C hr hlk hnm
  have C : Cx p s m ([.ref (gA Λ 25 0), .long (x)] : List Value).toArray c cX3_add 3 RX3 wsX3_add D cy base := C
  have hts := C.2.2.2.2.1
  have hwX3 : ∀ w ∈ u_ws RX3 TX3 2, w ∈ wsX3_add := by decide +kernel
  have hM15 : (Cond.fieldLink RX3 15 (TX3 1).1 (TX3 1).2.1 (TX3 1).2.2.1).before ([.ref (gA Λ 25 0), .long (x)] : List Value).toArray s = true := hts (.fieldLink RX3 15 "CodeRooms$Past" "size" "I") (by decide +kernel)
  have hL15 : FL RX3 15 (TX3 1).1 (TX3 1).2.1 (TX3 1).2.2.1 ([.ref (gA Λ 25 0), .long (x)] : List Value).toArray s := Or.inl hM15
  refine j_aload_n C dX3_add_0 rfl 0 rfl ?_
  have hb1 : M 31 22 ≤ 60 := hB 31 22 rfl
  refine j_getI C hwX3 25 0 1 (CR.n1 hC (by decide)) rfl rfl (by decide) rfl (nI (M 31 22)) (CR.i hC 25 0 1 ⟨rfl, rfl⟩ id) hL15 dX3_add_1 ?_
  refine j_bipush C (nI 60) dX3_add_4 (by decide) ?_
  refine j_icmp_lt (tgt := 11) C dX3_add_6 (by decide) (nI_ltI (by omega) (by omega)) (fun h6 => ?_) (fun h6 => ?_)
  · omega
  · refine j_iconst C ((-1)) dX3_add_9 (by decide) ?_
    exact j_iret C hr hlk (⟨rfl, rfl⟩) dX3_add_10

set_option maxHeartbeats 4000000 in
set_option maxRecDepth 100000 in
theorem c_padd_ok (l : Launch) (D : va_G) (cy : Nat → ClassId) (base : Nat) (Λ : LY) (σ : HS) (M : MM) (hC : CR noEx Λ σ M) (hB : MBd M) (lo hi : Nat) (hc : M 31 22 < 60) : Met l yX3_add wsX3_add ({ frames := 4, cells := 0, slots := 0, locals := 60 }) (va_Pc [.ref (gA Λ 25 0), .long (lN (lo + 2 ^ 20 * hi))] (Wd D cy base Λ σ)) (va_Qi (fun v u => v = nI (M 31 22 + 1) ∧ CR noEx Λ u (mS (mS (mS M 45 (M 31 22) lo) 46 (M 31 22) hi) 31 22 (M 31 22 + 1)) ∧ Same nPa σ u) (Wd D cy base Λ) (Ab base)) 0 0 (Ab base) := by
  refine j_start (cc := cX3_add) (nL := 3) (ret := (some .int)) (lv := [(0, .ref (gA Λ 25 0)), (1, .long (lN (lo + 2 ^ 20 * hi)))]) (by decide) rfl (Nat.le_of_ble_eq_true rfl) rfl ?_
  intro p e s m below meth c C hr hlk hnm
  have C : Cx p s m ([.ref (gA Λ 25 0), .long (lN (lo + 2 ^ 20 * hi))] : List Value).toArray c cX3_add 3 RX3 wsX3_add D cy base := C
  have hts := C.2.2.2.2.1
  have hwX3 : ∀ w ∈ u_ws RX3 TX3 2, w ∈ wsX3_add := by decide +kernel
  have hM9 : (Cond.fieldLink RX3 9 (TX3 0).1 (TX3 0).2.1 (TX3 0).2.2.1).before ([.ref (gA Λ 25 0), .long (lN (lo + 2 ^ 20 * hi))] : List Value).toArray s = true := hts (.fieldLink RX3 9 "CodeRooms$Past" "changes" "[J") (by decide +kernel)
  have hL9 : FL RX3 9 (TX3 0).1 (TX3 0).2.1 (TX3 0).2.2.1 ([.ref (gA Λ 25 0), .long (lN (lo + 2 ^ 20 * hi))] : List Value).toArray s := Or.inl hM9
  have hM15 : (Cond.fieldLink RX3 15 (TX3 1).1 (TX3 1).2.1 (TX3 1).2.2.1).before ([.ref (gA Λ 25 0), .long (lN (lo + 2 ^ 20 * hi))] : List Value).toArray s = true := hts (.fieldLink RX3 15 "CodeRooms$Past" "size" "I") (by decide +kernel)
  have hL15 : FL RX3 15 (TX3 1).1 (TX3 1).2.1 (TX3 1).2.2.1 ([.ref (gA Λ 25 0), .long (lN (lo + 2 ^ 20 * hi))] : List Value).toArray s := Or.inl hM15
  refine j_aload_n C dX3_add_0 rfl 0 rfl ?_
  have hb1 : M 31 22 ≤ 60 := hB 31 22 rfl
  refine j_getI C hwX3 25 0 1 (CR.n1 hC (by decide)) rfl rfl (by decide) rfl (nI (M 31 22)) (CR.i hC 25 0 1 ⟨rfl, rfl⟩ id) hL15 dX3_add_1 ?_
  refine j_bipush C (nI 60) dX3_add_4 (by decide) ?_
  refine j_icmp_lt (tgt := 11) C dX3_add_6 (by decide) (nI_ltI (by omega) (by omega)) (fun h6 => ?_) (fun h6 => ?_)
  · refine j_aload_n C dX3_add_11 rfl 0 rfl ?_
    refine j_getV C hwX3 25 0 0 (CR.n1 hC (by decide)) rfl rfl (by decide) rfl 0 (CR.v hC 25 0 0 ⟨rfl, rfl⟩ id) hL9 dX3_add_12 ?_
    refine j_aload_n C dX3_add_15 rfl 0 rfl ?_
    have hb16 : M 31 22 ≤ 60 := hB 31 22 rfl
    refine j_getI C hwX3 25 0 1 (CR.n1 hC (by decide)) rfl rfl (by decide) rfl (nI (M 31 22)) (CR.i hC 25 0 1 ⟨rfl, rfl⟩ id) hL15 dX3_add_16 ?_
    refine j_lload_n C dX3_add_19 rfl 1 rfl ?_
    refine j_last C 26 0 (M 31 22) (CR.n1 hC (by decide)) rfl rfl 60 (CR.l1 hC (by decide)) (by omega) (by omega) (lN (lo + 2 ^ 20 * hi)) rfl dX3_add_20 ?_
    refine j_aload_n C dX3_add_21 rfl 0 rfl ?_
    refine j_dup C dX3_add_22 rfl ?_
    have hb23 : M 31 22 ≤ 60 := hB 31 22 rfl
    refine j_getI C hwX3 25 0 1 (CR.n1 hC (by decide)) rfl rfl (by decide) rfl (nI (M 31 22)) (CR.i hC 25 0 1 ⟨rfl, rfl⟩ id) hL15 dX3_add_23 ?_
    refine j_iconst C (nI 1) dX3_add_26 (by decide) ?_
    refine j_iadd C (nI (M 31 22 + 1)) dX3_add_27 (nI_add _ _) ?_
    refine j_putI C hwX3 25 0 1 (CR.n1 hC (by decide)) rfl rfl (by decide) rfl tyX3 tyX3_ok nmX3 rfl rfl rfl hL15 dX3_add_28 ?_
    refine j_aload_n C dX3_add_31 rfl 0 rfl ?_
    refine j_getI C hwX3 25 0 1 (CR.n1 hC (by decide)) rfl rfl (by decide) rfl (nI (M 31 22 + 1)) (gI_same _ _ _ _ _) hL15 dX3_add_32 ?_
    exact j_iret C hr hlk (⟨rfl, CR.chg hC rfl rfl, Same.sI (Same.sJ Same.rf (by decide)) (by decide)⟩) dX3_add_35
  · omega
