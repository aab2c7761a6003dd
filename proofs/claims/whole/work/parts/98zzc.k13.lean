/-! ===== the law: its loop, its start ===== -/
theorem law_loop {p : Program} {l : Launch} {e : Env} {s : State} {m : MethodId} {below : List Frame} {meth : Method} {c : Code} {D : va_G} {cy : Nat → ClassId} {b L x0 : Nat} {xs : Nat → Int32} (X : LX l p s m meth c D cy b L xs x0) (hr : meth.sig.returnType = ret) (hlk : meth.locks = false) : ∀ (n q : Nat) (Λ : LY) (σ : HS) (M : MM) (cells slots : Nat), L + 6 - 6 * q ≤ n → 6 * q ≤ L → LG x0 q Λ σ M cells slots → JW p l e s m below meth c D cy b cells slots Λ 23 (lvq Λ b q) [] σ := by
  have X2 := X
  obtain ⟨C, hX, hbl, hbA, hL3, hlt, hZ⟩ := X
  intro n
  induction n with
  | zero => intro q Λ σ M cells slots h1 h2; omega
  | succ n ih =>
    intro q Λ σ M cells slots h1 h2 hG
    have hI := hG.1
    have h5 : M 31 5 ≤ 40 := hI.2.2.1.1.1 31 5 rfl
    have hc := hG.2.2.1
    have hs := hG.2.2.2
    refine j_iload C dL_law_23 0 rfl ?_
    refine j_aload_n C dL_law_25 rfl 4 rfl ?_
    refine j_slen C hX hbl hbA dL_law_26 ?_
    refine j_bipush C (nI 6) dL_law_27 (by decide) ?_
    refine j_isub C _ dL_law_29 rfl ?_
    refine j_icmp_gt (tgt := 1279) C dL_law_30 (by decide) (len6 hL3 (by omega)) (fun _ => l_end C hr hlk ⟨by omega, by omega⟩) (fun hq => ?_)
    have hq : 6 * q + 6 ≤ L := by omega
    have K : ∀ (Λ : LY) (σ : HS) (M : MM) (cells slots : Nat), LG x0 (q + 1) Λ σ M cells slots → JW p l e s m below meth c D cy b cells slots Λ 1273 (lvq Λ b q) [] σ := fun Λ σ M cells slots hG => by
      refine j_iinc C (lvq Λ b (q + 1)) (nI (6 * (q + 1))) dL_law_1273 0 rfl (nI_add (6 * q) 6) (by decide) rfl ?_
      refine j_goto (tgt := 23) C dL_law_1276 (by decide) ?_
      exact ih (q + 1) Λ σ M cells slots (by omega) (by omega) hG
    refine j_aload_n C dL_law_33 rfl 4 rfl ?_
    refine j_iload C dL_law_34 0 rfl ?_
    refine j_sld C hX hbl hbA hL3 (6 * q) (by omega) dL_law_36 ?_
    refine j_bipush C (nI 31) dL_law_37 (by decide) ?_
    obtain ⟨k, hk, ek⟩ := and31 (xs (6 * q))
    refine j_iand C (nI k) dL_law_39 ek ?_
    by_cases c0 : k = 0
    · subst c0
      exact j_tableIn (off := 108) (tgt := 148) C dL_law_40 (by decide) (by decide) (by decide) (by decide) (lc_feed X2 hq hG K)
    by_cases c1 : k = 1
    · subst c1
      exact j_tableIn (off := 181) (tgt := 221) C dL_law_40 (by decide) (by decide) (by decide) (by decide) (lc_routine X2 hq hG K)
    by_cases c2 : k = 2
    · subst c2
      exact j_tableIn (off := 237) (tgt := 277) C dL_law_40 (by decide) (by decide) (by decide) (by decide) (lc_tie X2 hq hG K)
    by_cases c3 : k = 3
    · subst c3
      exact j_tableIn (off := 329) (tgt := 369) C dL_law_40 (by decide) (by decide) (by decide) (by decide) (lc_ties X2 hq hG K)
    by_cases c4 : k = 4
    · subst c4
      exact j_tableIn (off := 397) (tgt := 437) C dL_law_40 (by decide) (by decide) (by decide) (by decide) (lc_set X2 hq hG K)
    by_cases c5 : k = 5
    · subst c5
      exact j_tableIn (off := 465) (tgt := 505) C dL_law_40 (by decide) (by decide) (by decide) (by decide) (lc_must X2 hq hG K)
    by_cases c6 : k = 6
    · subst c6
      exact j_tableIn (off := 545) (tgt := 585) C dL_law_40 (by decide) (by decide) (by decide) (by decide) (lc_fix X2 hq hG K)
    by_cases c7 : k = 7
    · subst c7
      exact j_tableIn (off := 613) (tgt := 653) C dL_law_40 (by decide) (by decide) (by decide) (by decide) (lc_hub X2 hq hG K)
    by_cases c8 : k = 8
    · subst c8
      exact j_tableIn (off := 676) (tgt := 716) C dL_law_40 (by decide) (by decide) (by decide) (by decide) (lc_room X2 hq hG K)
    by_cases c9 : k = 9
    · subst c9
      exact j_tableIn (off := 732) (tgt := 772) C dL_law_40 (by decide) (by decide) (by decide) (by decide) (lc_put X2 hq hG K)
    by_cases c10 : k = 10
    · subst c10
      exact j_tableIn (off := 800) (tgt := 840) C dL_law_40 (by decide) (by decide) (by decide) (by decide) (lc_cost X2 hq hG K)
    by_cases c11 : k = 11
    · subst c11
      exact j_tableIn (off := 814) (tgt := 854) C dL_law_40 (by decide) (by decide) (by decide) (by decide) (lc_better X2 hq hG K)
    by_cases c12 : k = 12
    · subst c12
      exact j_tableIn (off := 827) (tgt := 867) C dL_law_40 (by decide) (by decide) (by decide) (by decide) (lc_best X2 hq hG K)
    by_cases c13 : k = 13
    · subst c13
      exact j_tableIn (off := 841) (tgt := 881) C dL_law_40 (by decide) (by decide) (by decide) (by decide) (lc_border X2 hq hG K)
    by_cases c14 : k = 14
    · subst c14
      exact j_tableIn (off := 896) (tgt := 936) C dL_law_40 (by decide) (by decide) (by decide) (by decide) (lc_name X2 hq hG K)
    by_cases c15 : k = 15
    · subst c15
      exact j_tableIn (off := 952) (tgt := 992) C dL_law_40 (by decide) (by decide) (by decide) (by decide) (lc_octet X2 hq hG K)
    by_cases c16 : k = 16
    · subst c16
      exact j_tableIn (off := 977) (tgt := 1017) C dL_law_40 (by decide) (by decide) (by decide) (by decide) (lc_face X2 hq hG K)
    by_cases c17 : k = 17
    · subst c17
      exact j_tableIn (off := 1045) (tgt := 1085) C dL_law_40 (by decide) (by decide) (by decide) (by decide) (lc_ring X2 hq hG K)
    by_cases c18 : k = 18
    · subst c18
      exact j_tableIn (off := 1101) (tgt := 1141) C dL_law_40 (by decide) (by decide) (by decide) (by decide) (lc_change X2 hq hG K)
    by_cases c19 : k = 19
    · subst c19
      exact j_tableIn (off := 1169) (tgt := 1209) C dL_law_40 (by decide) (by decide) (by decide) (by decide) (lc_alone X2 hq hG K)
    by_cases c20 : k = 20
    · subst c20
      exact j_tableIn (off := 1182) (tgt := 1222) C dL_law_40 (by decide) (by decide) (by decide) (by decide) (lc_keep X2 hq hG K)
    by_cases c21 : k = 21
    · subst c21
      exact j_tableIn (off := 1195) (tgt := 1235) C dL_law_40 (by decide) (by decide) (by decide) (by decide) (lc_moves X2 hq hG K)
    by_cases c22 : k = 22
    · subst c22
      exact j_tableIn (off := 1208) (tgt := 1248) C dL_law_40 (by decide) (by decide) (by decide) (by decide) (lc_count X2 hq hG K)
    refine j_tableOut (tgt := 1273) C dL_law_40 (Or.inr (by rw [nI_toInt (by omega)]; omega)) (by decide) ?_
    exact K Λ σ M cells slots ⟨hI, hG.2.1, by omega, by omega⟩
theorem arr_ac {ty : FieldType} {args : Array Value} {s : State} (h : (Cond.arrayClass ty).before args s = true) : ∃ cA, ArrOfT s cA ty ∧ s.vm.findClass ("[" ++ ty.toString) = some cA := by
  obtain ⟨c, k, comp, h1, h2, h3⟩ := Cond.arrayClass_spec h
  exact ⟨c, fun n z => ⟨fun k h => (by cases h), k, h2, comp, h3⟩, h1⟩
theorem arr_ao {C : String} {args : Array Value} {s : State} (h : (Cond.arrayOver (.object C)).before args s = true) : ∃ cA, ArrOfT s cA (.object C) ∧ va_RA s cA (.object C) := by
  obtain ⟨comp, c, k, h1, _, h2, h3, h4⟩ := Cond.arrayOver_spec h
  exact ⟨c, fun n z => ⟨fun k h => (by cases h), k, h2, comp, h3⟩, k, comp, h2, h3, h1, h4⟩
theorem arr_aa {ty : FieldType} {args : Array Value} {s : State} (h : (Cond.arrayOver (.array ty)).before args s = true) : ∃ cA, ArrOfT s cA (.array ty) ∧ va_RA s cA (.array ty) := by
  obtain ⟨comp, c, k, h1, h2, h3, h4⟩ := Cond.arrayOver_specA h
  exact ⟨c, fun n z => ⟨fun k h => (by cases h), k, h2, comp, h3⟩, h4⟩
theorem K_start {s : State} {args : Array Value} (hts : ∀ w ∈ lw_tbl, w.before args s = true) : ∃ (D : va_G) (cy : Nat → ClassId), va_K D vwCl (tyL cy) s := by
  obtain ⟨c0, i0, h0⟩ := u_known (C := RJ0) (T := TJ0) (N := 4) (n := 4) hts (by decide +kernel) (hts (.instantiable RJ0 4) (by decide +kernel))
  obtain ⟨c1, i1, h1⟩ := u_known (C := RJ4) (T := TJ4) (N := 4) (n := 4) hts (by decide +kernel) (hts (.instantiable RJ4 4) (by decide +kernel))
  obtain ⟨c2, i2, h2⟩ := u_known (C := RJx4a65c) (T := TJx4a65c) (N := 3) (n := 3) hts (by decide +kernel) (hts (.instantiable RJx4a65c 3) (by decide +kernel))
  obtain ⟨c3, i3, h3⟩ := u_known (C := RX0) (T := TX0) (N := 1) (n := 1) hts (by decide +kernel) (hts (.instantiable RX0 1) (by decide +kernel))
  obtain ⟨c4, i4, h4⟩ := u_known (C := RX1) (T := TX1) (N := 3) (n := 3) hts (by decide +kernel) (hts (.instantiable RX1 3) (by decide +kernel))
  obtain ⟨c5, i5, h5⟩ := u_known (C := RX2) (T := TX2) (N := 6) (n := 6) hts (by decide +kernel) (hts (.instantiable RX2 6) (by decide +kernel))
  obtain ⟨c6, i6, h6⟩ := u_known (C := RX3) (T := TX3) (N := 2) (n := 2) hts (by decide +kernel) (hts (.instantiable RX3 2) (by decide +kernel))
  obtain ⟨c7, i7, h7⟩ := u_known (C := RX4) (T := TX4) (N := 6) (n := 6) hts (by decide +kernel) (hts (.instantiable RX4 6) (by decide +kernel))
  obtain ⟨c8, i8, h8⟩ := u_known (C := RX5) (T := TX5) (N := 13) (n := 13) hts (by decide +kernel) (hts (.instantiable RX5 13) (by decide +kernel))
  obtain ⟨c9, i9, h9⟩ := u_known (C := RX6) (T := TX6) (N := 4) (n := 4) hts (by decide +kernel) (hts (.instantiable RX6 4) (by decide +kernel))
  obtain ⟨c10, i10, h10⟩ := u_known (C := RX7) (T := TX7) (N := 2) (n := 2) hts (by decide +kernel) (hts (.instantiable RX7 2) (by decide +kernel))
  obtain ⟨c11, i11, h11⟩ := u_known (C := RX8) (T := TX8) (N := 2) (n := 2) hts (by decide +kernel) (hts (.instantiable RX8 2) (by decide +kernel))
  obtain ⟨c12, i12, h12⟩ := u_known (C := RX9) (T := TX9) (N := 2) (n := 2) hts (by decide +kernel) (hts (.instantiable RX9 2) (by decide +kernel))
  obtain ⟨c13, i13, h13⟩ := u_known (C := RX10) (T := TX10) (N := 9) (n := 9) hts (by decide +kernel) (hts (.instantiable RX10 9) (by decide +kernel))
  obtain ⟨c14, i14, h14⟩ := u_known (C := RX11) (T := TX11) (N := 26) (n := 26) hts (by decide +kernel) (hts (.instantiable RX11 26) (by decide +kernel))
  obtain ⟨a0, g0⟩ := arr_ac (hts (.arrayClass .byte) (by decide +kernel))
  obtain ⟨a1, g1⟩ := arr_ac (hts (.arrayClass .int) (by decide +kernel))
  obtain ⟨a2, g2⟩ := arr_ac (hts (.arrayClass .long) (by decide +kernel))
  obtain ⟨a3, g3⟩ := arr_ac (hts (.arrayClass .boolean) (by decide +kernel))
  obtain ⟨a4, g4⟩ := arr_ao (hts (.arrayOver (.object "CodeRooms$Routine")) (by decide +kernel))
  obtain ⟨a5, g5⟩ := arr_ao (hts (.arrayOver (.object "java/lang/Object")) (by decide +kernel))
  obtain ⟨a6, g6⟩ := arr_aa (hts (.arrayOver (.array .int)) (by decide +kernel))
  refine ⟨(fun k => if k = 0 then c0 else if k = 1 then c1 else if k = 2 then c2 else if k = 3 then c3 else if k = 4 then c4 else if k = 5 then c5 else if k = 6 then c6 else if k = 7 then c7 else if k = 8 then c8 else if k = 9 then c9 else if k = 10 then c10 else if k = 11 then c11 else if k = 12 then c12 else if k = 13 then c13 else c14, fun k => if k = 0 then i0 else if k = 1 then i1 else if k = 2 then i2 else if k = 3 then i3 else if k = 4 then i4 else if k = 5 then i5 else if k = 6 then i6 else if k = 7 then i7 else if k = 8 then i8 else if k = 9 then i9 else if k = 10 then i10 else if k = 11 then i11 else if k = 12 then i12 else if k = 13 then i13 else i14), fun k => if k = 0 then a0 else if k = 1 then a1 else if k = 2 then a2 else if k = 3 then a3 else if k = 4 then a4 else if k = 5 then a5 else a6, fun k q hq => ?_, fun k q hq => ?_⟩
  · match k, hq with
    | 0, hq => cases hq; exact h0
    | 1, hq => cases hq; exact h1
    | 2, hq => cases hq; exact h2
    | 3, hq => cases hq; exact h3
    | 4, hq => cases hq; exact h4
    | 5, hq => cases hq; exact h5
    | 6, hq => cases hq; exact h6
    | 7, hq => cases hq; exact h7
    | 8, hq => cases hq; exact h8
    | 9, hq => cases hq; exact h9
    | 10, hq => cases hq; exact h10
    | 11, hq => cases hq; exact h11
    | 12, hq => cases hq; exact h12
    | 13, hq => cases hq; exact h13
    | 14, hq => cases hq; exact h14
    | k + 15, hq => simp [vwCl] at hq
  · match k, hq with
    | 0, hq => cases hq; exact g0
    | 1, hq => cases hq; exact g1
    | 2, hq => cases hq; exact g2
    | 3, hq => cases hq; exact g3
    | 4, hq => cases hq; exact g4
    | 5, hq => cases hq; exact g5
    | 6, hq => cases hq; exact g6
    | k + 7, hq => simp [tyL] at hq
theorem zx_start {s : State} {b : Nat} (hts : ∀ w ∈ lw_tbl, w.before #[Value.ref b] s = true) (hgv : (Jvm.Cond.and given_1 narrow_1).before #[Value.ref b] s = true) : ∃ x0, Zx s.heap.size x0 s := by
  have fl := flat_of_before _ hgv
  have hA : ∀ a : Nat, a < s.heap.size → ¬ Ab s.heap.size a := fun a ha => Nat.not_le.mpr ha
  obtain ⟨t, ht, hT⟩ := va_Tof (A := Ab s.heap.size) (N := 0) (f := fun _ => .null) (by decide) (fl (Cond.arrayOf (.static "java/util/ArrayList" "DEFAULTCAPACITY_EMPTY_ELEMENTDATA" "[Ljava/lang/Object;") (.object "java/lang/Object")) (by decide +kernel)) (va_eqt (fl (Cond.eq (.length (.static "java/util/ArrayList" "DEFAULTCAPACITY_EMPTY_ELEMENTDATA" "[Ljava/lang/Object;")) (.int 0)) (by decide +kernel))) (fun j hj => absurd hj (Nat.not_lt_zero j)) hA
  exact ⟨t, va_Zof (hts (.laysStatic "java/util/ArrayList" "DEFAULTCAPACITY_EMPTY_ELEMENTDATA" "[Ljava/lang/Object;") (by decide +kernel)) (hts (.initialized "java/util/ArrayList") (by decide +kernel)) ht hA, hT⟩
theorem WF_0 : WF M0 := by
  have z : ∀ t k, t ≠ 31 → t ≠ 36 → t ≠ 40 → t ≠ 47 → M0 t k = 0 := fun t k a b c d => by
    unfold M0
    rw [if_neg a, if_neg (by omega)]
  refine ⟨⟨fun t k hk => ?_, rfl, ⟨by decide, by decide⟩, ⟨fun k a b _ _ _ _ => z 35 _ (by decide) (by decide) (by decide) (by decide), fun k a b _ _ _ => by rw [z 35 _ (by decide) (by decide) (by decide) (by decide), z 35 _ (by decide) (by decide) (by decide) (by decide)]⟩, fun a b _ _ => by rw [z 39 _ (by decide) (by decide) (by decide) (by decide), z 39 _ (by decide) (by decide) (by decide) (by decide)], fun r _ _ => ⟨z 37 _ (by decide) (by decide) (by decide) (by decide), z 38 _ (by decide) (by decide) (by decide) (by decide), fun k _ => z 39 _ (by decide) (by decide) (by decide) (by decide)⟩, ⟨Nat.zero_le _, fun k hk => absurd hk (Nat.not_lt_zero k)⟩, fun x _ => by rw [z 34 _ (by decide) (by decide) (by decide) (by decide)]; decide, fun x _ => by rw [z 33 _ (by decide) (by decide) (by decide) (by decide)]; decide⟩, fun r hr => absurd hr (Nat.not_lt_zero r)⟩
  by_cases t1 : t = 31
  · subst t1
    by_cases k8 : k = 8
    · subst k8; decide
    · by_cases k9 : k = 9
      · subst k9; decide
      · by_cases k10 : k = 10
        · subst k10; decide
        · have e : M0 31 k = 0 := by unfold M0; rw [if_pos rfl, if_neg k8, if_neg k9, if_neg k10]
          rw [e]; exact Nat.zero_le _
  · by_cases t3 : t = 36 ∨ t = 40 ∨ t = 47
    · have e : M0 t k = 1 := by unfold M0; rw [if_neg t1, if_pos t3]
      rw [e]
      rcases t3 with rfl | rfl | rfl
      · show 1 ≤ 9; decide
      · show 1 ≤ 6; decide
      · show 1 ≤ 6; decide
    · rw [z t k t1 (by omega) (by omega) (by omega)]; exact Nat.zero_le _
