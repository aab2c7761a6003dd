def zA (A : Nat → Nat) (x : Nat) : Nat → Nat := fun j => if j < x then A j else 0
theorem asg_row {M M1 : MM} {B : Nat → Nat} {i v : Nat} (h : M1 38 = asg M B 38) (hi : i < hcN M) : mS M1 38 (hs M i) v 38 = asg M (fun j => if j = i then v else B j) 38 := by
  rw [mS_row h]
  funext k
  unfold mS asg
  by_cases e : k = hs M i
  · rw [if_pos ⟨rfl, e⟩, e, if_pos ⟨rfl, hs_lt hi, hs_nh hi⟩, hs_rk hi]
    exact (if_pos rfl).symm
  · rw [if_neg (fun z => e z.2)]
    by_cases h2 : (38 : Nat) = 38 ∧ k < M 31 5 ∧ M 37 k = 0
    · rw [if_pos h2, if_pos h2]
      exact (if_neg (fun (z : rkN M k = i) => e (by rw [← z, hs_of h2.2.1 h2.2.2]))).symm
    · rw [if_neg h2, if_neg h2]
theorem row_z {M M1 : MM} {A : Nat → Nat} {y : Nat} (h : M1 38 = asg M (zA A (y + 1)) 38) (hy : y < hcN M) : mS M1 38 (hs M y) 0 38 = asg M (zA A y) 38 := by
  rw [asg_row h hy]
  congr 2
  funext j
  unfold zA
  by_cases e : j = y
  · rw [if_pos e, if_neg (by omega)]
  · rw [if_neg e]
    by_cases e2 : j < y
    · rw [if_pos (by omega), if_pos e2]
    · rw [if_neg (by omega), if_neg e2]
theorem row_n {M M1 : MM} {A : Nat → Nat} {y : Nat} (h : M1 38 = asg M (zA A (y + 1)) 38) (hy : y < hcN M) : mS M1 38 (hs M y) (A y + 1) 38 = asg M (nxA A y) 38 := by
  rw [asg_row h hy]
  congr 2
  funext j
  unfold zA nxA
  by_cases e : j = y
  · rw [if_pos e, e, if_neg (Nat.lt_irrefl _), if_pos rfl]
  · rw [if_neg e]
    by_cases e2 : j < y
    · rw [if_pos (by omega), if_pos e2]
    · rw [if_neg (by omega), if_neg e2, if_neg e]
theorem zA_q {M : MM} {A : Nat → Nat} {q : Nat} (hq : hcN M = q) : asg M A 38 = asg M (zA A q) 38 := by
  funext k
  unfold asg zA
  by_cases h2 : (38 : Nat) = 38 ∧ k < M 31 5 ∧ M 37 k = 0
  · rw [if_pos h2, if_pos h2, if_pos (by rw [← hq]; exact rk_lt h2.2.1 h2.2.2)]
  · rw [if_neg h2, if_neg h2]
theorem asg_at {M M1 : MM} {B : Nat → Nat} {i : Nat} (h : M1 38 = asg M B 38) (hi : i < hcN M) : M1 38 (hs M i) = B i := by rw [h, asg_hs hi]
def mxA (F A : Nat → Nat) (i : Nat) : Nat → Nat := fun j => if j < i then F j else A j
theorem row_m {M M1 : MM} {F A : Nat → Nat} {i : Nat} (h : M1 38 = asg M (mxA F A i) 38) (hi : i < hcN M) : mS M1 38 (hs M i) (F i) 38 = asg M (mxA F A (i + 1)) 38 := by
  rw [asg_row h hi]
  congr 2
  funext j
  unfold mxA
  by_cases e : j = i
  · rw [if_pos e, e, if_pos (by omega)]
  · rw [if_neg e]
    by_cases e2 : j < i
    · rw [if_pos e2, if_pos (by omega)]
    · rw [if_neg e2, if_neg (by omega)]
theorem mxA_0 {F A : Nat → Nat} : mxA F A 0 = A := by
  funext j
  unfold mxA
  rw [if_neg (Nat.not_lt_zero _)]
theorem mxA_q {M : MM} {F A : Nat → Nat} {i : Nat} (h : i = hcN M) : asg M (mxA F A i) 38 = asg M F 38 := by
  funext k
  unfold asg mxA
  by_cases h2 : (38 : Nat) = 38 ∧ k < M 31 5 ∧ M 37 k = 0
  · rw [if_pos h2, if_pos h2, if_pos (by rw [h]; exact rk_lt h2.2.1 h2.2.2)]
  · rw [if_neg h2, if_neg h2]
theorem nI_sub1 {x : Nat} (h : 1 ≤ x) : nI x - nI 1 = nI (x - 1) := by
  obtain ⟨y, rfl⟩ : ∃ y, x = y + 1 := ⟨x - 1, by omega⟩
  exact nI_dec y
theorem nI_m1 (y : Nat) : nI y + Int32.ofInt (-1) = nI y - 1 := by
  rw [zI_nI]
  show zI y + zI (-1) = zI y - zI 1
  rw [zI_add, zI_sub]
  rfl
/-- the reference's state while it searches -/
def BE (M M1 : MM) : Prop := ∀ t, t ≠ 38 → t ≠ 41 → t ≠ 42 → M1 t = M t
theorem BE.s {M M1 : MM} {t k x : Nat} (h : BE M M1) (ht : t = 38 ∨ t = 41 ∨ t = 42) : BE M (mS M1 t k x) := fun t' a b d => by rw [mS_nk (by omega)]; exact h t' a b d
theorem BE.cost {M M1 : MM} {A : Nat → Nat} (h : BE M M1) (h38 : M1 38 = asg M A 38) : costN M1 = costN (asg M A) := costN_eq (fun t a b => by
  by_cases e : t = 38
  · rw [e, h38]
  · rw [h t e a b, asg_nk e])
set_option maxHeartbeats 16000000 in
set_option maxRecDepth 100000 in
theorem c_mbest_ok (l : Launch) (D : va_G) (cy : Nat → ClassId) (base : Nat) (Λ : LY) (σ : HS) (M : MM) (hM0 : MR0 Λ σ M) (h00 : M 31 0 = 0) (hB : MBd M) (hm9 : hcN M ≤ 9) (hR1 : 1 ≤ M 31 10) (hR3 : M 31 10 ≤ 3) (hWT : WT M) (hWM : WMu M) : Met l yX11_best wsX11_best ({ frames := 24, cells := 0, slots := 0, locals := 360 }) (va_Pc [.ref (gA Λ 31 0)] (Wd D cy base Λ σ)) (va_Ql (fun v u => Same nMo σ u ∧ ∃ b F M2, v = zL ((b : Nat) : Int) ∧ FM M (M 31 10) (hcN M) (M 31 10 ^ hcN M) b F ∧ MR Λ u M2 ∧ MBd M2 ∧ (∀ t, t ≠ 41 → t ≠ 42 → M2 t = asg M F t)) (Wd D cy base Λ) (Ab base)) 0 0 (Ab base) := by
  refine j_start (cc := cX11_best) (nL := 8) (ret := (some .long)) (lv := [(0, .ref (gA Λ 31 0))]) (by decide) rfl (Nat.le_of_ble_eq_true rfl) rfl ?_
  intro p e s m below meth c C hr hlk hnm
  have C : Cx p s m ([.ref (gA Λ 31 0)] : List Value).toArray c cX11_best 8 RX11 wsX11_best D cy base := C
  have hts := C.2.2.2.2.1
  have hwX11 : ∀ w ∈ u_ws RX11 TX11 26, w ∈ wsX11_best := by decide +kernel
  have hM33 : (Cond.fieldLink RX11 33 (TX11 10).1 (TX11 10).2.1 (TX11 10).2.2.1).before ([.ref (gA Λ 31 0)] : List Value).toArray s = true := hts (.fieldLink RX11 33 "CodeRoomsModel" "rooms" "I") (by decide +kernel)
  have hL33 : FL RX11 33 (TX11 10).1 (TX11 10).2.1 (TX11 10).2.2.1 ([.ref (gA Λ 31 0)] : List Value).toArray s := Or.inl hM33
  have hM36 : (Cond.fieldLink RX11 36 (TX11 11).1 (TX11 11).2.1 (TX11 11).2.2.1).before ([.ref (gA Λ 31 0)] : List Value).toArray s = true := hts (.fieldLink RX11 36 "CodeRoomsModel" "isHub" "[Z") (by decide +kernel)
  have hL36 : FL RX11 36 (TX11 11).1 (TX11 11).2.1 (TX11 11).2.2.1 ([.ref (gA Λ 31 0)] : List Value).toArray s := Or.inl hM36
  have hM40 : (Cond.fieldLink RX11 40 (TX11 12).1 (TX11 12).2.1 (TX11 12).2.2.1).before ([.ref (gA Λ 31 0)] : List Value).toArray s = true := hts (.fieldLink RX11 40 "CodeRoomsModel" "roomOf" "[I") (by decide +kernel)
  have hL40 : FL RX11 40 (TX11 12).1 (TX11 12).2.1 (TX11 12).2.2.1 ([.ref (gA Λ 31 0)] : List Value).toArray s := Or.inl hM40
  have hM49 : (Cond.fieldLink RX11 49 (TX11 15).1 (TX11 15).2.1 (TX11 15).2.2.1).before ([.ref (gA Λ 31 0)] : List Value).toArray s = true := hts (.fieldLink RX11 49 "CodeRoomsModel" "free" "[I") (by decide +kernel)
  have hL49 : FL RX11 49 (TX11 15).1 (TX11 15).2.1 (TX11 15).2.2.1 ([.ref (gA Λ 31 0)] : List Value).toArray s := Or.inl hM49
  have hM52 : (Cond.fieldLink RX11 52 (TX11 16).1 (TX11 16).2.1 (TX11 16).2.2.1).before ([.ref (gA Λ 31 0)] : List Value).toArray s = true := hts (.fieldLink RX11 52 "CodeRoomsModel" "bestRow" "[I") (by decide +kernel)
  have hL52 : FL RX11 52 (TX11 16).1 (TX11 16).2.1 (TX11 16).2.2.1 ([.ref (gA Λ 31 0)] : List Value).toArray s := Or.inl hM52
  have hM73 : (Cond.fieldLink RX11 73 (TX11 0).1 (TX11 0).2.1 (TX11 0).2.2.1).before ([.ref (gA Λ 31 0)] : List Value).toArray s = true := hts (.fieldLink RX11 73 "CodeRoomsModel" "thrown" "I") (by decide +kernel)
  have hL73 : FL RX11 73 (TX11 0).1 (TX11 0).2.1 (TX11 0).2.2.1 ([.ref (gA Λ 31 0)] : List Value).toArray s := Or.inl hM73
  have hM83 : (Cond.fieldLink RX11 83 (TX11 5).1 (TX11 5).2.1 (TX11 5).2.2.1).before ([.ref (gA Λ 31 0)] : List Value).toArray s = true := hts (.fieldLink RX11 83 "CodeRoomsModel" "many" "I") (by decide +kernel)
  have hL83 : FL RX11 83 (TX11 5).1 (TX11 5).2.1 (TX11 5).2.2.1 ([.ref (gA Λ 31 0)] : List Value).toArray s := Or.inl hM83
  have hC145 : (Jvm.Cond.constantLong RX11 145 (-1)).before ([.ref (gA Λ 31 0)] : List Value).toArray s = true := hts _ (by decide +kernel)
  have hn : M 31 5 ≤ 40 := hB 31 5 rfl
  refine j_aload_n C dX11_best_0 rfl 0 rfl ?_
  refine j_iconst C (nI 0) dX11_best_1 (by decide) ?_
  refine j_putI C hwX11 31 0 0 (MR0.in0 hM0) rfl rfl (by decide) rfl tyX11 tyX11_ok nmX11 rfl rfl rfl hL73 dX11_best_2 ?_
  have hM := MR0.start hM0 h00
  have hs0 : Same nMo σ (sI σ 31 0 0 (nI 0)) := Same.sI Same.rf (by decide)
  generalize sI σ 31 0 0 (nI 0) = σ0 at hM hs0 ⊢
  refine j_iconst C (nI 0) dX11_best_5 (by decide) ?_
  refine j_istore_n C [(1, .int (nI 0)), (0, .ref (gA Λ 31 0))] dX11_best_6 rfl (by decide) rfl ?_
  refine j_iconst C (nI 0) dX11_best_7 (by decide) ?_
  refine j_istore_n C [(2, .int (nI 0)), (1, .int (nI 0)), (0, .ref (gA Λ 31 0))] dX11_best_8 rfl (by decide) rfl ?_
  have lb9 : ∀ (fu : Nat) (σ1 : HS) (M1 : MM) (q r : Nat), (M 31 5 - r) < fu → (r ≤ M 31 5) → (MR Λ σ1 M1) → (MBd M1) → (∀ t, t ≠ 41 → M1 t = M t) → (Same nMo σ σ1) → (q = rkN M r) → (∀ k, k < q → M1 41 k = hs M k) → (q ≤ 9) → J p l e ({ frames := 24, cells := 0, slots := 0, locals := 360 }) s m ([.ref (gA Λ 31 0)] : List Value).toArray below meth c 8 D cy base (MQ below (va_Ql (fun v u => Same nMo σ u ∧ ∃ b F M2, v = zL ((b : Nat) : Int) ∧ FM M (M 31 10) (hcN M) (M 31 10 ^ hcN M) b F ∧ MR Λ u M2 ∧ MBd M2 ∧ (∀ t, t ≠ 41 → t ≠ 42 → M2 t = asg M F t)) (Wd D cy base Λ) (Ab base)) ([.ref (gA Λ 31 0)] : List Value).toArray s 0 0 (Ab base)) 0 0 Λ 9 [(0, .ref (gA Λ 31 0)), (1, .int (nI q)), (2, .int (nI r))] [] σ1 := by
    intro fu
    induction fu with
    | zero => intro σ1 M1 q r hfu; exact absurd hfu (Nat.not_lt_zero _)
    | succ fu ih =>
      intro σ1 M1 q r hfu hr1 hM1 hB1 he1 hs1 hq hfr hq9
      have ih9 := ih
      refine j_iload_n C dX11_best_9 rfl 2 rfl ?_
      refine j_aload_n C dX11_best_10 rfl 0 rfl ?_
      refine j_getI C hwX11 31 0 5 (MR.in0 hM1 (by decide) (by decide)) rfl rfl (by decide) rfl (nI (M 31 5)) ((hM1.1 31 5 rfl).trans (congrArg (menc 31) (congrFun (he1 31 (by decide)) _))) hL83 dX11_best_11 ?_
      refine j_icmp_ge (tgt := 63) C dX11_best_14 (by decide) (nI_leI (by omega) (by omega)) (fun h14 => ?_) (fun h14 => ?_)
      · have hcq : hcN M = q := by rw [hq, show r = M 31 5 by omega]; rfl
        have nm_z : nm (M 31 10) (fun _ => 0) q = 0 := by have z9 := odo_zero (R := M 31 10) (A := fun _ => 0) (x := 0) (e := q) (fun _ _ _ => rfl); rw [Nat.zero_add] at z9; rw [z9]; exact Nat.zero_mul _
        refine j_aload_n C dX11_best_63 rfl 0 rfl ?_
        refine j_getI C hwX11 31 0 10 (MR.in0 hM1 (by decide) (by decide)) rfl rfl (by decide) rfl (nI (M 31 10)) ((hM1.1 31 10 rfl).trans (congrArg (menc 31) (congrFun (he1 31 (by decide)) _))) hL33 dX11_best_64 ?_
        refine j_iconst C (nI 3) dX11_best_67 (by decide) ?_
        refine j_icmp_le (tgt := 75) C dX11_best_68 (by decide) (nI_leI (by omega) (by omega)) (fun h68 => ?_) (fun h68 => ?_)
        · refine j_iconst C (nI 0) dX11_best_75 (by decide) ?_
          refine j_istore_n C [(2, .int (nI 0)), (0, .ref (gA Λ 31 0)), (1, .int (nI q))] dX11_best_76 rfl (by decide) rfl ?_
          have lb77 : ∀ (fu : Nat) (σ2 : HS) (M2 : MM) (i : Nat), (q - i) < fu → (i ≤ q) → (MR Λ σ2 M2) → (MBd M2) → (BE M M2) → (∀ k, k < q → M2 41 k = hs M k) → (M2 38 = asgTo M (fun _ => 0) i 38) → (Same nMo σ σ2) → J p l e ({ frames := 24, cells := 0, slots := 0, locals := 360 }) s m ([.ref (gA Λ 31 0)] : List Value).toArray below meth c 8 D cy base (MQ below (va_Ql (fun v u => Same nMo σ u ∧ ∃ b F M2, v = zL ((b : Nat) : Int) ∧ FM M (M 31 10) (hcN M) (M 31 10 ^ hcN M) b F ∧ MR Λ u M2 ∧ MBd M2 ∧ (∀ t, t ≠ 41 → t ≠ 42 → M2 t = asg M F t)) (Wd D cy base Λ) (Ab base)) ([.ref (gA Λ 31 0)] : List Value).toArray s 0 0 (Ab base)) 0 0 Λ 77 [(0, .ref (gA Λ 31 0)), (1, .int (nI q)), (2, .int (nI i))] [] σ2 := by
            intro fu
            induction fu with
            | zero => intro σ2 M2 i hfu; exact absurd hfu (Nat.not_lt_zero _)
            | succ fu ih =>
              intro σ2 M2 i hfu hi hM2 hB2 he2 hf2 h382 hs2
              have ih77 := ih
              refine j_iload_n C dX11_best_77 rfl 2 rfl ?_
              refine j_iload_n C dX11_best_78 rfl 1 rfl ?_
              refine j_icmp_ge (tgt := 100) C dX11_best_79 (by decide) (nI_leI (by omega) (by omega)) (fun h79 => ?_) (fun h79 => ?_)
              · refine j_ldc2 C (zL (-1)) hC145 dX11_best_100 (by decide) ?_
                refine j_lstore_n C [(2, .long (zL (-1))), (0, .ref (gA Λ 31 0)), (1, .int (nI q))] dX11_best_103 rfl (by decide) rfl ?_
                refine j_iconst C (nI 1) dX11_best_104 (by decide) ?_
                refine j_istore C [(4, .int (nI 1)), (2, .long (zL (-1))), (0, .ref (gA Λ 31 0)), (1, .int (nI q))] dX11_best_105 (by decide) rfl ?_
                have lb107 : ∀ (fu : Nat) (σ3 : HS) (M3 : MM) (A F : Nat → Nat) (y0 : Int) (g w : Nat), w < fu → (MR Λ σ3 M3) → (MBd M3) → (BE M M3) → (∀ k, k < q → M3 41 k = hs M k) → (M3 38 = asg M A 38) → (Same nMo σ σ3) → (vA (M 31 10) q A) → ((0 < nm (M 31 10) A q ∨ g = 0) → ∀ k, k < q → M3 42 k = F k) → ((g = 1 ∧ w = M 31 10 ^ q - nm (M 31 10) A q ∧ ((nm (M 31 10) A q = 0 ∧ y0 = -1) ∨ (0 < nm (M 31 10) A q ∧ ∃ b : Nat, y0 = (b : Int) ∧ FM M (M 31 10) q (nm (M 31 10) A q) b F))) ∨ (g = 0 ∧ ∃ b : Nat, y0 = (b : Int) ∧ FM M (M 31 10) q (M 31 10 ^ q) b F)) → J p l e ({ frames := 24, cells := 0, slots := 0, locals := 360 }) s m ([.ref (gA Λ 31 0)] : List Value).toArray below meth c 8 D cy base (MQ below (va_Ql (fun v u => Same nMo σ u ∧ ∃ b F M2, v = zL ((b : Nat) : Int) ∧ FM M (M 31 10) (hcN M) (M 31 10 ^ hcN M) b F ∧ MR Λ u M2 ∧ MBd M2 ∧ (∀ t, t ≠ 41 → t ≠ 42 → M2 t = asg M F t)) (Wd D cy base Λ) (Ab base)) ([.ref (gA Λ 31 0)] : List Value).toArray s 0 0 (Ab base)) 0 0 Λ 107 [(0, .ref (gA Λ 31 0)), (1, .int (nI q)), (2, .long (zL y0)), (4, .int (nI g))] [] σ3 := by
                  intro fu
                  induction fu with
                  | zero => intro σ3 M3 A F y0 g w hfu; exact absurd hfu (Nat.not_lt_zero _)
                  | succ fu ih =>
                    intro σ3 M3 A F y0 g w hfu hM3 hB3 he3 hf3 h383 hs3 hv3 hbr3 hst
                    have ih107 := ih
                    refine j_iload C dX11_best_107 3 rfl ?_
                    refine j_if_eq (tgt := 254) C dX11_best_109 (by decide) (nJ_eq0 (by omega)) (fun h109 => ?_) (fun h109 => ?_)
                    · obtain ⟨bF, hyF, hFM⟩ : ∃ b : Nat, y0 = (b : Int) ∧ FM M (M 31 10) q (M 31 10 ^ q) b F := by
                        rcases hst with z9 | z9
                        · exact absurd z9.1 (by omega)
                        · exact z9.2
                      clear hst
                      have hvF := (hFM.2.1 (Nat.pow_pos (by omega))).1
                      have hbf := hbr3 (Or.inr (by omega))
                      refine j_iconst C (nI 0) dX11_best_254 (by decide) ?_
                      refine j_istore C [(5, .int (nI 0)), (0, .ref (gA Λ 31 0)), (1, .int (nI q)), (2, .long (zL y0)), (4, .int (nI g))] dX11_best_255 (by decide) rfl ?_
                      have lb257 : ∀ (fu : Nat) (σ7 : HS) (M7 : MM) (j : Nat), (q - j) < fu → (j ≤ q) → (MR Λ σ7 M7) → (MBd M7) → (BE M M7) → (∀ k, k < q → M7 41 k = hs M k) → (M7 38 = asg M (mxA F A j) 38) → (Same nMo σ σ7) → (∀ k, k < q → M7 42 k = F k) → J p l e ({ frames := 24, cells := 0, slots := 0, locals := 360 }) s m ([.ref (gA Λ 31 0)] : List Value).toArray below meth c 8 D cy base (MQ below (va_Ql (fun v u => Same nMo σ u ∧ ∃ b F M2, v = zL ((b : Nat) : Int) ∧ FM M (M 31 10) (hcN M) (M 31 10 ^ hcN M) b F ∧ MR Λ u M2 ∧ MBd M2 ∧ (∀ t, t ≠ 41 → t ≠ 42 → M2 t = asg M F t)) (Wd D cy base Λ) (Ab base)) ([.ref (gA Λ 31 0)] : List Value).toArray s 0 0 (Ab base)) 0 0 Λ 257 [(0, .ref (gA Λ 31 0)), (1, .int (nI q)), (2, .long (zL y0)), (4, .int (nI g)), (5, .int (nI j))] [] σ7 := by
                        intro fu
                        induction fu with
                        | zero => intro σ7 M7 j hfu; exact absurd hfu (Nat.not_lt_zero _)
                        | succ fu ih =>
                          intro σ7 M7 j hfu hj hM7 hB7 he7 hf7 h387 hs7 hbr7
                          have ih257 := ih
                          refine j_iload C dX11_best_257 4 rfl ?_
                          refine j_iload_n C dX11_best_259 rfl 1 rfl ?_
                          refine j_icmp_ge (tgt := 288) C dX11_best_260 (by decide) (nI_leI (by omega) (by omega)) (fun h260 => ?_) (fun h260 => ?_)
                          · refine j_lload_n C dX11_best_288 rfl 2 rfl ?_
                            exact j_lret C hr hlk (⟨hs7, bF, F, M7, by rw [hyF], by rw [hcq]; exact hFM, hM7, hB7, fun t a b9 => by by_cases e9 : t = 38; rw [e9, h387, mxA_q (by omega)]; rw [he7 t e9 a b9, asg_nk e9]⟩) dX11_best_289
                          · have hhj := hs_lt (M := M) (k := j) (by omega)
                            have hFj : F j < M 31 10 := hvF j (by omega)
                            refine j_aload_n C dX11_best_263 rfl 0 rfl ?_
                            refine j_getV C hwX11 31 0 12 (MR.in0 hM7 (by decide) (by decide)) rfl rfl (by decide) rfl 0 (hM7.2.2.2 12 rfl) hL40 dX11_best_264 ?_
                            refine j_aload_n C dX11_best_267 rfl 0 rfl ?_
                            refine j_getV C hwX11 31 0 15 (MR.in0 hM7 (by decide) (by decide)) rfl rfl (by decide) rfl 0 (hM7.2.2.2 15 rfl) hL49 dX11_best_268 ?_
                            refine j_iload C dX11_best_271 4 rfl ?_
                            refine j_iald C 41 0 j (MR.in0 hM7 (by decide) (by decide)) rfl rfl 9 (hM7.2.2.1 41 (by decide) (by decide)) (by omega) (by omega) (nI (hs M j)) ((hM7.1 41 j (decide_eq_true (show j < 9 by omega))).trans (congrArg (menc 41) (hf7 _ (by omega)))) dX11_best_273 ?_
                            refine j_aload_n C dX11_best_274 rfl 0 rfl ?_
                            refine j_getV C hwX11 31 0 16 (MR.in0 hM7 (by decide) (by decide)) rfl rfl (by decide) rfl 0 (hM7.2.2.2 16 rfl) hL52 dX11_best_275 ?_
                            refine j_iload C dX11_best_278 4 rfl ?_
                            refine j_iald C 42 0 j (MR.in0 hM7 (by decide) (by decide)) rfl rfl 9 (hM7.2.2.1 42 (by decide) (by decide)) (by omega) (by omega) (nI (F j)) ((hM7.1 42 j (decide_eq_true (show j < 9 by omega))).trans (congrArg (menc 42) (hbr7 _ (by omega)))) dX11_best_280 ?_
                            refine j_iast C 38 0 (hs M j) (MR.in0 hM7 (by decide) (by decide)) rfl rfl 40 (hM7.2.2.1 38 (by decide) (by decide)) (by omega) (by omega) (nI (F j)) rfl dX11_best_281 ?_
                            have hM_10 := MR.set (t := 38) (k := (hs M j)) (x := (F j)) (v := (nI (F j))) hM7 rfl
                            have hs_11 := Same.sI (t := 38) (i := 0) (k := (hs M j)) (x := (nI (F j))) hs7 (by decide)
                            refine j_iinc C [(5, .int (nI (j + 1))), (0, .ref (gA Λ 31 0)), (1, .int (nI q)), (2, .long (zL y0)), (4, .int (nI g))] (nI (j + 1)) dX11_best_282 4 rfl (nI_add _ 1) (by decide) rfl ?_
                            refine j_goto (tgt := 257) C dX11_best_285 (by decide) ?_
                            refine j_lv [1, 2, 3, 4, 0] rfl ?_
                            exact ih257 (sI σ7 38 0 (hs M j) (nI (F j))) (mS M7 38 (hs M j) (F j)) (j + 1) (by omega) (by omega) hM_10 (MBd.set hB7 (by have q9 := hvF j (by omega); show F j ≤ 5; omega)) (BE.s he7 (Or.inl rfl)) (fun k hk => by rw [mS_ne (Or.inl (by decide))]; exact hf7 k hk) (row_m h387 (by omega)) hs_11 (fun k hk => by rw [mS_ne (Or.inl (by decide))]; exact hbr7 k hk)
                      refine j_lv [1, 2, 3, 4, 0] rfl ?_
                      exact lb257 _ σ3 M3 0 (Nat.lt_succ_self _) (by omega) hM3 hB3 he3 hf3 (by rw [mxA_0]; exact h383) hs3 hbf
                    · obtain ⟨hw, hst1⟩ : w = M 31 10 ^ q - nm (M 31 10) A q ∧ ((nm (M 31 10) A q = 0 ∧ y0 = -1) ∨ (0 < nm (M 31 10) A q ∧ ∃ b : Nat, y0 = (b : Int) ∧ FM M (M 31 10) q (nm (M 31 10) A q) b F)) := by
                        rcases hst with z9 | z9
                        · exact z9.2
                        · exact absurd z9.1 h109
                      clear hst
                      have hcost : costN M3 = fb_sm (padd M A) q := by rw [BE.cost he3 h383, cost_padd hn (by omega) hWT hWM (by rw [hcq]; exact hv3), hcq]
                      have hcl : fb_sm (padd M A) q ≤ 3600000000 := sm_le hB (by omega) (by omega)
                      have hnl := nm_lt hv3
                      refine j_aload_n C dX11_best_112 rfl 0 rfl ?_
                      refine c_l0 C (r_V C 31 0 [] (c_X11_costNow l D cy base Λ σ3 M3 hM3 hB3) (cwV 0 hts gX11_best_X11_costNow rfl rfl rfl (by decide +kernel) ⟨by decide, by decide⟩) (MR.in0 hM3 (by decide) (by decide)) rfl rfl rfl rfl (Nat.le_of_ble_eq_true rfl) dX11_best_113 ⟨by decide, by decide⟩) (fun rv uu hp => ?_)
                      rw [hp.1, hp.2, hcost]
                      refine j_lstore C [(5, .long (zL ((fb_sm (padd M A) q : Nat) : Int))), (0, .ref (gA Λ 31 0)), (1, .int (nI q)), (2, .long (zL y0)), (4, .int (nI g))] dX11_best_116 (by decide) rfl ?_
                      rcases hst1 with ⟨hz0, rfl⟩ | ⟨hz1, b, rfl, hFM⟩
                      · refine j_lload_n C dX11_best_118 rfl 3 rfl ?_
                        refine j_lconst C (zL 0) dX11_best_119 (by decide) ?_
                        refine j_lcmp_lt (tgt := 131) C dX11_best_120 dX11_best_121 (by decide) (zL_lt (by omega) (by omega) (by omega) (by omega)) (fun h120 => ?_) (fun h120 => ?_)
                        · skip
                          · refine j_lload C dX11_best_131 0 rfl ?_
                            refine j_lstore_n C [(2, .long (zL ((fb_sm (padd M A) q : Nat) : Int))), (5, .long (zL ((fb_sm (padd M A) q : Nat) : Int))), (0, .ref (gA Λ 31 0)), (1, .int (nI q)), (4, .int (nI g))] dX11_best_133 rfl (by decide) rfl ?_
                            refine j_iconst C (nI 0) dX11_best_134 (by decide) ?_
                            refine j_istore C [(7, .int (nI 0)), (2, .long (zL ((fb_sm (padd M A) q : Nat) : Int))), (5, .long (zL ((fb_sm (padd M A) q : Nat) : Int))), (0, .ref (gA Λ 31 0)), (1, .int (nI q)), (4, .int (nI g))] dX11_best_135 (by decide) rfl ?_
                            have lb137 : ∀ (fu : Nat) (σ4 : HS) (M4 : MM) (j : Nat), (q - j) < fu → (j ≤ q) → (MR Λ σ4 M4) → (MBd M4) → (BE M M4) → (∀ k, k < q → M4 41 k = hs M k) → (M4 38 = asg M A 38) → (Same nMo σ σ4) → (∀ k, k < j → M4 42 k = A k) → J p l e ({ frames := 24, cells := 0, slots := 0, locals := 360 }) s m ([.ref (gA Λ 31 0)] : List Value).toArray below meth c 8 D cy base (MQ below (va_Ql (fun v u => Same nMo σ u ∧ ∃ b F M2, v = zL ((b : Nat) : Int) ∧ FM M (M 31 10) (hcN M) (M 31 10 ^ hcN M) b F ∧ MR Λ u M2 ∧ MBd M2 ∧ (∀ t, t ≠ 41 → t ≠ 42 → M2 t = asg M F t)) (Wd D cy base Λ) (Ab base)) ([.ref (gA Λ 31 0)] : List Value).toArray s 0 0 (Ab base)) 0 0 Λ 137 [(0, .ref (gA Λ 31 0)), (1, .int (nI q)), (2, .long (zL ((fb_sm (padd M A) q : Nat) : Int))), (4, .int (nI g)), (5, .long (zL ((fb_sm (padd M A) q : Nat) : Int))), (7, .int (nI j))] [] σ4 := by
                              intro fu
                              induction fu with
                              | zero => intro σ4 M4 j hfu; exact absurd hfu (Nat.not_lt_zero _)
                              | succ fu ih =>
                                intro σ4 M4 j hfu hj hM4 hB4 he4 hf4 h384 hs4 hb4
                                have ih137 := ih
                                refine j_iload C dX11_best_137 5 rfl ?_
                                refine j_iload_n C dX11_best_139 rfl 1 rfl ?_
                                refine j_icmp_ge (tgt := 168) C dX11_best_140 (by decide) (nI_leI (by omega) (by omega)) (fun h140 => ?_) (fun h140 => ?_)
                                · have lb168 : ∀ (σ5 : HS) (M5 : MM) (F5 : Nat → Nat) (b5 : Nat), (MR Λ σ5 M5) → (MBd M5) → (BE M M5) → (∀ k, k < q → M5 41 k = hs M k) → (M5 38 = asg M A 38) → (Same nMo σ σ5) → (∀ k, k < q → M5 42 k = F5 k) → (FM M (M 31 10) q (nm (M 31 10) A q + 1) b5 F5) → J p l e ({ frames := 24, cells := 0, slots := 0, locals := 360 }) s m ([.ref (gA Λ 31 0)] : List Value).toArray below meth c 8 D cy base (MQ below (va_Ql (fun v u => Same nMo σ u ∧ ∃ b F M2, v = zL ((b : Nat) : Int) ∧ FM M (M 31 10) (hcN M) (M 31 10 ^ hcN M) b F ∧ MR Λ u M2 ∧ MBd M2 ∧ (∀ t, t ≠ 41 → t ≠ 42 → M2 t = asg M F t)) (Wd D cy base Λ) (Ab base)) ([.ref (gA Λ 31 0)] : List Value).toArray s 0 0 (Ab base)) 0 0 Λ 168 [(0, .ref (gA Λ 31 0)), (1, .int (nI q)), (2, .long (zL ((b5 : Nat) : Int))), (4, .int (nI g))] [] σ5 := by
                                    intro σ5 M5 F5 b5 hM5 hB5 he5 hf5 h385 hs5 hbr5 hFM5
                                    refine j_iload_n C dX11_best_168 rfl 1 rfl ?_
                                    refine j_iconst C (nI 1) dX11_best_169 (by decide) ?_
                                    refine j_isub C (nI q - 1) dX11_best_170 rfl ?_
                                    refine j_istore C [(7, .int (nI q - 1)), (0, .ref (gA Λ 31 0)), (1, .int (nI q)), (2, .long (zL ((b5 : Nat) : Int))), (4, .int (nI g))] dX11_best_171 (by decide) rfl ?_
                                    have lb173 : ∀ (fu : Nat) (σ6 : HS) (M6 : MM) (x : Nat), x < fu → (x ≤ q) → (∀ j, x ≤ j → j < q → A j = M 31 10 - 1) → (MR Λ σ6 M6) → (MBd M6) → (BE M M6) → (∀ k, k < q → M6 41 k = hs M k) → (M6 38 = asg M (zA A x) 38) → (Same nMo σ σ6) → (∀ k, k < q → M6 42 k = F5 k) → J p l e ({ frames := 24, cells := 0, slots := 0, locals := 360 }) s m ([.ref (gA Λ 31 0)] : List Value).toArray below meth c 8 D cy base (MQ below (va_Ql (fun v u => Same nMo σ u ∧ ∃ b F M2, v = zL ((b : Nat) : Int) ∧ FM M (M 31 10) (hcN M) (M 31 10 ^ hcN M) b F ∧ MR Λ u M2 ∧ MBd M2 ∧ (∀ t, t ≠ 41 → t ≠ 42 → M2 t = asg M F t)) (Wd D cy base Λ) (Ab base)) ([.ref (gA Λ 31 0)] : List Value).toArray s 0 0 (Ab base)) 0 0 Λ 173 [(0, .ref (gA Λ 31 0)), (1, .int (nI q)), (2, .long (zL ((b5 : Nat) : Int))), (4, .int (nI g)), (7, .int (nI x - 1))] [] σ6 := by
                                      intro fu
                                      induction fu with
                                      | zero => intro σ6 M6 x hfu; exact absurd hfu (Nat.not_lt_zero _)
                                      | succ fu ih =>
                                        intro σ6 M6 x hfu hx hfl hM6 hB6 he6 hf6 h386 hs6 hbr6
                                        have ih173 := ih
                                        refine j_iload C dX11_best_173 4 rfl ?_
                                        refine j_if_lt (tgt := 218) C dX11_best_175 (by decide) (m1_lt (by omega)) (fun h175 => ?_) (fun h175 => ?_)
                                        · refine j_iload C dX11_best_218 4 rfl ?_
                                          refine j_if_lt (tgt := 227) C dX11_best_220 (by decide) (m1_lt (by omega)) (fun h220 => ?_) (fun h220 => ?_)
                                          · skip
                                            · refine j_iconst C (nI 0) dX11_best_227 (by decide) ?_
                                              refine j_istore C [(4, .int (nI 0)), (0, .ref (gA Λ 31 0)), (1, .int (nI q)), (2, .long (zL ((b5 : Nat) : Int))), (7, .int (nI x - 1))] dX11_best_228 (by decide) rfl ?_
                                              refine j_iload C dX11_best_230 0 rfl ?_
                                              refine j_if_eq (tgt := 251) C (P := True) dX11_best_232 (by decide) (by decide) (fun z => ?_) (fun z => ?_)
                                              · refine j_goto (tgt := 107) C dX11_best_251 (by decide) ?_
                                                refine j_lv [1, 2, 3, 0] rfl ?_
                                                exact ih107 σ6 M6 (zA A x) F5 (b5 : Int) 0 0 (by omega) hM6 hB6 he6 hf6 h386 hs6 (fun k hk => by unfold zA; rw [if_neg (by omega)]; show (0 : Nat) < _; omega) (fun _ => hbr6) (Or.inr ⟨rfl, b5, rfl, by have q9 := hFM5; rw [odo_last (by omega) (fun j hj => hfl j (by omega) hj)] at q9; exact q9⟩)
                                              · exact absurd trivial z
                                          · omega
                                        · obtain ⟨y, hxy⟩ : ∃ y, x = y + 1 := ⟨x - 1, by omega⟩
                                          · rw [hxy, nI_pred]
                                            have hAy : A y < M 31 10 := hv3 y (by omega)
                                            have hhy := hs_lt (M := M) (k := y) (by omega)
                                            have h38y : M6 38 = asg M (zA A (y + 1)) 38 := by rw [← hxy]; exact h386
                                            refine j_aload_n C dX11_best_178 rfl 0 rfl ?_
                                            refine j_getV C hwX11 31 0 12 (MR.in0 hM6 (by decide) (by decide)) rfl rfl (by decide) rfl 0 (hM6.2.2.2 12 rfl) hL40 dX11_best_179 ?_
                                            refine j_aload_n C dX11_best_182 rfl 0 rfl ?_
                                            refine j_getV C hwX11 31 0 15 (MR.in0 hM6 (by decide) (by decide)) rfl rfl (by decide) rfl 0 (hM6.2.2.2 15 rfl) hL49 dX11_best_183 ?_
                                            refine j_iload C dX11_best_186 4 rfl ?_
                                            refine j_iald C 41 0 y (MR.in0 hM6 (by decide) (by decide)) rfl rfl 9 (hM6.2.2.1 41 (by decide) (by decide)) (by omega) (by omega) (nI (hs M y)) ((hM6.1 41 y (decide_eq_true (show y < 9 by omega))).trans (congrArg (menc 41) (hf6 _ (by omega)))) dX11_best_188 ?_
                                            refine j_iald C 38 0 (hs M y) (MR.in0 hM6 (by decide) (by decide)) rfl rfl 40 (hM6.2.2.1 38 (by decide) (by decide)) (by omega) (by omega) (nI (A y)) ((hM6.1 38 (hs M y) (decide_eq_true (show hs M y < 40 by omega))).trans (congrArg (menc 38) ((asg_at h386 (by omega)).trans (if_pos (by omega))))) dX11_best_189 ?_
                                            refine j_aload_n C dX11_best_190 rfl 0 rfl ?_
                                            refine j_getI C hwX11 31 0 10 (MR.in0 hM6 (by decide) (by decide)) rfl rfl (by decide) rfl (nI (M 31 10)) ((hM6.1 31 10 rfl).trans (congrArg (menc 31) (congrFun (he6 31 (by decide) (by decide) (by decide)) _))) hL33 dX11_best_191 ?_
                                            refine j_iconst C (nI 1) dX11_best_194 (by decide) ?_
                                            refine j_isub C (nI (M 31 10 - 1)) dX11_best_195 (nI_sub1 hR1) ?_
                                            refine j_icmp_ne (tgt := 218) C dX11_best_196 (by decide) (nI_eq (by omega) (by omega)) (fun h196 => ?_) (fun h196 => ?_)
                                            · refine j_iload C dX11_best_218 4 rfl ?_
                                              refine j_if_lt (tgt := 227) C dX11_best_220 (by decide) (nJ_lt0 (by omega)) (fun h220 => ?_) (fun h220 => ?_)
                                              · first | omega | exact h220.elim
                                              · skip
                                                · refine j_iconst C (nI 1) dX11_best_223 (by decide) ?_
                                                  refine j_goto (tgt := 228) C dX11_best_224 (by decide) ?_
                                                  refine j_istore C [(4, .int (nI 1)), (0, .ref (gA Λ 31 0)), (1, .int (nI q)), (2, .long (zL ((b5 : Nat) : Int))), (7, .int (nI y))] dX11_best_228 (by decide) rfl ?_
                                                  refine j_iload C dX11_best_230 0 rfl ?_
                                                  refine j_if_eq (tgt := 251) C (P := False) dX11_best_232 (by decide) (by decide) (fun z => ?_) (fun z => ?_)
                                                  · exact z.elim
                                                  · have hnx := odo_next (R := M 31 10) (A := A) (y := y) (m := q) hR1 (by omega) (fun j h1 h2 => hfl j (by omega) h2)
                                                    have hnl2 := nm_lt (vA_next hv3 (show y < q by omega) h196)
                                                    refine j_aload_n C dX11_best_235 rfl 1 rfl ?_
                                                    refine j_getV C hwX11 31 0 12 (MR.in0 hM6 (by decide) (by decide)) rfl rfl (by decide) rfl 0 (hM6.2.2.2 12 rfl) hL40 dX11_best_236 ?_
                                                    refine j_aload_n C dX11_best_239 rfl 1 rfl ?_
                                                    refine j_getV C hwX11 31 0 15 (MR.in0 hM6 (by decide) (by decide)) rfl rfl (by decide) rfl 0 (hM6.2.2.2 15 rfl) hL49 dX11_best_240 ?_
                                                    refine j_iload C dX11_best_243 4 rfl ?_
                                                    refine j_iald C 41 0 y (MR.in0 hM6 (by decide) (by decide)) rfl rfl 9 (hM6.2.2.1 41 (by decide) (by decide)) (by omega) (by omega) (nI (hs M y)) ((hM6.1 41 y (decide_eq_true (show y < 9 by omega))).trans (congrArg (menc 41) (hf6 _ (by omega)))) dX11_best_245 ?_
                                                    refine j_dup2 C dX11_best_246 rfl rfl ?_
                                                    refine j_iald C 38 0 (hs M y) (MR.in0 hM6 (by decide) (by decide)) rfl rfl 40 (hM6.2.2.1 38 (by decide) (by decide)) (by omega) (by omega) (nI (A y)) ((hM6.1 38 (hs M y) (decide_eq_true (show hs M y < 40 by omega))).trans (congrArg (menc 38) ((asg_at h386 (by omega)).trans (if_pos (by omega))))) dX11_best_247 ?_
                                                    refine j_iconst C (nI 1) dX11_best_248 (by decide) ?_
                                                    refine j_iadd C (nI (A y + 1)) dX11_best_249 (nI_add _ _) ?_
                                                    refine j_iast C 38 0 (hs M y) (MR.in0 hM6 (by decide) (by decide)) rfl rfl 40 (hM6.2.2.1 38 (by decide) (by decide)) (by omega) (by omega) (nI (A y + 1)) rfl dX11_best_250 ?_
                                                    have hM_23 := MR.set (t := 38) (k := (hs M y)) (x := (A y + 1)) (v := (nI (A y + 1))) hM6 rfl
                                                    have hs_24 := Same.sI (t := 38) (i := 0) (k := (hs M y)) (x := (nI (A y + 1))) hs6 (by decide)
                                                    refine j_goto (tgt := 107) C dX11_best_251 (by decide) ?_
                                                    refine j_lv [1, 2, 3, 0] rfl ?_
                                                    exact ih107 (sI σ6 38 0 (hs M y) (nI (A y + 1))) (mS M6 38 (hs M y) (A y + 1)) (nxA A y) F5 (b5 : Int) 1 (w - 1) (by omega) hM_23 (MBd.set hB6 (by have q9 := hv3 y (by omega); show A y + 1 ≤ 5; omega)) (BE.s he6 (Or.inl rfl)) (fun k hk => by rw [mS_ne (Or.inl (by decide))]; exact hf6 k hk) (row_n h38y (by omega)) hs_24 (vA_next hv3 (by omega) h196) (fun _ k hk => by rw [mS_ne (Or.inl (by decide))]; exact hbr6 k hk) (Or.inl ⟨rfl, by rw [hnx]; omega, Or.inr ⟨by rw [hnx]; omega, b5, rfl, by rw [hnx]; exact hFM5⟩⟩)
                                            · refine j_aload_n C dX11_best_199 rfl 0 rfl ?_
                                              refine j_getV C hwX11 31 0 12 (MR.in0 hM6 (by decide) (by decide)) rfl rfl (by decide) rfl 0 (hM6.2.2.2 12 rfl) hL40 dX11_best_200 ?_
                                              refine j_aload_n C dX11_best_203 rfl 0 rfl ?_
                                              refine j_getV C hwX11 31 0 15 (MR.in0 hM6 (by decide) (by decide)) rfl rfl (by decide) rfl 0 (hM6.2.2.2 15 rfl) hL49 dX11_best_204 ?_
                                              refine j_iload C dX11_best_207 4 rfl ?_
                                              refine j_iald C 41 0 y (MR.in0 hM6 (by decide) (by decide)) rfl rfl 9 (hM6.2.2.1 41 (by decide) (by decide)) (by omega) (by omega) (nI (hs M y)) ((hM6.1 41 y (decide_eq_true (show y < 9 by omega))).trans (congrArg (menc 41) (hf6 _ (by omega)))) dX11_best_209 ?_
                                              refine j_iconst C (nI 0) dX11_best_210 (by decide) ?_
                                              refine j_iast C 38 0 (hs M y) (MR.in0 hM6 (by decide) (by decide)) rfl rfl 40 (hM6.2.2.1 38 (by decide) (by decide)) (by omega) (by omega) (nI 0) rfl dX11_best_211 ?_
                                              have hM_25 := MR.set (t := 38) (k := (hs M y)) (x := 0) (v := (nI 0)) hM6 rfl
                                              have hs_26 := Same.sI (t := 38) (i := 0) (k := (hs M y)) (x := (nI 0)) hs6 (by decide)
                                              refine j_iinc C [(7, .int (nI y - 1)), (0, .ref (gA Λ 31 0)), (1, .int (nI q)), (2, .long (zL ((b5 : Nat) : Int))), (4, .int (nI g))] (nI y - 1) dX11_best_212 4 rfl (nI_m1 y) (by decide) rfl ?_
                                              refine j_goto (tgt := 173) C dX11_best_215 (by decide) ?_
                                              refine j_lv [1, 2, 3, 4, 0] rfl ?_
                                              exact ih173 (sI σ6 38 0 (hs M y) (nI 0)) (mS M6 38 (hs M y) 0) y (by omega) (by omega) (fun j h1 h2 => by by_cases e9 : j = y; rw [e9]; exact h196; exact hfl j (by omega) h2) hM_25 (MBd.set hB6 (Nat.zero_le _)) (BE.s he6 (Or.inl rfl)) (fun k hk => by rw [mS_ne (Or.inl (by decide))]; exact hf6 k hk) (row_z h38y (by omega)) hs_26 (fun k hk => by rw [mS_ne (Or.inl (by decide))]; exact hbr6 k hk)
                                    refine j_lv [1, 2, 3, 4, 0] rfl ?_
                                    exact lb173 _ σ5 M5 q (Nat.lt_succ_self _) (by omega) (fun j h1 h2 => absurd h1 (by omega)) hM5 hB5 he5 hf5 (by rw [h385]; exact zA_q hcq) hs5 hbr5
                                  refine j_lv [0, 1, 2, 3] rfl ?_
                                  exact lb168 σ4 M4 A (fb_sm (padd M A) q) hM4 hB4 he4 hf4 h384 hs4 (fun k hk => hb4 k (by omega)) (FM.first hv3 hz0)
                                · have hhj := hs_lt (M := M) (k := j) (by omega)
                                  have hAj : A j < M 31 10 := hv3 j (by omega)
                                  refine j_aload_n C dX11_best_143 rfl 0 rfl ?_
                                  refine j_getV C hwX11 31 0 16 (MR.in0 hM4 (by decide) (by decide)) rfl rfl (by decide) rfl 0 (hM4.2.2.2 16 rfl) hL52 dX11_best_144 ?_
                                  refine j_iload C dX11_best_147 5 rfl ?_
                                  refine j_aload_n C dX11_best_149 rfl 0 rfl ?_
                                  refine j_getV C hwX11 31 0 12 (MR.in0 hM4 (by decide) (by decide)) rfl rfl (by decide) rfl 0 (hM4.2.2.2 12 rfl) hL40 dX11_best_150 ?_
                                  refine j_aload_n C dX11_best_153 rfl 0 rfl ?_
                                  refine j_getV C hwX11 31 0 15 (MR.in0 hM4 (by decide) (by decide)) rfl rfl (by decide) rfl 0 (hM4.2.2.2 15 rfl) hL49 dX11_best_154 ?_
                                  refine j_iload C dX11_best_157 5 rfl ?_
                                  refine j_iald C 41 0 j (MR.in0 hM4 (by decide) (by decide)) rfl rfl 9 (hM4.2.2.1 41 (by decide) (by decide)) (by omega) (by omega) (nI (hs M j)) ((hM4.1 41 j (decide_eq_true (show j < 9 by omega))).trans (congrArg (menc 41) (hf4 _ (by omega)))) dX11_best_159 ?_
                                  refine j_iald C 38 0 (hs M j) (MR.in0 hM4 (by decide) (by decide)) rfl rfl 40 (hM4.2.2.1 38 (by decide) (by decide)) (by omega) (by omega) (nI (A j)) ((hM4.1 38 (hs M j) (decide_eq_true (show hs M j < 40 by omega))).trans (congrArg (menc 38) (asg_at h384 (by omega)))) dX11_best_160 ?_
                                  refine j_iast C 42 0 j (MR.in0 hM4 (by decide) (by decide)) rfl rfl 9 (hM4.2.2.1 42 (by decide) (by decide)) (by omega) (by omega) (nI (A j)) rfl dX11_best_161 ?_
                                  have hM_27 := MR.set (t := 42) (k := j) (x := (A j)) (v := (nI (A j))) hM4 rfl
                                  have hs_28 := Same.sI (t := 42) (i := 0) (k := j) (x := (nI (A j))) hs4 (by decide)
                                  refine j_iinc C [(7, .int (nI (j + 1))), (0, .ref (gA Λ 31 0)), (1, .int (nI q)), (2, .long (zL ((fb_sm (padd M A) q : Nat) : Int))), (4, .int (nI g)), (5, .long (zL ((fb_sm (padd M A) q : Nat) : Int)))] (nI (j + 1)) dX11_best_162 5 rfl (nI_add _ 1) (by decide) rfl ?_
                                  refine j_goto (tgt := 137) C dX11_best_165 (by decide) ?_
                                  refine j_lv [1, 2, 3, 4, 5, 0] rfl ?_
                                  exact ih137 (sI σ4 42 0 j (nI (A j))) (mS M4 42 j (A j)) (j + 1) (by omega) (by omega) hM_27 (MBd.set hB4 (by have q9 := hv3 j (by omega); show A j ≤ 5; omega)) (BE.s he4 (Or.inr (Or.inr rfl))) (fun k hk => by rw [mS_ne (Or.inl (by decide))]; exact hf4 k hk) ((mS_nk (by decide)).trans h384) hs_28 (fun k hk => by by_cases e9 : k = j; rw [e9, mS_same]; rw [mS_ne (Or.inr e9)]; exact hb4 k (by omega))
                            refine j_lv [3, 4, 1, 5, 2, 0] rfl ?_
                            exact lb137 _ σ3 M3 0 (Nat.lt_succ_self _) (by omega) hM3 hB3 he3 hf3 h383 hs3 (fun k hk => absurd hk (Nat.not_lt_zero _))
                        · omega
                      · have hbs : b ≤ 3600000000 := FM.small (R := M 31 10) (K := nm (M 31 10) A q) (F := F) hB hm9 (by rw [hcq]; exact hFM) hz1
                        refine j_lload_n C dX11_best_118 rfl 3 rfl ?_
                        refine j_lconst C (zL 0) dX11_best_119 (by decide) ?_
                        refine j_lcmp_lt (tgt := 131) C dX11_best_120 dX11_best_121 (by decide) (zL_lt (by omega) (by omega) (by omega) (by omega)) (fun h120 => ?_) (fun h120 => ?_)
                        · omega
                        · skip
                          · refine j_lload C dX11_best_124 0 rfl ?_
                            refine j_lload_n C dX11_best_126 rfl 3 rfl ?_
                            refine j_lcmp_ge (tgt := 168) C dX11_best_127 dX11_best_128 (by decide) (zL_le (by omega) (by omega) (by omega) (by omega)) (fun h127 => ?_) (fun h127 => ?_)
                            · have lb168 : ∀ (σ5 : HS) (M5 : MM) (F5 : Nat → Nat) (b5 : Nat), (MR Λ σ5 M5) → (MBd M5) → (BE M M5) → (∀ k, k < q → M5 41 k = hs M k) → (M5 38 = asg M A 38) → (Same nMo σ σ5) → (∀ k, k < q → M5 42 k = F5 k) → (FM M (M 31 10) q (nm (M 31 10) A q + 1) b5 F5) → J p l e ({ frames := 24, cells := 0, slots := 0, locals := 360 }) s m ([.ref (gA Λ 31 0)] : List Value).toArray below meth c 8 D cy base (MQ below (va_Ql (fun v u => Same nMo σ u ∧ ∃ b F M2, v = zL ((b : Nat) : Int) ∧ FM M (M 31 10) (hcN M) (M 31 10 ^ hcN M) b F ∧ MR Λ u M2 ∧ MBd M2 ∧ (∀ t, t ≠ 41 → t ≠ 42 → M2 t = asg M F t)) (Wd D cy base Λ) (Ab base)) ([.ref (gA Λ 31 0)] : List Value).toArray s 0 0 (Ab base)) 0 0 Λ 168 [(0, .ref (gA Λ 31 0)), (1, .int (nI q)), (2, .long (zL ((b5 : Nat) : Int))), (4, .int (nI g))] [] σ5 := by
                                intro σ5 M5 F5 b5 hM5 hB5 he5 hf5 h385 hs5 hbr5 hFM5
                                refine j_iload_n C dX11_best_168 rfl 1 rfl ?_
                                refine j_iconst C (nI 1) dX11_best_169 (by decide) ?_
                                refine j_isub C (nI q - 1) dX11_best_170 rfl ?_
                                refine j_istore C [(7, .int (nI q - 1)), (0, .ref (gA Λ 31 0)), (1, .int (nI q)), (2, .long (zL ((b5 : Nat) : Int))), (4, .int (nI g))] dX11_best_171 (by decide) rfl ?_
                                have lb173 : ∀ (fu : Nat) (σ6 : HS) (M6 : MM) (x : Nat), x < fu → (x ≤ q) → (∀ j, x ≤ j → j < q → A j = M 31 10 - 1) → (MR Λ σ6 M6) → (MBd M6) → (BE M M6) → (∀ k, k < q → M6 41 k = hs M k) → (M6 38 = asg M (zA A x) 38) → (Same nMo σ σ6) → (∀ k, k < q → M6 42 k = F5 k) → J p l e ({ frames := 24, cells := 0, slots := 0, locals := 360 }) s m ([.ref (gA Λ 31 0)] : List Value).toArray below meth c 8 D cy base (MQ below (va_Ql (fun v u => Same nMo σ u ∧ ∃ b F M2, v = zL ((b : Nat) : Int) ∧ FM M (M 31 10) (hcN M) (M 31 10 ^ hcN M) b F ∧ MR Λ u M2 ∧ MBd M2 ∧ (∀ t, t ≠ 41 → t ≠ 42 → M2 t = asg M F t)) (Wd D cy base Λ) (Ab base)) ([.ref (gA Λ 31 0)] : List Value).toArray s 0 0 (Ab base)) 0 0 Λ 173 [(0, .ref (gA Λ 31 0)), (1, .int (nI q)), (2, .long (zL ((b5 : Nat) : Int))), (4, .int (nI g)), (7, .int (nI x - 1))] [] σ6 := by
                                  intro fu
                                  induction fu with
                                  | zero => intro σ6 M6 x hfu; exact absurd hfu (Nat.not_lt_zero _)
                                  | succ fu ih =>
                                    intro σ6 M6 x hfu hx hfl hM6 hB6 he6 hf6 h386 hs6 hbr6
                                    have ih173 := ih
                                    refine j_iload C dX11_best_173 4 rfl ?_
                                    refine j_if_lt (tgt := 218) C dX11_best_175 (by decide) (m1_lt (by omega)) (fun h175 => ?_) (fun h175 => ?_)
                                    · refine j_iload C dX11_best_218 4 rfl ?_
                                      refine j_if_lt (tgt := 227) C dX11_best_220 (by decide) (m1_lt (by omega)) (fun h220 => ?_) (fun h220 => ?_)
                                      · skip
                                        · refine j_iconst C (nI 0) dX11_best_227 (by decide) ?_
                                          refine j_istore C [(4, .int (nI 0)), (0, .ref (gA Λ 31 0)), (1, .int (nI q)), (2, .long (zL ((b5 : Nat) : Int))), (7, .int (nI x - 1))] dX11_best_228 (by decide) rfl ?_
                                          refine j_iload C dX11_best_230 0 rfl ?_
                                          refine j_if_eq (tgt := 251) C (P := True) dX11_best_232 (by decide) (by decide) (fun z => ?_) (fun z => ?_)
                                          · refine j_goto (tgt := 107) C dX11_best_251 (by decide) ?_
                                            refine j_lv [1, 2, 3, 0] rfl ?_
                                            exact ih107 σ6 M6 (zA A x) F5 (b5 : Int) 0 0 (by omega) hM6 hB6 he6 hf6 h386 hs6 (fun k hk => by unfold zA; rw [if_neg (by omega)]; show (0 : Nat) < _; omega) (fun _ => hbr6) (Or.inr ⟨rfl, b5, rfl, by have q9 := hFM5; rw [odo_last (by omega) (fun j hj => hfl j (by omega) hj)] at q9; exact q9⟩)
                                          · exact absurd trivial z
                                      · omega
                                    · obtain ⟨y, hxy⟩ : ∃ y, x = y + 1 := ⟨x - 1, by omega⟩
                                      · rw [hxy, nI_pred]
                                        have hAy : A y < M 31 10 := hv3 y (by omega)
                                        have hhy := hs_lt (M := M) (k := y) (by omega)
                                        have h38y : M6 38 = asg M (zA A (y + 1)) 38 := by rw [← hxy]; exact h386
                                        refine j_aload_n C dX11_best_178 rfl 0 rfl ?_
                                        refine j_getV C hwX11 31 0 12 (MR.in0 hM6 (by decide) (by decide)) rfl rfl (by decide) rfl 0 (hM6.2.2.2 12 rfl) hL40 dX11_best_179 ?_
                                        refine j_aload_n C dX11_best_182 rfl 0 rfl ?_
                                        refine j_getV C hwX11 31 0 15 (MR.in0 hM6 (by decide) (by decide)) rfl rfl (by decide) rfl 0 (hM6.2.2.2 15 rfl) hL49 dX11_best_183 ?_
                                        refine j_iload C dX11_best_186 4 rfl ?_
                                        refine j_iald C 41 0 y (MR.in0 hM6 (by decide) (by decide)) rfl rfl 9 (hM6.2.2.1 41 (by decide) (by decide)) (by omega) (by omega) (nI (hs M y)) ((hM6.1 41 y (decide_eq_true (show y < 9 by omega))).trans (congrArg (menc 41) (hf6 _ (by omega)))) dX11_best_188 ?_
                                        refine j_iald C 38 0 (hs M y) (MR.in0 hM6 (by decide) (by decide)) rfl rfl 40 (hM6.2.2.1 38 (by decide) (by decide)) (by omega) (by omega) (nI (A y)) ((hM6.1 38 (hs M y) (decide_eq_true (show hs M y < 40 by omega))).trans (congrArg (menc 38) ((asg_at h386 (by omega)).trans (if_pos (by omega))))) dX11_best_189 ?_
                                        refine j_aload_n C dX11_best_190 rfl 0 rfl ?_
                                        refine j_getI C hwX11 31 0 10 (MR.in0 hM6 (by decide) (by decide)) rfl rfl (by decide) rfl (nI (M 31 10)) ((hM6.1 31 10 rfl).trans (congrArg (menc 31) (congrFun (he6 31 (by decide) (by decide) (by decide)) _))) hL33 dX11_best_191 ?_
                                        refine j_iconst C (nI 1) dX11_best_194 (by decide) ?_
                                        refine j_isub C (nI (M 31 10 - 1)) dX11_best_195 (nI_sub1 hR1) ?_
                                        refine j_icmp_ne (tgt := 218) C dX11_best_196 (by decide) (nI_eq (by omega) (by omega)) (fun h196 => ?_) (fun h196 => ?_)
                                        · refine j_iload C dX11_best_218 4 rfl ?_
                                          refine j_if_lt (tgt := 227) C dX11_best_220 (by decide) (nJ_lt0 (by omega)) (fun h220 => ?_) (fun h220 => ?_)
                                          · first | omega | exact h220.elim
                                          · skip
                                            · refine j_iconst C (nI 1) dX11_best_223 (by decide) ?_
                                              refine j_goto (tgt := 228) C dX11_best_224 (by decide) ?_
                                              refine j_istore C [(4, .int (nI 1)), (0, .ref (gA Λ 31 0)), (1, .int (nI q)), (2, .long (zL ((b5 : Nat) : Int))), (7, .int (nI y))] dX11_best_228 (by decide) rfl ?_
                                              refine j_iload C dX11_best_230 0 rfl ?_
                                              refine j_if_eq (tgt := 251) C (P := False) dX11_best_232 (by decide) (by decide) (fun z => ?_) (fun z => ?_)
                                              · exact z.elim
                                              · have hnx := odo_next (R := M 31 10) (A := A) (y := y) (m := q) hR1 (by omega) (fun j h1 h2 => hfl j (by omega) h2)
                                                have hnl2 := nm_lt (vA_next hv3 (show y < q by omega) h196)
                                                refine j_aload_n C dX11_best_235 rfl 1 rfl ?_
                                                refine j_getV C hwX11 31 0 12 (MR.in0 hM6 (by decide) (by decide)) rfl rfl (by decide) rfl 0 (hM6.2.2.2 12 rfl) hL40 dX11_best_236 ?_
                                                refine j_aload_n C dX11_best_239 rfl 1 rfl ?_
                                                refine j_getV C hwX11 31 0 15 (MR.in0 hM6 (by decide) (by decide)) rfl rfl (by decide) rfl 0 (hM6.2.2.2 15 rfl) hL49 dX11_best_240 ?_
                                                refine j_iload C dX11_best_243 4 rfl ?_
                                                refine j_iald C 41 0 y (MR.in0 hM6 (by decide) (by decide)) rfl rfl 9 (hM6.2.2.1 41 (by decide) (by decide)) (by omega) (by omega) (nI (hs M y)) ((hM6.1 41 y (decide_eq_true (show y < 9 by omega))).trans (congrArg (menc 41) (hf6 _ (by omega)))) dX11_best_245 ?_
                                                refine j_dup2 C dX11_best_246 rfl rfl ?_
                                                refine j_iald C 38 0 (hs M y) (MR.in0 hM6 (by decide) (by decide)) rfl rfl 40 (hM6.2.2.1 38 (by decide) (by decide)) (by omega) (by omega) (nI (A y)) ((hM6.1 38 (hs M y) (decide_eq_true (show hs M y < 40 by omega))).trans (congrArg (menc 38) ((asg_at h386 (by omega)).trans (if_pos (by omega))))) dX11_best_247 ?_
                                                refine j_iconst C (nI 1) dX11_best_248 (by decide) ?_
                                                refine j_iadd C (nI (A y + 1)) dX11_best_249 (nI_add _ _) ?_
                                                refine j_iast C 38 0 (hs M y) (MR.in0 hM6 (by decide) (by decide)) rfl rfl 40 (hM6.2.2.1 38 (by decide) (by decide)) (by omega) (by omega) (nI (A y + 1)) rfl dX11_best_250 ?_
                                                have hM_39 := MR.set (t := 38) (k := (hs M y)) (x := (A y + 1)) (v := (nI (A y + 1))) hM6 rfl
                                                have hs_40 := Same.sI (t := 38) (i := 0) (k := (hs M y)) (x := (nI (A y + 1))) hs6 (by decide)
                                                refine j_goto (tgt := 107) C dX11_best_251 (by decide) ?_
                                                refine j_lv [1, 2, 3, 0] rfl ?_
                                                exact ih107 (sI σ6 38 0 (hs M y) (nI (A y + 1))) (mS M6 38 (hs M y) (A y + 1)) (nxA A y) F5 (b5 : Int) 1 (w - 1) (by omega) hM_39 (MBd.set hB6 (by have q9 := hv3 y (by omega); show A y + 1 ≤ 5; omega)) (BE.s he6 (Or.inl rfl)) (fun k hk => by rw [mS_ne (Or.inl (by decide))]; exact hf6 k hk) (row_n h38y (by omega)) hs_40 (vA_next hv3 (by omega) h196) (fun _ k hk => by rw [mS_ne (Or.inl (by decide))]; exact hbr6 k hk) (Or.inl ⟨rfl, by rw [hnx]; omega, Or.inr ⟨by rw [hnx]; omega, b5, rfl, by rw [hnx]; exact hFM5⟩⟩)
                                        · refine j_aload_n C dX11_best_199 rfl 0 rfl ?_
                                          refine j_getV C hwX11 31 0 12 (MR.in0 hM6 (by decide) (by decide)) rfl rfl (by decide) rfl 0 (hM6.2.2.2 12 rfl) hL40 dX11_best_200 ?_
                                          refine j_aload_n C dX11_best_203 rfl 0 rfl ?_
                                          refine j_getV C hwX11 31 0 15 (MR.in0 hM6 (by decide) (by decide)) rfl rfl (by decide) rfl 0 (hM6.2.2.2 15 rfl) hL49 dX11_best_204 ?_
                                          refine j_iload C dX11_best_207 4 rfl ?_
                                          refine j_iald C 41 0 y (MR.in0 hM6 (by decide) (by decide)) rfl rfl 9 (hM6.2.2.1 41 (by decide) (by decide)) (by omega) (by omega) (nI (hs M y)) ((hM6.1 41 y (decide_eq_true (show y < 9 by omega))).trans (congrArg (menc 41) (hf6 _ (by omega)))) dX11_best_209 ?_
                                          refine j_iconst C (nI 0) dX11_best_210 (by decide) ?_
                                          refine j_iast C 38 0 (hs M y) (MR.in0 hM6 (by decide) (by decide)) rfl rfl 40 (hM6.2.2.1 38 (by decide) (by decide)) (by omega) (by omega) (nI 0) rfl dX11_best_211 ?_
                                          have hM_41 := MR.set (t := 38) (k := (hs M y)) (x := 0) (v := (nI 0)) hM6 rfl
                                          have hs_42 := Same.sI (t := 38) (i := 0) (k := (hs M y)) (x := (nI 0)) hs6 (by decide)
                                          refine j_iinc C [(7, .int (nI y - 1)), (0, .ref (gA Λ 31 0)), (1, .int (nI q)), (2, .long (zL ((b5 : Nat) : Int))), (4, .int (nI g))] (nI y - 1) dX11_best_212 4 rfl (nI_m1 y) (by decide) rfl ?_
                                          refine j_goto (tgt := 173) C dX11_best_215 (by decide) ?_
                                          refine j_lv [1, 2, 3, 4, 0] rfl ?_
                                          exact ih173 (sI σ6 38 0 (hs M y) (nI 0)) (mS M6 38 (hs M y) 0) y (by omega) (by omega) (fun j h1 h2 => by by_cases e9 : j = y; rw [e9]; exact h196; exact hfl j (by omega) h2) hM_41 (MBd.set hB6 (Nat.zero_le _)) (BE.s he6 (Or.inl rfl)) (fun k hk => by rw [mS_ne (Or.inl (by decide))]; exact hf6 k hk) (row_z h38y (by omega)) hs_42 (fun k hk => by rw [mS_ne (Or.inl (by decide))]; exact hbr6 k hk)
                                refine j_lv [1, 2, 3, 4, 0] rfl ?_
                                exact lb173 _ σ5 M5 q (Nat.lt_succ_self _) (by omega) (fun j h1 h2 => absurd h1 (by omega)) hM5 hB5 he5 hf5 (by rw [h385]; exact zA_q hcq) hs5 hbr5
                              refine j_lv [1, 2, 3, 4] rfl ?_
                              exact lb168 σ3 M3 F b hM3 hB3 he3 hf3 h383 hs3 (hbr3 (Or.inl hz1)) (FM.keep hFM hv3 hz1 (by omega))
                            · skip
                              · refine j_lload C dX11_best_131 0 rfl ?_
                                refine j_lstore_n C [(2, .long (zL ((fb_sm (padd M A) q : Nat) : Int))), (5, .long (zL ((fb_sm (padd M A) q : Nat) : Int))), (0, .ref (gA Λ 31 0)), (1, .int (nI q)), (4, .int (nI g))] dX11_best_133 rfl (by decide) rfl ?_
                                refine j_iconst C (nI 0) dX11_best_134 (by decide) ?_
                                refine j_istore C [(7, .int (nI 0)), (2, .long (zL ((fb_sm (padd M A) q : Nat) : Int))), (5, .long (zL ((fb_sm (padd M A) q : Nat) : Int))), (0, .ref (gA Λ 31 0)), (1, .int (nI q)), (4, .int (nI g))] dX11_best_135 (by decide) rfl ?_
                                have lb137 : ∀ (fu : Nat) (σ4 : HS) (M4 : MM) (j : Nat), (q - j) < fu → (j ≤ q) → (MR Λ σ4 M4) → (MBd M4) → (BE M M4) → (∀ k, k < q → M4 41 k = hs M k) → (M4 38 = asg M A 38) → (Same nMo σ σ4) → (∀ k, k < j → M4 42 k = A k) → J p l e ({ frames := 24, cells := 0, slots := 0, locals := 360 }) s m ([.ref (gA Λ 31 0)] : List Value).toArray below meth c 8 D cy base (MQ below (va_Ql (fun v u => Same nMo σ u ∧ ∃ b F M2, v = zL ((b : Nat) : Int) ∧ FM M (M 31 10) (hcN M) (M 31 10 ^ hcN M) b F ∧ MR Λ u M2 ∧ MBd M2 ∧ (∀ t, t ≠ 41 → t ≠ 42 → M2 t = asg M F t)) (Wd D cy base Λ) (Ab base)) ([.ref (gA Λ 31 0)] : List Value).toArray s 0 0 (Ab base)) 0 0 Λ 137 [(0, .ref (gA Λ 31 0)), (1, .int (nI q)), (2, .long (zL ((fb_sm (padd M A) q : Nat) : Int))), (4, .int (nI g)), (5, .long (zL ((fb_sm (padd M A) q : Nat) : Int))), (7, .int (nI j))] [] σ4 := by
                                  intro fu
                                  induction fu with
                                  | zero => intro σ4 M4 j hfu; exact absurd hfu (Nat.not_lt_zero _)
                                  | succ fu ih =>
                                    intro σ4 M4 j hfu hj hM4 hB4 he4 hf4 h384 hs4 hb4
                                    have ih137 := ih
                                    refine j_iload C dX11_best_137 5 rfl ?_
                                    refine j_iload_n C dX11_best_139 rfl 1 rfl ?_
                                    refine j_icmp_ge (tgt := 168) C dX11_best_140 (by decide) (nI_leI (by omega) (by omega)) (fun h140 => ?_) (fun h140 => ?_)
                                    · have lb168 : ∀ (σ5 : HS) (M5 : MM) (F5 : Nat → Nat) (b5 : Nat), (MR Λ σ5 M5) → (MBd M5) → (BE M M5) → (∀ k, k < q → M5 41 k = hs M k) → (M5 38 = asg M A 38) → (Same nMo σ σ5) → (∀ k, k < q → M5 42 k = F5 k) → (FM M (M 31 10) q (nm (M 31 10) A q + 1) b5 F5) → J p l e ({ frames := 24, cells := 0, slots := 0, locals := 360 }) s m ([.ref (gA Λ 31 0)] : List Value).toArray below meth c 8 D cy base (MQ below (va_Ql (fun v u => Same nMo σ u ∧ ∃ b F M2, v = zL ((b : Nat) : Int) ∧ FM M (M 31 10) (hcN M) (M 31 10 ^ hcN M) b F ∧ MR Λ u M2 ∧ MBd M2 ∧ (∀ t, t ≠ 41 → t ≠ 42 → M2 t = asg M F t)) (Wd D cy base Λ) (Ab base)) ([.ref (gA Λ 31 0)] : List Value).toArray s 0 0 (Ab base)) 0 0 Λ 168 [(0, .ref (gA Λ 31 0)), (1, .int (nI q)), (2, .long (zL ((b5 : Nat) : Int))), (4, .int (nI g))] [] σ5 := by
                                        intro σ5 M5 F5 b5 hM5 hB5 he5 hf5 h385 hs5 hbr5 hFM5
                                        refine j_iload_n C dX11_best_168 rfl 1 rfl ?_
                                        refine j_iconst C (nI 1) dX11_best_169 (by decide) ?_
                                        refine j_isub C (nI q - 1) dX11_best_170 rfl ?_
                                        refine j_istore C [(7, .int (nI q - 1)), (0, .ref (gA Λ 31 0)), (1, .int (nI q)), (2, .long (zL ((b5 : Nat) : Int))), (4, .int (nI g))] dX11_best_171 (by decide) rfl ?_
                                        have lb173 : ∀ (fu : Nat) (σ6 : HS) (M6 : MM) (x : Nat), x < fu → (x ≤ q) → (∀ j, x ≤ j → j < q → A j = M 31 10 - 1) → (MR Λ σ6 M6) → (MBd M6) → (BE M M6) → (∀ k, k < q → M6 41 k = hs M k) → (M6 38 = asg M (zA A x) 38) → (Same nMo σ σ6) → (∀ k, k < q → M6 42 k = F5 k) → J p l e ({ frames := 24, cells := 0, slots := 0, locals := 360 }) s m ([.ref (gA Λ 31 0)] : List Value).toArray below meth c 8 D cy base (MQ below (va_Ql (fun v u => Same nMo σ u ∧ ∃ b F M2, v = zL ((b : Nat) : Int) ∧ FM M (M 31 10) (hcN M) (M 31 10 ^ hcN M) b F ∧ MR Λ u M2 ∧ MBd M2 ∧ (∀ t, t ≠ 41 → t ≠ 42 → M2 t = asg M F t)) (Wd D cy base Λ) (Ab base)) ([.ref (gA Λ 31 0)] : List Value).toArray s 0 0 (Ab base)) 0 0 Λ 173 [(0, .ref (gA Λ 31 0)), (1, .int (nI q)), (2, .long (zL ((b5 : Nat) : Int))), (4, .int (nI g)), (7, .int (nI x - 1))] [] σ6 := by
                                          intro fu
                                          induction fu with
                                          | zero => intro σ6 M6 x hfu; exact absurd hfu (Nat.not_lt_zero _)
                                          | succ fu ih =>
                                            intro σ6 M6 x hfu hx hfl hM6 hB6 he6 hf6 h386 hs6 hbr6
                                            have ih173 := ih
                                            refine j_iload C dX11_best_173 4 rfl ?_
                                            refine j_if_lt (tgt := 218) C dX11_best_175 (by decide) (m1_lt (by omega)) (fun h175 => ?_) (fun h175 => ?_)
                                            · refine j_iload C dX11_best_218 4 rfl ?_
                                              refine j_if_lt (tgt := 227) C dX11_best_220 (by decide) (m1_lt (by omega)) (fun h220 => ?_) (fun h220 => ?_)
                                              · skip
                                                · refine j_iconst C (nI 0) dX11_best_227 (by decide) ?_
                                                  refine j_istore C [(4, .int (nI 0)), (0, .ref (gA Λ 31 0)), (1, .int (nI q)), (2, .long (zL ((b5 : Nat) : Int))), (7, .int (nI x - 1))] dX11_best_228 (by decide) rfl ?_
                                                  refine j_iload C dX11_best_230 0 rfl ?_
                                                  refine j_if_eq (tgt := 251) C (P := True) dX11_best_232 (by decide) (by decide) (fun z => ?_) (fun z => ?_)
                                                  · refine j_goto (tgt := 107) C dX11_best_251 (by decide) ?_
                                                    refine j_lv [1, 2, 3, 0] rfl ?_
                                                    exact ih107 σ6 M6 (zA A x) F5 (b5 : Int) 0 0 (by omega) hM6 hB6 he6 hf6 h386 hs6 (fun k hk => by unfold zA; rw [if_neg (by omega)]; show (0 : Nat) < _; omega) (fun _ => hbr6) (Or.inr ⟨rfl, b5, rfl, by have q9 := hFM5; rw [odo_last (by omega) (fun j hj => hfl j (by omega) hj)] at q9; exact q9⟩)
                                                  · exact absurd trivial z
                                              · omega
                                            · obtain ⟨y, hxy⟩ : ∃ y, x = y + 1 := ⟨x - 1, by omega⟩
                                              · rw [hxy, nI_pred]
                                                have hAy : A y < M 31 10 := hv3 y (by omega)
                                                have hhy := hs_lt (M := M) (k := y) (by omega)
                                                have h38y : M6 38 = asg M (zA A (y + 1)) 38 := by rw [← hxy]; exact h386
                                                refine j_aload_n C dX11_best_178 rfl 0 rfl ?_
                                                refine j_getV C hwX11 31 0 12 (MR.in0 hM6 (by decide) (by decide)) rfl rfl (by decide) rfl 0 (hM6.2.2.2 12 rfl) hL40 dX11_best_179 ?_
                                                refine j_aload_n C dX11_best_182 rfl 0 rfl ?_
                                                refine j_getV C hwX11 31 0 15 (MR.in0 hM6 (by decide) (by decide)) rfl rfl (by decide) rfl 0 (hM6.2.2.2 15 rfl) hL49 dX11_best_183 ?_
                                                refine j_iload C dX11_best_186 4 rfl ?_
                                                refine j_iald C 41 0 y (MR.in0 hM6 (by decide) (by decide)) rfl rfl 9 (hM6.2.2.1 41 (by decide) (by decide)) (by omega) (by omega) (nI (hs M y)) ((hM6.1 41 y (decide_eq_true (show y < 9 by omega))).trans (congrArg (menc 41) (hf6 _ (by omega)))) dX11_best_188 ?_
                                                refine j_iald C 38 0 (hs M y) (MR.in0 hM6 (by decide) (by decide)) rfl rfl 40 (hM6.2.2.1 38 (by decide) (by decide)) (by omega) (by omega) (nI (A y)) ((hM6.1 38 (hs M y) (decide_eq_true (show hs M y < 40 by omega))).trans (congrArg (menc 38) ((asg_at h386 (by omega)).trans (if_pos (by omega))))) dX11_best_189 ?_
                                                refine j_aload_n C dX11_best_190 rfl 0 rfl ?_
                                                refine j_getI C hwX11 31 0 10 (MR.in0 hM6 (by decide) (by decide)) rfl rfl (by decide) rfl (nI (M 31 10)) ((hM6.1 31 10 rfl).trans (congrArg (menc 31) (congrFun (he6 31 (by decide) (by decide) (by decide)) _))) hL33 dX11_best_191 ?_
                                                refine j_iconst C (nI 1) dX11_best_194 (by decide) ?_
                                                refine j_isub C (nI (M 31 10 - 1)) dX11_best_195 (nI_sub1 hR1) ?_
                                                refine j_icmp_ne (tgt := 218) C dX11_best_196 (by decide) (nI_eq (by omega) (by omega)) (fun h196 => ?_) (fun h196 => ?_)
                                                · refine j_iload C dX11_best_218 4 rfl ?_
                                                  refine j_if_lt (tgt := 227) C dX11_best_220 (by decide) (nJ_lt0 (by omega)) (fun h220 => ?_) (fun h220 => ?_)
                                                  · first | omega | exact h220.elim
                                                  · skip
                                                    · refine j_iconst C (nI 1) dX11_best_223 (by decide) ?_
                                                      refine j_goto (tgt := 228) C dX11_best_224 (by decide) ?_
                                                      refine j_istore C [(4, .int (nI 1)), (0, .ref (gA Λ 31 0)), (1, .int (nI q)), (2, .long (zL ((b5 : Nat) : Int))), (7, .int (nI y))] dX11_best_228 (by decide) rfl ?_
                                                      refine j_iload C dX11_best_230 0 rfl ?_
                                                      refine j_if_eq (tgt := 251) C (P := False) dX11_best_232 (by decide) (by decide) (fun z => ?_) (fun z => ?_)
                                                      · exact z.elim
                                                      · have hnx := odo_next (R := M 31 10) (A := A) (y := y) (m := q) hR1 (by omega) (fun j h1 h2 => hfl j (by omega) h2)
                                                        have hnl2 := nm_lt (vA_next hv3 (show y < q by omega) h196)
                                                        refine j_aload_n C dX11_best_235 rfl 1 rfl ?_
                                                        refine j_getV C hwX11 31 0 12 (MR.in0 hM6 (by decide) (by decide)) rfl rfl (by decide) rfl 0 (hM6.2.2.2 12 rfl) hL40 dX11_best_236 ?_
                                                        refine j_aload_n C dX11_best_239 rfl 1 rfl ?_
                                                        refine j_getV C hwX11 31 0 15 (MR.in0 hM6 (by decide) (by decide)) rfl rfl (by decide) rfl 0 (hM6.2.2.2 15 rfl) hL49 dX11_best_240 ?_
                                                        refine j_iload C dX11_best_243 4 rfl ?_
                                                        refine j_iald C 41 0 y (MR.in0 hM6 (by decide) (by decide)) rfl rfl 9 (hM6.2.2.1 41 (by decide) (by decide)) (by omega) (by omega) (nI (hs M y)) ((hM6.1 41 y (decide_eq_true (show y < 9 by omega))).trans (congrArg (menc 41) (hf6 _ (by omega)))) dX11_best_245 ?_
                                                        refine j_dup2 C dX11_best_246 rfl rfl ?_
                                                        refine j_iald C 38 0 (hs M y) (MR.in0 hM6 (by decide) (by decide)) rfl rfl 40 (hM6.2.2.1 38 (by decide) (by decide)) (by omega) (by omega) (nI (A y)) ((hM6.1 38 (hs M y) (decide_eq_true (show hs M y < 40 by omega))).trans (congrArg (menc 38) ((asg_at h386 (by omega)).trans (if_pos (by omega))))) dX11_best_247 ?_
                                                        refine j_iconst C (nI 1) dX11_best_248 (by decide) ?_
                                                        refine j_iadd C (nI (A y + 1)) dX11_best_249 (nI_add _ _) ?_
                                                        refine j_iast C 38 0 (hs M y) (MR.in0 hM6 (by decide) (by decide)) rfl rfl 40 (hM6.2.2.1 38 (by decide) (by decide)) (by omega) (by omega) (nI (A y + 1)) rfl dX11_best_250 ?_
                                                        have hM_53 := MR.set (t := 38) (k := (hs M y)) (x := (A y + 1)) (v := (nI (A y + 1))) hM6 rfl
                                                        have hs_54 := Same.sI (t := 38) (i := 0) (k := (hs M y)) (x := (nI (A y + 1))) hs6 (by decide)
                                                        refine j_goto (tgt := 107) C dX11_best_251 (by decide) ?_
                                                        refine j_lv [1, 2, 3, 0] rfl ?_
                                                        exact ih107 (sI σ6 38 0 (hs M y) (nI (A y + 1))) (mS M6 38 (hs M y) (A y + 1)) (nxA A y) F5 (b5 : Int) 1 (w - 1) (by omega) hM_53 (MBd.set hB6 (by have q9 := hv3 y (by omega); show A y + 1 ≤ 5; omega)) (BE.s he6 (Or.inl rfl)) (fun k hk => by rw [mS_ne (Or.inl (by decide))]; exact hf6 k hk) (row_n h38y (by omega)) hs_54 (vA_next hv3 (by omega) h196) (fun _ k hk => by rw [mS_ne (Or.inl (by decide))]; exact hbr6 k hk) (Or.inl ⟨rfl, by rw [hnx]; omega, Or.inr ⟨by rw [hnx]; omega, b5, rfl, by rw [hnx]; exact hFM5⟩⟩)
                                                · refine j_aload_n C dX11_best_199 rfl 0 rfl ?_
                                                  refine j_getV C hwX11 31 0 12 (MR.in0 hM6 (by decide) (by decide)) rfl rfl (by decide) rfl 0 (hM6.2.2.2 12 rfl) hL40 dX11_best_200 ?_
                                                  refine j_aload_n C dX11_best_203 rfl 0 rfl ?_
                                                  refine j_getV C hwX11 31 0 15 (MR.in0 hM6 (by decide) (by decide)) rfl rfl (by decide) rfl 0 (hM6.2.2.2 15 rfl) hL49 dX11_best_204 ?_
                                                  refine j_iload C dX11_best_207 4 rfl ?_
                                                  refine j_iald C 41 0 y (MR.in0 hM6 (by decide) (by decide)) rfl rfl 9 (hM6.2.2.1 41 (by decide) (by decide)) (by omega) (by omega) (nI (hs M y)) ((hM6.1 41 y (decide_eq_true (show y < 9 by omega))).trans (congrArg (menc 41) (hf6 _ (by omega)))) dX11_best_209 ?_
                                                  refine j_iconst C (nI 0) dX11_best_210 (by decide) ?_
                                                  refine j_iast C 38 0 (hs M y) (MR.in0 hM6 (by decide) (by decide)) rfl rfl 40 (hM6.2.2.1 38 (by decide) (by decide)) (by omega) (by omega) (nI 0) rfl dX11_best_211 ?_
                                                  have hM_55 := MR.set (t := 38) (k := (hs M y)) (x := 0) (v := (nI 0)) hM6 rfl
                                                  have hs_56 := Same.sI (t := 38) (i := 0) (k := (hs M y)) (x := (nI 0)) hs6 (by decide)
                                                  refine j_iinc C [(7, .int (nI y - 1)), (0, .ref (gA Λ 31 0)), (1, .int (nI q)), (2, .long (zL ((b5 : Nat) : Int))), (4, .int (nI g))] (nI y - 1) dX11_best_212 4 rfl (nI_m1 y) (by decide) rfl ?_
                                                  refine j_goto (tgt := 173) C dX11_best_215 (by decide) ?_
                                                  refine j_lv [1, 2, 3, 4, 0] rfl ?_
                                                  exact ih173 (sI σ6 38 0 (hs M y) (nI 0)) (mS M6 38 (hs M y) 0) y (by omega) (by omega) (fun j h1 h2 => by by_cases e9 : j = y; rw [e9]; exact h196; exact hfl j (by omega) h2) hM_55 (MBd.set hB6 (Nat.zero_le _)) (BE.s he6 (Or.inl rfl)) (fun k hk => by rw [mS_ne (Or.inl (by decide))]; exact hf6 k hk) (row_z h38y (by omega)) hs_56 (fun k hk => by rw [mS_ne (Or.inl (by decide))]; exact hbr6 k hk)
                                        refine j_lv [1, 2, 3, 4, 0] rfl ?_
                                        exact lb173 _ σ5 M5 q (Nat.lt_succ_self _) (by omega) (fun j h1 h2 => absurd h1 (by omega)) hM5 hB5 he5 hf5 (by rw [h385]; exact zA_q hcq) hs5 hbr5
                                      refine j_lv [0, 1, 2, 3] rfl ?_
                                      exact lb168 σ4 M4 A (fb_sm (padd M A) q) hM4 hB4 he4 hf4 h384 hs4 (fun k hk => hb4 k (by omega)) (FM.leaf hFM hv3 (by omega))
                                    · have hhj := hs_lt (M := M) (k := j) (by omega)
                                      have hAj : A j < M 31 10 := hv3 j (by omega)
                                      refine j_aload_n C dX11_best_143 rfl 0 rfl ?_
                                      refine j_getV C hwX11 31 0 16 (MR.in0 hM4 (by decide) (by decide)) rfl rfl (by decide) rfl 0 (hM4.2.2.2 16 rfl) hL52 dX11_best_144 ?_
                                      refine j_iload C dX11_best_147 5 rfl ?_
                                      refine j_aload_n C dX11_best_149 rfl 0 rfl ?_
                                      refine j_getV C hwX11 31 0 12 (MR.in0 hM4 (by decide) (by decide)) rfl rfl (by decide) rfl 0 (hM4.2.2.2 12 rfl) hL40 dX11_best_150 ?_
                                      refine j_aload_n C dX11_best_153 rfl 0 rfl ?_
                                      refine j_getV C hwX11 31 0 15 (MR.in0 hM4 (by decide) (by decide)) rfl rfl (by decide) rfl 0 (hM4.2.2.2 15 rfl) hL49 dX11_best_154 ?_
                                      refine j_iload C dX11_best_157 5 rfl ?_
                                      refine j_iald C 41 0 j (MR.in0 hM4 (by decide) (by decide)) rfl rfl 9 (hM4.2.2.1 41 (by decide) (by decide)) (by omega) (by omega) (nI (hs M j)) ((hM4.1 41 j (decide_eq_true (show j < 9 by omega))).trans (congrArg (menc 41) (hf4 _ (by omega)))) dX11_best_159 ?_
                                      refine j_iald C 38 0 (hs M j) (MR.in0 hM4 (by decide) (by decide)) rfl rfl 40 (hM4.2.2.1 38 (by decide) (by decide)) (by omega) (by omega) (nI (A j)) ((hM4.1 38 (hs M j) (decide_eq_true (show hs M j < 40 by omega))).trans (congrArg (menc 38) (asg_at h384 (by omega)))) dX11_best_160 ?_
                                      refine j_iast C 42 0 j (MR.in0 hM4 (by decide) (by decide)) rfl rfl 9 (hM4.2.2.1 42 (by decide) (by decide)) (by omega) (by omega) (nI (A j)) rfl dX11_best_161 ?_
                                      have hM_57 := MR.set (t := 42) (k := j) (x := (A j)) (v := (nI (A j))) hM4 rfl
                                      have hs_58 := Same.sI (t := 42) (i := 0) (k := j) (x := (nI (A j))) hs4 (by decide)
                                      refine j_iinc C [(7, .int (nI (j + 1))), (0, .ref (gA Λ 31 0)), (1, .int (nI q)), (2, .long (zL ((fb_sm (padd M A) q : Nat) : Int))), (4, .int (nI g)), (5, .long (zL ((fb_sm (padd M A) q : Nat) : Int)))] (nI (j + 1)) dX11_best_162 5 rfl (nI_add _ 1) (by decide) rfl ?_
                                      refine j_goto (tgt := 137) C dX11_best_165 (by decide) ?_
                                      refine j_lv [1, 2, 3, 4, 5, 0] rfl ?_
                                      exact ih137 (sI σ4 42 0 j (nI (A j))) (mS M4 42 j (A j)) (j + 1) (by omega) (by omega) hM_57 (MBd.set hB4 (by have q9 := hv3 j (by omega); show A j ≤ 5; omega)) (BE.s he4 (Or.inr (Or.inr rfl))) (fun k hk => by rw [mS_ne (Or.inl (by decide))]; exact hf4 k hk) ((mS_nk (by decide)).trans h384) hs_58 (fun k hk => by by_cases e9 : k = j; rw [e9, mS_same]; rw [mS_ne (Or.inr e9)]; exact hb4 k (by omega))
                                refine j_lv [3, 4, 1, 5, 2, 0] rfl ?_
                                exact lb137 _ σ3 M3 0 (Nat.lt_succ_self _) (by omega) hM3 hB3 he3 hf3 h383 hs3 (fun k hk => absurd hk (Nat.not_lt_zero _))
                refine j_lv [2, 3, 1, 0] rfl ?_
                exact lb107 _ σ2 M2 (fun _ => 0) (fun _ => 0) (-1) 1 (M 31 10 ^ q - nm (M 31 10) (fun _ => 0) q) (Nat.lt_succ_self _) hM2 hB2 he2 hf2 (by rw [h382, show i = hcN M by omega, asgTo_all]) hs2 (fun k hk => by show (0 : Nat) < _; omega) (fun z => z.elim (fun q9 => absurd nm_z (Nat.ne_of_gt q9)) (fun q9 => absurd q9 (by decide))) (Or.inl ⟨rfl, rfl, Or.inl ⟨nm_z, rfl⟩⟩)
              · have hhi := hs_lt (M := M) (k := i) (by omega)
                refine j_aload_n C dX11_best_82 rfl 0 rfl ?_
                refine j_getV C hwX11 31 0 12 (MR.in0 hM2 (by decide) (by decide)) rfl rfl (by decide) rfl 0 (hM2.2.2.2 12 rfl) hL40 dX11_best_83 ?_
                refine j_aload_n C dX11_best_86 rfl 0 rfl ?_
                refine j_getV C hwX11 31 0 15 (MR.in0 hM2 (by decide) (by decide)) rfl rfl (by decide) rfl 0 (hM2.2.2.2 15 rfl) hL49 dX11_best_87 ?_
                refine j_iload_n C dX11_best_90 rfl 2 rfl ?_
                refine j_iald C 41 0 i (MR.in0 hM2 (by decide) (by decide)) rfl rfl 9 (hM2.2.2.1 41 (by decide) (by decide)) (by omega) (by omega) (nI (hs M i)) ((hM2.1 41 i (decide_eq_true (show i < 9 by omega))).trans (congrArg (menc 41) (hf2 _ (by omega)))) dX11_best_91 ?_
                refine j_iconst C (nI 0) dX11_best_92 (by decide) ?_
                refine j_iast C 38 0 (hs M i) (MR.in0 hM2 (by decide) (by decide)) rfl rfl 40 (hM2.2.2.1 38 (by decide) (by decide)) (by omega) (by omega) (nI 0) rfl dX11_best_93 ?_
                have hM_59 := MR.set (t := 38) (k := (hs M i)) (x := 0) (v := (nI 0)) hM2 rfl
                have hs_60 := Same.sI (t := 38) (i := 0) (k := (hs M i)) (x := (nI 0)) hs2 (by decide)
                refine j_iinc C [(2, .int (nI (i + 1))), (0, .ref (gA Λ 31 0)), (1, .int (nI q))] (nI (i + 1)) dX11_best_94 2 rfl (nI_add _ 1) (by decide) rfl ?_
                refine j_goto (tgt := 77) C dX11_best_97 (by decide) ?_
                refine j_lv [1, 2, 0] rfl ?_
                exact ih77 (sI σ2 38 0 (hs M i) (nI 0)) (mS M2 38 (hs M i) 0) (i + 1) (by omega) (by omega) hM_59 (MBd.set hB2 (Nat.zero_le _)) (BE.s he2 (Or.inl rfl)) (fun k hk => by rw [mS_ne (Or.inl (by decide))]; exact hf2 k hk) ((mS_row h382).trans (congrFun (asgTo_s (F := fun _ => 0) (by omega)) 38)) hs_60
          refine j_lv [1, 2, 0] rfl ?_
          exact lb77 _ σ1 M1 0 (Nat.lt_succ_self _) (by omega) hM1 hB1 (fun t _ a _ => he1 t a) hfr (by rw [asgTo_0]; exact he1 38 (by decide)) hs1
        · omega
      · refine j_aload_n C dX11_best_17 rfl 0 rfl ?_
        refine j_getV C hwX11 31 0 11 (MR.in0 hM1 (by decide) (by decide)) rfl rfl (by decide) rfl 0 (hM1.2.2.2 11 rfl) hL36 dX11_best_18 ?_
        refine j_iload_n C dX11_best_21 rfl 2 rfl ?_
        have h37b : M 37 r ≤ 1 := hB 37 r (decide_eq_true (show r < 40 by omega))
        refine j_zald C 37 0 r (MR.in0 hM1 (by decide) (by decide)) rfl rfl 40 (hM1.2.2.1 37 (by decide) (by decide)) (by omega) (by omega) (nI (M 37 r)) ((hM1.1 37 r (decide_eq_true (show r < 40 by omega))).trans (congrArg (menc 37) (congrFun (he1 37 (by decide)) _))) dX11_best_22 ?_
        refine j_if_eq (tgt := 29) C dX11_best_23 (by decide) (nJ_eq0 (by omega)) (fun h23 => ?_) (fun h23 => ?_)
        · refine j_iload_n C dX11_best_29 rfl 1 rfl ?_
          refine j_bipush C (nI 9) dX11_best_30 (by decide) ?_
          refine j_icmp_eq (tgt := 43) C dX11_best_32 (by decide) (nI_eq (by omega) (by omega)) (fun h32 => ?_) (fun h32 => ?_)
          · first | omega | (have z9 := rk_lt (M := M) (r := r) (by omega) (by omega); omega)
          · refine j_aload_n C dX11_best_35 rfl 0 rfl ?_
            refine j_getI C hwX11 31 0 10 (MR.in0 hM1 (by decide) (by decide)) rfl rfl (by decide) rfl (nI (M 31 10)) ((hM1.1 31 10 rfl).trans (congrArg (menc 31) (congrFun (he1 31 (by decide)) _))) hL33 dX11_best_36 ?_
            refine j_iconst C (nI 3) dX11_best_39 (by decide) ?_
            refine j_icmp_le (tgt := 47) C dX11_best_40 (by decide) (nI_leI (by omega) (by omega)) (fun h40 => ?_) (fun h40 => ?_)
            · refine j_aload_n C dX11_best_47 rfl 0 rfl ?_
              refine j_getV C hwX11 31 0 15 (MR.in0 hM1 (by decide) (by decide)) rfl rfl (by decide) rfl 0 (hM1.2.2.2 15 rfl) hL49 dX11_best_48 ?_
              refine j_iload_n C dX11_best_51 rfl 1 rfl ?_
              refine j_iload_n C dX11_best_52 rfl 2 rfl ?_
              refine j_iast C 41 0 q (MR.in0 hM1 (by decide) (by decide)) rfl rfl 9 (hM1.2.2.1 41 (by decide) (by decide)) (by omega) (by omega) (nI r) rfl dX11_best_53 ?_
              have hM_64 := MR.set (t := 41) (k := q) (x := r) (v := (nI r)) hM1 rfl
              have hs_65 := Same.sI (t := 41) (i := 0) (k := q) (x := (nI r)) hs1 (by decide)
              refine j_iinc C [(1, .int (nI (q + 1))), (0, .ref (gA Λ 31 0)), (2, .int (nI r))] (nI (q + 1)) dX11_best_54 1 rfl (nI_add _ 1) (by decide) rfl ?_
              refine j_iinc C [(2, .int (nI (r + 1))), (1, .int (nI (q + 1))), (0, .ref (gA Λ 31 0))] (nI (r + 1)) dX11_best_57 2 rfl (nI_add _ 1) (by decide) rfl ?_
              refine j_goto (tgt := 9) C dX11_best_60 (by decide) ?_
              refine j_lv [2, 1, 0] rfl ?_
              exact ih9 (sI σ1 41 0 q (nI r)) (mS M1 41 q r) (q + 1) (r + 1) (by omega) (by omega) hM_64 (MBd.set hB1 (show r ≤ 39 by omega)) (fun t ht => by rw [mS_nk ht]; exact he1 t ht) hs_65 (by rw [rkN_succ, if_pos h23, hq]) (fun k hk => by by_cases e9 : k = q; rw [e9, mS_same, hq, hs_of (by omega) h23]; rw [mS_ne (Or.inr e9)]; exact hfr k (by omega)) (by omega)
            · first | omega | (have z9 := rk_lt (M := M) (r := r) (by omega) (by omega); omega)
        · refine j_goto (tgt := 57) C dX11_best_26 (by decide) ?_
          refine j_iinc C [(2, .int (nI (r + 1))), (0, .ref (gA Λ 31 0)), (1, .int (nI q))] (nI (r + 1)) dX11_best_57 2 rfl (nI_add _ 1) (by decide) rfl ?_
          refine j_goto (tgt := 9) C dX11_best_60 (by decide) ?_
          refine j_lv [1, 2, 0] rfl ?_
          exact ih9 σ1 M1 q (r + 1) (by omega) (by omega) hM1 hB1 he1 hs1 (by rw [rkN_succ, if_neg h23]; exact hq) hfr hq9
  refine j_lv [2, 1, 0] rfl ?_
  exact lb9 _ σ0 M 0 0 (Nat.lt_succ_self _) (by omega) hM hB (fun _ _ => rfl) hs0 rfl (fun k hk => absurd hk (Nat.not_lt_zero _)) (by omega)
