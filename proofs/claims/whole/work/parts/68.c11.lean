theorem bdr_none {M : MM} {r : Nat} : ∀ {k : Nat}, bdrZ M r k = none → ∀ j, j < k → j = M 38 r
  | 0, _, j, hj => absurd hj (Nat.not_lt_zero _)
  | k + 1, h, j, hj => by
    by_cases e : k = M 38 r
    · rw [bdr_2 e] at h
      by_cases e2 : j = k
      · omega
      · exact bdr_none h j (by omega)
    · cases hb : bdrZ M r k with
      | none => rw [bdr_0 e hb] at h; cases h
      | some z => rw [bdr_1 e hb] at h; cases h
theorem bdrV_0 {M : MM} {r k : Nat} (h1 : 1 ≤ M 31 10) (hk : k = M 31 10) (h : bdrZ M r k = none) : bdrV M r = 1000000000 := by
  unfold bdrV
  rw [if_pos (Or.inr _)]
  by_cases e : M 31 10 = 1
  · exact e
  · have a0 := bdr_none h 0 (by omega)
    have a1 := bdr_none h 1 (by omega)
    omega
theorem bdrV_1 {M : MM} {r k : Nat} {z : Int} (h37 : M 37 r = 0) (hW : M 38 r < M 31 10) (hk : k = M 31 10) (h : bdrZ M r k = some z) : bdrV M r = z := by
  unfold bdrV
  rw [if_neg, ← hk, h]
  · rfl
  · rintro (q | q)
    · exact q h37
    · rw [hk, q, bdr_2 (by omega)] at h
      cases h
set_option maxHeartbeats 4000000 in
set_option maxRecDepth 100000 in
theorem c_X2_leastShift (l : Launch) (D : va_G) (cy : Nat → ClassId) (base : Nat) (Λ : LY) (σ : HS) (M : MM) (hC : CR noEx Λ σ M) (hB : MBd M) (hR : M 31 10 ≤ 6) (r : Nat) (hr0 : r < M 31 5) (hh37 : M 37 r = 0) (hW : M 38 r < M 31 10) : Met l yX2_leastShift wsX2_leastShift ({ frames := 12, cells := 0, slots := 0, locals := 180 }) (va_Pc [.ref (gA Λ 18 0), .ref (gA Λ 8 r)] (Wd D cy base Λ σ)) (va_Ql (fun v u => v = zL (bdrV M r) ∧ GM σ u) (Wd D cy base Λ) (Ab base)) 0 0 (Ab base) := by
  refine j_start (cc := cX2_leastShift) (nL := 8) (ret := (some .long)) (lv := [(0, .ref (gA Λ 18 0)), (1, .ref (gA Λ 8 r))]) (by decide) rfl (Nat.le_of_ble_eq_true rfl) rfl ?_
  intro p e s m below meth c C hr hlk hnm
  have C : Cx p s m ([.ref (gA Λ 18 0), .ref (gA Λ 8 r)] : List Value).toArray c cX2_leastShift 8 RX2 wsX2_leastShift D cy base := C
  have hts := C.2.2.2.2.1
  have hwX2 : ∀ w ∈ u_ws RX2 TX2 6, w ∈ wsX2_leastShift := by decide +kernel
  have hwX5 : ∀ w ∈ u_ws RX5 TX5 13, w ∈ wsX2_leastShift := by decide +kernel
  have hM15 : (Cond.fieldLink RX2 15 (TX2 0).1 (TX2 0).2.1 (TX2 0).2.2.1).before ([.ref (gA Λ 18 0), .ref (gA Λ 8 r)] : List Value).toArray s = true := hts (.fieldLink RX2 15 "CodeRooms$Mender" "plan" "LCodeRooms$Plan;") (by decide +kernel)
  have hL15 : FL RX2 15 (TX2 0).1 (TX2 0).2.1 (TX2 0).2.2.1 ([.ref (gA Λ 18 0), .ref (gA Λ 8 r)] : List Value).toArray s := Or.inl hM15
  have hL49 : FL RX2 49 (TX5 11).1 (TX5 11).2.1 (TX5 11).2.2.1 ([.ref (gA Λ 18 0), .ref (gA Λ 8 r)] : List Value).toArray s := Or.inr ⟨_, Ex.nestF C.2.2.2.2.2.2 nf_X2_49⟩
  have hC43 : (Jvm.Cond.constantLong RX2 43 1000000000).before ([.ref (gA Λ 18 0), .ref (gA Λ 8 r)] : List Value).toArray s = true := hts _ (by decide +kernel)
  have hn : M 31 5 ≤ 40 := hB 31 5 rfl
  have hhc0 := hcN_le M
  refine j_aload_n C dX2_leastShift_0 rfl 0 rfl ?_
  refine c_v0 C (r_V C 18 0 [] (c_X2_countSizes l D cy base Λ σ M hC hB) (cwV 0 hts gX2_leastShift_X2_countSizes rfl rfl rfl (by decide +kernel) ⟨by decide, by decide⟩) (CR.n1 hC (by decide)) rfl rfl rfl rfl (Nat.le_of_ble_eq_true rfl) dX2_leastShift_1 ⟨by decide, by decide⟩) (fun u0 hp => ?_)
  obtain ⟨hG0, hS0, hj0, hv0⟩ := hp
  refine j_aload_n C dX2_leastShift_4 rfl 0 rfl ?_
  refine j_aload_n C dX2_leastShift_5 rfl 1 rfl ?_
  refine c_v0 C (r_V C 18 0 [.ref (gA Λ 8 r)] (c_X2_weighPulls l D cy base Λ u0 M (hG0.cr hC) hB r (by omega)) (cwV 1 hts gX2_leastShift_X2_weighPulls rfl rfl rfl (by decide +kernel) ⟨by decide, by decide⟩) (CR.n1 (hG0.cr hC) (by decide)) rfl rfl rfl rfl (Nat.le_of_ble_eq_true rfl) dX2_leastShift_6 ⟨by decide, by decide⟩) (fun u5 hp => ?_)
  obtain ⟨hG5, hp5, hx5, hi5, hv5⟩ := hp
  have hGG5 := GM.tr hG0 hG5
  have hS5 : PS u5 M := fun k hk => by rw [hi5]; exact hS0 k hk
  refine j_ldc2 C (zL 1000000000) hC43 dX2_leastShift_9 (by decide) ?_
  refine j_lstore_n C [(2, .long (zL 1000000000)), (0, .ref (gA Λ 18 0)), (1, .ref (gA Λ 8 r))] dX2_leastShift_12 rfl (by decide) rfl ?_
  refine j_iconst C (nI 0) dX2_leastShift_13 (by decide) ?_
  refine j_istore C [(4, .int (nI 0)), (2, .long (zL 1000000000)), (0, .ref (gA Λ 18 0)), (1, .ref (gA Λ 8 r))] dX2_leastShift_14 (by decide) rfl ?_
  refine j_iconst C (nI 0) dX2_leastShift_16 (by decide) ?_
  refine j_istore C [(5, .int (nI 0)), (4, .int (nI 0)), (2, .long (zL 1000000000)), (0, .ref (gA Λ 18 0)), (1, .ref (gA Λ 8 r))] dX2_leastShift_17 (by decide) rfl ?_
  have lb19 : ∀ (fu : Nat) (f : Int64) (q k : Nat), (M 31 10 - k) < fu → (k ≤ M 31 10) → ((q = 0 ∧ bdrZ M r k = none ∧ f = zL 1000000000) ∨ (q = 1 ∧ ∃ z, bdrZ M r k = some z ∧ f = zL z)) → J p l e ({ frames := 12, cells := 0, slots := 0, locals := 180 }) s m ([.ref (gA Λ 18 0), .ref (gA Λ 8 r)] : List Value).toArray below meth c 8 D cy base (MQ below (va_Ql (fun v u => v = zL (bdrV M r) ∧ GM σ u) (Wd D cy base Λ) (Ab base)) ([.ref (gA Λ 18 0), .ref (gA Λ 8 r)] : List Value).toArray s 0 0 (Ab base)) 0 0 Λ 19 [(0, .ref (gA Λ 18 0)), (1, .ref (gA Λ 8 r)), (2, .long (f)), (4, .int (nI q)), (5, .int (nI k))] [] u5 := by
    intro fu
    induction fu with
    | zero => intro f q k hfu; exact absurd hfu (Nat.not_lt_zero _)
    | succ fu ih =>
      intro f q k hfu hk hq
      have ih19 := ih
      refine j_iload C dX2_leastShift_19 4 rfl ?_
      refine j_aload_n C dX2_leastShift_21 rfl 0 rfl ?_
      refine j_getV C hwX2 18 0 0 (CR.n1 (hGG5.cr hC) (by decide)) rfl rfl (by decide) rfl 0 (CR.v (hGG5.cr hC) 18 0 0 ⟨rfl, by decide⟩ id) hL15 dX2_leastShift_22 ?_
      refine c_i0 C (r_V C 3 0 [] (c_X4_roomCount l D cy base Λ u5 M (hGG5.cr hC) hB) (cwV 0 hts gX2_leastShift_X4_roomCount rfl rfl rfl (by decide +kernel) ⟨by decide, by decide⟩) (CR.n1 (hGG5.cr hC) (by decide)) rfl rfl rfl rfl (Nat.le_of_ble_eq_true rfl) dX2_leastShift_25 ⟨by decide, by decide⟩) (fun rv uu hp => ?_)
      rw [hp.1, hp.2]
      refine j_icmp_ge (tgt := 75) C dX2_leastShift_28 (by decide) (nI_leI (by omega) (by omega)) (fun h28 => ?_) (fun h28 => ?_)
      · rcases hq with ⟨rfl, ho, rfl⟩ | ⟨rfl, zz, ho, rfl⟩
        · refine j_lload_n C dX2_leastShift_75 rfl 2 rfl ?_
          exact j_lret C hr hlk (⟨congrArg zL (bdrV_0 (by omega) (by omega) ho).symm, hGG5⟩) dX2_leastShift_76
        · refine j_lload_n C dX2_leastShift_75 rfl 2 rfl ?_
          exact j_lret C hr hlk (⟨congrArg zL (bdrV_1 hh37 hW (by omega) ho).symm, hGG5⟩) dX2_leastShift_76
      · refine j_iload C dX2_leastShift_31 4 rfl ?_
        refine j_aload_n C dX2_leastShift_33 rfl 1 rfl ?_
        have hb34 : M 38 r ≤ 5 := hB 38 r (decide_eq_true (show r < 40 by omega))
        refine j_getI C hwX5 8 r 11 (CR.n8 (hGG5.cr hC) (by decide) (show r < M 31 5 by omega)) rfl rfl (by decide) rfl (nI (M 38 r)) (CR.i (hGG5.cr hC) 8 r 11 ⟨show r < M 31 5 by omega, Or.inr (Or.inr (Or.inl rfl))⟩ id) hL49 dX2_leastShift_34 ?_
        refine j_icmp_eq (tgt := 69) C dX2_leastShift_37 (by decide) (nI_eq (by omega) (by omega)) (fun h37 => ?_) (fun h37 => ?_)
        · refine j_iinc C [(5, .int (nI (k + 1))), (0, .ref (gA Λ 18 0)), (1, .ref (gA Λ 8 r)), (2, .long (f)), (4, .int (nI q))] (nI (k + 1)) dX2_leastShift_69 4 rfl (nI_add _ 1) (by decide) rfl ?_
          refine j_goto (tgt := 19) C dX2_leastShift_72 (by decide) ?_
          refine j_lv [1, 2, 3, 4, 0] rfl ?_
          exact ih19 f q (k + 1) (by omega) (by omega) (by rw [bdr_2 h37]; exact hq)
        · refine j_aload_n C dX2_leastShift_40 rfl 0 rfl ?_
          refine j_aload_n C dX2_leastShift_41 rfl 1 rfl ?_
          refine j_iload C dX2_leastShift_42 4 rfl ?_
          refine c_l0 C (r_V C 18 0 [.ref (gA Λ 8 r), .int (nI k)] (c_X2_shiftOf l D cy base Λ u5 M (hGG5.cr hC) hB r k (by omega) (by omega) hS5 hp5) (cwV 2 hts gX2_leastShift_X2_shiftOf rfl rfl rfl (by decide +kernel) ⟨by decide, by decide⟩) (CR.n1 (hGG5.cr hC) (by decide)) rfl rfl rfl rfl (Nat.le_of_ble_eq_true rfl) dX2_leastShift_44 ⟨by decide, by decide⟩) (fun rv uu hp => ?_)
          rw [hp.1, hp.2]
          have hbd := movZ_bd hB hn (r := r) (room := k) (by omega)
          refine j_lstore C [(6, .long (zL (movZ M r k))), (0, .ref (gA Λ 18 0)), (1, .ref (gA Λ 8 r)), (2, .long (f)), (4, .int (nI q)), (5, .int (nI k))] dX2_leastShift_47 (by decide) rfl ?_
          rcases hq with ⟨rfl, ho, rfl⟩ | ⟨rfl, zz, ho, rfl⟩
          · refine j_iload C dX2_leastShift_49 4 rfl ?_
            refine j_if_eq (tgt := 63) C (P := True) dX2_leastShift_51 (by decide) (by decide) (fun z => ?_) (fun z => ?_)
            · refine j_lload C dX2_leastShift_63 0 rfl ?_
              refine j_lstore_n C [(2, .long (zL (movZ M r k))), (6, .long (zL (movZ M r k))), (0, .ref (gA Λ 18 0)), (1, .ref (gA Λ 8 r)), (4, .int (nI 0)), (5, .int (nI k))] dX2_leastShift_65 rfl (by decide) rfl ?_
              refine j_iconst C (nI 1) dX2_leastShift_66 (by decide) ?_
              refine j_istore C [(4, .int (nI 1)), (2, .long (zL (movZ M r k))), (6, .long (zL (movZ M r k))), (0, .ref (gA Λ 18 0)), (1, .ref (gA Λ 8 r)), (5, .int (nI k))] dX2_leastShift_67 (by decide) rfl ?_
              refine j_iinc C [(5, .int (nI (k + 1))), (4, .int (nI 1)), (2, .long (zL (movZ M r k))), (6, .long (zL (movZ M r k))), (0, .ref (gA Λ 18 0)), (1, .ref (gA Λ 8 r))] (nI (k + 1)) dX2_leastShift_69 5 rfl (nI_add _ 1) (by decide) rfl ?_
              refine j_goto (tgt := 19) C dX2_leastShift_72 (by decide) ?_
              refine j_lv [4, 5, 2, 1, 0] rfl ?_
              exact ih19 (zL (movZ M r k)) 1 (k + 1) (by omega) (by omega) (Or.inr ⟨rfl, _, bdr_0 (by omega) ho, rfl⟩)
            · exact absurd trivial z
          · refine j_iload C dX2_leastShift_49 4 rfl ?_
            refine j_if_eq (tgt := 63) C (P := False) dX2_leastShift_51 (by decide) (by decide) (fun z => ?_) (fun z => ?_)
            · exact z.elim
            · refine j_lload_n C dX2_leastShift_54 rfl 3 rfl ?_
              refine j_lload C dX2_leastShift_55 0 rfl ?_
              have hbz := bdrZ_bd hB (r := r) (show r < 40 by omega) ho
              refine j_mminL C (zL (if movZ M r k < zz then movZ M r k else zz)) (by decide +kernel) rfl rfl rfl rfl dX2_leastShift_57 ((zL_min (by omega) (by omega) (by omega) (by omega)).trans (congrArg zL (by split <;> omega))) ?_
              refine j_goto (tgt := 65) C dX2_leastShift_60 (by decide) ?_
              refine j_lstore_n C [(2, .long (zL (if movZ M r k < zz then movZ M r k else zz))), (6, .long (zL (movZ M r k))), (0, .ref (gA Λ 18 0)), (1, .ref (gA Λ 8 r)), (4, .int (nI 1)), (5, .int (nI k))] dX2_leastShift_65 rfl (by decide) rfl ?_
              refine j_iconst C (nI 1) dX2_leastShift_66 (by decide) ?_
              refine j_istore C [(4, .int (nI 1)), (2, .long (zL (if movZ M r k < zz then movZ M r k else zz))), (6, .long (zL (movZ M r k))), (0, .ref (gA Λ 18 0)), (1, .ref (gA Λ 8 r)), (5, .int (nI k))] dX2_leastShift_67 (by decide) rfl ?_
              refine j_iinc C [(5, .int (nI (k + 1))), (4, .int (nI 1)), (2, .long (zL (if movZ M r k < zz then movZ M r k else zz))), (6, .long (zL (movZ M r k))), (0, .ref (gA Λ 18 0)), (1, .ref (gA Λ 8 r))] (nI (k + 1)) dX2_leastShift_69 5 rfl (nI_add _ 1) (by decide) rfl ?_
              refine j_goto (tgt := 19) C dX2_leastShift_72 (by decide) ?_
              refine j_lv [4, 5, 2, 1, 0] rfl ?_
              exact ih19 (zL (if movZ M r k < zz then movZ M r k else zz)) 1 (k + 1) (by omega) (by omega) (Or.inr ⟨rfl, _, bdr_1 (by omega) ho, rfl⟩)
  refine j_lv [3, 4, 2, 1, 0] rfl ?_
  exact lb19 _ (zL 1000000000) 0 0 (Nat.lt_succ_self _) (by omega) (Or.inl ⟨rfl, rfl, rfl⟩)
