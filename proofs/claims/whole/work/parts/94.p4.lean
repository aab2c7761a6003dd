set_option maxHeartbeats 4000000 in
set_option maxRecDepth 100000 in
theorem c_border_ok (l : Launch) (D : va_G) (cy : Nat → ClassId) (base : Nat) (Λ : LY) (σ : HS) (M : MM) (hC : CR noEx Λ σ M) (hB : MBd M) (hR : M 31 10 ≤ 6) (hW : ∀ r, r < M 31 5 → M 37 r = 0 → M 38 r < M 31 10) (j : Nat) (hj : j < M 31 5) : Met l yX10_border wsX10_border ({ frames := 16, cells := 0, slots := 0, locals := 240 }) (va_Pc [.ref (gA Λ 0 0), .int (nI j)] (Wd D cy base Λ σ)) (va_Ql (fun v u => v = zL (bdrV M j) ∧ GM σ u) (Wd D cy base Λ) (Ab base)) 0 0 (Ab base) := by
  refine j_start (cc := cX10_border) (nL := 3) (ret := (some .long)) (lv := [(0, .ref (gA Λ 0 0)), (1, .int (nI j))]) (by decide) rfl (Nat.le_of_ble_eq_true rfl) rfl ?_
  intro p e s m below meth c C hr hlk hnm
  have C : Cx p s m ([.ref (gA Λ 0 0), .int (nI j)] : List Value).toArray c cX10_border 3 RX10 wsX10_border D cy base := C
  have hts := C.2.2.2.2.1
  have hwX10 : ∀ w ∈ u_ws RX10 TX10 9, w ∈ wsX10_border := by decide +kernel
  have hwX5 : ∀ w ∈ u_ws RX5 TX5 13, w ∈ wsX10_border := by decide +kernel
  have hM40 : (Cond.fieldLink RX10 40 (TX10 4).1 (TX10 4).2.1 (TX10 4).2.2.1).before ([.ref (gA Λ 0 0), .int (nI j)] : List Value).toArray s = true := hts (.fieldLink RX10 40 "CodeRooms" "mender" "LCodeRooms$Mender;") (by decide +kernel)
  have hL40 : FL RX10 40 (TX10 4).1 (TX10 4).2.1 (TX10 4).2.2.1 ([.ref (gA Λ 0 0), .int (nI j)] : List Value).toArray s := Or.inl hM40
  have hL162 : FL RX10 162 (TX5 12).1 (TX5 12).2.1 (TX5 12).2.2.1 ([.ref (gA Λ 0 0), .int (nI j)] : List Value).toArray s := Or.inr ⟨_, Ex.nestF C.2.2.2.2.2.2 nf_X10_162⟩
  have hC183 : (Jvm.Cond.constantLong RX10 183 1000000000).before ([.ref (gA Λ 0 0), .int (nI j)] : List Value).toArray s = true := hts _ (by decide +kernel)
  have hn : M 31 5 ≤ 40 := hB 31 5 rfl
  refine j_aload_n C dX10_border_0 rfl 0 rfl ?_
  refine j_iload_n C dX10_border_1 rfl 1 rfl ?_
  refine c_r0 C (r_V C 0 0 [.int (nI j)] (c_X10_known l D cy base Λ σ M hC hB j (by omega)) (cwV 1 hts gX10_border_X10_known rfl rfl rfl (by decide +kernel) ⟨by decide, by decide⟩) (CR.n1 hC (by decide)) rfl rfl rfl rfl (Nat.le_of_ble_eq_true rfl) dX10_border_2 ⟨by decide, by decide⟩) (fun uu jj hp => ?_)
  obtain ⟨hk1, hk2⟩ := Prod.mk.inj hp
  rw [hk1, hk2]
  refine j_astore_n C [(2, .ref (gA Λ 8 j)), (0, .ref (gA Λ 0 0)), (1, .int (nI j))] dX10_border_5 rfl (by decide) rfl ?_
  refine j_aload_n C dX10_border_6 rfl 0 rfl ?_
  have hb7 : M 37 j ≤ 1 := hB 37 j (decide_eq_true (show j < 40 by omega))
  refine j_getI C hwX5 8 j 12 (CR.n8 hC (by decide) (show j < M 31 5 by omega)) rfl rfl (by decide) rfl (nI (M 37 j)) (CR.i hC 8 j 12 ⟨show j < M 31 5 by omega, Or.inr (Or.inr (Or.inr rfl))⟩ id) hL162 dX10_border_7 ?_
  refine j_if_eq (tgt := 19) C dX10_border_10 (by decide) (nJ_eq0 (by omega)) (fun h10 => ?_) (fun h10 => ?_)
  · refine j_aload_n C dX10_border_19 rfl 1 rfl ?_
    refine j_getV C hwX10 0 0 4 (CR.n1 hC (by decide)) rfl rfl (by decide) rfl 0 (CR.v hC 0 0 4 ⟨rfl, by decide⟩ id) hL40 dX10_border_20 ?_
    refine j_aload_n C dX10_border_23 rfl 0 rfl ?_
    refine c_l0 C (r_V C 18 0 [.ref (gA Λ 8 j)] (c_X2_leastShift l D cy base Λ σ M hC hB hR j hj h10 (hW j hj h10)) (cwV 1 hts gX10_border_X2_leastShift rfl rfl rfl (by decide +kernel) ⟨by decide, by decide⟩) (CR.n1 hC (by decide)) rfl rfl rfl rfl (Nat.le_of_ble_eq_true rfl) dX10_border_24 ⟨by decide, by decide⟩) (fun rv u1 hp => ?_)
    exact j_lret C hr hlk (hp) dX10_border_27
  · refine j_ldc2 C (zL 1000000000) hC183 dX10_border_13 (by decide) ?_
    refine j_goto (tgt := 27) C dX10_border_16 (by decide) ?_
    exact j_lret C hr hlk (⟨by unfold bdrV; rw [if_pos (Or.inl h10)], GM.rf⟩) dX10_border_27
