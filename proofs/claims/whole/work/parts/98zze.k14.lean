set_option maxHeartbeats 800000 in
/-- THE LAW, from its entry -/
theorem whole_start {p : Program} {e : Env} {s : State} {m : MethodId} {below : List Frame} {meth : Method} {c : Code} (l : Launch) (hlt : l.stackTraces = false) {b L : Nat} {xs : Nat → Int32} (hL : L ≤ 3072) (C0 : lw_At p s m meth c b L xs) : W p l e room_1 s m #[Value.ref b] below meth c s.heap [] 0 0 (lw_Z below #[Value.ref b] s) (entryFrame m ([Value.ref b] : List Value).toArray 8) := by
  obtain ⟨hx, hb, hr, hml, hown, hts, hX, hbl, hlocks, hgv⟩ := C0
  obtain ⟨D, cy, hK⟩ := K_start hts
  obtain ⟨x0, hZ⟩ := zx_start hts hgv
  have hE : Ex s.heap.size s := ⟨s, b, rfl, State.WarmedH.refl s, Nat.le_refl _, fun _ _ => rfl, hts, hgv⟩
  have C : Cx p s m #[Value.ref b] c cL_law 8 RL lw_tbl D cy s.heap.size := ⟨hx, hb, hml, hown, hts, hK, hE⟩
  have hbA : ¬ Ab s.heap.size b := Nat.not_le.mpr hbl
  have X : LX l p s m meth c D cy b L xs x0 := ⟨C, hX, hbl, hbA, hL, hlt, hZ⟩
  have hl := lv_entry ([.ref b]) (n := 8) (Nat.le_of_ble_eq_true rfl)
  rw [lg_entry_eq]
  have hR : Rp D cy s.heap.size (L0 x0) S0 s.heap := ⟨[], fun k q h => by simp at h, ⟨fun i j p q h => by simp at h, fun k q h => by simp at h⟩, fun t i h => absurd h (Nat.not_lt_zero i), fun k q h => by simp at h, fun t i t' i' h => absurd h (Nat.not_lt_zero i), fun t i k j h => absurd h (Nat.not_lt_zero i)⟩
  suffices JJ : JW p l e s m below meth c D cy b 0 0 (L0 x0) 0 [(0, .ref b)] [] S0 from JJ s.heap [] _ hl hR va_S.rf
  refine j_new (Cn := RX10) (T := TX10) (N := 9) C (by decide +kernel) 0 (by decide) rfl rfl tyX10 tyX10_ok (hts (.classLink RL 8 RX10) (by decide +kernel)) (hts (.instantiable RX10 9) (by decide +kernel)) (hts (.initialized RX10) (by decide +kernel)) (by decide +kernel) (by (show _ ≤ 601024; omega)) (by (show _ ≤ 7293033; omega)) dL_law_0 (fun Λ1 q0 e1 => ?_)
  have f50 : gA Λ1 50 0 = x0 := by rw [e1]; exact gA_ne (by decide)
  refine j_dup C dL_law_3 rfl ?_
  refine c_vx C (r_Ig C (by rw [f50]; exact hZ) 0 0 [] (c_X10_init2 l D cy s.heap.size Λ1 (nS (L0 x0) S0 0) x0 q0 e1 rfl) (cwI 0 hts gU_X10_init rfl rfl rfl (hts (.initialized RX10) (by decide +kernel)) (hts (.methodLink RL 63 yX10_init) (by decide +kernel)) (hts (.instanceMethod yX10_init) (by decide +kernel)) rfl (by decide +kernel) ⟨by decide, by decide⟩) rfl rfl (Nat.le_of_ble_eq_true rfl) dL_law_4 ⟨(by (show _ ≤ 601024; omega)), (by (show _ ≤ 7293033; omega))⟩) (fun Λ2 u2 hp => ?_)
  obtain ⟨hC, hAL, hGl, c16, c17, c1, cz, g50, g00⟩ := hp
  dsimp only at hC hAL hGl c16 c17 c1 cz g50 g00
  have k1 : gA Λ1 0 (gC (L0 x0) 0) = gA Λ2 0 0 := g00.symm
  rw [k1]
  refine j_astore_n C [(1, .ref (gA Λ2 0 0)), (0, .ref b)] dL_law_7 rfl (by decide) rfl ?_
  refine j_new (Cn := RX11) (T := TX11) (N := 26) C (by decide +kernel) 31 (by decide) rfl rfl tyX11 tyX11_ok (hts (.classLink RL 64 RX11) (by decide +kernel)) (hts (.instantiable RX11 26) (by decide +kernel)) (hts (.initialized RX11) (by decide +kernel)) (by decide +kernel) (by (show _ ≤ 601024; omega)) (by (show _ ≤ 7293033; omega)) dL_law_8 (fun Λ3 q1 e3 => ?_)
  have z31 : gC Λ2 31 = 0 := cz 31 (by decide)
  rw [z31]
  have n31 : gC Λ3 31 = 1 := by rw [e3, gC_nL, if_pos rfl, z31]
  have nz : ∀ t, t ≠ 31 → gC Λ3 t = gC Λ2 t := fun t ht => by rw [e3]; exact gC_ne ht
  have G23 : Gw Λ2 Λ3 := by rw [e3]; exact Gw.nY (by decide)
  refine j_dup C dL_law_11 rfl ?_
  refine c_vx C (r_I C 31 0 [] (c_X11_init l D cy s.heap.size Λ3 (nS Λ2 u2 31) n31 (fun t a d => by rw [nz t (by omega)]; exact cz t (by omega)) (fun k => by rw [gI_nS, if_pos ⟨rfl, z31.symm⟩])) (cwI 0 hts gU_X11_init rfl rfl rfl (hts (.initialized RX11) (by decide +kernel)) (hts (.methodLink RL 66 yX11_init) (by decide +kernel)) (hts (.instanceMethod yX11_init) (by decide +kernel)) rfl (by decide +kernel) ⟨by decide, by decide⟩) rfl rfl (Nat.le_of_ble_eq_true rfl) dL_law_12 ⟨(by (show _ ≤ 601024; omega)), (by (show _ ≤ 7293033; omega))⟩) (fun Λ4 u4 hp => ?_)
  obtain ⟨hM, G34, c4, s4⟩ := hp
  dsimp only at hM G34 c4 s4
  refine j_astore_n C [(2, .ref (gA Λ3 31 0)), (1, .ref (gA Λ2 0 0)), (0, .ref b)] dL_law_15 rfl (by decide) rfl ?_
  refine j_iconst C (nI 1) dL_law_16 (by decide) ?_
  refine j_newJ (atype := .long) C 49 1 (hts (.arrayClass .long) (by decide +kernel)) rfl rfl rfl (by decide) (by decide) (by (show _ ≤ 601024; omega)) (by (show _ ≤ 7293033; omega)) dL_law_17 (fun Λ5 q2 e5 => ?_)
  have z49 : gC Λ4 49 = 0 := by rw [c4 49 (by decide), nz 49 (by decide)]; exact cz 49 (by decide)
  rw [z49]
  have G45 : Gw Λ4 Λ5 := by rw [e5]; exact Gw.nY (by decide)
  have n5 : ∀ t, t ≠ 49 → gC Λ5 t = gC Λ4 t := fun t ht => by rw [e5]; exact gC_ne ht
  have G25 : Gw Λ2 Λ5 := (G23.tr G34).tr G45
  have h20 : 0 < gC Λ2 0 := hC.n1 (by decide)
  refine j_astore_n C [(3, .ref (gA Λ5 49 0)), (2, .ref (gA Λ3 31 0)), (1, .ref (gA Λ2 0 0)), (0, .ref b)] dL_law_19 rfl (by decide) rfl ?_
  refine j_iconst C (nI (6 * 0)) dL_law_20 (by decide) ?_
  refine j_istore C [(4, .int (nI (6 * 0))), (3, .ref (gA Λ5 49 0)), (2, .ref (gA Λ3 31 0)), (1, .ref (gA Λ2 0 0)), (0, .ref b)] dL_law_21 (by decide) rfl ?_
  rw [← (G25.2.1 0 0 h20).1, ← ((G34.tr G45).2.1 31 0 (by rw [n31]; decide)).1]
  have s5 : Same (fun t => t < 31) u2 (nS Λ4 u4 49) := ((Same.rf.nS (by decide)).tr s4).nS (by decide)
  have sM : Same (fun t => 31 ≤ t ∧ t ≤ 48) u4 (nS Λ4 u4 49) := Same.rf.nS (by decide)
  have hI : LI Λ5 (nS Λ4 u4 49) M0 := by
    refine ⟨INV_0 hC hAL hGl cz G25 (fun t ht => by rw [n5 t (by omega), c4 t (Or.inl ht), nz t (by omega)]) s5, ⟨0, ?_⟩, WF_0, ?_, ?_⟩
    · rw [mS_self (show M0 31 0 = 0 from rfl)]
      exact hM.gw G45 (fun t a d => n5 t (by omega)) sM
    · rw [e5, gC_nL, if_pos rfl, z49]
    · rw [e5, gN_nL, if_pos ⟨rfl, z49.symm⟩]
  exact law_loop X hr hlocks (L + 6) 0 Λ5 (nS Λ4 u4 49) M0 _ _ (by omega) (by omega) ⟨hI, by rw [G25.2.2, g50, f50], by omega, by omega⟩
