set_option maxHeartbeats 4000000 in
set_option maxRecDepth 100000 in
theorem c_X10_cost (l : Launch) (D : va_G) (cy : Nat → ClassId) (base : Nat) (Λ : LY) (σ : HS) (M : MM) (hC : CR noEx Λ σ M) (hB : MBd M) (hW : ∀ r, r < M 31 5 → M 37 r = 0 → M 38 r < M 31 10) (hR : M 31 10 ≤ 6) : Met l yX10_cost wsX10_cost ({ frames := 16, cells := 0, slots := 0, locals := 240 }) (va_Pc [.ref (gA Λ 0 0)] (Wd D cy base Λ σ)) (va_Ql (fun v u => v = zL (costN M : Int) ∧ G7 σ u) (Wd D cy base Λ) (Ab base)) 0 0 (Ab base) := by
  refine j_start (cc := cX10_cost) (nL := 1) (ret := (some .long)) (lv := [(0, .ref (gA Λ 0 0))]) (by decide) rfl (Nat.le_of_ble_eq_true rfl) rfl ?_
  intro p e s m below meth c C hr hlk hnm
  have C : Cx p s m ([.ref (gA Λ 0 0)] : List Value).toArray c cX10_cost 1 RX10 wsX10_cost D cy base := C
  have hts := C.2.2.2.2.1
  have hwX10 : ∀ w ∈ u_ws RX10 TX10 9, w ∈ wsX10_cost := by decide +kernel
  have hM24 : (Cond.fieldLink RX10 24 (TX10 2).1 (TX10 2).2.1 (TX10 2).2.2.1).before ([.ref (gA Λ 0 0)] : List Value).toArray s = true := hts (.fieldLink RX10 24 "CodeRooms" "plan" "LCodeRooms$Plan;") (by decide +kernel)
  have hL24 : FL RX10 24 (TX10 2).1 (TX10 2).2.1 (TX10 2).2.2.1 ([.ref (gA Λ 0 0)] : List Value).toArray s := Or.inl hM24
  refine j_aload_n C dX10_cost_0 rfl 0 rfl ?_
  refine j_getV C hwX10 0 0 2 (CR.n1 hC (by decide)) rfl rfl (by decide) rfl 0 (CR.v hC 0 0 2 ⟨rfl, by decide⟩ id) hL24 dX10_cost_1 ?_
  refine c_l0 C (r_V C 3 0 [] (c_X4_price l D cy base Λ σ M hC hB hW hR) (cwV 0 hts gX10_cost_X4_price rfl rfl rfl (by decide +kernel) ⟨by decide, by decide⟩) (CR.n1 hC (by decide)) rfl rfl rfl rfl (Nat.le_of_ble_eq_true rfl) dX10_cost_4 ⟨by decide, by decide⟩) (fun rv u1 hp => ?_)
  exact j_lret C hr hlk (hp) dX10_cost_7

set_option maxHeartbeats 4000000 in
set_option maxRecDepth 100000 in
theorem c_X10_better (l : Launch) (D : va_G) (cy : Nat → ClassId) (base : Nat) (Λ : LY) (σ : HS) (M : MM) (hC : CR noEx Λ σ M) (hB : MBd M) (hR : M 31 10 ≤ 6) (hY : ∀ a b, a < 40 → b < 40 → pulZ M a b = pulZ M b a) : Met l yX10_better wsX10_better ({ frames := 24, cells := 0, slots := 0, locals := 360 }) (va_Pc [.ref (gA Λ 0 0)] (Wd D cy base Λ σ)) (va_Qi (fun v u => v = nI (btr 100 M).1 ∧ CR noEx Λ u (btr 100 M).2 ∧ Same nMe σ u) (Wd D cy base Λ) (Ab base)) 0 0 (Ab base) := by
  refine j_start (cc := cX10_better) (nL := 1) (ret := (some .int)) (lv := [(0, .ref (gA Λ 0 0))]) (by decide) rfl (Nat.le_of_ble_eq_true rfl) rfl ?_
  intro p e s m below meth c C hr hlk hnm
  have C : Cx p s m ([.ref (gA Λ 0 0)] : List Value).toArray c cX10_better 1 RX10 wsX10_better D cy base := C
  have hts := C.2.2.2.2.1
  have hwX10 : ∀ w ∈ u_ws RX10 TX10 9, w ∈ wsX10_better := by decide +kernel
  have hM40 : (Cond.fieldLink RX10 40 (TX10 4).1 (TX10 4).2.1 (TX10 4).2.2.1).before ([.ref (gA Λ 0 0)] : List Value).toArray s = true := hts (.fieldLink RX10 40 "CodeRooms" "mender" "LCodeRooms$Mender;") (by decide +kernel)
  have hL40 : FL RX10 40 (TX10 4).1 (TX10 4).2.1 (TX10 4).2.2.1 ([.ref (gA Λ 0 0)] : List Value).toArray s := Or.inl hM40
  refine j_aload_n C dX10_better_0 rfl 0 rfl ?_
  refine j_getV C hwX10 0 0 4 (CR.n1 hC (by decide)) rfl rfl (by decide) rfl 0 (CR.v hC 0 0 4 ⟨rfl, by decide⟩ id) hL40 dX10_better_1 ?_
  refine c_i0 C (r_V C 18 0 [] (c_X2_mend l D cy base Λ σ M hC hB hR hY) (cwV 0 hts gX10_better_X2_mend rfl rfl rfl (by decide +kernel) ⟨by decide, by decide⟩) (CR.n1 hC (by decide)) rfl rfl rfl rfl (Nat.le_of_ble_eq_true rfl) dX10_better_4 ⟨by decide, by decide⟩) (fun rv u1 hp => ?_)
  exact j_iret C hr hlk (hp) dX10_better_7

set_option maxHeartbeats 4000000 in
set_option maxRecDepth 100000 in
theorem c_best_no (l : Launch) (D : va_G) (cy : Nat → ClassId) (base : Nat) (Λ : LY) (σ : HS) (M : MM) (hC : CR noEx Λ σ M) (hB : MBd M) (h : 9 < hcN M ∨ 3 < M 31 10) : Met l yX10_best wsX10_best ({ frames := 92, cells := 0, slots := 0, locals := 1380 }) (va_Pc [.ref (gA Λ 0 0)] (Wd D cy base Λ σ)) (va_Ql (fun v u => v = -1 ∧ u = σ) (Wd D cy base Λ) (Ab base)) 0 0 (Ab base) := by
  refine j_start (cc := cX10_best) (nL := 1) (ret := (some .long)) (lv := [(0, .ref (gA Λ 0 0))]) (by decide) rfl (Nat.le_of_ble_eq_true rfl) rfl ?_
  intro p e s m below meth c C hr hlk hnm
  have C : Cx p s m ([.ref (gA Λ 0 0)] : List Value).toArray c cX10_best 1 RX10 wsX10_best D cy base := C
  have hts := C.2.2.2.2.1
  have hwX10 : ∀ w ∈ u_ws RX10 TX10 9, w ∈ wsX10_best := by decide +kernel
  have hM47 : (Cond.fieldLink RX10 47 (TX10 5).1 (TX10 5).2.1 (TX10 5).2.2.1).before ([.ref (gA Λ 0 0)] : List Value).toArray s = true := hts (.fieldLink RX10 47 "CodeRooms" "search" "LCodeRooms$Search;") (by decide +kernel)
  have hL47 : FL RX10 47 (TX10 5).1 (TX10 5).2.1 (TX10 5).2.2.1 ([.ref (gA Λ 0 0)] : List Value).toArray s := Or.inl hM47
  refine j_aload_n C dX10_best_0 rfl 0 rfl ?_
  refine j_getV C hwX10 0 0 5 (CR.n1 hC (by decide)) rfl rfl (by decide) rfl 0 (CR.v hC 0 0 5 ⟨rfl, by decide⟩ id) hL47 dX10_best_1 ?_
  refine c_l0 C (r_V C 20 0 [] (c_sbest_no l D cy base Λ σ M hC hB h) (cwV 0 hts gX10_best_X6_settleBest rfl rfl rfl (by decide +kernel) ⟨by decide, by decide⟩) (CR.n1 hC (by decide)) rfl rfl rfl rfl (Nat.le_of_ble_eq_true rfl) dX10_best_4 ⟨by decide, by decide⟩) (fun rv u1 hp => ?_)
  exact j_lret C hr hlk (hp) dX10_best_7

set_option maxHeartbeats 4000000 in
set_option maxRecDepth 100000 in
theorem c_best_ok (l : Launch) (D : va_G) (cy : Nat → ClassId) (base : Nat) (Λ : LY) (σ : HS) (M : MM) (hC : CR noEx Λ σ M) (hB : MBd M) (hm9 : hcN M ≤ 9) (hR1 : 1 ≤ M 31 10) (hR3 : M 31 10 ≤ 3) : Met l yX10_best wsX10_best ({ frames := 92, cells := 0, slots := 0, locals := 1380 }) (va_Pc [.ref (gA Λ 0 0)] (Wd D cy base Λ σ)) (va_Ql (fun v u => ∃ b2 F2, v = zL ((b2 : Nat) : Int) ∧ FM M (M 31 10) (hcN M) (M 31 10 ^ hcN M) b2 F2 ∧ CR noEx Λ u (asg M F2) ∧ Same nSe σ u) (Wd D cy base Λ) (Ab base)) 0 0 (Ab base) := by
  refine j_start (cc := cX10_best) (nL := 1) (ret := (some .long)) (lv := [(0, .ref (gA Λ 0 0))]) (by decide) rfl (Nat.le_of_ble_eq_true rfl) rfl ?_
  intro p e s m below meth c C hr hlk hnm
  have C : Cx p s m ([.ref (gA Λ 0 0)] : List Value).toArray c cX10_best 1 RX10 wsX10_best D cy base := C
  have hts := C.2.2.2.2.1
  have hwX10 : ∀ w ∈ u_ws RX10 TX10 9, w ∈ wsX10_best := by decide +kernel
  have hM47 : (Cond.fieldLink RX10 47 (TX10 5).1 (TX10 5).2.1 (TX10 5).2.2.1).before ([.ref (gA Λ 0 0)] : List Value).toArray s = true := hts (.fieldLink RX10 47 "CodeRooms" "search" "LCodeRooms$Search;") (by decide +kernel)
  have hL47 : FL RX10 47 (TX10 5).1 (TX10 5).2.1 (TX10 5).2.2.1 ([.ref (gA Λ 0 0)] : List Value).toArray s := Or.inl hM47
  refine j_aload_n C dX10_best_0 rfl 0 rfl ?_
  refine j_getV C hwX10 0 0 5 (CR.n1 hC (by decide)) rfl rfl (by decide) rfl 0 (CR.v hC 0 0 5 ⟨rfl, by decide⟩ id) hL47 dX10_best_1 ?_
  refine c_l0 C (r_V C 20 0 [] (c_sbest_ok l D cy base Λ σ M hC hB hm9 hR1 hR3) (cwV 0 hts gX10_best_X6_settleBest rfl rfl rfl (by decide +kernel) ⟨by decide, by decide⟩) (CR.n1 hC (by decide)) rfl rfl rfl rfl (Nat.le_of_ble_eq_true rfl) dX10_best_4 ⟨by decide, by decide⟩) (fun rv u1 hp => ?_)
  exact j_lret C hr hlk (hp) dX10_best_7

set_option maxHeartbeats 4000000 in
set_option maxRecDepth 100000 in
theorem c_X10_keep (l : Launch) (D : va_G) (cy : Nat → ClassId) (base : Nat) (Λ : LY) (σ : HS) (M : MM) (hC : CR noEx Λ σ M) (hB : MBd M) : Met l yX10_keep wsX10_keep ({ frames := 8, cells := 0, slots := 0, locals := 120 }) (va_Pc [.ref (gA Λ 0 0)] (Wd D cy base Λ σ)) (va_Qi (fun v u => v = nI (hcN M) ∧ CR noEx Λ u (kpTo M 40) ∧ Same nKe σ u) (Wd D cy base Λ) (Ab base)) 0 0 (Ab base) := by
  refine j_start (cc := cX10_keep) (nL := 1) (ret := (some .int)) (lv := [(0, .ref (gA Λ 0 0))]) (by decide) rfl (Nat.le_of_ble_eq_true rfl) rfl ?_
  intro p e s m below meth c C hr hlk hnm
  have C : Cx p s m ([.ref (gA Λ 0 0)] : List Value).toArray c cX10_keep 1 RX10 wsX10_keep D cy base := C
  have hts := C.2.2.2.2.1
  have hwX10 : ∀ w ∈ u_ws RX10 TX10 9, w ∈ wsX10_keep := by decide +kernel
  have hM24 : (Cond.fieldLink RX10 24 (TX10 2).1 (TX10 2).2.1 (TX10 2).2.2.1).before ([.ref (gA Λ 0 0)] : List Value).toArray s = true := hts (.fieldLink RX10 24 "CodeRooms" "plan" "LCodeRooms$Plan;") (by decide +kernel)
  have hL24 : FL RX10 24 (TX10 2).1 (TX10 2).2.1 (TX10 2).2.2.1 ([.ref (gA Λ 0 0)] : List Value).toArray s := Or.inl hM24
  have hM68 : (Cond.fieldLink RX10 68 (TX10 8).1 (TX10 8).2.1 (TX10 8).2.2.1).before ([.ref (gA Λ 0 0)] : List Value).toArray s = true := hts (.fieldLink RX10 68 "CodeRooms" "kept" "LCodeRooms$Kept;") (by decide +kernel)
  have hL68 : FL RX10 68 (TX10 8).1 (TX10 8).2.1 (TX10 8).2.2.1 ([.ref (gA Λ 0 0)] : List Value).toArray s := Or.inl hM68
  refine j_aload_n C dX10_keep_0 rfl 0 rfl ?_
  refine j_getV C hwX10 0 0 8 (CR.n1 hC (by decide)) rfl rfl (by decide) rfl 0 (CR.v hC 0 0 8 ⟨rfl, by decide⟩ id) hL68 dX10_keep_1 ?_
  refine j_aload_n C dX10_keep_4 rfl 0 rfl ?_
  refine j_getV C hwX10 0 0 2 (CR.n1 hC (by decide)) rfl rfl (by decide) rfl 0 (CR.v hC 0 0 2 ⟨rfl, by decide⟩ id) hL24 dX10_keep_5 ?_
  refine c_i0 C (r_V C 27 0 [.ref (gA Λ 3 0)] (c_X1_hold l D cy base Λ σ M hC hB) (cwV 1 hts gX10_keep_X1_hold rfl rfl rfl (by decide +kernel) ⟨by decide, by decide⟩) (CR.n1 hC (by decide)) rfl rfl rfl rfl (Nat.le_of_ble_eq_true rfl) dX10_keep_8 ⟨by decide, by decide⟩) (fun rv u1 hp => ?_)
  exact j_iret C hr hlk (hp) dX10_keep_11

set_option maxHeartbeats 4000000 in
set_option maxRecDepth 100000 in
theorem c_moves_no (l : Launch) (D : va_G) (cy : Nat → ClassId) (base : Nat) (Λ : LY) (σ : HS) (M : MM) (hC : CR noEx Λ σ M) (hB : MBd M) (hk : M 31 23 = 0) : Met l yX10_moves wsX10_moves ({ frames := 40, cells := 0, slots := 0, locals := 600 }) (va_Pc [.ref (gA Λ 0 0)] (Wd D cy base Λ σ)) (va_Qi (fun v u => v = -1 ∧ u = σ) (Wd D cy base Λ) (Ab base)) 0 0 (Ab base) := by
  refine j_start (cc := cX10_moves) (nL := 1) (ret := (some .int)) (lv := [(0, .ref (gA Λ 0 0))]) (by decide) rfl (Nat.le_of_ble_eq_true rfl) rfl ?_
  intro p e s m below meth c C hr hlk hnm
  have C : Cx p s m ([.ref (gA Λ 0 0)] : List Value).toArray c cX10_moves 1 RX10 wsX10_moves D cy base := C
  have hts := C.2.2.2.2.1
  have hwX10 : ∀ w ∈ u_ws RX10 TX10 9, w ∈ wsX10_moves := by decide +kernel
  have hM24 : (Cond.fieldLink RX10 24 (TX10 2).1 (TX10 2).2.1 (TX10 2).2.2.1).before ([.ref (gA Λ 0 0)] : List Value).toArray s = true := hts (.fieldLink RX10 24 "CodeRooms" "plan" "LCodeRooms$Plan;") (by decide +kernel)
  have hL24 : FL RX10 24 (TX10 2).1 (TX10 2).2.1 (TX10 2).2.2.1 ([.ref (gA Λ 0 0)] : List Value).toArray s := Or.inl hM24
  have hM68 : (Cond.fieldLink RX10 68 (TX10 8).1 (TX10 8).2.1 (TX10 8).2.2.1).before ([.ref (gA Λ 0 0)] : List Value).toArray s = true := hts (.fieldLink RX10 68 "CodeRooms" "kept" "LCodeRooms$Kept;") (by decide +kernel)
  have hL68 : FL RX10 68 (TX10 8).1 (TX10 8).2.1 (TX10 8).2.2.1 ([.ref (gA Λ 0 0)] : List Value).toArray s := Or.inl hM68
  refine j_aload_n C dX10_moves_0 rfl 0 rfl ?_
  refine j_getV C hwX10 0 0 8 (CR.n1 hC (by decide)) rfl rfl (by decide) rfl 0 (CR.v hC 0 0 8 ⟨rfl, by decide⟩ id) hL68 dX10_moves_1 ?_
  refine j_aload_n C dX10_moves_4 rfl 0 rfl ?_
  refine j_getV C hwX10 0 0 2 (CR.n1 hC (by decide)) rfl rfl (by decide) rfl 0 (CR.v hC 0 0 2 ⟨rfl, by decide⟩ id) hL24 dX10_moves_5 ?_
  refine c_i0 C (r_V C 27 0 [.ref (gA Λ 3 0)] (c_dist_no l D cy base Λ σ M hC hB hk) (cwV 1 hts gX10_moves_X1_distance rfl rfl rfl (by decide +kernel) ⟨by decide, by decide⟩) (CR.n1 hC (by decide)) rfl rfl rfl rfl (Nat.le_of_ble_eq_true rfl) dX10_moves_8 ⟨by decide, by decide⟩) (fun rv u1 hp => ?_)
  exact j_iret C hr hlk (hp) dX10_moves_11

set_option maxHeartbeats 4000000 in
set_option maxRecDepth 100000 in
theorem c_moves_ok (l : Launch) (D : va_G) (cy : Nat → ClassId) (base : Nat) (Λ : LY) (σ : HS) (M : MM) (hC : CR noEx Λ σ M) (hB : MBd M) (hk : M 31 23 ≠ 0) : Met l yX10_moves wsX10_moves ({ frames := 40, cells := 0, slots := 0, locals := 600 }) (va_Pc [.ref (gA Λ 0 0)] (Wd D cy base Λ σ)) (va_Qi (fun v u => v = nI (fb_ct (bothB M) (M 31 5)) - nI (stF (fun x => fb_ct (tgP M x) (M 31 5)) 6 0 0) ∧ GK σ u) (Wd D cy base Λ) (Ab base)) 0 0 (Ab base) := by
  refine j_start (cc := cX10_moves) (nL := 1) (ret := (some .int)) (lv := [(0, .ref (gA Λ 0 0))]) (by decide) rfl (Nat.le_of_ble_eq_true rfl) rfl ?_
  intro p e s m below meth c C hr hlk hnm
  have C : Cx p s m ([.ref (gA Λ 0 0)] : List Value).toArray c cX10_moves 1 RX10 wsX10_moves D cy base := C
  have hts := C.2.2.2.2.1
  have hwX10 : ∀ w ∈ u_ws RX10 TX10 9, w ∈ wsX10_moves := by decide +kernel
  have hM24 : (Cond.fieldLink RX10 24 (TX10 2).1 (TX10 2).2.1 (TX10 2).2.2.1).before ([.ref (gA Λ 0 0)] : List Value).toArray s = true := hts (.fieldLink RX10 24 "CodeRooms" "plan" "LCodeRooms$Plan;") (by decide +kernel)
  have hL24 : FL RX10 24 (TX10 2).1 (TX10 2).2.1 (TX10 2).2.2.1 ([.ref (gA Λ 0 0)] : List Value).toArray s := Or.inl hM24
  have hM68 : (Cond.fieldLink RX10 68 (TX10 8).1 (TX10 8).2.1 (TX10 8).2.2.1).before ([.ref (gA Λ 0 0)] : List Value).toArray s = true := hts (.fieldLink RX10 68 "CodeRooms" "kept" "LCodeRooms$Kept;") (by decide +kernel)
  have hL68 : FL RX10 68 (TX10 8).1 (TX10 8).2.1 (TX10 8).2.2.1 ([.ref (gA Λ 0 0)] : List Value).toArray s := Or.inl hM68
  refine j_aload_n C dX10_moves_0 rfl 0 rfl ?_
  refine j_getV C hwX10 0 0 8 (CR.n1 hC (by decide)) rfl rfl (by decide) rfl 0 (CR.v hC 0 0 8 ⟨rfl, by decide⟩ id) hL68 dX10_moves_1 ?_
  refine j_aload_n C dX10_moves_4 rfl 0 rfl ?_
  refine j_getV C hwX10 0 0 2 (CR.n1 hC (by decide)) rfl rfl (by decide) rfl 0 (CR.v hC 0 0 2 ⟨rfl, by decide⟩ id) hL24 dX10_moves_5 ?_
  refine c_i0 C (r_V C 27 0 [.ref (gA Λ 3 0)] (c_dist_ok l D cy base Λ σ M hC hB hk) (cwV 1 hts gX10_moves_X1_distance rfl rfl rfl (by decide +kernel) ⟨by decide, by decide⟩) (CR.n1 hC (by decide)) rfl rfl rfl rfl (Nat.le_of_ble_eq_true rfl) dX10_moves_8 ⟨by decide, by decide⟩) (fun rv u1 hp => ?_)
  exact j_iret C hr hlk (hp) dX10_moves_11
