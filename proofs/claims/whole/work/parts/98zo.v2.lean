set_option maxHeartbeats 1000000 in
set_option maxRecDepth 100000 in
theorem w_routine_x1 (l : Launch) (D : va_G) (cy : Nat → ClassId) (base : Nat) (Λ : LY) (σ : HS) (a1 : Int32) (h0 : 0 < gC Λ 0) (rm : Room) (hrf : rm.frames ≤ 98) (hrl : rm.locals ≤ 1900) (hrc : rm.cells = 1) (hrs : rm.slots = 6) (hM : vx_Met l yX10_routine wsX10_routine rm (va_Pc [.ref (gA Λ 0 0), .int a1] (Wd D cy base Λ σ)) NoR (XQ D cy base Λ σ "java/lang/IllegalArgumentException") 1 6 (Ab base)) : vx_Met l yL_routine wsL_routine ({ frames := 100, cells := 1, slots := 6, locals := 2000 }) (va_Pc [.ref (gA Λ 0 0), .int a1, .ref (gA Λ 49 0)] (Wd D cy base Λ σ)) (va_Qi (fun v u => v = nI 1 ∧ u = σ) (Wd D cy base Λ) (Ab base)) NoX 1 6 (Ab base) := by
  refine j_startH (cc := cL_routine) (nL := 4) (ret := (some .int)) (hh := [(0, 9, 12, 13), (0, 9, 15, 15)]) (lv := [(0, .ref (gA Λ 0 0)), (1, .int a1), (2, .ref (gA Λ 49 0))]) (fun _ q => q) (by decide) rfl (Nat.le_of_ble_eq_true rfl) rfl ?_
  intro p e s m below meth c C hr hlk htab hq
  have C : Cx p s m ([.ref (gA Λ 0 0), .int a1, .ref (gA Λ 49 0)] : List Value).toArray c cL_routine 4 RL wsL_routine D cy base := C
  have hts := C.2.2.2.2.1
  refine j_aload_n C dL_routine_0 rfl 2 rfl ?_
  refine j_iconst C (nI 0) dL_routine_1 (by decide) ?_
  refine j_aload_n C dL_routine_2 rfl 0 rfl ?_
  refine j_iload_n C dL_routine_3 rfl 1 rfl ?_
  refine j_caught C (rx_V C 0 0 [.int a1] hM (cwV 1 hts gL_routine_X10_routine rfl hrc hrs (by decide +kernel) ⟨by show rm.frames + 1 ≤ 100; omega, by show 8 + (4 + 11) + rm.locals ≤ 2000; omega⟩) h0 rfl rfl rfl rfl (Nat.le_of_ble_eq_true rfl) dL_routine_4 ⟨by decide, by decide⟩) [] ⟨0, 9, 12, 13⟩ [⟨0, 9, 15, 15⟩] htab (fun z hz => nomatch hz) (by decide) (by decide) (hts (.classLink RL 13 "java/lang/IllegalArgumentException") (by decide +kernel)) (Ex.cst C.2.2.2.2.2.2 lw_xac) (fun q9 => ?_)
  refine j_astore_n C [(3, .ref q9), (0, .ref (gA Λ 0 0)), (1, .int a1), (2, .ref (gA Λ 49 0))] dL_routine_12 rfl (by decide) rfl ?_
  refine j_iconst C (nI 1) dL_routine_13 (by decide) ?_
  refine j_wide (k := 1) (n := 6) (by omega) (by omega) ?_
  exact j_up (j_iret C hr hlk ⟨rfl, rfl⟩ dL_routine_14)
set_option maxHeartbeats 1000000 in
set_option maxRecDepth 100000 in
theorem w_routine_x2 (l : Launch) (D : va_G) (cy : Nat → ClassId) (base : Nat) (Λ : LY) (σ : HS) (a1 : Int32) (h0 : 0 < gC Λ 0) (rm : Room) (hrf : rm.frames ≤ 98) (hrl : rm.locals ≤ 1900) (hrc : rm.cells = 1) (hrs : rm.slots = 6) (hM : vx_Met l yX10_routine wsX10_routine rm (va_Pc [.ref (gA Λ 0 0), .int a1] (Wd D cy base Λ σ)) NoR (XQ D cy base Λ σ "java/lang/IllegalStateException") 1 6 (Ab base)) : vx_Met l yL_routine wsL_routine ({ frames := 100, cells := 1, slots := 6, locals := 2000 }) (va_Pc [.ref (gA Λ 0 0), .int a1, .ref (gA Λ 49 0)] (Wd D cy base Λ σ)) (va_Qi (fun v u => v = nI 2 ∧ u = σ) (Wd D cy base Λ) (Ab base)) NoX 1 6 (Ab base) := by
  refine j_startH (cc := cL_routine) (nL := 4) (ret := (some .int)) (hh := [(0, 9, 12, 13), (0, 9, 15, 15)]) (lv := [(0, .ref (gA Λ 0 0)), (1, .int a1), (2, .ref (gA Λ 49 0))]) (fun _ q => q) (by decide) rfl (Nat.le_of_ble_eq_true rfl) rfl ?_
  intro p e s m below meth c C hr hlk htab hq
  have C : Cx p s m ([.ref (gA Λ 0 0), .int a1, .ref (gA Λ 49 0)] : List Value).toArray c cL_routine 4 RL wsL_routine D cy base := C
  have hts := C.2.2.2.2.1
  refine j_aload_n C dL_routine_0 rfl 2 rfl ?_
  refine j_iconst C (nI 0) dL_routine_1 (by decide) ?_
  refine j_aload_n C dL_routine_2 rfl 0 rfl ?_
  refine j_iload_n C dL_routine_3 rfl 1 rfl ?_
  refine j_caught C (rx_V C 0 0 [.int a1] hM (cwV 1 hts gL_routine_X10_routine rfl hrc hrs (by decide +kernel) ⟨by show rm.frames + 1 ≤ 100; omega, by show 8 + (4 + 11) + rm.locals ≤ 2000; omega⟩) h0 rfl rfl rfl rfl (Nat.le_of_ble_eq_true rfl) dL_routine_4 ⟨by decide, by decide⟩) [⟨0, 9, 12, 13⟩] ⟨0, 9, 15, 15⟩ [] htab (fun z hz => by rw [List.mem_singleton.mp hz]; exact Or.inr ⟨by decide, "java/lang/IllegalArgumentException", hts (.classLink RL 13 "java/lang/IllegalArgumentException") (by decide +kernel), Ex.nc C.2.2.2.2.2.2 nw_nc2⟩) (by decide) (by decide) (hts (.classLink RL 15 "java/lang/IllegalStateException") (by decide +kernel)) (Ex.cst C.2.2.2.2.2.2 lw_xsc) (fun q9 => ?_)
  refine j_astore_n C [(3, .ref q9), (0, .ref (gA Λ 0 0)), (1, .int a1), (2, .ref (gA Λ 49 0))] dL_routine_15 rfl (by decide) rfl ?_
  refine j_iconst C (nI 2) dL_routine_16 (by decide) ?_
  refine j_wide (k := 1) (n := 6) (by omega) (by omega) ?_
  exact j_up (j_iret C hr hlk ⟨rfl, rfl⟩ dL_routine_17)
set_option maxHeartbeats 1000000 in
set_option maxRecDepth 100000 in
theorem w_routine_n (l : Launch) (D : va_G) (cy : Nat → ClassId) (base : Nat) (Λ : LY) (σ : HS) (a1 : Int32) (post : Int32 → LY × HS → Prop) (hpG : ∀ v x, post v x → Gw Λ x.1) (h0 : 0 < gC Λ 0) (h49 : 0 < gC Λ 49) (hl49 : gN Λ 49 0 = 1) (rm : Room) (mc ms : Nat) (hrf : rm.frames ≤ 98) (hrl : rm.locals ≤ 1900) (hrc : rm.cells = mc) (hrs : rm.slots = ms) (hM : Met l yX10_routine wsX10_routine rm (va_Pc [.ref (gA Λ 0 0), .int a1] (Wd D cy base Λ σ)) (va_Qi post (Wx D cy base) (Ab base)) mc ms (Ab base)) : vx_Met l yL_routine wsL_routine ({ frames := 100, cells := mc, slots := ms, locals := 2000 }) (va_Pc [.ref (gA Λ 0 0), .int a1, .ref (gA Λ 49 0)] (Wd D cy base Λ σ)) (va_Qi (fun v x => v = nI 0 ∧ ∃ rv u, post rv (x.1, u) ∧ x.2 = sJ u 49 0 0 (rv.toInt64)) (Wx D cy base) (Ab base)) NoX mc ms (Ab base) := by
  refine j_startH (cc := cL_routine) (nL := 4) (ret := (some .int)) (hh := [(0, 9, 12, 13), (0, 9, 15, 15)]) (lv := [(0, .ref (gA Λ 0 0)), (1, .int a1), (2, .ref (gA Λ 49 0))]) (fun _ q => q) (by decide) rfl (Nat.le_of_ble_eq_true rfl) rfl ?_
  intro p e s m below meth c C hr hlk htab hq
  have C : Cx p s m ([.ref (gA Λ 0 0), .int a1, .ref (gA Λ 49 0)] : List Value).toArray c cL_routine 4 RL wsL_routine D cy base := C
  have hts := C.2.2.2.2.1
  refine j_aload_n C dL_routine_0 rfl 2 rfl ?_
  refine j_iconst C (nI 0) dL_routine_1 (by decide) ?_
  refine j_aload_n C dL_routine_2 rfl 0 rfl ?_
  refine j_iload_n C dL_routine_3 rfl 1 rfl ?_
  refine c_ix C (r_V C 0 0 [.int a1] hM (cwV 1 hts gL_routine_X10_routine rfl hrc hrs (by decide +kernel) ⟨by show rm.frames + 1 ≤ 100; omega, by show 8 + (4 + 11) + rm.locals ≤ 2000; omega⟩) h0 rfl rfl rfl rfl (Nat.le_of_ble_eq_true rfl) dL_routine_4 ⟨by show 0 + mc ≤ mc; omega, by show 0 + ms ≤ ms; omega⟩) (fun rv Λ2 u hp => ?_)
  have hG := hpG _ _ hp
  have e49 : gA Λ2 49 0 = gA Λ 49 0 := (hG.2.1 49 0 h49).1
  refine j_lv (lv' := []) [] rfl ?_
  refine j_eq (lv' := []) (st' := [.int rv, .int (nI 0), .ref (gA Λ2 49 0)]) rfl (by simp only [e49]) ?_
  refine j_i2l C (rv.toInt64) dL_routine_7 rfl ?_
  refine j_last C 49 0 0 (Nat.lt_of_lt_of_le h49 (hG.1 49)) rfl rfl 1 ((hG.2.1 49 0 h49).2.trans hl49) (by omega) (by omega) (rv.toInt64) rfl dL_routine_8 ?_
  refine j_goto (tgt := 18) C dL_routine_9 (by decide) ?_
  refine j_iconst C (nI 0) dL_routine_18 (by decide) ?_
  refine j_wide (k := mc) (n := ms) (by omega) (by omega) ?_
  exact j_up (j_iretx C hr hlk ⟨rfl, rv, u, hp, rfl⟩ dL_routine_19)
set_option maxHeartbeats 1000000 in
set_option maxRecDepth 100000 in
theorem w_routine_g (l : Launch) (D : va_G) (cy : Nat → ClassId) (base : Nat) (Λ : LY) (σ : HS) (a1 : Int32) (post : Int32 → LY × HS → Prop) (hpG : ∀ v x, post v x → Gw Λ x.1) (h0 : 0 < gC Λ 0) (h49 : 0 < gC Λ 49) (hl49 : gN Λ 49 0 = 1) (rm : Room) (mc ms : Nat) (hrf : rm.frames ≤ 98) (hrl : rm.locals ≤ 1900) (hrc : rm.cells = mc) (hrs : rm.slots = ms) (hM : Met l yX10_routine wsX10_routine rm (va_Pc [.ref (gA Λ 0 0), .int a1] (Wg D cy base Λ σ)) (va_Qi post (Wx D cy base) (Ab base)) mc ms (Ab base)) : vx_Met l yL_routine wsL_routine ({ frames := 100, cells := mc, slots := ms, locals := 2000 }) (va_Pc [.ref (gA Λ 0 0), .int a1, .ref (gA Λ 49 0)] (Wg D cy base Λ σ)) (va_Qi (fun v x => v = nI 0 ∧ ∃ rv u, post rv (x.1, u) ∧ x.2 = sJ u 49 0 0 (rv.toInt64)) (Wx D cy base) (Ab base)) NoX mc ms (Ab base) := by
  refine j_startH (cc := cL_routine) (nL := 4) (ret := (some .int)) (hh := [(0, 9, 12, 13), (0, 9, 15, 15)]) (lv := [(0, .ref (gA Λ 0 0)), (1, .int a1), (2, .ref (gA Λ 49 0))]) (fun _ q => q.1) (by decide) rfl (Nat.le_of_ble_eq_true rfl) rfl ?_
  intro p e s m below meth c C hr hlk htab hq
  have C : Cx p s m ([.ref (gA Λ 0 0), .int a1, .ref (gA Λ 49 0)] : List Value).toArray c cL_routine 4 RL wsL_routine D cy base := C
  have hts := C.2.2.2.2.1
  refine j_aload_n C dL_routine_0 rfl 2 rfl ?_
  refine j_iconst C (nI 0) dL_routine_1 (by decide) ?_
  refine j_aload_n C dL_routine_2 rfl 0 rfl ?_
  refine j_iload_n C dL_routine_3 rfl 1 rfl ?_
  refine c_ix C (r_Vg C hq.2 0 0 [.int a1] hM (cwV 1 hts gL_routine_X10_routine rfl hrc hrs (by decide +kernel) ⟨by show rm.frames + 1 ≤ 100; omega, by show 8 + (4 + 11) + rm.locals ≤ 2000; omega⟩) h0 rfl rfl rfl rfl (Nat.le_of_ble_eq_true rfl) dL_routine_4 ⟨by show 0 + mc ≤ mc; omega, by show 0 + ms ≤ ms; omega⟩) (fun rv Λ2 u hp => ?_)
  have hG := hpG _ _ hp
  have e49 : gA Λ2 49 0 = gA Λ 49 0 := (hG.2.1 49 0 h49).1
  refine j_lv (lv' := []) [] rfl ?_
  refine j_eq (lv' := []) (st' := [.int rv, .int (nI 0), .ref (gA Λ2 49 0)]) rfl (by simp only [e49]) ?_
  refine j_i2l C (rv.toInt64) dL_routine_7 rfl ?_
  refine j_last C 49 0 0 (Nat.lt_of_lt_of_le h49 (hG.1 49)) rfl rfl 1 ((hG.2.1 49 0 h49).2.trans hl49) (by omega) (by omega) (rv.toInt64) rfl dL_routine_8 ?_
  refine j_goto (tgt := 18) C dL_routine_9 (by decide) ?_
  refine j_iconst C (nI 0) dL_routine_18 (by decide) ?_
  refine j_wide (k := mc) (n := ms) (by omega) (by omega) ?_
  exact j_up (j_iretx C hr hlk ⟨rfl, rv, u, hp, rfl⟩ dL_routine_19)