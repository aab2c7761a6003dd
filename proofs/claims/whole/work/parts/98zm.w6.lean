set_option maxHeartbeats 1000000 in
set_option maxRecDepth 100000 in
/-- hub: it throws -/
theorem w_hub_x (l : Launch) (D : va_G) (cy : Nat → ClassId) (base : Nat) (Λ : LY) (σ : HS) (r : Int32) (h0 : 0 < gC Λ 0) (rm : Room) (hrf : rm.frames ≤ 98) (hrl : rm.locals ≤ 1900) (hrc : rm.cells = 1) (hrs : rm.slots = 6) (hM : vx_Met l yX10_hub wsX10_hub rm (va_Pc [.ref (gA Λ 0 0), .int r] (Wd D cy base Λ σ)) NoR (XQ D cy base Λ σ "java/lang/IndexOutOfBoundsException") 1 6 (Ab base)) : vx_Met l yL_hub wsL_hub ({ frames := 100, cells := 1, slots := 6, locals := 2000 }) (va_Pc [.ref (gA Λ 0 0), .int r, .ref (gA Λ 49 0)] (Wd D cy base Λ σ)) (va_Qi (fun v u => v = nI 1 ∧ u = σ) (Wd D cy base Λ) (Ab base)) NoX 1 6 (Ab base) := by
  refine j_startH (cc := cL_hub) (nL := 4) (ret := (some .int)) (hh := [(0, 16, 19, 21)]) (lv := [(0, .ref (gA Λ 0 0)), (1, .int r), (2, .ref (gA Λ 49 0))]) (fun _ q => q) (by decide) rfl (Nat.le_of_ble_eq_true rfl) rfl ?_
  intro p e s m below meth c C hr hlk htab hq
  have C : Cx p s m ([.ref (gA Λ 0 0), .int r, .ref (gA Λ 49 0)] : List Value).toArray c cL_hub 4 RL wsL_hub D cy base := C
  have hts := C.2.2.2.2.1
  refine j_aload_n C dL_hub_0 rfl 2 rfl ?_
  refine j_iconst C (nI 0) dL_hub_1 (by decide) ?_
  refine j_aload_n C dL_hub_2 rfl 0 rfl ?_
  refine j_iload_n C dL_hub_3 rfl 1 rfl ?_
  refine j_caught C (rx_V C 0 0 [.int r] hM (cwV 1 hts gL_hub_X10_hub rfl hrc hrs (by decide +kernel) ⟨by show rm.frames + 1 ≤ 100; omega, by show 8 + (2 + 11) + rm.locals ≤ 2000; omega⟩) h0 rfl rfl rfl rfl (Nat.le_of_ble_eq_true rfl) dL_hub_4 ⟨by decide, by decide⟩) [] ⟨0, 16, 19, 21⟩ [] htab (fun z hz => nomatch hz) (by decide) (by decide) (hts (.classLink RL 21 "java/lang/IndexOutOfBoundsException") (by decide +kernel)) (Ex.cst C.2.2.2.2.2.2 lw_xic) (fun q9 => ?_)
  refine j_astore_n C [(3, .ref q9), (0, .ref (gA Λ 0 0)), (1, .int r), (2, .ref (gA Λ 49 0))] dL_hub_19 rfl (by decide) rfl ?_
  refine j_iconst C (nI 1) dL_hub_20 (by decide) ?_
  refine j_wide (k := 1) (n := 6) (by omega) (by omega) ?_
  exact j_up (j_iret C hr hlk ⟨rfl, rfl⟩ dL_hub_21)
