set_option maxHeartbeats 1000000 in
set_option maxRecDepth 100000 in
theorem w_tie_n (l : Launch) (D : va_G) (cy : Nat → ClassId) (base : Nat) (Λ : LY) (σ : HS) (a1 a2 a3 a4 : Int32) (post : Int32 → HS → Prop) (h0 : 0 < gC Λ 0) (h49 : 0 < gC Λ 49) (hl49 : gN Λ 49 0 = 1) (rm : Room) (hrf : rm.frames ≤ 98) (hrl : rm.locals ≤ 1900) (hrc : rm.cells = 0) (hrs : rm.slots = 0) (hM : Met l yX10_tie wsX10_tie rm (va_Pc [.ref (gA Λ 0 0), .int a1, .int a2, .int a3, .int a4] (Wd D cy base Λ σ)) (va_Qi post (Wd D cy base Λ) (Ab base)) 0 0 (Ab base)) : vx_Met l yL_tie wsL_tie ({ frames := 100, cells := 1, slots := 6, locals := 2000 }) (va_Pc [.ref (gA Λ 0 0), .int a1, .int a2, .int a3, .int a4, .ref (gA Λ 49 0)] (Wd D cy base Λ σ)) (va_Qi (fun v u9 => v = nI 0 ∧ ∃ rv u, post rv u ∧ u9 = sJ u 49 0 0 (rv.toInt64)) (Wd D cy base Λ) (Ab base)) NoX 1 6 (Ab base) := by
  refine j_startH (cc := cL_tie) (nL := 7) (ret := (some .int)) (hh := [(0, 14, 17, 21), (0, 14, 21, 13)]) (lv := [(0, .ref (gA Λ 0 0)), (1, .int a1), (2, .int a2), (3, .int a3), (4, .int a4), (5, .ref (gA Λ 49 0))]) (fun _ q => q) (by decide) rfl (Nat.le_of_ble_eq_true rfl) rfl ?_
  intro p e s m below meth c C hr hlk htab hq
  have C : Cx p s m ([.ref (gA Λ 0 0), .int a1, .int a2, .int a3, .int a4, .ref (gA Λ 49 0)] : List Value).toArray c cL_tie 7 RL wsL_tie D cy base := C
  have hts := C.2.2.2.2.1
  refine j_aload C dL_tie_0 5 rfl ?_
  refine j_iconst C (nI 0) dL_tie_2 (by decide) ?_
  refine j_aload_n C dL_tie_3 rfl 0 rfl ?_
  refine j_iload_n C dL_tie_4 rfl 1 rfl ?_
  refine j_iload_n C dL_tie_5 rfl 2 rfl ?_
  refine j_iload_n C dL_tie_6 rfl 3 rfl ?_
  refine j_iload C dL_tie_7 4 rfl ?_
  refine c_i0 C (r_V C 0 0 [.int a1, .int a2, .int a3, .int a4] hM (cwV 4 hts gL_tie_X10_tie rfl hrc hrs (by decide +kernel) ⟨by show rm.frames + 1 ≤ 100; omega, by show 8 + (7 + 11) + rm.locals ≤ 2000; omega⟩) h0 rfl rfl rfl rfl (Nat.le_of_ble_eq_true rfl) dL_tie_9 ⟨by decide, by decide⟩) (fun rv u hp => ?_)
  refine j_i2l C (rv.toInt64) dL_tie_12 rfl ?_
  refine j_last C 49 0 0 h49 rfl rfl 1 hl49 (by omega) (by omega) (rv.toInt64) rfl dL_tie_13 ?_
  refine j_goto (tgt := 25) C dL_tie_14 (by decide) ?_
  refine j_iconst C (nI 0) dL_tie_25 (by decide) ?_
  refine j_wide (k := 1) (n := 6) (by omega) (by omega) ?_
  exact j_up (j_iret C hr hlk ⟨rfl, rv, u, hp, rfl⟩ dL_tie_26)
set_option maxHeartbeats 1000000 in
set_option maxRecDepth 100000 in
theorem w_tie_x1 (l : Launch) (D : va_G) (cy : Nat → ClassId) (base : Nat) (Λ : LY) (σ : HS) (a1 a2 a3 a4 : Int32) (h0 : 0 < gC Λ 0) (rm : Room) (hrf : rm.frames ≤ 98) (hrl : rm.locals ≤ 1900) (hrc : rm.cells = 1) (hrs : rm.slots = 6) (hM : vx_Met l yX10_tie wsX10_tie rm (va_Pc [.ref (gA Λ 0 0), .int a1, .int a2, .int a3, .int a4] (Wd D cy base Λ σ)) NoR (XQ D cy base Λ σ "java/lang/IndexOutOfBoundsException") 1 6 (Ab base)) : vx_Met l yL_tie wsL_tie ({ frames := 100, cells := 1, slots := 6, locals := 2000 }) (va_Pc [.ref (gA Λ 0 0), .int a1, .int a2, .int a3, .int a4, .ref (gA Λ 49 0)] (Wd D cy base Λ σ)) (va_Qi (fun v u => v = nI 1 ∧ u = σ) (Wd D cy base Λ) (Ab base)) NoX 1 6 (Ab base) := by
  refine j_startH (cc := cL_tie) (nL := 7) (ret := (some .int)) (hh := [(0, 14, 17, 21), (0, 14, 21, 13)]) (lv := [(0, .ref (gA Λ 0 0)), (1, .int a1), (2, .int a2), (3, .int a3), (4, .int a4), (5, .ref (gA Λ 49 0))]) (fun _ q => q) (by decide) rfl (Nat.le_of_ble_eq_true rfl) rfl ?_
  intro p e s m below meth c C hr hlk htab hq
  have C : Cx p s m ([.ref (gA Λ 0 0), .int a1, .int a2, .int a3, .int a4, .ref (gA Λ 49 0)] : List Value).toArray c cL_tie 7 RL wsL_tie D cy base := C
  have hts := C.2.2.2.2.1
  refine j_aload C dL_tie_0 5 rfl ?_
  refine j_iconst C (nI 0) dL_tie_2 (by decide) ?_
  refine j_aload_n C dL_tie_3 rfl 0 rfl ?_
  refine j_iload_n C dL_tie_4 rfl 1 rfl ?_
  refine j_iload_n C dL_tie_5 rfl 2 rfl ?_
  refine j_iload_n C dL_tie_6 rfl 3 rfl ?_
  refine j_iload C dL_tie_7 4 rfl ?_
  refine j_caught C (rx_V C 0 0 [.int a1, .int a2, .int a3, .int a4] hM (cwV 4 hts gL_tie_X10_tie rfl hrc hrs (by decide +kernel) ⟨by show rm.frames + 1 ≤ 100; omega, by show 8 + (7 + 11) + rm.locals ≤ 2000; omega⟩) h0 rfl rfl rfl rfl (Nat.le_of_ble_eq_true rfl) dL_tie_9 ⟨by decide, by decide⟩) [] ⟨0, 14, 17, 21⟩ [⟨0, 14, 21, 13⟩] htab (fun z hz => nomatch hz) (by decide) (by decide) (hts (.classLink RL 21 "java/lang/IndexOutOfBoundsException") (by decide +kernel)) (Ex.cst C.2.2.2.2.2.2 lw_xic) (fun q9 => ?_)
  refine j_astore C [(6, .ref q9), (0, .ref (gA Λ 0 0)), (1, .int a1), (2, .int a2), (3, .int a3), (4, .int a4), (5, .ref (gA Λ 49 0))] dL_tie_17 (by decide) rfl ?_
  refine j_iconst C (nI 1) dL_tie_19 (by decide) ?_
  refine j_wide (k := 1) (n := 6) (by omega) (by omega) ?_
  exact j_up (j_iret C hr hlk ⟨rfl, rfl⟩ dL_tie_20)
set_option maxHeartbeats 1000000 in
set_option maxRecDepth 100000 in
theorem w_tie_x2 (l : Launch) (D : va_G) (cy : Nat → ClassId) (base : Nat) (Λ : LY) (σ : HS) (a1 a2 a3 a4 : Int32) (h0 : 0 < gC Λ 0) (rm : Room) (hrf : rm.frames ≤ 98) (hrl : rm.locals ≤ 1900) (hrc : rm.cells = 1) (hrs : rm.slots = 6) (hM : vx_Met l yX10_tie wsX10_tie rm (va_Pc [.ref (gA Λ 0 0), .int a1, .int a2, .int a3, .int a4] (Wd D cy base Λ σ)) NoR (XQ D cy base Λ σ "java/lang/IllegalArgumentException") 1 6 (Ab base)) : vx_Met l yL_tie wsL_tie ({ frames := 100, cells := 1, slots := 6, locals := 2000 }) (va_Pc [.ref (gA Λ 0 0), .int a1, .int a2, .int a3, .int a4, .ref (gA Λ 49 0)] (Wd D cy base Λ σ)) (va_Qi (fun v u => v = nI 2 ∧ u = σ) (Wd D cy base Λ) (Ab base)) NoX 1 6 (Ab base) := by
  refine j_startH (cc := cL_tie) (nL := 7) (ret := (some .int)) (hh := [(0, 14, 17, 21), (0, 14, 21, 13)]) (lv := [(0, .ref (gA Λ 0 0)), (1, .int a1), (2, .int a2), (3, .int a3), (4, .int a4), (5, .ref (gA Λ 49 0))]) (fun _ q => q) (by decide) rfl (Nat.le_of_ble_eq_true rfl) rfl ?_
  intro p e s m below meth c C hr hlk htab hq
  have C : Cx p s m ([.ref (gA Λ 0 0), .int a1, .int a2, .int a3, .int a4, .ref (gA Λ 49 0)] : List Value).toArray c cL_tie 7 RL wsL_tie D cy base := C
  have hts := C.2.2.2.2.1
  refine j_aload C dL_tie_0 5 rfl ?_
  refine j_iconst C (nI 0) dL_tie_2 (by decide) ?_
  refine j_aload_n C dL_tie_3 rfl 0 rfl ?_
  refine j_iload_n C dL_tie_4 rfl 1 rfl ?_
  refine j_iload_n C dL_tie_5 rfl 2 rfl ?_
  refine j_iload_n C dL_tie_6 rfl 3 rfl ?_
  refine j_iload C dL_tie_7 4 rfl ?_
  refine j_caught C (rx_V C 0 0 [.int a1, .int a2, .int a3, .int a4] hM (cwV 4 hts gL_tie_X10_tie rfl hrc hrs (by decide +kernel) ⟨by show rm.frames + 1 ≤ 100; omega, by show 8 + (7 + 11) + rm.locals ≤ 2000; omega⟩) h0 rfl rfl rfl rfl (Nat.le_of_ble_eq_true rfl) dL_tie_9 ⟨by decide, by decide⟩) [⟨0, 14, 17, 21⟩] ⟨0, 14, 21, 13⟩ [] htab (fun z hz => by rw [List.mem_singleton.mp hz]; exact Or.inr ⟨by decide, "java/lang/IndexOutOfBoundsException", hts (.classLink RL 21 "java/lang/IndexOutOfBoundsException") (by decide +kernel), Ex.nc C.2.2.2.2.2.2 nw_nc1⟩) (by decide) (by decide) (hts (.classLink RL 13 "java/lang/IllegalArgumentException") (by decide +kernel)) (Ex.cst C.2.2.2.2.2.2 lw_xac) (fun q9 => ?_)
  refine j_astore C [(6, .ref q9), (0, .ref (gA Λ 0 0)), (1, .int a1), (2, .int a2), (3, .int a3), (4, .int a4), (5, .ref (gA Λ 49 0))] dL_tie_21 (by decide) rfl ?_
  refine j_iconst C (nI 2) dL_tie_23 (by decide) ?_
  refine j_wide (k := 1) (n := 6) (by omega) (by omega) ?_
  exact j_up (j_iret C hr hlk ⟨rfl, rfl⟩ dL_tie_24)
set_option maxHeartbeats 1000000 in
set_option maxRecDepth 100000 in
theorem w_ties_n (l : Launch) (D : va_G) (cy : Nat → ClassId) (base : Nat) (Λ : LY) (σ : HS) (a1 a2 : Int32) (post : Int32 → HS → Prop) (h0 : 0 < gC Λ 0) (h49 : 0 < gC Λ 49) (hl49 : gN Λ 49 0 = 1) (rm : Room) (hrf : rm.frames ≤ 98) (hrl : rm.locals ≤ 1900) (hrc : rm.cells = 0) (hrs : rm.slots = 0) (hM : Met l yX10_ties wsX10_ties rm (va_Pc [.ref (gA Λ 0 0), .int a1, .int a2] (Wd D cy base Λ σ)) (va_Qi post (Wd D cy base Λ) (Ab base)) 0 0 (Ab base)) : vx_Met l yL_ties wsL_ties ({ frames := 100, cells := 1, slots := 6, locals := 2000 }) (va_Pc [.ref (gA Λ 0 0), .int a1, .int a2, .ref (gA Λ 49 0)] (Wd D cy base Λ σ)) (va_Qi (fun v u9 => v = nI 0 ∧ ∃ rv u, post rv u ∧ u9 = sJ u 49 0 0 (rv.toInt64)) (Wd D cy base Λ) (Ab base)) NoX 1 6 (Ab base) := by
  refine j_startH (cc := cL_ties) (nL := 5) (ret := (some .int)) (hh := [(0, 10, 13, 21), (0, 10, 17, 13)]) (lv := [(0, .ref (gA Λ 0 0)), (1, .int a1), (2, .int a2), (3, .ref (gA Λ 49 0))]) (fun _ q => q) (by decide) rfl (Nat.le_of_ble_eq_true rfl) rfl ?_
  intro p e s m below meth c C hr hlk htab hq
  have C : Cx p s m ([.ref (gA Λ 0 0), .int a1, .int a2, .ref (gA Λ 49 0)] : List Value).toArray c cL_ties 5 RL wsL_ties D cy base := C
  have hts := C.2.2.2.2.1
  refine j_aload_n C dL_ties_0 rfl 3 rfl ?_
  refine j_iconst C (nI 0) dL_ties_1 (by decide) ?_
  refine j_aload_n C dL_ties_2 rfl 0 rfl ?_
  refine j_iload_n C dL_ties_3 rfl 1 rfl ?_
  refine j_iload_n C dL_ties_4 rfl 2 rfl ?_
  refine c_i0 C (r_V C 0 0 [.int a1, .int a2] hM (cwV 2 hts gL_ties_X10_ties rfl hrc hrs (by decide +kernel) ⟨by show rm.frames + 1 ≤ 100; omega, by show 8 + (5 + 11) + rm.locals ≤ 2000; omega⟩) h0 rfl rfl rfl rfl (Nat.le_of_ble_eq_true rfl) dL_ties_5 ⟨by decide, by decide⟩) (fun rv u hp => ?_)
  refine j_i2l C (rv.toInt64) dL_ties_8 rfl ?_
  refine j_last C 49 0 0 h49 rfl rfl 1 hl49 (by omega) (by omega) (rv.toInt64) rfl dL_ties_9 ?_
  refine j_goto (tgt := 21) C dL_ties_10 (by decide) ?_
  refine j_iconst C (nI 0) dL_ties_21 (by decide) ?_
  refine j_wide (k := 1) (n := 6) (by omega) (by omega) ?_
  exact j_up (j_iret C hr hlk ⟨rfl, rv, u, hp, rfl⟩ dL_ties_22)
set_option maxHeartbeats 1000000 in
set_option maxRecDepth 100000 in
theorem w_ties_x1 (l : Launch) (D : va_G) (cy : Nat → ClassId) (base : Nat) (Λ : LY) (σ : HS) (a1 a2 : Int32) (h0 : 0 < gC Λ 0) (rm : Room) (hrf : rm.frames ≤ 98) (hrl : rm.locals ≤ 1900) (hrc : rm.cells = 1) (hrs : rm.slots = 6) (hM : vx_Met l yX10_ties wsX10_ties rm (va_Pc [.ref (gA Λ 0 0), .int a1, .int a2] (Wd D cy base Λ σ)) NoR (XQ D cy base Λ σ "java/lang/IndexOutOfBoundsException") 1 6 (Ab base)) : vx_Met l yL_ties wsL_ties ({ frames := 100, cells := 1, slots := 6, locals := 2000 }) (va_Pc [.ref (gA Λ 0 0), .int a1, .int a2, .ref (gA Λ 49 0)] (Wd D cy base Λ σ)) (va_Qi (fun v u => v = nI 1 ∧ u = σ) (Wd D cy base Λ) (Ab base)) NoX 1 6 (Ab base) := by
  refine j_startH (cc := cL_ties) (nL := 5) (ret := (some .int)) (hh := [(0, 10, 13, 21), (0, 10, 17, 13)]) (lv := [(0, .ref (gA Λ 0 0)), (1, .int a1), (2, .int a2), (3, .ref (gA Λ 49 0))]) (fun _ q => q) (by decide) rfl (Nat.le_of_ble_eq_true rfl) rfl ?_
  intro p e s m below meth c C hr hlk htab hq
  have C : Cx p s m ([.ref (gA Λ 0 0), .int a1, .int a2, .ref (gA Λ 49 0)] : List Value).toArray c cL_ties 5 RL wsL_ties D cy base := C
  have hts := C.2.2.2.2.1
  refine j_aload_n C dL_ties_0 rfl 3 rfl ?_
  refine j_iconst C (nI 0) dL_ties_1 (by decide) ?_
  refine j_aload_n C dL_ties_2 rfl 0 rfl ?_
  refine j_iload_n C dL_ties_3 rfl 1 rfl ?_
  refine j_iload_n C dL_ties_4 rfl 2 rfl ?_
  refine j_caught C (rx_V C 0 0 [.int a1, .int a2] hM (cwV 2 hts gL_ties_X10_ties rfl hrc hrs (by decide +kernel) ⟨by show rm.frames + 1 ≤ 100; omega, by show 8 + (5 + 11) + rm.locals ≤ 2000; omega⟩) h0 rfl rfl rfl rfl (Nat.le_of_ble_eq_true rfl) dL_ties_5 ⟨by decide, by decide⟩) [] ⟨0, 10, 13, 21⟩ [⟨0, 10, 17, 13⟩] htab (fun z hz => nomatch hz) (by decide) (by decide) (hts (.classLink RL 21 "java/lang/IndexOutOfBoundsException") (by decide +kernel)) (Ex.cst C.2.2.2.2.2.2 lw_xic) (fun q9 => ?_)
  refine j_astore C [(4, .ref q9), (0, .ref (gA Λ 0 0)), (1, .int a1), (2, .int a2), (3, .ref (gA Λ 49 0))] dL_ties_13 (by decide) rfl ?_
  refine j_iconst C (nI 1) dL_ties_15 (by decide) ?_
  refine j_wide (k := 1) (n := 6) (by omega) (by omega) ?_
  exact j_up (j_iret C hr hlk ⟨rfl, rfl⟩ dL_ties_16)
set_option maxHeartbeats 1000000 in
set_option maxRecDepth 100000 in
theorem w_ties_x2 (l : Launch) (D : va_G) (cy : Nat → ClassId) (base : Nat) (Λ : LY) (σ : HS) (a1 a2 : Int32) (h0 : 0 < gC Λ 0) (rm : Room) (hrf : rm.frames ≤ 98) (hrl : rm.locals ≤ 1900) (hrc : rm.cells = 1) (hrs : rm.slots = 6) (hM : vx_Met l yX10_ties wsX10_ties rm (va_Pc [.ref (gA Λ 0 0), .int a1, .int a2] (Wd D cy base Λ σ)) NoR (XQ D cy base Λ σ "java/lang/IllegalArgumentException") 1 6 (Ab base)) : vx_Met l yL_ties wsL_ties ({ frames := 100, cells := 1, slots := 6, locals := 2000 }) (va_Pc [.ref (gA Λ 0 0), .int a1, .int a2, .ref (gA Λ 49 0)] (Wd D cy base Λ σ)) (va_Qi (fun v u => v = nI 2 ∧ u = σ) (Wd D cy base Λ) (Ab base)) NoX 1 6 (Ab base) := by
  refine j_startH (cc := cL_ties) (nL := 5) (ret := (some .int)) (hh := [(0, 10, 13, 21), (0, 10, 17, 13)]) (lv := [(0, .ref (gA Λ 0 0)), (1, .int a1), (2, .int a2), (3, .ref (gA Λ 49 0))]) (fun _ q => q) (by decide) rfl (Nat.le_of_ble_eq_true rfl) rfl ?_
  intro p e s m below meth c C hr hlk htab hq
  have C : Cx p s m ([.ref (gA Λ 0 0), .int a1, .int a2, .ref (gA Λ 49 0)] : List Value).toArray c cL_ties 5 RL wsL_ties D cy base := C
  have hts := C.2.2.2.2.1
  refine j_aload_n C dL_ties_0 rfl 3 rfl ?_
  refine j_iconst C (nI 0) dL_ties_1 (by decide) ?_
  refine j_aload_n C dL_ties_2 rfl 0 rfl ?_
  refine j_iload_n C dL_ties_3 rfl 1 rfl ?_
  refine j_iload_n C dL_ties_4 rfl 2 rfl ?_
  refine j_caught C (rx_V C 0 0 [.int a1, .int a2] hM (cwV 2 hts gL_ties_X10_ties rfl hrc hrs (by decide +kernel) ⟨by show rm.frames + 1 ≤ 100; omega, by show 8 + (5 + 11) + rm.locals ≤ 2000; omega⟩) h0 rfl rfl rfl rfl (Nat.le_of_ble_eq_true rfl) dL_ties_5 ⟨by decide, by decide⟩) [⟨0, 10, 13, 21⟩] ⟨0, 10, 17, 13⟩ [] htab (fun z hz => by rw [List.mem_singleton.mp hz]; exact Or.inr ⟨by decide, "java/lang/IndexOutOfBoundsException", hts (.classLink RL 21 "java/lang/IndexOutOfBoundsException") (by decide +kernel), Ex.nc C.2.2.2.2.2.2 nw_nc1⟩) (by decide) (by decide) (hts (.classLink RL 13 "java/lang/IllegalArgumentException") (by decide +kernel)) (Ex.cst C.2.2.2.2.2.2 lw_xac) (fun q9 => ?_)
  refine j_astore C [(4, .ref q9), (0, .ref (gA Λ 0 0)), (1, .int a1), (2, .int a2), (3, .ref (gA Λ 49 0))] dL_ties_17 (by decide) rfl ?_
  refine j_iconst C (nI 2) dL_ties_19 (by decide) ?_
  refine j_wide (k := 1) (n := 6) (by omega) (by omega) ?_
  exact j_up (j_iret C hr hlk ⟨rfl, rfl⟩ dL_ties_20)
set_option maxHeartbeats 1000000 in
set_option maxRecDepth 100000 in
theorem w_set_n (l : Launch) (D : va_G) (cy : Nat → ClassId) (base : Nat) (Λ : LY) (σ : HS) (a1 a2 : Int32) (post : Int32 → HS → Prop) (h0 : 0 < gC Λ 0) (h49 : 0 < gC Λ 49) (hl49 : gN Λ 49 0 = 1) (rm : Room) (hrf : rm.frames ≤ 98) (hrl : rm.locals ≤ 1900) (hrc : rm.cells = 0) (hrs : rm.slots = 0) (hM : Met l yX10_set wsX10_set rm (va_Pc [.ref (gA Λ 0 0), .int a1, .int a2] (Wd D cy base Λ σ)) (va_Qi post (Wd D cy base Λ) (Ab base)) 0 0 (Ab base)) : vx_Met l yL_set wsL_set ({ frames := 100, cells := 1, slots := 6, locals := 2000 }) (va_Pc [.ref (gA Λ 0 0), .int a1, .int a2, .ref (gA Λ 49 0)] (Wd D cy base Λ σ)) (va_Qi (fun v u9 => v = nI 0 ∧ ∃ rv u, post rv u ∧ u9 = sJ u 49 0 0 (rv.toInt64)) (Wd D cy base Λ) (Ab base)) NoX 1 6 (Ab base) := by
  refine j_startH (cc := cL_set) (nL := 5) (ret := (some .int)) (hh := [(0, 10, 13, 13)]) (lv := [(0, .ref (gA Λ 0 0)), (1, .int a1), (2, .int a2), (3, .ref (gA Λ 49 0))]) (fun _ q => q) (by decide) rfl (Nat.le_of_ble_eq_true rfl) rfl ?_
  intro p e s m below meth c C hr hlk htab hq
  have C : Cx p s m ([.ref (gA Λ 0 0), .int a1, .int a2, .ref (gA Λ 49 0)] : List Value).toArray c cL_set 5 RL wsL_set D cy base := C
  have hts := C.2.2.2.2.1
  refine j_aload_n C dL_set_0 rfl 3 rfl ?_
  refine j_iconst C (nI 0) dL_set_1 (by decide) ?_
  refine j_aload_n C dL_set_2 rfl 0 rfl ?_
  refine j_iload_n C dL_set_3 rfl 1 rfl ?_
  refine j_iload_n C dL_set_4 rfl 2 rfl ?_
  refine c_i0 C (r_V C 0 0 [.int a1, .int a2] hM (cwV 2 hts gL_set_X10_set rfl hrc hrs (by decide +kernel) ⟨by show rm.frames + 1 ≤ 100; omega, by show 8 + (3 + 11) + rm.locals ≤ 2000; omega⟩) h0 rfl rfl rfl rfl (Nat.le_of_ble_eq_true rfl) dL_set_5 ⟨by decide, by decide⟩) (fun rv u hp => ?_)
  refine j_i2l C (rv.toInt64) dL_set_8 rfl ?_
  refine j_last C 49 0 0 h49 rfl rfl 1 hl49 (by omega) (by omega) (rv.toInt64) rfl dL_set_9 ?_
  refine j_goto (tgt := 17) C dL_set_10 (by decide) ?_
  refine j_iconst C (nI 0) dL_set_17 (by decide) ?_
  refine j_wide (k := 1) (n := 6) (by omega) (by omega) ?_
  exact j_up (j_iret C hr hlk ⟨rfl, rv, u, hp, rfl⟩ dL_set_18)
set_option maxHeartbeats 1000000 in
set_option maxRecDepth 100000 in
theorem w_set_x1 (l : Launch) (D : va_G) (cy : Nat → ClassId) (base : Nat) (Λ : LY) (σ : HS) (a1 a2 : Int32) (h0 : 0 < gC Λ 0) (rm : Room) (hrf : rm.frames ≤ 98) (hrl : rm.locals ≤ 1900) (hrc : rm.cells = 1) (hrs : rm.slots = 6) (hM : vx_Met l yX10_set wsX10_set rm (va_Pc [.ref (gA Λ 0 0), .int a1, .int a2] (Wd D cy base Λ σ)) NoR (XQ D cy base Λ σ "java/lang/IllegalArgumentException") 1 6 (Ab base)) : vx_Met l yL_set wsL_set ({ frames := 100, cells := 1, slots := 6, locals := 2000 }) (va_Pc [.ref (gA Λ 0 0), .int a1, .int a2, .ref (gA Λ 49 0)] (Wd D cy base Λ σ)) (va_Qi (fun v u => v = nI 1 ∧ u = σ) (Wd D cy base Λ) (Ab base)) NoX 1 6 (Ab base) := by
  refine j_startH (cc := cL_set) (nL := 5) (ret := (some .int)) (hh := [(0, 10, 13, 13)]) (lv := [(0, .ref (gA Λ 0 0)), (1, .int a1), (2, .int a2), (3, .ref (gA Λ 49 0))]) (fun _ q => q) (by decide) rfl (Nat.le_of_ble_eq_true rfl) rfl ?_
  intro p e s m below meth c C hr hlk htab hq
  have C : Cx p s m ([.ref (gA Λ 0 0), .int a1, .int a2, .ref (gA Λ 49 0)] : List Value).toArray c cL_set 5 RL wsL_set D cy base := C
  have hts := C.2.2.2.2.1
  refine j_aload_n C dL_set_0 rfl 3 rfl ?_
  refine j_iconst C (nI 0) dL_set_1 (by decide) ?_
  refine j_aload_n C dL_set_2 rfl 0 rfl ?_
  refine j_iload_n C dL_set_3 rfl 1 rfl ?_
  refine j_iload_n C dL_set_4 rfl 2 rfl ?_
  refine j_caught C (rx_V C 0 0 [.int a1, .int a2] hM (cwV 2 hts gL_set_X10_set rfl hrc hrs (by decide +kernel) ⟨by show rm.frames + 1 ≤ 100; omega, by show 8 + (3 + 11) + rm.locals ≤ 2000; omega⟩) h0 rfl rfl rfl rfl (Nat.le_of_ble_eq_true rfl) dL_set_5 ⟨by decide, by decide⟩) [] ⟨0, 10, 13, 13⟩ [] htab (fun z hz => nomatch hz) (by decide) (by decide) (hts (.classLink RL 13 "java/lang/IllegalArgumentException") (by decide +kernel)) (Ex.cst C.2.2.2.2.2.2 lw_xac) (fun q9 => ?_)
  refine j_astore C [(4, .ref q9), (0, .ref (gA Λ 0 0)), (1, .int a1), (2, .int a2), (3, .ref (gA Λ 49 0))] dL_set_13 (by decide) rfl ?_
  refine j_iconst C (nI 1) dL_set_15 (by decide) ?_
  refine j_wide (k := 1) (n := 6) (by omega) (by omega) ?_
  exact j_up (j_iret C hr hlk ⟨rfl, rfl⟩ dL_set_16)
set_option maxHeartbeats 1000000 in
set_option maxRecDepth 100000 in
theorem w_must_n (l : Launch) (D : va_G) (cy : Nat → ClassId) (base : Nat) (Λ : LY) (σ : HS) (a1 a2 a3 : Int32) (post : Int32 → HS → Prop) (h0 : 0 < gC Λ 0) (h49 : 0 < gC Λ 49) (hl49 : gN Λ 49 0 = 1) (rm : Room) (hrf : rm.frames ≤ 98) (hrl : rm.locals ≤ 1900) (hrc : rm.cells = 0) (hrs : rm.slots = 0) (hM : Met l yX10_must wsX10_must rm (va_Pc [.ref (gA Λ 0 0), .int a1, .int a2, .int a3] (Wd D cy base Λ σ)) (va_Qi post (Wd D cy base Λ) (Ab base)) 0 0 (Ab base)) : vx_Met l yL_must wsL_must ({ frames := 100, cells := 1, slots := 6, locals := 2000 }) (va_Pc [.ref (gA Λ 0 0), .int a1, .int a2, .int a3, .ref (gA Λ 49 0)] (Wd D cy base Λ σ)) (va_Qi (fun v u9 => v = nI 0 ∧ ∃ rv u, post rv u ∧ u9 = sJ u 49 0 0 (rv.toInt64)) (Wd D cy base Λ) (Ab base)) NoX 1 6 (Ab base) := by
  refine j_startH (cc := cL_must) (nL := 6) (ret := (some .int)) (hh := [(0, 12, 15, 21), (0, 12, 19, 13)]) (lv := [(0, .ref (gA Λ 0 0)), (1, .int a1), (2, .int a2), (3, .int a3), (4, .ref (gA Λ 49 0))]) (fun _ q => q) (by decide) rfl (Nat.le_of_ble_eq_true rfl) rfl ?_
  intro p e s m below meth c C hr hlk htab hq
  have C : Cx p s m ([.ref (gA Λ 0 0), .int a1, .int a2, .int a3, .ref (gA Λ 49 0)] : List Value).toArray c cL_must 6 RL wsL_must D cy base := C
  have hts := C.2.2.2.2.1
  refine j_aload C dL_must_0 4 rfl ?_
  refine j_iconst C (nI 0) dL_must_2 (by decide) ?_
  refine j_aload_n C dL_must_3 rfl 0 rfl ?_
  refine j_iload_n C dL_must_4 rfl 1 rfl ?_
  refine j_iload_n C dL_must_5 rfl 2 rfl ?_
  refine j_iload_n C dL_must_6 rfl 3 rfl ?_
  refine c_i0 C (r_V C 0 0 [.int a1, .int a2, .int a3] hM (cwV 3 hts gL_must_X10_must rfl hrc hrs (by decide +kernel) ⟨by show rm.frames + 1 ≤ 100; omega, by show 8 + (7 + 11) + rm.locals ≤ 2000; omega⟩) h0 rfl rfl rfl rfl (Nat.le_of_ble_eq_true rfl) dL_must_7 ⟨by decide, by decide⟩) (fun rv u hp => ?_)
  refine j_i2l C (rv.toInt64) dL_must_10 rfl ?_
  refine j_last C 49 0 0 h49 rfl rfl 1 hl49 (by omega) (by omega) (rv.toInt64) rfl dL_must_11 ?_
  refine j_goto (tgt := 23) C dL_must_12 (by decide) ?_
  refine j_iconst C (nI 0) dL_must_23 (by decide) ?_
  refine j_wide (k := 1) (n := 6) (by omega) (by omega) ?_
  exact j_up (j_iret C hr hlk ⟨rfl, rv, u, hp, rfl⟩ dL_must_24)
set_option maxHeartbeats 1000000 in
set_option maxRecDepth 100000 in
theorem w_must_x1 (l : Launch) (D : va_G) (cy : Nat → ClassId) (base : Nat) (Λ : LY) (σ : HS) (a1 a2 a3 : Int32) (h0 : 0 < gC Λ 0) (rm : Room) (hrf : rm.frames ≤ 98) (hrl : rm.locals ≤ 1900) (hrc : rm.cells = 1) (hrs : rm.slots = 6) (hM : vx_Met l yX10_must wsX10_must rm (va_Pc [.ref (gA Λ 0 0), .int a1, .int a2, .int a3] (Wd D cy base Λ σ)) NoR (XQ D cy base Λ σ "java/lang/IndexOutOfBoundsException") 1 6 (Ab base)) : vx_Met l yL_must wsL_must ({ frames := 100, cells := 1, slots := 6, locals := 2000 }) (va_Pc [.ref (gA Λ 0 0), .int a1, .int a2, .int a3, .ref (gA Λ 49 0)] (Wd D cy base Λ σ)) (va_Qi (fun v u => v = nI 1 ∧ u = σ) (Wd D cy base Λ) (Ab base)) NoX 1 6 (Ab base) := by
  refine j_startH (cc := cL_must) (nL := 6) (ret := (some .int)) (hh := [(0, 12, 15, 21), (0, 12, 19, 13)]) (lv := [(0, .ref (gA Λ 0 0)), (1, .int a1), (2, .int a2), (3, .int a3), (4, .ref (gA Λ 49 0))]) (fun _ q => q) (by decide) rfl (Nat.le_of_ble_eq_true rfl) rfl ?_
  intro p e s m below meth c C hr hlk htab hq
  have C : Cx p s m ([.ref (gA Λ 0 0), .int a1, .int a2, .int a3, .ref (gA Λ 49 0)] : List Value).toArray c cL_must 6 RL wsL_must D cy base := C
  have hts := C.2.2.2.2.1
  refine j_aload C dL_must_0 4 rfl ?_
  refine j_iconst C (nI 0) dL_must_2 (by decide) ?_
  refine j_aload_n C dL_must_3 rfl 0 rfl ?_
  refine j_iload_n C dL_must_4 rfl 1 rfl ?_
  refine j_iload_n C dL_must_5 rfl 2 rfl ?_
  refine j_iload_n C dL_must_6 rfl 3 rfl ?_
  refine j_caught C (rx_V C 0 0 [.int a1, .int a2, .int a3] hM (cwV 3 hts gL_must_X10_must rfl hrc hrs (by decide +kernel) ⟨by show rm.frames + 1 ≤ 100; omega, by show 8 + (7 + 11) + rm.locals ≤ 2000; omega⟩) h0 rfl rfl rfl rfl (Nat.le_of_ble_eq_true rfl) dL_must_7 ⟨by decide, by decide⟩) [] ⟨0, 12, 15, 21⟩ [⟨0, 12, 19, 13⟩] htab (fun z hz => nomatch hz) (by decide) (by decide) (hts (.classLink RL 21 "java/lang/IndexOutOfBoundsException") (by decide +kernel)) (Ex.cst C.2.2.2.2.2.2 lw_xic) (fun q9 => ?_)
  refine j_astore C [(5, .ref q9), (0, .ref (gA Λ 0 0)), (1, .int a1), (2, .int a2), (3, .int a3), (4, .ref (gA Λ 49 0))] dL_must_15 (by decide) rfl ?_
  refine j_iconst C (nI 1) dL_must_17 (by decide) ?_
  refine j_wide (k := 1) (n := 6) (by omega) (by omega) ?_
  exact j_up (j_iret C hr hlk ⟨rfl, rfl⟩ dL_must_18)
set_option maxHeartbeats 1000000 in
set_option maxRecDepth 100000 in
theorem w_must_x2 (l : Launch) (D : va_G) (cy : Nat → ClassId) (base : Nat) (Λ : LY) (σ : HS) (a1 a2 a3 : Int32) (h0 : 0 < gC Λ 0) (rm : Room) (hrf : rm.frames ≤ 98) (hrl : rm.locals ≤ 1900) (hrc : rm.cells = 1) (hrs : rm.slots = 6) (hM : vx_Met l yX10_must wsX10_must rm (va_Pc [.ref (gA Λ 0 0), .int a1, .int a2, .int a3] (Wd D cy base Λ σ)) NoR (XQ D cy base Λ σ "java/lang/IllegalArgumentException") 1 6 (Ab base)) : vx_Met l yL_must wsL_must ({ frames := 100, cells := 1, slots := 6, locals := 2000 }) (va_Pc [.ref (gA Λ 0 0), .int a1, .int a2, .int a3, .ref (gA Λ 49 0)] (Wd D cy base Λ σ)) (va_Qi (fun v u => v = nI 2 ∧ u = σ) (Wd D cy base Λ) (Ab base)) NoX 1 6 (Ab base) := by
  refine j_startH (cc := cL_must) (nL := 6) (ret := (some .int)) (hh := [(0, 12, 15, 21), (0, 12, 19, 13)]) (lv := [(0, .ref (gA Λ 0 0)), (1, .int a1), (2, .int a2), (3, .int a3), (4, .ref (gA Λ 49 0))]) (fun _ q => q) (by decide) rfl (Nat.le_of_ble_eq_true rfl) rfl ?_
  intro p e s m below meth c C hr hlk htab hq
  have C : Cx p s m ([.ref (gA Λ 0 0), .int a1, .int a2, .int a3, .ref (gA Λ 49 0)] : List Value).toArray c cL_must 6 RL wsL_must D cy base := C
  have hts := C.2.2.2.2.1
  refine j_aload C dL_must_0 4 rfl ?_
  refine j_iconst C (nI 0) dL_must_2 (by decide) ?_
  refine j_aload_n C dL_must_3 rfl 0 rfl ?_
  refine j_iload_n C dL_must_4 rfl 1 rfl ?_
  refine j_iload_n C dL_must_5 rfl 2 rfl ?_
  refine j_iload_n C dL_must_6 rfl 3 rfl ?_
  refine j_caught C (rx_V C 0 0 [.int a1, .int a2, .int a3] hM (cwV 3 hts gL_must_X10_must rfl hrc hrs (by decide +kernel) ⟨by show rm.frames + 1 ≤ 100; omega, by show 8 + (7 + 11) + rm.locals ≤ 2000; omega⟩) h0 rfl rfl rfl rfl (Nat.le_of_ble_eq_true rfl) dL_must_7 ⟨by decide, by decide⟩) [⟨0, 12, 15, 21⟩] ⟨0, 12, 19, 13⟩ [] htab (fun z hz => by rw [List.mem_singleton.mp hz]; exact Or.inr ⟨by decide, "java/lang/IndexOutOfBoundsException", hts (.classLink RL 21 "java/lang/IndexOutOfBoundsException") (by decide +kernel), Ex.nc C.2.2.2.2.2.2 nw_nc1⟩) (by decide) (by decide) (hts (.classLink RL 13 "java/lang/IllegalArgumentException") (by decide +kernel)) (Ex.cst C.2.2.2.2.2.2 lw_xac) (fun q9 => ?_)
  refine j_astore C [(5, .ref q9), (0, .ref (gA Λ 0 0)), (1, .int a1), (2, .int a2), (3, .int a3), (4, .ref (gA Λ 49 0))] dL_must_19 (by decide) rfl ?_
  refine j_iconst C (nI 2) dL_must_21 (by decide) ?_
  refine j_wide (k := 1) (n := 6) (by omega) (by omega) ?_
  exact j_up (j_iret C hr hlk ⟨rfl, rfl⟩ dL_must_22)
set_option maxHeartbeats 1000000 in
set_option maxRecDepth 100000 in
theorem w_fix_n (l : Launch) (D : va_G) (cy : Nat → ClassId) (base : Nat) (Λ : LY) (σ : HS) (a1 a2 : Int32) (post : Int32 → HS → Prop) (h0 : 0 < gC Λ 0) (h49 : 0 < gC Λ 49) (hl49 : gN Λ 49 0 = 1) (rm : Room) (hrf : rm.frames ≤ 98) (hrl : rm.locals ≤ 1900) (hrc : rm.cells = 0) (hrs : rm.slots = 0) (hM : Met l yX10_fix wsX10_fix rm (va_Pc [.ref (gA Λ 0 0), .int a1, .int a2] (Wd D cy base Λ σ)) (va_Qi post (Wd D cy base Λ) (Ab base)) 0 0 (Ab base)) : vx_Met l yL_fix wsL_fix ({ frames := 100, cells := 1, slots := 6, locals := 2000 }) (va_Pc [.ref (gA Λ 0 0), .int a1, .int a2, .ref (gA Λ 49 0)] (Wd D cy base Λ σ)) (va_Qi (fun v u9 => v = nI 0 ∧ ∃ rv u, post rv u ∧ u9 = sJ u 49 0 0 (rv.toInt64)) (Wd D cy base Λ) (Ab base)) NoX 1 6 (Ab base) := by
  refine j_startH (cc := cL_fix) (nL := 5) (ret := (some .int)) (hh := [(0, 10, 13, 21), (0, 10, 17, 13)]) (lv := [(0, .ref (gA Λ 0 0)), (1, .int a1), (2, .int a2), (3, .ref (gA Λ 49 0))]) (fun _ q => q) (by decide) rfl (Nat.le_of_ble_eq_true rfl) rfl ?_
  intro p e s m below meth c C hr hlk htab hq
  have C : Cx p s m ([.ref (gA Λ 0 0), .int a1, .int a2, .ref (gA Λ 49 0)] : List Value).toArray c cL_fix 5 RL wsL_fix D cy base := C
  have hts := C.2.2.2.2.1
  refine j_aload_n C dL_fix_0 rfl 3 rfl ?_
  refine j_iconst C (nI 0) dL_fix_1 (by decide) ?_
  refine j_aload_n C dL_fix_2 rfl 0 rfl ?_
  refine j_iload_n C dL_fix_3 rfl 1 rfl ?_
  refine j_iload_n C dL_fix_4 rfl 2 rfl ?_
  refine c_i0 C (r_V C 0 0 [.int a1, .int a2] hM (cwV 2 hts gL_fix_X10_fix rfl hrc hrs (by decide +kernel) ⟨by show rm.frames + 1 ≤ 100; omega, by show 8 + (5 + 11) + rm.locals ≤ 2000; omega⟩) h0 rfl rfl rfl rfl (Nat.le_of_ble_eq_true rfl) dL_fix_5 ⟨by decide, by decide⟩) (fun rv u hp => ?_)
  refine j_i2l C (rv.toInt64) dL_fix_8 rfl ?_
  refine j_last C 49 0 0 h49 rfl rfl 1 hl49 (by omega) (by omega) (rv.toInt64) rfl dL_fix_9 ?_
  refine j_goto (tgt := 21) C dL_fix_10 (by decide) ?_
  refine j_iconst C (nI 0) dL_fix_21 (by decide) ?_
  refine j_wide (k := 1) (n := 6) (by omega) (by omega) ?_
  exact j_up (j_iret C hr hlk ⟨rfl, rv, u, hp, rfl⟩ dL_fix_22)
set_option maxHeartbeats 1000000 in
set_option maxRecDepth 100000 in
theorem w_fix_x1 (l : Launch) (D : va_G) (cy : Nat → ClassId) (base : Nat) (Λ : LY) (σ : HS) (a1 a2 : Int32) (h0 : 0 < gC Λ 0) (rm : Room) (hrf : rm.frames ≤ 98) (hrl : rm.locals ≤ 1900) (hrc : rm.cells = 1) (hrs : rm.slots = 6) (hM : vx_Met l yX10_fix wsX10_fix rm (va_Pc [.ref (gA Λ 0 0), .int a1, .int a2] (Wd D cy base Λ σ)) NoR (XQ D cy base Λ σ "java/lang/IndexOutOfBoundsException") 1 6 (Ab base)) : vx_Met l yL_fix wsL_fix ({ frames := 100, cells := 1, slots := 6, locals := 2000 }) (va_Pc [.ref (gA Λ 0 0), .int a1, .int a2, .ref (gA Λ 49 0)] (Wd D cy base Λ σ)) (va_Qi (fun v u => v = nI 1 ∧ u = σ) (Wd D cy base Λ) (Ab base)) NoX 1 6 (Ab base) := by
  refine j_startH (cc := cL_fix) (nL := 5) (ret := (some .int)) (hh := [(0, 10, 13, 21), (0, 10, 17, 13)]) (lv := [(0, .ref (gA Λ 0 0)), (1, .int a1), (2, .int a2), (3, .ref (gA Λ 49 0))]) (fun _ q => q) (by decide) rfl (Nat.le_of_ble_eq_true rfl) rfl ?_
  intro p e s m below meth c C hr hlk htab hq
  have C : Cx p s m ([.ref (gA Λ 0 0), .int a1, .int a2, .ref (gA Λ 49 0)] : List Value).toArray c cL_fix 5 RL wsL_fix D cy base := C
  have hts := C.2.2.2.2.1
  refine j_aload_n C dL_fix_0 rfl 3 rfl ?_
  refine j_iconst C (nI 0) dL_fix_1 (by decide) ?_
  refine j_aload_n C dL_fix_2 rfl 0 rfl ?_
  refine j_iload_n C dL_fix_3 rfl 1 rfl ?_
  refine j_iload_n C dL_fix_4 rfl 2 rfl ?_
  refine j_caught C (rx_V C 0 0 [.int a1, .int a2] hM (cwV 2 hts gL_fix_X10_fix rfl hrc hrs (by decide +kernel) ⟨by show rm.frames + 1 ≤ 100; omega, by show 8 + (5 + 11) + rm.locals ≤ 2000; omega⟩) h0 rfl rfl rfl rfl (Nat.le_of_ble_eq_true rfl) dL_fix_5 ⟨by decide, by decide⟩) [] ⟨0, 10, 13, 21⟩ [⟨0, 10, 17, 13⟩] htab (fun z hz => nomatch hz) (by decide) (by decide) (hts (.classLink RL 21 "java/lang/IndexOutOfBoundsException") (by decide +kernel)) (Ex.cst C.2.2.2.2.2.2 lw_xic) (fun q9 => ?_)
  refine j_astore C [(4, .ref q9), (0, .ref (gA Λ 0 0)), (1, .int a1), (2, .int a2), (3, .ref (gA Λ 49 0))] dL_fix_13 (by decide) rfl ?_
  refine j_iconst C (nI 1) dL_fix_15 (by decide) ?_
  refine j_wide (k := 1) (n := 6) (by omega) (by omega) ?_
  exact j_up (j_iret C hr hlk ⟨rfl, rfl⟩ dL_fix_16)
set_option maxHeartbeats 1000000 in
set_option maxRecDepth 100000 in
theorem w_fix_x2 (l : Launch) (D : va_G) (cy : Nat → ClassId) (base : Nat) (Λ : LY) (σ : HS) (a1 a2 : Int32) (h0 : 0 < gC Λ 0) (rm : Room) (hrf : rm.frames ≤ 98) (hrl : rm.locals ≤ 1900) (hrc : rm.cells = 1) (hrs : rm.slots = 6) (hM : vx_Met l yX10_fix wsX10_fix rm (va_Pc [.ref (gA Λ 0 0), .int a1, .int a2] (Wd D cy base Λ σ)) NoR (XQ D cy base Λ σ "java/lang/IllegalArgumentException") 1 6 (Ab base)) : vx_Met l yL_fix wsL_fix ({ frames := 100, cells := 1, slots := 6, locals := 2000 }) (va_Pc [.ref (gA Λ 0 0), .int a1, .int a2, .ref (gA Λ 49 0)] (Wd D cy base Λ σ)) (va_Qi (fun v u => v = nI 2 ∧ u = σ) (Wd D cy base Λ) (Ab base)) NoX 1 6 (Ab base) := by
  refine j_startH (cc := cL_fix) (nL := 5) (ret := (some .int)) (hh := [(0, 10, 13, 21), (0, 10, 17, 13)]) (lv := [(0, .ref (gA Λ 0 0)), (1, .int a1), (2, .int a2), (3, .ref (gA Λ 49 0))]) (fun _ q => q) (by decide) rfl (Nat.le_of_ble_eq_true rfl) rfl ?_
  intro p e s m below meth c C hr hlk htab hq
  have C : Cx p s m ([.ref (gA Λ 0 0), .int a1, .int a2, .ref (gA Λ 49 0)] : List Value).toArray c cL_fix 5 RL wsL_fix D cy base := C
  have hts := C.2.2.2.2.1
  refine j_aload_n C dL_fix_0 rfl 3 rfl ?_
  refine j_iconst C (nI 0) dL_fix_1 (by decide) ?_
  refine j_aload_n C dL_fix_2 rfl 0 rfl ?_
  refine j_iload_n C dL_fix_3 rfl 1 rfl ?_
  refine j_iload_n C dL_fix_4 rfl 2 rfl ?_
  refine j_caught C (rx_V C 0 0 [.int a1, .int a2] hM (cwV 2 hts gL_fix_X10_fix rfl hrc hrs (by decide +kernel) ⟨by show rm.frames + 1 ≤ 100; omega, by show 8 + (5 + 11) + rm.locals ≤ 2000; omega⟩) h0 rfl rfl rfl rfl (Nat.le_of_ble_eq_true rfl) dL_fix_5 ⟨by decide, by decide⟩) [⟨0, 10, 13, 21⟩] ⟨0, 10, 17, 13⟩ [] htab (fun z hz => by rw [List.mem_singleton.mp hz]; exact Or.inr ⟨by decide, "java/lang/IndexOutOfBoundsException", hts (.classLink RL 21 "java/lang/IndexOutOfBoundsException") (by decide +kernel), Ex.nc C.2.2.2.2.2.2 nw_nc1⟩) (by decide) (by decide) (hts (.classLink RL 13 "java/lang/IllegalArgumentException") (by decide +kernel)) (Ex.cst C.2.2.2.2.2.2 lw_xac) (fun q9 => ?_)
  refine j_astore C [(4, .ref q9), (0, .ref (gA Λ 0 0)), (1, .int a1), (2, .int a2), (3, .ref (gA Λ 49 0))] dL_fix_17 (by decide) rfl ?_
  refine j_iconst C (nI 2) dL_fix_19 (by decide) ?_
  refine j_wide (k := 1) (n := 6) (by omega) (by omega) ?_
  exact j_up (j_iret C hr hlk ⟨rfl, rfl⟩ dL_fix_20)
set_option maxHeartbeats 1000000 in
set_option maxRecDepth 100000 in
theorem w_room_n (l : Launch) (D : va_G) (cy : Nat → ClassId) (base : Nat) (Λ : LY) (σ : HS) (a1 : Int32) (post : Int32 → HS → Prop) (h0 : 0 < gC Λ 0) (h49 : 0 < gC Λ 49) (hl49 : gN Λ 49 0 = 1) (rm : Room) (hrf : rm.frames ≤ 98) (hrl : rm.locals ≤ 1900) (hrc : rm.cells = 0) (hrs : rm.slots = 0) (hM : Met l yX10_room wsX10_room rm (va_Pc [.ref (gA Λ 0 0), .int a1] (Wd D cy base Λ σ)) (va_Qi post (Wd D cy base Λ) (Ab base)) 0 0 (Ab base)) : vx_Met l yL_room wsL_room ({ frames := 100, cells := 1, slots := 6, locals := 2000 }) (va_Pc [.ref (gA Λ 0 0), .int a1, .ref (gA Λ 49 0)] (Wd D cy base Λ σ)) (va_Qi (fun v u9 => v = nI 0 ∧ ∃ rv u, post rv u ∧ u9 = sJ u 49 0 0 (rv.toInt64)) (Wd D cy base Λ) (Ab base)) NoX 1 6 (Ab base) := by
  refine j_startH (cc := cL_room) (nL := 4) (ret := (some .int)) (hh := [(0, 9, 12, 21)]) (lv := [(0, .ref (gA Λ 0 0)), (1, .int a1), (2, .ref (gA Λ 49 0))]) (fun _ q => q) (by decide) rfl (Nat.le_of_ble_eq_true rfl) rfl ?_
  intro p e s m below meth c C hr hlk htab hq
  have C : Cx p s m ([.ref (gA Λ 0 0), .int a1, .ref (gA Λ 49 0)] : List Value).toArray c cL_room 4 RL wsL_room D cy base := C
  have hts := C.2.2.2.2.1
  refine j_aload_n C dL_room_0 rfl 2 rfl ?_
  refine j_iconst C (nI 0) dL_room_1 (by decide) ?_
  refine j_aload_n C dL_room_2 rfl 0 rfl ?_
  refine j_iload_n C dL_room_3 rfl 1 rfl ?_
  refine c_i0 C (r_V C 0 0 [.int a1] hM (cwV 1 hts gL_room_X10_room rfl hrc hrs (by decide +kernel) ⟨by show rm.frames + 1 ≤ 100; omega, by show 8 + (3 + 11) + rm.locals ≤ 2000; omega⟩) h0 rfl rfl rfl rfl (Nat.le_of_ble_eq_true rfl) dL_room_4 ⟨by decide, by decide⟩) (fun rv u hp => ?_)
  refine j_i2l C (rv.toInt64) dL_room_7 rfl ?_
  refine j_last C 49 0 0 h49 rfl rfl 1 hl49 (by omega) (by omega) (rv.toInt64) rfl dL_room_8 ?_
  refine j_goto (tgt := 15) C dL_room_9 (by decide) ?_
  refine j_iconst C (nI 0) dL_room_15 (by decide) ?_
  refine j_wide (k := 1) (n := 6) (by omega) (by omega) ?_
  exact j_up (j_iret C hr hlk ⟨rfl, rv, u, hp, rfl⟩ dL_room_16)
set_option maxHeartbeats 1000000 in
set_option maxRecDepth 100000 in
theorem w_room_x1 (l : Launch) (D : va_G) (cy : Nat → ClassId) (base : Nat) (Λ : LY) (σ : HS) (a1 : Int32) (h0 : 0 < gC Λ 0) (rm : Room) (hrf : rm.frames ≤ 98) (hrl : rm.locals ≤ 1900) (hrc : rm.cells = 1) (hrs : rm.slots = 6) (hM : vx_Met l yX10_room wsX10_room rm (va_Pc [.ref (gA Λ 0 0), .int a1] (Wd D cy base Λ σ)) NoR (XQ D cy base Λ σ "java/lang/IndexOutOfBoundsException") 1 6 (Ab base)) : vx_Met l yL_room wsL_room ({ frames := 100, cells := 1, slots := 6, locals := 2000 }) (va_Pc [.ref (gA Λ 0 0), .int a1, .ref (gA Λ 49 0)] (Wd D cy base Λ σ)) (va_Qi (fun v u => v = nI 1 ∧ u = σ) (Wd D cy base Λ) (Ab base)) NoX 1 6 (Ab base) := by
  refine j_startH (cc := cL_room) (nL := 4) (ret := (some .int)) (hh := [(0, 9, 12, 21)]) (lv := [(0, .ref (gA Λ 0 0)), (1, .int a1), (2, .ref (gA Λ 49 0))]) (fun _ q => q) (by decide) rfl (Nat.le_of_ble_eq_true rfl) rfl ?_
  intro p e s m below meth c C hr hlk htab hq
  have C : Cx p s m ([.ref (gA Λ 0 0), .int a1, .ref (gA Λ 49 0)] : List Value).toArray c cL_room 4 RL wsL_room D cy base := C
  have hts := C.2.2.2.2.1
  refine j_aload_n C dL_room_0 rfl 2 rfl ?_
  refine j_iconst C (nI 0) dL_room_1 (by decide) ?_
  refine j_aload_n C dL_room_2 rfl 0 rfl ?_
  refine j_iload_n C dL_room_3 rfl 1 rfl ?_
  refine j_caught C (rx_V C 0 0 [.int a1] hM (cwV 1 hts gL_room_X10_room rfl hrc hrs (by decide +kernel) ⟨by show rm.frames + 1 ≤ 100; omega, by show 8 + (3 + 11) + rm.locals ≤ 2000; omega⟩) h0 rfl rfl rfl rfl (Nat.le_of_ble_eq_true rfl) dL_room_4 ⟨by decide, by decide⟩) [] ⟨0, 9, 12, 21⟩ [] htab (fun z hz => nomatch hz) (by decide) (by decide) (hts (.classLink RL 21 "java/lang/IndexOutOfBoundsException") (by decide +kernel)) (Ex.cst C.2.2.2.2.2.2 lw_xic) (fun q9 => ?_)
  refine j_astore_n C [(3, .ref q9), (0, .ref (gA Λ 0 0)), (1, .int a1), (2, .ref (gA Λ 49 0))] dL_room_12 rfl (by decide) rfl ?_
  refine j_iconst C (nI 1) dL_room_13 (by decide) ?_
  refine j_wide (k := 1) (n := 6) (by omega) (by omega) ?_
  exact j_up (j_iret C hr hlk ⟨rfl, rfl⟩ dL_room_14)
set_option maxHeartbeats 1000000 in
set_option maxRecDepth 100000 in
theorem w_put_n (l : Launch) (D : va_G) (cy : Nat → ClassId) (base : Nat) (Λ : LY) (σ : HS) (a1 a2 : Int32) (post : Int32 → HS → Prop) (h0 : 0 < gC Λ 0) (h49 : 0 < gC Λ 49) (hl49 : gN Λ 49 0 = 1) (rm : Room) (hrf : rm.frames ≤ 98) (hrl : rm.locals ≤ 1900) (hrc : rm.cells = 0) (hrs : rm.slots = 0) (hM : Met l yX10_put wsX10_put rm (va_Pc [.ref (gA Λ 0 0), .int a1, .int a2] (Wd D cy base Λ σ)) (va_Qi post (Wd D cy base Λ) (Ab base)) 0 0 (Ab base)) : vx_Met l yL_put wsL_put ({ frames := 100, cells := 1, slots := 6, locals := 2000 }) (va_Pc [.ref (gA Λ 0 0), .int a1, .int a2, .ref (gA Λ 49 0)] (Wd D cy base Λ σ)) (va_Qi (fun v u9 => v = nI 0 ∧ ∃ rv u, post rv u ∧ u9 = sJ u 49 0 0 (rv.toInt64)) (Wd D cy base Λ) (Ab base)) NoX 1 6 (Ab base) := by
  refine j_startH (cc := cL_put) (nL := 5) (ret := (some .int)) (hh := [(0, 10, 13, 21), (0, 10, 17, 13)]) (lv := [(0, .ref (gA Λ 0 0)), (1, .int a1), (2, .int a2), (3, .ref (gA Λ 49 0))]) (fun _ q => q) (by decide) rfl (Nat.le_of_ble_eq_true rfl) rfl ?_
  intro p e s m below meth c C hr hlk htab hq
  have C : Cx p s m ([.ref (gA Λ 0 0), .int a1, .int a2, .ref (gA Λ 49 0)] : List Value).toArray c cL_put 5 RL wsL_put D cy base := C
  have hts := C.2.2.2.2.1
  refine j_aload_n C dL_put_0 rfl 3 rfl ?_
  refine j_iconst C (nI 0) dL_put_1 (by decide) ?_
  refine j_aload_n C dL_put_2 rfl 0 rfl ?_
  refine j_iload_n C dL_put_3 rfl 1 rfl ?_
  refine j_iload_n C dL_put_4 rfl 2 rfl ?_
  refine c_i0 C (r_V C 0 0 [.int a1, .int a2] hM (cwV 2 hts gL_put_X10_put rfl hrc hrs (by decide +kernel) ⟨by show rm.frames + 1 ≤ 100; omega, by show 8 + (5 + 11) + rm.locals ≤ 2000; omega⟩) h0 rfl rfl rfl rfl (Nat.le_of_ble_eq_true rfl) dL_put_5 ⟨by decide, by decide⟩) (fun rv u hp => ?_)
  refine j_i2l C (rv.toInt64) dL_put_8 rfl ?_
  refine j_last C 49 0 0 h49 rfl rfl 1 hl49 (by omega) (by omega) (rv.toInt64) rfl dL_put_9 ?_
  refine j_goto (tgt := 21) C dL_put_10 (by decide) ?_
  refine j_iconst C (nI 0) dL_put_21 (by decide) ?_
  refine j_wide (k := 1) (n := 6) (by omega) (by omega) ?_
  exact j_up (j_iret C hr hlk ⟨rfl, rv, u, hp, rfl⟩ dL_put_22)
set_option maxHeartbeats 1000000 in
set_option maxRecDepth 100000 in
theorem w_put_x1 (l : Launch) (D : va_G) (cy : Nat → ClassId) (base : Nat) (Λ : LY) (σ : HS) (a1 a2 : Int32) (h0 : 0 < gC Λ 0) (rm : Room) (hrf : rm.frames ≤ 98) (hrl : rm.locals ≤ 1900) (hrc : rm.cells = 1) (hrs : rm.slots = 6) (hM : vx_Met l yX10_put wsX10_put rm (va_Pc [.ref (gA Λ 0 0), .int a1, .int a2] (Wd D cy base Λ σ)) NoR (XQ D cy base Λ σ "java/lang/IndexOutOfBoundsException") 1 6 (Ab base)) : vx_Met l yL_put wsL_put ({ frames := 100, cells := 1, slots := 6, locals := 2000 }) (va_Pc [.ref (gA Λ 0 0), .int a1, .int a2, .ref (gA Λ 49 0)] (Wd D cy base Λ σ)) (va_Qi (fun v u => v = nI 1 ∧ u = σ) (Wd D cy base Λ) (Ab base)) NoX 1 6 (Ab base) := by
  refine j_startH (cc := cL_put) (nL := 5) (ret := (some .int)) (hh := [(0, 10, 13, 21), (0, 10, 17, 13)]) (lv := [(0, .ref (gA Λ 0 0)), (1, .int a1), (2, .int a2), (3, .ref (gA Λ 49 0))]) (fun _ q => q) (by decide) rfl (Nat.le_of_ble_eq_true rfl) rfl ?_
  intro p e s m below meth c C hr hlk htab hq
  have C : Cx p s m ([.ref (gA Λ 0 0), .int a1, .int a2, .ref (gA Λ 49 0)] : List Value).toArray c cL_put 5 RL wsL_put D cy base := C
  have hts := C.2.2.2.2.1
  refine j_aload_n C dL_put_0 rfl 3 rfl ?_
  refine j_iconst C (nI 0) dL_put_1 (by decide) ?_
  refine j_aload_n C dL_put_2 rfl 0 rfl ?_
  refine j_iload_n C dL_put_3 rfl 1 rfl ?_
  refine j_iload_n C dL_put_4 rfl 2 rfl ?_
  refine j_caught C (rx_V C 0 0 [.int a1, .int a2] hM (cwV 2 hts gL_put_X10_put rfl hrc hrs (by decide +kernel) ⟨by show rm.frames + 1 ≤ 100; omega, by show 8 + (5 + 11) + rm.locals ≤ 2000; omega⟩) h0 rfl rfl rfl rfl (Nat.le_of_ble_eq_true rfl) dL_put_5 ⟨by decide, by decide⟩) [] ⟨0, 10, 13, 21⟩ [⟨0, 10, 17, 13⟩] htab (fun z hz => nomatch hz) (by decide) (by decide) (hts (.classLink RL 21 "java/lang/IndexOutOfBoundsException") (by decide +kernel)) (Ex.cst C.2.2.2.2.2.2 lw_xic) (fun q9 => ?_)
  refine j_astore C [(4, .ref q9), (0, .ref (gA Λ 0 0)), (1, .int a1), (2, .int a2), (3, .ref (gA Λ 49 0))] dL_put_13 (by decide) rfl ?_
  refine j_iconst C (nI 1) dL_put_15 (by decide) ?_
  refine j_wide (k := 1) (n := 6) (by omega) (by omega) ?_
  exact j_up (j_iret C hr hlk ⟨rfl, rfl⟩ dL_put_16)
set_option maxHeartbeats 1000000 in
set_option maxRecDepth 100000 in
theorem w_put_x2 (l : Launch) (D : va_G) (cy : Nat → ClassId) (base : Nat) (Λ : LY) (σ : HS) (a1 a2 : Int32) (h0 : 0 < gC Λ 0) (rm : Room) (hrf : rm.frames ≤ 98) (hrl : rm.locals ≤ 1900) (hrc : rm.cells = 1) (hrs : rm.slots = 6) (hM : vx_Met l yX10_put wsX10_put rm (va_Pc [.ref (gA Λ 0 0), .int a1, .int a2] (Wd D cy base Λ σ)) NoR (XQ D cy base Λ σ "java/lang/IllegalArgumentException") 1 6 (Ab base)) : vx_Met l yL_put wsL_put ({ frames := 100, cells := 1, slots := 6, locals := 2000 }) (va_Pc [.ref (gA Λ 0 0), .int a1, .int a2, .ref (gA Λ 49 0)] (Wd D cy base Λ σ)) (va_Qi (fun v u => v = nI 2 ∧ u = σ) (Wd D cy base Λ) (Ab base)) NoX 1 6 (Ab base) := by
  refine j_startH (cc := cL_put) (nL := 5) (ret := (some .int)) (hh := [(0, 10, 13, 21), (0, 10, 17, 13)]) (lv := [(0, .ref (gA Λ 0 0)), (1, .int a1), (2, .int a2), (3, .ref (gA Λ 49 0))]) (fun _ q => q) (by decide) rfl (Nat.le_of_ble_eq_true rfl) rfl ?_
  intro p e s m below meth c C hr hlk htab hq
  have C : Cx p s m ([.ref (gA Λ 0 0), .int a1, .int a2, .ref (gA Λ 49 0)] : List Value).toArray c cL_put 5 RL wsL_put D cy base := C
  have hts := C.2.2.2.2.1
  refine j_aload_n C dL_put_0 rfl 3 rfl ?_
  refine j_iconst C (nI 0) dL_put_1 (by decide) ?_
  refine j_aload_n C dL_put_2 rfl 0 rfl ?_
  refine j_iload_n C dL_put_3 rfl 1 rfl ?_
  refine j_iload_n C dL_put_4 rfl 2 rfl ?_
  refine j_caught C (rx_V C 0 0 [.int a1, .int a2] hM (cwV 2 hts gL_put_X10_put rfl hrc hrs (by decide +kernel) ⟨by show rm.frames + 1 ≤ 100; omega, by show 8 + (5 + 11) + rm.locals ≤ 2000; omega⟩) h0 rfl rfl rfl rfl (Nat.le_of_ble_eq_true rfl) dL_put_5 ⟨by decide, by decide⟩) [⟨0, 10, 13, 21⟩] ⟨0, 10, 17, 13⟩ [] htab (fun z hz => by rw [List.mem_singleton.mp hz]; exact Or.inr ⟨by decide, "java/lang/IndexOutOfBoundsException", hts (.classLink RL 21 "java/lang/IndexOutOfBoundsException") (by decide +kernel), Ex.nc C.2.2.2.2.2.2 nw_nc1⟩) (by decide) (by decide) (hts (.classLink RL 13 "java/lang/IllegalArgumentException") (by decide +kernel)) (Ex.cst C.2.2.2.2.2.2 lw_xac) (fun q9 => ?_)
  refine j_astore C [(4, .ref q9), (0, .ref (gA Λ 0 0)), (1, .int a1), (2, .int a2), (3, .ref (gA Λ 49 0))] dL_put_17 (by decide) rfl ?_
  refine j_iconst C (nI 2) dL_put_19 (by decide) ?_
  refine j_wide (k := 1) (n := 6) (by omega) (by omega) ?_
  exact j_up (j_iret C hr hlk ⟨rfl, rfl⟩ dL_put_20)
set_option maxHeartbeats 1000000 in
set_option maxRecDepth 100000 in
theorem w_border_n (l : Launch) (D : va_G) (cy : Nat → ClassId) (base : Nat) (Λ : LY) (σ : HS) (a1 : Int32) (post : Int64 → HS → Prop) (h0 : 0 < gC Λ 0) (h49 : 0 < gC Λ 49) (hl49 : gN Λ 49 0 = 1) (rm : Room) (hrf : rm.frames ≤ 98) (hrl : rm.locals ≤ 1900) (hrc : rm.cells = 0) (hrs : rm.slots = 0) (hM : Met l yX10_border wsX10_border rm (va_Pc [.ref (gA Λ 0 0), .int a1] (Wd D cy base Λ σ)) (va_Ql post (Wd D cy base Λ) (Ab base)) 0 0 (Ab base)) : vx_Met l yL_border wsL_border ({ frames := 100, cells := 1, slots := 6, locals := 2000 }) (va_Pc [.ref (gA Λ 0 0), .int a1, .ref (gA Λ 49 0)] (Wd D cy base Λ σ)) (va_Qi (fun v u9 => v = nI 0 ∧ ∃ rv u, post rv u ∧ u9 = sJ u 49 0 0 (rv)) (Wd D cy base Λ) (Ab base)) NoX 1 6 (Ab base) := by
  refine j_startH (cc := cL_border) (nL := 4) (ret := (some .int)) (hh := [(0, 8, 11, 21)]) (lv := [(0, .ref (gA Λ 0 0)), (1, .int a1), (2, .ref (gA Λ 49 0))]) (fun _ q => q) (by decide) rfl (Nat.le_of_ble_eq_true rfl) rfl ?_
  intro p e s m below meth c C hr hlk htab hq
  have C : Cx p s m ([.ref (gA Λ 0 0), .int a1, .ref (gA Λ 49 0)] : List Value).toArray c cL_border 4 RL wsL_border D cy base := C
  have hts := C.2.2.2.2.1
  refine j_aload_n C dL_border_0 rfl 2 rfl ?_
  refine j_iconst C (nI 0) dL_border_1 (by decide) ?_
  refine j_aload_n C dL_border_2 rfl 0 rfl ?_
  refine j_iload_n C dL_border_3 rfl 1 rfl ?_
  refine c_l0 C (r_V C 0 0 [.int a1] hM (cwV 1 hts gL_border_X10_border rfl hrc hrs (by decide +kernel) ⟨by show rm.frames + 1 ≤ 100; omega, by show 8 + (3 + 11) + rm.locals ≤ 2000; omega⟩) h0 rfl rfl rfl rfl (Nat.le_of_ble_eq_true rfl) dL_border_4 ⟨by decide, by decide⟩) (fun rv u hp => ?_)
  refine j_last C 49 0 0 h49 rfl rfl 1 hl49 (by omega) (by omega) (rv) rfl dL_border_7 ?_
  refine j_goto (tgt := 14) C dL_border_8 (by decide) ?_
  refine j_iconst C (nI 0) dL_border_14 (by decide) ?_
  refine j_wide (k := 1) (n := 6) (by omega) (by omega) ?_
  exact j_up (j_iret C hr hlk ⟨rfl, rv, u, hp, rfl⟩ dL_border_15)
set_option maxHeartbeats 1000000 in
set_option maxRecDepth 100000 in
theorem w_border_x1 (l : Launch) (D : va_G) (cy : Nat → ClassId) (base : Nat) (Λ : LY) (σ : HS) (a1 : Int32) (h0 : 0 < gC Λ 0) (rm : Room) (hrf : rm.frames ≤ 98) (hrl : rm.locals ≤ 1900) (hrc : rm.cells = 1) (hrs : rm.slots = 6) (hM : vx_Met l yX10_border wsX10_border rm (va_Pc [.ref (gA Λ 0 0), .int a1] (Wd D cy base Λ σ)) NoR (XQ D cy base Λ σ "java/lang/IndexOutOfBoundsException") 1 6 (Ab base)) : vx_Met l yL_border wsL_border ({ frames := 100, cells := 1, slots := 6, locals := 2000 }) (va_Pc [.ref (gA Λ 0 0), .int a1, .ref (gA Λ 49 0)] (Wd D cy base Λ σ)) (va_Qi (fun v u => v = nI 1 ∧ u = σ) (Wd D cy base Λ) (Ab base)) NoX 1 6 (Ab base) := by
  refine j_startH (cc := cL_border) (nL := 4) (ret := (some .int)) (hh := [(0, 8, 11, 21)]) (lv := [(0, .ref (gA Λ 0 0)), (1, .int a1), (2, .ref (gA Λ 49 0))]) (fun _ q => q) (by decide) rfl (Nat.le_of_ble_eq_true rfl) rfl ?_
  intro p e s m below meth c C hr hlk htab hq
  have C : Cx p s m ([.ref (gA Λ 0 0), .int a1, .ref (gA Λ 49 0)] : List Value).toArray c cL_border 4 RL wsL_border D cy base := C
  have hts := C.2.2.2.2.1
  refine j_aload_n C dL_border_0 rfl 2 rfl ?_
  refine j_iconst C (nI 0) dL_border_1 (by decide) ?_
  refine j_aload_n C dL_border_2 rfl 0 rfl ?_
  refine j_iload_n C dL_border_3 rfl 1 rfl ?_
  refine j_caught C (rx_V C 0 0 [.int a1] hM (cwV 1 hts gL_border_X10_border rfl hrc hrs (by decide +kernel) ⟨by show rm.frames + 1 ≤ 100; omega, by show 8 + (3 + 11) + rm.locals ≤ 2000; omega⟩) h0 rfl rfl rfl rfl (Nat.le_of_ble_eq_true rfl) dL_border_4 ⟨by decide, by decide⟩) [] ⟨0, 8, 11, 21⟩ [] htab (fun z hz => nomatch hz) (by decide) (by decide) (hts (.classLink RL 21 "java/lang/IndexOutOfBoundsException") (by decide +kernel)) (Ex.cst C.2.2.2.2.2.2 lw_xic) (fun q9 => ?_)
  refine j_astore_n C [(3, .ref q9), (0, .ref (gA Λ 0 0)), (1, .int a1), (2, .ref (gA Λ 49 0))] dL_border_11 rfl (by decide) rfl ?_
  refine j_iconst C (nI 1) dL_border_12 (by decide) ?_
  refine j_wide (k := 1) (n := 6) (by omega) (by omega) ?_
  exact j_up (j_iret C hr hlk ⟨rfl, rfl⟩ dL_border_13)
set_option maxHeartbeats 1000000 in
set_option maxRecDepth 100000 in
theorem w_name_n (l : Launch) (D : va_G) (cy : Nat → ClassId) (base : Nat) (Λ : LY) (σ : HS) (a1 : Int32) (post : Int32 → HS → Prop) (h0 : 0 < gC Λ 0) (h49 : 0 < gC Λ 49) (hl49 : gN Λ 49 0 = 1) (rm : Room) (hrf : rm.frames ≤ 98) (hrl : rm.locals ≤ 1900) (hrc : rm.cells = 0) (hrs : rm.slots = 0) (hM : Met l yX10_name wsX10_name rm (va_Pc [.ref (gA Λ 0 0), .int a1] (Wd D cy base Λ σ)) (va_Qi post (Wd D cy base Λ) (Ab base)) 0 0 (Ab base)) : vx_Met l yL_name wsL_name ({ frames := 100, cells := 1, slots := 6, locals := 2000 }) (va_Pc [.ref (gA Λ 0 0), .int a1, .ref (gA Λ 49 0)] (Wd D cy base Λ σ)) (va_Qi (fun v u9 => v = nI 0 ∧ ∃ rv u, post rv u ∧ u9 = sJ u 49 0 0 (rv.toInt64)) (Wd D cy base Λ) (Ab base)) NoX 1 6 (Ab base) := by
  refine j_startH (cc := cL_name) (nL := 4) (ret := (some .int)) (hh := [(0, 9, 12, 13)]) (lv := [(0, .ref (gA Λ 0 0)), (1, .int a1), (2, .ref (gA Λ 49 0))]) (fun _ q => q) (by decide) rfl (Nat.le_of_ble_eq_true rfl) rfl ?_
  intro p e s m below meth c C hr hlk htab hq
  have C : Cx p s m ([.ref (gA Λ 0 0), .int a1, .ref (gA Λ 49 0)] : List Value).toArray c cL_name 4 RL wsL_name D cy base := C
  have hts := C.2.2.2.2.1
  refine j_aload_n C dL_name_0 rfl 2 rfl ?_
  refine j_iconst C (nI 0) dL_name_1 (by decide) ?_
  refine j_aload_n C dL_name_2 rfl 0 rfl ?_
  refine j_iload_n C dL_name_3 rfl 1 rfl ?_
  refine c_i0 C (r_V C 0 0 [.int a1] hM (cwV 1 hts gL_name_X10_name rfl hrc hrs (by decide +kernel) ⟨by show rm.frames + 1 ≤ 100; omega, by show 8 + (3 + 11) + rm.locals ≤ 2000; omega⟩) h0 rfl rfl rfl rfl (Nat.le_of_ble_eq_true rfl) dL_name_4 ⟨by decide, by decide⟩) (fun rv u hp => ?_)
  refine j_i2l C (rv.toInt64) dL_name_7 rfl ?_
  refine j_last C 49 0 0 h49 rfl rfl 1 hl49 (by omega) (by omega) (rv.toInt64) rfl dL_name_8 ?_
  refine j_goto (tgt := 15) C dL_name_9 (by decide) ?_
  refine j_iconst C (nI 0) dL_name_15 (by decide) ?_
  refine j_wide (k := 1) (n := 6) (by omega) (by omega) ?_
  exact j_up (j_iret C hr hlk ⟨rfl, rv, u, hp, rfl⟩ dL_name_16)
set_option maxHeartbeats 1000000 in
set_option maxRecDepth 100000 in
theorem w_name_x1 (l : Launch) (D : va_G) (cy : Nat → ClassId) (base : Nat) (Λ : LY) (σ : HS) (a1 : Int32) (h0 : 0 < gC Λ 0) (rm : Room) (hrf : rm.frames ≤ 98) (hrl : rm.locals ≤ 1900) (hrc : rm.cells = 1) (hrs : rm.slots = 6) (hM : vx_Met l yX10_name wsX10_name rm (va_Pc [.ref (gA Λ 0 0), .int a1] (Wd D cy base Λ σ)) NoR (XQ D cy base Λ σ "java/lang/IllegalArgumentException") 1 6 (Ab base)) : vx_Met l yL_name wsL_name ({ frames := 100, cells := 1, slots := 6, locals := 2000 }) (va_Pc [.ref (gA Λ 0 0), .int a1, .ref (gA Λ 49 0)] (Wd D cy base Λ σ)) (va_Qi (fun v u => v = nI 1 ∧ u = σ) (Wd D cy base Λ) (Ab base)) NoX 1 6 (Ab base) := by
  refine j_startH (cc := cL_name) (nL := 4) (ret := (some .int)) (hh := [(0, 9, 12, 13)]) (lv := [(0, .ref (gA Λ 0 0)), (1, .int a1), (2, .ref (gA Λ 49 0))]) (fun _ q => q) (by decide) rfl (Nat.le_of_ble_eq_true rfl) rfl ?_
  intro p e s m below meth c C hr hlk htab hq
  have C : Cx p s m ([.ref (gA Λ 0 0), .int a1, .ref (gA Λ 49 0)] : List Value).toArray c cL_name 4 RL wsL_name D cy base := C
  have hts := C.2.2.2.2.1
  refine j_aload_n C dL_name_0 rfl 2 rfl ?_
  refine j_iconst C (nI 0) dL_name_1 (by decide) ?_
  refine j_aload_n C dL_name_2 rfl 0 rfl ?_
  refine j_iload_n C dL_name_3 rfl 1 rfl ?_
  refine j_caught C (rx_V C 0 0 [.int a1] hM (cwV 1 hts gL_name_X10_name rfl hrc hrs (by decide +kernel) ⟨by show rm.frames + 1 ≤ 100; omega, by show 8 + (3 + 11) + rm.locals ≤ 2000; omega⟩) h0 rfl rfl rfl rfl (Nat.le_of_ble_eq_true rfl) dL_name_4 ⟨by decide, by decide⟩) [] ⟨0, 9, 12, 13⟩ [] htab (fun z hz => nomatch hz) (by decide) (by decide) (hts (.classLink RL 13 "java/lang/IllegalArgumentException") (by decide +kernel)) (Ex.cst C.2.2.2.2.2.2 lw_xac) (fun q9 => ?_)
  refine j_astore_n C [(3, .ref q9), (0, .ref (gA Λ 0 0)), (1, .int a1), (2, .ref (gA Λ 49 0))] dL_name_12 rfl (by decide) rfl ?_
  refine j_iconst C (nI 1) dL_name_13 (by decide) ?_
  refine j_wide (k := 1) (n := 6) (by omega) (by omega) ?_
  exact j_up (j_iret C hr hlk ⟨rfl, rfl⟩ dL_name_14)
set_option maxHeartbeats 1000000 in
set_option maxRecDepth 100000 in
theorem w_face_n (l : Launch) (D : va_G) (cy : Nat → ClassId) (base : Nat) (Λ : LY) (σ : HS) (a1 a2 : Int32) (post : Int32 → HS → Prop) (h0 : 0 < gC Λ 0) (h49 : 0 < gC Λ 49) (hl49 : gN Λ 49 0 = 1) (rm : Room) (hrf : rm.frames ≤ 98) (hrl : rm.locals ≤ 1900) (hrc : rm.cells = 0) (hrs : rm.slots = 0) (hM : Met l yX10_face wsX10_face rm (va_Pc [.ref (gA Λ 0 0), .int a1, .int a2] (Wd D cy base Λ σ)) (va_Qi post (Wd D cy base Λ) (Ab base)) 0 0 (Ab base)) : vx_Met l yL_face wsL_face ({ frames := 100, cells := 1, slots := 6, locals := 2000 }) (va_Pc [.ref (gA Λ 0 0), .int a1, .int a2, .ref (gA Λ 49 0)] (Wd D cy base Λ σ)) (va_Qi (fun v u9 => v = nI 0 ∧ ∃ rv u, post rv u ∧ u9 = sJ u 49 0 0 (rv.toInt64)) (Wd D cy base Λ) (Ab base)) NoX 1 6 (Ab base) := by
  refine j_startH (cc := cL_face) (nL := 5) (ret := (some .int)) (hh := [(0, 10, 13, 13)]) (lv := [(0, .ref (gA Λ 0 0)), (1, .int a1), (2, .int a2), (3, .ref (gA Λ 49 0))]) (fun _ q => q) (by decide) rfl (Nat.le_of_ble_eq_true rfl) rfl ?_
  intro p e s m below meth c C hr hlk htab hq
  have C : Cx p s m ([.ref (gA Λ 0 0), .int a1, .int a2, .ref (gA Λ 49 0)] : List Value).toArray c cL_face 5 RL wsL_face D cy base := C
  have hts := C.2.2.2.2.1
  refine j_aload_n C dL_face_0 rfl 3 rfl ?_
  refine j_iconst C (nI 0) dL_face_1 (by decide) ?_
  refine j_aload_n C dL_face_2 rfl 0 rfl ?_
  refine j_iload_n C dL_face_3 rfl 1 rfl ?_
  refine j_iload_n C dL_face_4 rfl 2 rfl ?_
  refine c_i0 C (r_V C 0 0 [.int a1, .int a2] hM (cwV 2 hts gL_face_X10_face rfl hrc hrs (by decide +kernel) ⟨by show rm.frames + 1 ≤ 100; omega, by show 8 + (3 + 11) + rm.locals ≤ 2000; omega⟩) h0 rfl rfl rfl rfl (Nat.le_of_ble_eq_true rfl) dL_face_5 ⟨by decide, by decide⟩) (fun rv u hp => ?_)
  refine j_i2l C (rv.toInt64) dL_face_8 rfl ?_
  refine j_last C 49 0 0 h49 rfl rfl 1 hl49 (by omega) (by omega) (rv.toInt64) rfl dL_face_9 ?_
  refine j_goto (tgt := 17) C dL_face_10 (by decide) ?_
  refine j_iconst C (nI 0) dL_face_17 (by decide) ?_
  refine j_wide (k := 1) (n := 6) (by omega) (by omega) ?_
  exact j_up (j_iret C hr hlk ⟨rfl, rv, u, hp, rfl⟩ dL_face_18)
set_option maxHeartbeats 1000000 in
set_option maxRecDepth 100000 in
theorem w_face_x1 (l : Launch) (D : va_G) (cy : Nat → ClassId) (base : Nat) (Λ : LY) (σ : HS) (a1 a2 : Int32) (h0 : 0 < gC Λ 0) (rm : Room) (hrf : rm.frames ≤ 98) (hrl : rm.locals ≤ 1900) (hrc : rm.cells = 1) (hrs : rm.slots = 6) (hM : vx_Met l yX10_face wsX10_face rm (va_Pc [.ref (gA Λ 0 0), .int a1, .int a2] (Wd D cy base Λ σ)) NoR (XQ D cy base Λ σ "java/lang/IllegalArgumentException") 1 6 (Ab base)) : vx_Met l yL_face wsL_face ({ frames := 100, cells := 1, slots := 6, locals := 2000 }) (va_Pc [.ref (gA Λ 0 0), .int a1, .int a2, .ref (gA Λ 49 0)] (Wd D cy base Λ σ)) (va_Qi (fun v u => v = nI 1 ∧ u = σ) (Wd D cy base Λ) (Ab base)) NoX 1 6 (Ab base) := by
  refine j_startH (cc := cL_face) (nL := 5) (ret := (some .int)) (hh := [(0, 10, 13, 13)]) (lv := [(0, .ref (gA Λ 0 0)), (1, .int a1), (2, .int a2), (3, .ref (gA Λ 49 0))]) (fun _ q => q) (by decide) rfl (Nat.le_of_ble_eq_true rfl) rfl ?_
  intro p e s m below meth c C hr hlk htab hq
  have C : Cx p s m ([.ref (gA Λ 0 0), .int a1, .int a2, .ref (gA Λ 49 0)] : List Value).toArray c cL_face 5 RL wsL_face D cy base := C
  have hts := C.2.2.2.2.1
  refine j_aload_n C dL_face_0 rfl 3 rfl ?_
  refine j_iconst C (nI 0) dL_face_1 (by decide) ?_
  refine j_aload_n C dL_face_2 rfl 0 rfl ?_
  refine j_iload_n C dL_face_3 rfl 1 rfl ?_
  refine j_iload_n C dL_face_4 rfl 2 rfl ?_
  refine j_caught C (rx_V C 0 0 [.int a1, .int a2] hM (cwV 2 hts gL_face_X10_face rfl hrc hrs (by decide +kernel) ⟨by show rm.frames + 1 ≤ 100; omega, by show 8 + (3 + 11) + rm.locals ≤ 2000; omega⟩) h0 rfl rfl rfl rfl (Nat.le_of_ble_eq_true rfl) dL_face_5 ⟨by decide, by decide⟩) [] ⟨0, 10, 13, 13⟩ [] htab (fun z hz => nomatch hz) (by decide) (by decide) (hts (.classLink RL 13 "java/lang/IllegalArgumentException") (by decide +kernel)) (Ex.cst C.2.2.2.2.2.2 lw_xac) (fun q9 => ?_)
  refine j_astore C [(4, .ref q9), (0, .ref (gA Λ 0 0)), (1, .int a1), (2, .int a2), (3, .ref (gA Λ 49 0))] dL_face_13 (by decide) rfl ?_
  refine j_iconst C (nI 1) dL_face_15 (by decide) ?_
  refine j_wide (k := 1) (n := 6) (by omega) (by omega) ?_
  exact j_up (j_iret C hr hlk ⟨rfl, rfl⟩ dL_face_16)
set_option maxHeartbeats 1000000 in
set_option maxRecDepth 100000 in
theorem w_ring_n (l : Launch) (D : va_G) (cy : Nat → ClassId) (base : Nat) (Λ : LY) (σ : HS) (a1 : Int32) (post : Int32 → HS → Prop) (h0 : 0 < gC Λ 0) (h49 : 0 < gC Λ 49) (hl49 : gN Λ 49 0 = 1) (rm : Room) (hrf : rm.frames ≤ 98) (hrl : rm.locals ≤ 1900) (hrc : rm.cells = 0) (hrs : rm.slots = 0) (hM : Met l yX10_ring wsX10_ring rm (va_Pc [.ref (gA Λ 0 0), .int a1] (Wd D cy base Λ σ)) (va_Qi post (Wd D cy base Λ) (Ab base)) 0 0 (Ab base)) : vx_Met l yL_ring wsL_ring ({ frames := 100, cells := 1, slots := 6, locals := 2000 }) (va_Pc [.ref (gA Λ 0 0), .int a1, .ref (gA Λ 49 0)] (Wd D cy base Λ σ)) (va_Qi (fun v u9 => v = nI 0 ∧ ∃ rv u, post rv u ∧ u9 = sJ u 49 0 0 (rv.toInt64)) (Wd D cy base Λ) (Ab base)) NoX 1 6 (Ab base) := by
  refine j_startH (cc := cL_ring) (nL := 4) (ret := (some .int)) (hh := [(0, 9, 12, 13)]) (lv := [(0, .ref (gA Λ 0 0)), (1, .int a1), (2, .ref (gA Λ 49 0))]) (fun _ q => q) (by decide) rfl (Nat.le_of_ble_eq_true rfl) rfl ?_
  intro p e s m below meth c C hr hlk htab hq
  have C : Cx p s m ([.ref (gA Λ 0 0), .int a1, .ref (gA Λ 49 0)] : List Value).toArray c cL_ring 4 RL wsL_ring D cy base := C
  have hts := C.2.2.2.2.1
  refine j_aload_n C dL_ring_0 rfl 2 rfl ?_
  refine j_iconst C (nI 0) dL_ring_1 (by decide) ?_
  refine j_aload_n C dL_ring_2 rfl 0 rfl ?_
  refine j_iload_n C dL_ring_3 rfl 1 rfl ?_
  refine c_i0 C (r_V C 0 0 [.int a1] hM (cwV 1 hts gL_ring_X10_ring rfl hrc hrs (by decide +kernel) ⟨by show rm.frames + 1 ≤ 100; omega, by show 8 + (2 + 11) + rm.locals ≤ 2000; omega⟩) h0 rfl rfl rfl rfl (Nat.le_of_ble_eq_true rfl) dL_ring_4 ⟨by decide, by decide⟩) (fun rv u hp => ?_)
  refine j_i2l C (rv.toInt64) dL_ring_7 rfl ?_
  refine j_last C 49 0 0 h49 rfl rfl 1 hl49 (by omega) (by omega) (rv.toInt64) rfl dL_ring_8 ?_
  refine j_goto (tgt := 15) C dL_ring_9 (by decide) ?_
  refine j_iconst C (nI 0) dL_ring_15 (by decide) ?_
  refine j_wide (k := 1) (n := 6) (by omega) (by omega) ?_
  exact j_up (j_iret C hr hlk ⟨rfl, rv, u, hp, rfl⟩ dL_ring_16)
set_option maxHeartbeats 1000000 in
set_option maxRecDepth 100000 in
theorem w_ring_x1 (l : Launch) (D : va_G) (cy : Nat → ClassId) (base : Nat) (Λ : LY) (σ : HS) (a1 : Int32) (h0 : 0 < gC Λ 0) (rm : Room) (hrf : rm.frames ≤ 98) (hrl : rm.locals ≤ 1900) (hrc : rm.cells = 1) (hrs : rm.slots = 6) (hM : vx_Met l yX10_ring wsX10_ring rm (va_Pc [.ref (gA Λ 0 0), .int a1] (Wd D cy base Λ σ)) NoR (XQ D cy base Λ σ "java/lang/IllegalArgumentException") 1 6 (Ab base)) : vx_Met l yL_ring wsL_ring ({ frames := 100, cells := 1, slots := 6, locals := 2000 }) (va_Pc [.ref (gA Λ 0 0), .int a1, .ref (gA Λ 49 0)] (Wd D cy base Λ σ)) (va_Qi (fun v u => v = nI 1 ∧ u = σ) (Wd D cy base Λ) (Ab base)) NoX 1 6 (Ab base) := by
  refine j_startH (cc := cL_ring) (nL := 4) (ret := (some .int)) (hh := [(0, 9, 12, 13)]) (lv := [(0, .ref (gA Λ 0 0)), (1, .int a1), (2, .ref (gA Λ 49 0))]) (fun _ q => q) (by decide) rfl (Nat.le_of_ble_eq_true rfl) rfl ?_
  intro p e s m below meth c C hr hlk htab hq
  have C : Cx p s m ([.ref (gA Λ 0 0), .int a1, .ref (gA Λ 49 0)] : List Value).toArray c cL_ring 4 RL wsL_ring D cy base := C
  have hts := C.2.2.2.2.1
  refine j_aload_n C dL_ring_0 rfl 2 rfl ?_
  refine j_iconst C (nI 0) dL_ring_1 (by decide) ?_
  refine j_aload_n C dL_ring_2 rfl 0 rfl ?_
  refine j_iload_n C dL_ring_3 rfl 1 rfl ?_
  refine j_caught C (rx_V C 0 0 [.int a1] hM (cwV 1 hts gL_ring_X10_ring rfl hrc hrs (by decide +kernel) ⟨by show rm.frames + 1 ≤ 100; omega, by show 8 + (2 + 11) + rm.locals ≤ 2000; omega⟩) h0 rfl rfl rfl rfl (Nat.le_of_ble_eq_true rfl) dL_ring_4 ⟨by decide, by decide⟩) [] ⟨0, 9, 12, 13⟩ [] htab (fun z hz => nomatch hz) (by decide) (by decide) (hts (.classLink RL 13 "java/lang/IllegalArgumentException") (by decide +kernel)) (Ex.cst C.2.2.2.2.2.2 lw_xac) (fun q9 => ?_)
  refine j_astore_n C [(3, .ref q9), (0, .ref (gA Λ 0 0)), (1, .int a1), (2, .ref (gA Λ 49 0))] dL_ring_12 rfl (by decide) rfl ?_
  refine j_iconst C (nI 1) dL_ring_13 (by decide) ?_
  refine j_wide (k := 1) (n := 6) (by omega) (by omega) ?_
  exact j_up (j_iret C hr hlk ⟨rfl, rfl⟩ dL_ring_14)
set_option maxHeartbeats 1000000 in
set_option maxRecDepth 100000 in
theorem w_change_n (l : Launch) (D : va_G) (cy : Nat → ClassId) (base : Nat) (Λ : LY) (σ : HS) (a1 a2 : Int32) (post : Int32 → HS → Prop) (h0 : 0 < gC Λ 0) (h49 : 0 < gC Λ 49) (hl49 : gN Λ 49 0 = 1) (rm : Room) (hrf : rm.frames ≤ 98) (hrl : rm.locals ≤ 1900) (hrc : rm.cells = 0) (hrs : rm.slots = 0) (hM : Met l yX10_change wsX10_change rm (va_Pc [.ref (gA Λ 0 0), .int a1, .int a2] (Wd D cy base Λ σ)) (va_Qi post (Wd D cy base Λ) (Ab base)) 0 0 (Ab base)) : vx_Met l yL_change wsL_change ({ frames := 100, cells := 1, slots := 6, locals := 2000 }) (va_Pc [.ref (gA Λ 0 0), .int a1, .int a2, .ref (gA Λ 49 0)] (Wd D cy base Λ σ)) (va_Qi (fun v u9 => v = nI 0 ∧ ∃ rv u, post rv u ∧ u9 = sJ u 49 0 0 (rv.toInt64)) (Wd D cy base Λ) (Ab base)) NoX 1 6 (Ab base) := by
  refine j_startH (cc := cL_change) (nL := 5) (ret := (some .int)) (hh := [(0, 10, 13, 13)]) (lv := [(0, .ref (gA Λ 0 0)), (1, .int a1), (2, .int a2), (3, .ref (gA Λ 49 0))]) (fun _ q => q) (by decide) rfl (Nat.le_of_ble_eq_true rfl) rfl ?_
  intro p e s m below meth c C hr hlk htab hq
  have C : Cx p s m ([.ref (gA Λ 0 0), .int a1, .int a2, .ref (gA Λ 49 0)] : List Value).toArray c cL_change 5 RL wsL_change D cy base := C
  have hts := C.2.2.2.2.1
  refine j_aload_n C dL_change_0 rfl 3 rfl ?_
  refine j_iconst C (nI 0) dL_change_1 (by decide) ?_
  refine j_aload_n C dL_change_2 rfl 0 rfl ?_
  refine j_iload_n C dL_change_3 rfl 1 rfl ?_
  refine j_iload_n C dL_change_4 rfl 2 rfl ?_
  refine c_i0 C (r_V C 0 0 [.int a1, .int a2] hM (cwV 2 hts gL_change_X10_change rfl hrc hrs (by decide +kernel) ⟨by show rm.frames + 1 ≤ 100; omega, by show 8 + (5 + 11) + rm.locals ≤ 2000; omega⟩) h0 rfl rfl rfl rfl (Nat.le_of_ble_eq_true rfl) dL_change_5 ⟨by decide, by decide⟩) (fun rv u hp => ?_)
  refine j_i2l C (rv.toInt64) dL_change_8 rfl ?_
  refine j_last C 49 0 0 h49 rfl rfl 1 hl49 (by omega) (by omega) (rv.toInt64) rfl dL_change_9 ?_
  refine j_goto (tgt := 17) C dL_change_10 (by decide) ?_
  refine j_iconst C (nI 0) dL_change_17 (by decide) ?_
  refine j_wide (k := 1) (n := 6) (by omega) (by omega) ?_
  exact j_up (j_iret C hr hlk ⟨rfl, rv, u, hp, rfl⟩ dL_change_18)
set_option maxHeartbeats 1000000 in
set_option maxRecDepth 100000 in
theorem w_change_x1 (l : Launch) (D : va_G) (cy : Nat → ClassId) (base : Nat) (Λ : LY) (σ : HS) (a1 a2 : Int32) (h0 : 0 < gC Λ 0) (rm : Room) (hrf : rm.frames ≤ 98) (hrl : rm.locals ≤ 1900) (hrc : rm.cells = 1) (hrs : rm.slots = 6) (hM : vx_Met l yX10_change wsX10_change rm (va_Pc [.ref (gA Λ 0 0), .int a1, .int a2] (Wd D cy base Λ σ)) NoR (XQ D cy base Λ σ "java/lang/IllegalArgumentException") 1 6 (Ab base)) : vx_Met l yL_change wsL_change ({ frames := 100, cells := 1, slots := 6, locals := 2000 }) (va_Pc [.ref (gA Λ 0 0), .int a1, .int a2, .ref (gA Λ 49 0)] (Wd D cy base Λ σ)) (va_Qi (fun v u => v = nI 1 ∧ u = σ) (Wd D cy base Λ) (Ab base)) NoX 1 6 (Ab base) := by
  refine j_startH (cc := cL_change) (nL := 5) (ret := (some .int)) (hh := [(0, 10, 13, 13)]) (lv := [(0, .ref (gA Λ 0 0)), (1, .int a1), (2, .int a2), (3, .ref (gA Λ 49 0))]) (fun _ q => q) (by decide) rfl (Nat.le_of_ble_eq_true rfl) rfl ?_
  intro p e s m below meth c C hr hlk htab hq
  have C : Cx p s m ([.ref (gA Λ 0 0), .int a1, .int a2, .ref (gA Λ 49 0)] : List Value).toArray c cL_change 5 RL wsL_change D cy base := C
  have hts := C.2.2.2.2.1
  refine j_aload_n C dL_change_0 rfl 3 rfl ?_
  refine j_iconst C (nI 0) dL_change_1 (by decide) ?_
  refine j_aload_n C dL_change_2 rfl 0 rfl ?_
  refine j_iload_n C dL_change_3 rfl 1 rfl ?_
  refine j_iload_n C dL_change_4 rfl 2 rfl ?_
  refine j_caught C (rx_V C 0 0 [.int a1, .int a2] hM (cwV 2 hts gL_change_X10_change rfl hrc hrs (by decide +kernel) ⟨by show rm.frames + 1 ≤ 100; omega, by show 8 + (5 + 11) + rm.locals ≤ 2000; omega⟩) h0 rfl rfl rfl rfl (Nat.le_of_ble_eq_true rfl) dL_change_5 ⟨by decide, by decide⟩) [] ⟨0, 10, 13, 13⟩ [] htab (fun z hz => nomatch hz) (by decide) (by decide) (hts (.classLink RL 13 "java/lang/IllegalArgumentException") (by decide +kernel)) (Ex.cst C.2.2.2.2.2.2 lw_xac) (fun q9 => ?_)
  refine j_astore C [(4, .ref q9), (0, .ref (gA Λ 0 0)), (1, .int a1), (2, .int a2), (3, .ref (gA Λ 49 0))] dL_change_13 (by decide) rfl ?_
  refine j_iconst C (nI 1) dL_change_15 (by decide) ?_
  refine j_wide (k := 1) (n := 6) (by omega) (by omega) ?_
  exact j_up (j_iret C hr hlk ⟨rfl, rfl⟩ dL_change_16)