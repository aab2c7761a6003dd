/-! ===== the cases of the law ===== -/
section LWC
variable {p : Program} {l : Launch} {e : Env} {s : State} {m : MethodId} {below : List Frame} {meth : Method} {c : Code} {D : va_G} {cy : Nat → ClassId} {b L x0 q cells slots : Nat} {xs : Nat → Int32} {Λ : LY} {σ : HS} {M : MM}
theorem lc_feed (X : LX l p s m meth c D cy b L xs x0) (hq : 6 * q + 6 ≤ L) (hG : LG x0 q Λ σ M cells slots) (K : ∀ (Λ : LY) (σ : HS) (M : MM) (cells slots : Nat), LG x0 (q + 1) Λ σ M cells slots → JW p l e s m below meth c D cy b cells slots Λ 1273 (lvq Λ b q) [] σ) : JW p l e s m below meth c D cy b cells slots Λ 148 (lvq Λ b q) [] σ := by
  have X2 := X
  obtain ⟨C, hX, hbl, hbA, hL3, hlt, hZ⟩ := X
  obtain ⟨hI, hx0, hc, hsl⟩ := hG
  have hts := C.2.2.2.2.1
  have h5 : M 31 5 ≤ 40 := hI.2.2.1.1.1 31 5 rfl
  have h0 : 0 < gC Λ 0 := hI.1.1.n1 (by decide)
  have h31 : 0 < gC Λ 31 := by rw [hI.c31]; decide
  obtain ⟨P, r1, rm, ⟨ha1, ha2, ha3, ha4⟩, ⟨hr1, hr2, hr3, hr4⟩, hw, hm⟩ := k_feed l D cy s.heap.size Λ σ M hI (xs (6 * q + 1)) (xs (6 * q + 2)) (xs (6 * q + 3)) (xs (6 * q + 4)) (xs (6 * q + 5))
  refine j_aload_n C dL_law_148 rfl 3 rfl ?_
  refine l_arg C hX hbl hbA hL3 1 q 4 0 (by omega) rfl rfl dL_law_149 dL_law_150 dL_law_152 (by decide) dL_law_153 dL_law_154 ?_
  refine l_arg C hX hbl hbA hL3 2 q 4 0 (by omega) rfl rfl dL_law_155 dL_law_156 dL_law_158 (by decide) dL_law_159 dL_law_160 ?_
  refine l_arg C hX hbl hbA hL3 3 q 4 0 (by omega) rfl rfl dL_law_161 dL_law_162 dL_law_164 (by decide) dL_law_165 dL_law_166 ?_
  refine l_arg C hX hbl hbA hL3 4 q 4 0 (by omega) rfl rfl dL_law_167 dL_law_168 dL_law_170 (by decide) dL_law_171 dL_law_172 ?_
  refine l_arg C hX hbl hbA hL3 5 q 4 0 (by omega) rfl rfl dL_law_173 dL_law_174 dL_law_176 (by decide) dL_law_177 dL_law_178 ?_
  refine c_i0 C (r_V C 0 0 [.int (xs (6 * q + 1)), .int (xs (6 * q + 2)), .int (xs (6 * q + 3)), .int (xs (6 * q + 4)), .int (xs (6 * q + 5))] hw (cwV 5 hts gU_X10_feed rfl ha3 ha4 (by decide +kernel) ⟨by (show _ + 1 ≤ 2048; omega), by (show 8 + (_ + 11) + _ ≤ 84000; omega)⟩) h0 rfl rfl rfl rfl (Nat.le_of_ble_eq_true rfl) dL_law_179 ⟨by (show _ ≤ 601024; omega), by (show _ ≤ 7293033; omega)⟩) (fun v1 u1 hp1 => ?_)
  refine j_aload_n C dL_law_182 rfl 2 rfl ?_
  refine l_arg C hX hbl hbA hL3 1 q 4 0 (by omega) rfl rfl dL_law_183 dL_law_184 dL_law_186 (by decide) dL_law_187 dL_law_188 ?_
  refine l_arg C hX hbl hbA hL3 2 q 4 0 (by omega) rfl rfl dL_law_189 dL_law_190 dL_law_192 (by decide) dL_law_193 dL_law_194 ?_
  refine l_arg C hX hbl hbA hL3 3 q 4 0 (by omega) rfl rfl dL_law_195 dL_law_196 dL_law_198 (by decide) dL_law_199 dL_law_200 ?_
  refine l_arg C hX hbl hbA hL3 4 q 4 0 (by omega) rfl rfl dL_law_201 dL_law_202 dL_law_204 (by decide) dL_law_205 dL_law_206 ?_
  refine l_arg C hX hbl hbA hL3 5 q 4 0 (by omega) rfl rfl dL_law_207 dL_law_208 dL_law_210 (by decide) dL_law_211 dL_law_212 ?_
  refine c_i0 C (r_V C 31 0 [.int (xs (6 * q + 1)), .int (xs (6 * q + 2)), .int (xs (6 * q + 3)), .int (xs (6 * q + 4)), .int (xs (6 * q + 5))] (hm v1 u1 hp1) (cwV 5 hts gU_X11_feed rfl hr3 hr4 (by decide +kernel) ⟨by (show _ + 1 ≤ 2048; omega), by (show 8 + (_ + 11) + _ ≤ 84000; omega)⟩) h31 rfl rfl rfl rfl (Nat.le_of_ble_eq_true rfl) dL_law_213 ⟨by (show _ ≤ 601024; omega), by (show _ ≤ 7293033; omega)⟩) (fun v2 u2 hp2 => ?_)
  obtain ⟨rfl, M', hI', e5⟩ := hp2
  exact j_icmp_eq (tgt := 1273) (P := True) C dL_law_216 (by decide) (iff_true_intro rfl) (fun _ => K Λ u2 M' cells slots ⟨hI', hx0, by omega, by omega⟩) (fun z => absurd trivial z)
theorem lc_routine (X : LX l p s m meth c D cy b L xs x0) (hq : 6 * q + 6 ≤ L) (hG : LG x0 q Λ σ M cells slots) (K : ∀ (Λ : LY) (σ : HS) (M : MM) (cells slots : Nat), LG x0 (q + 1) Λ σ M cells slots → JW p l e s m below meth c D cy b cells slots Λ 1273 (lvq Λ b q) [] σ) : JW p l e s m below meth c D cy b cells slots Λ 221 (lvq Λ b q) [] σ := by
  have X2 := X
  obtain ⟨C, hX, hbl, hbA, hL3, hlt, hZ⟩ := X
  obtain ⟨hI, hx0, hc, hsl⟩ := hG
  have hts := C.2.2.2.2.1
  have h5 : M 31 5 ≤ 40 := hI.2.2.1.1.1 31 5 rfl
  have h0 : 0 < gC Λ 0 := hI.1.1.n1 (by decide)
  have h31 : 0 < gC Λ 31 := by rw [hI.c31]; decide
  obtain ⟨kc, g, mc, ms, P, rm, hkc, ⟨hr1, hr2, hr3, hr4⟩, hg, hw, hm⟩ := k_routine l hlt D cy s.heap.size Λ σ M hI (xs (6 * q + 1))
  refine j_aload_n C dL_law_221 rfl 3 rfl ?_
  refine l_arg C hX hbl hbA hL3 1 q 4 0 (by omega) rfl rfl dL_law_222 dL_law_223 dL_law_225 (by decide) dL_law_226 dL_law_227 ?_
  refine j_aload_n C dL_law_228 rfl 1 rfl ?_
  refine c_ix C (r_SX C (by rw [hx0]; exact hZ) [.ref (gA Λ 0 0), .int (xs (6 * q + 1)), .ref (gA Λ 49 0)] hw (vx_cwSW 3 hts gU_L_routine rfl rfl rfl (by decide +kernel) ⟨Nat.le_of_ble_eq_true rfl, Nat.le_of_ble_eq_true rfl⟩) rfl rfl (Nat.le_of_ble_eq_true rfl) dL_law_229 ⟨by (show _ ≤ 601024; omega), by (show _ ≤ 7293033; omega)⟩) (fun r1 Λ1 u1 hp1 => ?_)
  obtain ⟨rfl, hP⟩ := hp1
  obtain ⟨hGw, h31, hm⟩ := hm _ hP
  dsimp only at hGw h31 hm
  have ea0 : gA Λ1 0 0 = gA Λ 0 0 := (hGw.2.1 0 0 h0).1
  have ea31 : gA Λ1 31 0 = gA Λ 31 0 := (hGw.2.1 31 0 (by rw [hI.c31]; decide)).1
  have ea49 : gA Λ1 49 0 = gA Λ 49 0 := (hGw.2.1 49 0 (by rw [hI.2.2.2.1]; decide)).1
  have elv : lvq Λ b q = lvq Λ1 b q := by unfold lvq; rw [ea0, ea31, ea49]
  rw [elv]
  refine j_istore C ((5, .int (nI kc)) :: lvq Λ1 b q) dL_law_232 (by decide) rfl ?_
  refine j_aload_n C dL_law_234 rfl 3 rfl ?_
  refine l_arg C hX hbl hbA hL3 1 q 5 1 (by omega) rfl rfl dL_law_235 dL_law_236 dL_law_238 (by decide) dL_law_239 dL_law_240 ?_
  refine c_i0 C (r_V C 31 0 [.int (xs (6 * q + 1))] hm (cwV 1 hts gU_X11_routine rfl hr3 hr4 (by decide +kernel) ⟨by (show _ + 1 ≤ 2048; omega), by (show 8 + (_ + 11) + _ ≤ 84000; omega)⟩) h31 rfl rfl rfl rfl (Nat.le_of_ble_eq_true rfl) dL_law_241 ⟨by (show _ ≤ 601024; omega), by (show _ ≤ 7293033; omega)⟩) (fun v2 u2 hp2 => ?_)
  exact l_tail X2 ⟨by (show _ ≤ 601024; omega), by (show _ ≤ 7293033; omega)⟩ hkc hp2 dL_law_244 dL_law_246 dL_law_247 dL_law_250 dL_law_252 dL_law_257 dL_law_259 dL_law_262 dL_law_263 dL_law_264 dL_law_265 dL_law_267 dL_law_268 dL_law_269 dL_law_274 (by decide) (fun M' hI' e5 => K Λ1 u2 M' _ _ ⟨hI', hGw.2.2.trans hx0, by omega, by omega⟩)
theorem lc_tie (X : LX l p s m meth c D cy b L xs x0) (hq : 6 * q + 6 ≤ L) (hG : LG x0 q Λ σ M cells slots) (K : ∀ (Λ : LY) (σ : HS) (M : MM) (cells slots : Nat), LG x0 (q + 1) Λ σ M cells slots → JW p l e s m below meth c D cy b cells slots Λ 1273 (lvq Λ b q) [] σ) : JW p l e s m below meth c D cy b cells slots Λ 277 (lvq Λ b q) [] σ := by
  have X2 := X
  obtain ⟨C, hX, hbl, hbA, hL3, hlt, hZ⟩ := X
  obtain ⟨hI, hx0, hc, hsl⟩ := hG
  have hts := C.2.2.2.2.1
  have h5 : M 31 5 ≤ 40 := hI.2.2.1.1.1 31 5 rfl
  have h0 : 0 < gC Λ 0 := hI.1.1.n1 (by decide)
  have h31 : 0 < gC Λ 31 := by rw [hI.c31]; decide
  obtain ⟨kc, P, rm, hkc, ⟨hr1, hr2, hr3, hr4⟩, hw, hm⟩ := k_tie l hlt D cy s.heap.size Λ σ M hI (xs (6 * q + 1)) (xs (6 * q + 2)) (xs (6 * q + 3)) (xs (6 * q + 4))
  refine j_aload_n C dL_law_277 rfl 3 rfl ?_
  refine l_arg C hX hbl hbA hL3 1 q 4 0 (by omega) rfl rfl dL_law_278 dL_law_279 dL_law_281 (by decide) dL_law_282 dL_law_283 ?_
  refine l_arg C hX hbl hbA hL3 2 q 4 0 (by omega) rfl rfl dL_law_284 dL_law_285 dL_law_287 (by decide) dL_law_288 dL_law_289 ?_
  refine l_arg C hX hbl hbA hL3 3 q 4 0 (by omega) rfl rfl dL_law_290 dL_law_291 dL_law_293 (by decide) dL_law_294 dL_law_295 ?_
  refine l_arg C hX hbl hbA hL3 4 q 4 0 (by omega) rfl rfl dL_law_296 dL_law_297 dL_law_299 (by decide) dL_law_300 dL_law_301 ?_
  refine j_aload_n C dL_law_302 rfl 1 rfl ?_
  refine c_ix C (r_SX C (by rw [hx0]; exact hZ) [.ref (gA Λ 0 0), .int (xs (6 * q + 1)), .int (xs (6 * q + 2)), .int (xs (6 * q + 3)), .int (xs (6 * q + 4)), .ref (gA Λ 49 0)] (vxX hw) (vx_cwSW 6 hts gU_L_tie rfl rfl rfl (by decide +kernel) ⟨Nat.le_of_ble_eq_true rfl, Nat.le_of_ble_eq_true rfl⟩) rfl rfl (Nat.le_of_ble_eq_true rfl) dL_law_303 ⟨by (show _ ≤ 601024; omega), by (show _ ≤ 7293033; omega)⟩) (fun r1 Λ1 u1 hp1 => ?_)
  obtain ⟨e1, rfl, hP⟩ := hp1
  dsimp only at e1 hP
  subst e1
  refine j_istore C ((5, .int (nI kc)) :: lvq Λ1 b q) dL_law_306 (by decide) rfl ?_
  refine j_aload_n C dL_law_308 rfl 3 rfl ?_
  refine l_arg C hX hbl hbA hL3 1 q 5 1 (by omega) rfl rfl dL_law_309 dL_law_310 dL_law_312 (by decide) dL_law_313 dL_law_314 ?_
  refine l_arg C hX hbl hbA hL3 2 q 5 1 (by omega) rfl rfl dL_law_315 dL_law_316 dL_law_318 (by decide) dL_law_319 dL_law_320 ?_
  refine l_arg C hX hbl hbA hL3 3 q 5 1 (by omega) rfl rfl dL_law_321 dL_law_322 dL_law_324 (by decide) dL_law_325 dL_law_326 ?_
  refine l_arg C hX hbl hbA hL3 4 q 5 1 (by omega) rfl rfl dL_law_327 dL_law_328 dL_law_330 (by decide) dL_law_331 dL_law_332 ?_
  refine c_i0 C (r_V C 31 0 [.int (xs (6 * q + 1)), .int (xs (6 * q + 2)), .int (xs (6 * q + 3)), .int (xs (6 * q + 4))] (hm u1 hP) (cwV 4 hts gU_X11_tie rfl hr3 hr4 (by decide +kernel) ⟨by (show _ + 1 ≤ 2048; omega), by (show 8 + (_ + 11) + _ ≤ 84000; omega)⟩) h31 rfl rfl rfl rfl (Nat.le_of_ble_eq_true rfl) dL_law_333 ⟨by (show _ ≤ 601024; omega), by (show _ ≤ 7293033; omega)⟩) (fun v2 u2 hp2 => ?_)
  exact l_tail X2 ⟨by (show _ ≤ 601024; omega), by (show _ ≤ 7293033; omega)⟩ hkc hp2 dL_law_336 dL_law_338 dL_law_339 dL_law_342 dL_law_344 dL_law_349 dL_law_351 dL_law_354 dL_law_355 dL_law_356 dL_law_357 dL_law_359 dL_law_360 dL_law_361 dL_law_366 (by decide) (fun M' hI' e5 => K Λ1 u2 M' _ _ ⟨hI', hx0, by omega, by omega⟩)
theorem lc_ties (X : LX l p s m meth c D cy b L xs x0) (hq : 6 * q + 6 ≤ L) (hG : LG x0 q Λ σ M cells slots) (K : ∀ (Λ : LY) (σ : HS) (M : MM) (cells slots : Nat), LG x0 (q + 1) Λ σ M cells slots → JW p l e s m below meth c D cy b cells slots Λ 1273 (lvq Λ b q) [] σ) : JW p l e s m below meth c D cy b cells slots Λ 369 (lvq Λ b q) [] σ := by
  have X2 := X
  obtain ⟨C, hX, hbl, hbA, hL3, hlt, hZ⟩ := X
  obtain ⟨hI, hx0, hc, hsl⟩ := hG
  have hts := C.2.2.2.2.1
  have h5 : M 31 5 ≤ 40 := hI.2.2.1.1.1 31 5 rfl
  have h0 : 0 < gC Λ 0 := hI.1.1.n1 (by decide)
  have h31 : 0 < gC Λ 31 := by rw [hI.c31]; decide
  obtain ⟨kc, P, rm, hkc, ⟨hr1, hr2, hr3, hr4⟩, hw, hm⟩ := k_ties l hlt D cy s.heap.size Λ σ M hI (xs (6 * q + 1)) (xs (6 * q + 2))
  refine j_aload_n C dL_law_369 rfl 3 rfl ?_
  refine l_arg C hX hbl hbA hL3 1 q 4 0 (by omega) rfl rfl dL_law_370 dL_law_371 dL_law_373 (by decide) dL_law_374 dL_law_375 ?_
  refine l_arg C hX hbl hbA hL3 2 q 4 0 (by omega) rfl rfl dL_law_376 dL_law_377 dL_law_379 (by decide) dL_law_380 dL_law_381 ?_
  refine j_aload_n C dL_law_382 rfl 1 rfl ?_
  refine c_ix C (r_SX C (by rw [hx0]; exact hZ) [.ref (gA Λ 0 0), .int (xs (6 * q + 1)), .int (xs (6 * q + 2)), .ref (gA Λ 49 0)] (vxX hw) (vx_cwSW 4 hts gU_L_ties rfl rfl rfl (by decide +kernel) ⟨Nat.le_of_ble_eq_true rfl, Nat.le_of_ble_eq_true rfl⟩) rfl rfl (Nat.le_of_ble_eq_true rfl) dL_law_383 ⟨by (show _ ≤ 601024; omega), by (show _ ≤ 7293033; omega)⟩) (fun r1 Λ1 u1 hp1 => ?_)
  obtain ⟨e1, rfl, hP⟩ := hp1
  dsimp only at e1 hP
  subst e1
  refine j_istore C ((5, .int (nI kc)) :: lvq Λ1 b q) dL_law_386 (by decide) rfl ?_
  refine j_aload_n C dL_law_388 rfl 3 rfl ?_
  refine l_arg C hX hbl hbA hL3 1 q 5 1 (by omega) rfl rfl dL_law_389 dL_law_390 dL_law_392 (by decide) dL_law_393 dL_law_394 ?_
  refine l_arg C hX hbl hbA hL3 2 q 5 1 (by omega) rfl rfl dL_law_395 dL_law_396 dL_law_398 (by decide) dL_law_399 dL_law_400 ?_
  refine c_i0 C (r_V C 31 0 [.int (xs (6 * q + 1)), .int (xs (6 * q + 2))] (hm u1 hP) (cwV 2 hts gU_X11_ties rfl hr3 hr4 (by decide +kernel) ⟨by (show _ + 1 ≤ 2048; omega), by (show 8 + (_ + 11) + _ ≤ 84000; omega)⟩) h31 rfl rfl rfl rfl (Nat.le_of_ble_eq_true rfl) dL_law_401 ⟨by (show _ ≤ 601024; omega), by (show _ ≤ 7293033; omega)⟩) (fun v2 u2 hp2 => ?_)
  exact l_tail X2 ⟨by (show _ ≤ 601024; omega), by (show _ ≤ 7293033; omega)⟩ hkc hp2 dL_law_404 dL_law_406 dL_law_407 dL_law_410 dL_law_412 dL_law_417 dL_law_419 dL_law_422 dL_law_423 dL_law_424 dL_law_425 dL_law_427 dL_law_428 dL_law_429 dL_law_434 (by decide) (fun M' hI' e5 => K Λ1 u2 M' _ _ ⟨hI', hx0, by omega, by omega⟩)
theorem lc_set (X : LX l p s m meth c D cy b L xs x0) (hq : 6 * q + 6 ≤ L) (hG : LG x0 q Λ σ M cells slots) (K : ∀ (Λ : LY) (σ : HS) (M : MM) (cells slots : Nat), LG x0 (q + 1) Λ σ M cells slots → JW p l e s m below meth c D cy b cells slots Λ 1273 (lvq Λ b q) [] σ) : JW p l e s m below meth c D cy b cells slots Λ 437 (lvq Λ b q) [] σ := by
  have X2 := X
  obtain ⟨C, hX, hbl, hbA, hL3, hlt, hZ⟩ := X
  obtain ⟨hI, hx0, hc, hsl⟩ := hG
  have hts := C.2.2.2.2.1
  have h5 : M 31 5 ≤ 40 := hI.2.2.1.1.1 31 5 rfl
  have h0 : 0 < gC Λ 0 := hI.1.1.n1 (by decide)
  have h31 : 0 < gC Λ 31 := by rw [hI.c31]; decide
  obtain ⟨kc, P, rm, hkc, ⟨hr1, hr2, hr3, hr4⟩, hw, hm⟩ := k_set l hlt D cy s.heap.size Λ σ M hI (xs (6 * q + 1)) (xs (6 * q + 2))
  refine j_aload_n C dL_law_437 rfl 3 rfl ?_
  refine l_arg C hX hbl hbA hL3 1 q 4 0 (by omega) rfl rfl dL_law_438 dL_law_439 dL_law_441 (by decide) dL_law_442 dL_law_443 ?_
  refine l_arg C hX hbl hbA hL3 2 q 4 0 (by omega) rfl rfl dL_law_444 dL_law_445 dL_law_447 (by decide) dL_law_448 dL_law_449 ?_
  refine j_aload_n C dL_law_450 rfl 1 rfl ?_
  refine c_ix C (r_SX C (by rw [hx0]; exact hZ) [.ref (gA Λ 0 0), .int (xs (6 * q + 1)), .int (xs (6 * q + 2)), .ref (gA Λ 49 0)] (vxX hw) (vx_cwSW 4 hts gU_L_set rfl rfl rfl (by decide +kernel) ⟨Nat.le_of_ble_eq_true rfl, Nat.le_of_ble_eq_true rfl⟩) rfl rfl (Nat.le_of_ble_eq_true rfl) dL_law_451 ⟨by (show _ ≤ 601024; omega), by (show _ ≤ 7293033; omega)⟩) (fun r1 Λ1 u1 hp1 => ?_)
  obtain ⟨e1, rfl, hP⟩ := hp1
  dsimp only at e1 hP
  subst e1
  refine j_istore C ((5, .int (nI kc)) :: lvq Λ1 b q) dL_law_454 (by decide) rfl ?_
  refine j_aload_n C dL_law_456 rfl 3 rfl ?_
  refine l_arg C hX hbl hbA hL3 1 q 5 1 (by omega) rfl rfl dL_law_457 dL_law_458 dL_law_460 (by decide) dL_law_461 dL_law_462 ?_
  refine l_arg C hX hbl hbA hL3 2 q 5 1 (by omega) rfl rfl dL_law_463 dL_law_464 dL_law_466 (by decide) dL_law_467 dL_law_468 ?_
  refine c_i0 C (r_V C 31 0 [.int (xs (6 * q + 1)), .int (xs (6 * q + 2))] (hm u1 hP) (cwV 2 hts gU_X11_set rfl hr3 hr4 (by decide +kernel) ⟨by (show _ + 1 ≤ 2048; omega), by (show 8 + (_ + 11) + _ ≤ 84000; omega)⟩) h31 rfl rfl rfl rfl (Nat.le_of_ble_eq_true rfl) dL_law_469 ⟨by (show _ ≤ 601024; omega), by (show _ ≤ 7293033; omega)⟩) (fun v2 u2 hp2 => ?_)
  exact l_tail X2 ⟨by (show _ ≤ 601024; omega), by (show _ ≤ 7293033; omega)⟩ hkc hp2 dL_law_472 dL_law_474 dL_law_475 dL_law_478 dL_law_480 dL_law_485 dL_law_487 dL_law_490 dL_law_491 dL_law_492 dL_law_493 dL_law_495 dL_law_496 dL_law_497 dL_law_502 (by decide) (fun M' hI' e5 => K Λ1 u2 M' _ _ ⟨hI', hx0, by omega, by omega⟩)
theorem lc_must (X : LX l p s m meth c D cy b L xs x0) (hq : 6 * q + 6 ≤ L) (hG : LG x0 q Λ σ M cells slots) (K : ∀ (Λ : LY) (σ : HS) (M : MM) (cells slots : Nat), LG x0 (q + 1) Λ σ M cells slots → JW p l e s m below meth c D cy b cells slots Λ 1273 (lvq Λ b q) [] σ) : JW p l e s m below meth c D cy b cells slots Λ 505 (lvq Λ b q) [] σ := by
  have X2 := X
  obtain ⟨C, hX, hbl, hbA, hL3, hlt, hZ⟩ := X
  obtain ⟨hI, hx0, hc, hsl⟩ := hG
  have hts := C.2.2.2.2.1
  have h5 : M 31 5 ≤ 40 := hI.2.2.1.1.1 31 5 rfl
  have h0 : 0 < gC Λ 0 := hI.1.1.n1 (by decide)
  have h31 : 0 < gC Λ 31 := by rw [hI.c31]; decide
  obtain ⟨kc, P, rm, hkc, ⟨hr1, hr2, hr3, hr4⟩, hw, hm⟩ := k_must l hlt D cy s.heap.size Λ σ M hI (xs (6 * q + 1)) (xs (6 * q + 2)) (xs (6 * q + 3))
  refine j_aload_n C dL_law_505 rfl 3 rfl ?_
  refine l_arg C hX hbl hbA hL3 1 q 4 0 (by omega) rfl rfl dL_law_506 dL_law_507 dL_law_509 (by decide) dL_law_510 dL_law_511 ?_
  refine l_arg C hX hbl hbA hL3 2 q 4 0 (by omega) rfl rfl dL_law_512 dL_law_513 dL_law_515 (by decide) dL_law_516 dL_law_517 ?_
  refine l_arg C hX hbl hbA hL3 3 q 4 0 (by omega) rfl rfl dL_law_518 dL_law_519 dL_law_521 (by decide) dL_law_522 dL_law_523 ?_
  refine j_aload_n C dL_law_524 rfl 1 rfl ?_
  refine c_ix C (r_SX C (by rw [hx0]; exact hZ) [.ref (gA Λ 0 0), .int (xs (6 * q + 1)), .int (xs (6 * q + 2)), .int (xs (6 * q + 3)), .ref (gA Λ 49 0)] (vxX hw) (vx_cwSW 5 hts gU_L_must rfl rfl rfl (by decide +kernel) ⟨Nat.le_of_ble_eq_true rfl, Nat.le_of_ble_eq_true rfl⟩) rfl rfl (Nat.le_of_ble_eq_true rfl) dL_law_525 ⟨by (show _ ≤ 601024; omega), by (show _ ≤ 7293033; omega)⟩) (fun r1 Λ1 u1 hp1 => ?_)
  obtain ⟨e1, rfl, hP⟩ := hp1
  dsimp only at e1 hP
  subst e1
  refine j_istore C ((5, .int (nI kc)) :: lvq Λ1 b q) dL_law_528 (by decide) rfl ?_
  refine j_aload_n C dL_law_530 rfl 3 rfl ?_
  refine l_arg C hX hbl hbA hL3 1 q 5 1 (by omega) rfl rfl dL_law_531 dL_law_532 dL_law_534 (by decide) dL_law_535 dL_law_536 ?_
  refine l_arg C hX hbl hbA hL3 2 q 5 1 (by omega) rfl rfl dL_law_537 dL_law_538 dL_law_540 (by decide) dL_law_541 dL_law_542 ?_
  refine l_arg C hX hbl hbA hL3 3 q 5 1 (by omega) rfl rfl dL_law_543 dL_law_544 dL_law_546 (by decide) dL_law_547 dL_law_548 ?_
  refine c_i0 C (r_V C 31 0 [.int (xs (6 * q + 1)), .int (xs (6 * q + 2)), .int (xs (6 * q + 3))] (hm u1 hP) (cwV 3 hts gU_X11_must rfl hr3 hr4 (by decide +kernel) ⟨by (show _ + 1 ≤ 2048; omega), by (show 8 + (_ + 11) + _ ≤ 84000; omega)⟩) h31 rfl rfl rfl rfl (Nat.le_of_ble_eq_true rfl) dL_law_549 ⟨by (show _ ≤ 601024; omega), by (show _ ≤ 7293033; omega)⟩) (fun v2 u2 hp2 => ?_)
  exact l_tail X2 ⟨by (show _ ≤ 601024; omega), by (show _ ≤ 7293033; omega)⟩ hkc hp2 dL_law_552 dL_law_554 dL_law_555 dL_law_558 dL_law_560 dL_law_565 dL_law_567 dL_law_570 dL_law_571 dL_law_572 dL_law_573 dL_law_575 dL_law_576 dL_law_577 dL_law_582 (by decide) (fun M' hI' e5 => K Λ1 u2 M' _ _ ⟨hI', hx0, by omega, by omega⟩)
theorem lc_fix (X : LX l p s m meth c D cy b L xs x0) (hq : 6 * q + 6 ≤ L) (hG : LG x0 q Λ σ M cells slots) (K : ∀ (Λ : LY) (σ : HS) (M : MM) (cells slots : Nat), LG x0 (q + 1) Λ σ M cells slots → JW p l e s m below meth c D cy b cells slots Λ 1273 (lvq Λ b q) [] σ) : JW p l e s m below meth c D cy b cells slots Λ 585 (lvq Λ b q) [] σ := by
  have X2 := X
  obtain ⟨C, hX, hbl, hbA, hL3, hlt, hZ⟩ := X
  obtain ⟨hI, hx0, hc, hsl⟩ := hG
  have hts := C.2.2.2.2.1
  have h5 : M 31 5 ≤ 40 := hI.2.2.1.1.1 31 5 rfl
  have h0 : 0 < gC Λ 0 := hI.1.1.n1 (by decide)
  have h31 : 0 < gC Λ 31 := by rw [hI.c31]; decide
  obtain ⟨kc, P, rm, hkc, ⟨hr1, hr2, hr3, hr4⟩, hw, hm⟩ := k_fix l hlt D cy s.heap.size Λ σ M hI (xs (6 * q + 1)) (xs (6 * q + 2))
  refine j_aload_n C dL_law_585 rfl 3 rfl ?_
  refine l_arg C hX hbl hbA hL3 1 q 4 0 (by omega) rfl rfl dL_law_586 dL_law_587 dL_law_589 (by decide) dL_law_590 dL_law_591 ?_
  refine l_arg C hX hbl hbA hL3 2 q 4 0 (by omega) rfl rfl dL_law_592 dL_law_593 dL_law_595 (by decide) dL_law_596 dL_law_597 ?_
  refine j_aload_n C dL_law_598 rfl 1 rfl ?_
  refine c_ix C (r_SX C (by rw [hx0]; exact hZ) [.ref (gA Λ 0 0), .int (xs (6 * q + 1)), .int (xs (6 * q + 2)), .ref (gA Λ 49 0)] (vxX hw) (vx_cwSW 4 hts gU_L_fix rfl rfl rfl (by decide +kernel) ⟨Nat.le_of_ble_eq_true rfl, Nat.le_of_ble_eq_true rfl⟩) rfl rfl (Nat.le_of_ble_eq_true rfl) dL_law_599 ⟨by (show _ ≤ 601024; omega), by (show _ ≤ 7293033; omega)⟩) (fun r1 Λ1 u1 hp1 => ?_)
  obtain ⟨e1, rfl, hP⟩ := hp1
  dsimp only at e1 hP
  subst e1
  refine j_istore C ((5, .int (nI kc)) :: lvq Λ1 b q) dL_law_602 (by decide) rfl ?_
  refine j_aload_n C dL_law_604 rfl 3 rfl ?_
  refine l_arg C hX hbl hbA hL3 1 q 5 1 (by omega) rfl rfl dL_law_605 dL_law_606 dL_law_608 (by decide) dL_law_609 dL_law_610 ?_
  refine l_arg C hX hbl hbA hL3 2 q 5 1 (by omega) rfl rfl dL_law_611 dL_law_612 dL_law_614 (by decide) dL_law_615 dL_law_616 ?_
  refine c_i0 C (r_V C 31 0 [.int (xs (6 * q + 1)), .int (xs (6 * q + 2))] (hm u1 hP) (cwV 2 hts gU_X11_fix rfl hr3 hr4 (by decide +kernel) ⟨by (show _ + 1 ≤ 2048; omega), by (show 8 + (_ + 11) + _ ≤ 84000; omega)⟩) h31 rfl rfl rfl rfl (Nat.le_of_ble_eq_true rfl) dL_law_617 ⟨by (show _ ≤ 601024; omega), by (show _ ≤ 7293033; omega)⟩) (fun v2 u2 hp2 => ?_)
  exact l_tail X2 ⟨by (show _ ≤ 601024; omega), by (show _ ≤ 7293033; omega)⟩ hkc hp2 dL_law_620 dL_law_622 dL_law_623 dL_law_626 dL_law_628 dL_law_633 dL_law_635 dL_law_638 dL_law_639 dL_law_640 dL_law_641 dL_law_643 dL_law_644 dL_law_645 dL_law_650 (by decide) (fun M' hI' e5 => K Λ1 u2 M' _ _ ⟨hI', hx0, by omega, by omega⟩)
theorem lc_hub (X : LX l p s m meth c D cy b L xs x0) (hq : 6 * q + 6 ≤ L) (hG : LG x0 q Λ σ M cells slots) (K : ∀ (Λ : LY) (σ : HS) (M : MM) (cells slots : Nat), LG x0 (q + 1) Λ σ M cells slots → JW p l e s m below meth c D cy b cells slots Λ 1273 (lvq Λ b q) [] σ) : JW p l e s m below meth c D cy b cells slots Λ 653 (lvq Λ b q) [] σ := by
  have X2 := X
  obtain ⟨C, hX, hbl, hbA, hL3, hlt, hZ⟩ := X
  obtain ⟨hI, hx0, hc, hsl⟩ := hG
  have hts := C.2.2.2.2.1
  have h5 : M 31 5 ≤ 40 := hI.2.2.1.1.1 31 5 rfl
  have h0 : 0 < gC Λ 0 := hI.1.1.n1 (by decide)
  have h31 : 0 < gC Λ 31 := by rw [hI.c31]; decide
  obtain ⟨kc, P, rm, hkc, ⟨hr1, hr2, hr3, hr4⟩, hw, hm⟩ := k_hub l hlt D cy s.heap.size Λ σ M hI (xs (6 * q + 1))
  refine j_aload_n C dL_law_653 rfl 3 rfl ?_
  refine l_arg C hX hbl hbA hL3 1 q 4 0 (by omega) rfl rfl dL_law_654 dL_law_655 dL_law_657 (by decide) dL_law_658 dL_law_659 ?_
  refine j_aload_n C dL_law_660 rfl 1 rfl ?_
  refine c_ix C (r_SX C (by rw [hx0]; exact hZ) [.ref (gA Λ 0 0), .int (xs (6 * q + 1)), .ref (gA Λ 49 0)] (vxX hw) (vx_cwSW 3 hts gU_L_hub rfl rfl rfl (by decide +kernel) ⟨Nat.le_of_ble_eq_true rfl, Nat.le_of_ble_eq_true rfl⟩) rfl rfl (Nat.le_of_ble_eq_true rfl) dL_law_661 ⟨by (show _ ≤ 601024; omega), by (show _ ≤ 7293033; omega)⟩) (fun r1 Λ1 u1 hp1 => ?_)
  obtain ⟨e1, rfl, hP⟩ := hp1
  dsimp only at e1 hP
  subst e1
  refine j_istore C ((5, .int (nI kc)) :: lvq Λ1 b q) dL_law_664 (by decide) rfl ?_
  refine j_aload_n C dL_law_666 rfl 3 rfl ?_
  refine l_arg C hX hbl hbA hL3 1 q 5 1 (by omega) rfl rfl dL_law_667 dL_law_668 dL_law_670 (by decide) dL_law_671 dL_law_672 ?_
  refine c_i0 C (r_V C 31 0 [.int (xs (6 * q + 1))] (hm u1 hP) (cwV 1 hts gU_X11_hub rfl hr3 hr4 (by decide +kernel) ⟨by (show _ + 1 ≤ 2048; omega), by (show 8 + (_ + 11) + _ ≤ 84000; omega)⟩) h31 rfl rfl rfl rfl (Nat.le_of_ble_eq_true rfl) dL_law_673 ⟨by (show _ ≤ 601024; omega), by (show _ ≤ 7293033; omega)⟩) (fun v2 u2 hp2 => ?_)
  obtain ⟨⟨M', hM, hI', e5⟩, hv⟩ := hp2
  have h49 : 0 < gC Λ1 49 := by rw [hI'.2.2.2.1]; decide
  have fin : ∀ lv9, lv_pick lv9 [2, 3, 4, 5, 6] = lvq Λ1 b q → JW p l e s m below meth c D cy b (cells + 1) (slots + 6) Λ1 713 lv9 [] u2 := fun lv9 h9 => by
    refine j_goto (tgt := 1273) C dL_law_713 (by decide) ?_
    exact j_lv [2, 3, 4, 5, 6] h9 (K Λ1 u2 M' _ _ ⟨hI', hx0, by omega, by omega⟩)
  refine j_istore C ((6, .int v2) :: (5, .int (nI kc)) :: lvq Λ1 b q) dL_law_676 (by decide) rfl ?_
  refine j_aload_n C dL_law_678 rfl 4 rfl ?_
  refine c_i0 C (r_V C 31 0 [] (c_mthrown l D cy s.heap.size Λ1 u2 (mS M' 31 0 kc) hM) (cwV 0 hts gU_X11_thrown rfl rfl rfl (by decide +kernel) ⟨by decide, by decide⟩) h31 rfl rfl rfl rfl (Nat.le_of_ble_eq_true rfl) dL_law_679 ⟨by (show _ ≤ 601024; omega), by (show _ ≤ 7293033; omega)⟩) (fun v u3 hp => ?_)
  obtain ⟨rfl, rfl⟩ := hp
  rw [mS_same]
  refine j_iload C dL_law_682 1 rfl ?_
  refine j_icmp_eq (tgt := 689) (P := True) C dL_law_684 (by decide) (iff_true_intro rfl) (fun _ => ?_) (fun z => absurd trivial z)
  refine j_iload C dL_law_689 1 rfl ?_
  refine j_if_ne (tgt := 713) C dL_law_691 (by decide) (kc0 hkc) (fun _ => fin _ rfl) (fun hk0 => ?_)
  refine j_aload_n C dL_law_694 rfl 3 rfl ?_
  refine j_iconst C (nI 0) dL_law_695 (by decide) ?_
  obtain ⟨b1, hb1, hb2, hb3⟩ := hv hk0
  subst hb2
  refine j_lald C 49 0 0 h49 rfl rfl 1 hI'.2.2.2.2 (by decide) (by decide) _ hb3 dL_law_696 ?_
  refine j_iload C dL_law_697 0 rfl ?_
  rcases (show b1 = 0 ∨ b1 = 1 by omega) with rfl | rfl
  · refine j_if_eq (tgt := 706) (P := True) C dL_law_699 (by decide) (iff_true_intro rfl) (fun _ => ?_) (fun z => absurd trivial z)
    refine j_lconst C (zL ((0 : Nat) : Int)) dL_law_706 (by decide) ?_
    exact j_lcmp_eq (tgt := 713) (P := True) C dL_law_707 dL_law_708 (by decide) (iff_true_intro rfl) (fun _ => fin _ rfl) (fun z => absurd trivial z)
  · refine j_if_eq (tgt := 706) (P := False) C dL_law_699 (by decide) (by decide) (fun z => z.elim) (fun _ => ?_)
    refine j_lconst C (zL ((1 : Nat) : Int)) dL_law_702 (by decide) ?_
    refine j_goto (tgt := 707) C dL_law_703 (by decide) ?_
    exact j_lcmp_eq (tgt := 713) (P := True) C dL_law_707 dL_law_708 (by decide) (iff_true_intro rfl) (fun _ => fin _ rfl) (fun z => absurd trivial z)
theorem lc_room (X : LX l p s m meth c D cy b L xs x0) (hq : 6 * q + 6 ≤ L) (hG : LG x0 q Λ σ M cells slots) (K : ∀ (Λ : LY) (σ : HS) (M : MM) (cells slots : Nat), LG x0 (q + 1) Λ σ M cells slots → JW p l e s m below meth c D cy b cells slots Λ 1273 (lvq Λ b q) [] σ) : JW p l e s m below meth c D cy b cells slots Λ 716 (lvq Λ b q) [] σ := by
  have X2 := X
  obtain ⟨C, hX, hbl, hbA, hL3, hlt, hZ⟩ := X
  obtain ⟨hI, hx0, hc, hsl⟩ := hG
  have hts := C.2.2.2.2.1
  have h5 : M 31 5 ≤ 40 := hI.2.2.1.1.1 31 5 rfl
  have h0 : 0 < gC Λ 0 := hI.1.1.n1 (by decide)
  have h31 : 0 < gC Λ 31 := by rw [hI.c31]; decide
  obtain ⟨kc, P, rm, hkc, ⟨hr1, hr2, hr3, hr4⟩, hw, hm⟩ := k_room l hlt D cy s.heap.size Λ σ M hI (xs (6 * q + 1))
  refine j_aload_n C dL_law_716 rfl 3 rfl ?_
  refine l_arg C hX hbl hbA hL3 1 q 4 0 (by omega) rfl rfl dL_law_717 dL_law_718 dL_law_720 (by decide) dL_law_721 dL_law_722 ?_
  refine j_aload_n C dL_law_723 rfl 1 rfl ?_
  refine c_ix C (r_SX C (by rw [hx0]; exact hZ) [.ref (gA Λ 0 0), .int (xs (6 * q + 1)), .ref (gA Λ 49 0)] (vxX hw) (vx_cwSW 3 hts gU_L_room rfl rfl rfl (by decide +kernel) ⟨Nat.le_of_ble_eq_true rfl, Nat.le_of_ble_eq_true rfl⟩) rfl rfl (Nat.le_of_ble_eq_true rfl) dL_law_724 ⟨by (show _ ≤ 601024; omega), by (show _ ≤ 7293033; omega)⟩) (fun r1 Λ1 u1 hp1 => ?_)
  obtain ⟨e1, rfl, hP⟩ := hp1
  dsimp only at e1 hP
  subst e1
  refine j_istore C ((5, .int (nI kc)) :: lvq Λ1 b q) dL_law_727 (by decide) rfl ?_
  refine j_aload_n C dL_law_729 rfl 3 rfl ?_
  refine l_arg C hX hbl hbA hL3 1 q 5 1 (by omega) rfl rfl dL_law_730 dL_law_731 dL_law_733 (by decide) dL_law_734 dL_law_735 ?_
  refine c_i0 C (r_V C 31 0 [.int (xs (6 * q + 1))] (hm u1 hP) (cwV 1 hts gU_X11_room rfl hr3 hr4 (by decide +kernel) ⟨by (show _ + 1 ≤ 2048; omega), by (show 8 + (_ + 11) + _ ≤ 84000; omega)⟩) h31 rfl rfl rfl rfl (Nat.le_of_ble_eq_true rfl) dL_law_736 ⟨by (show _ ≤ 601024; omega), by (show _ ≤ 7293033; omega)⟩) (fun v2 u2 hp2 => ?_)
  exact l_tail X2 ⟨by (show _ ≤ 601024; omega), by (show _ ≤ 7293033; omega)⟩ hkc hp2 dL_law_739 dL_law_741 dL_law_742 dL_law_745 dL_law_747 dL_law_752 dL_law_754 dL_law_757 dL_law_758 dL_law_759 dL_law_760 dL_law_762 dL_law_763 dL_law_764 dL_law_769 (by decide) (fun M' hI' e5 => K Λ1 u2 M' _ _ ⟨hI', hx0, by omega, by omega⟩)
theorem lc_put (X : LX l p s m meth c D cy b L xs x0) (hq : 6 * q + 6 ≤ L) (hG : LG x0 q Λ σ M cells slots) (K : ∀ (Λ : LY) (σ : HS) (M : MM) (cells slots : Nat), LG x0 (q + 1) Λ σ M cells slots → JW p l e s m below meth c D cy b cells slots Λ 1273 (lvq Λ b q) [] σ) : JW p l e s m below meth c D cy b cells slots Λ 772 (lvq Λ b q) [] σ := by
  have X2 := X
  obtain ⟨C, hX, hbl, hbA, hL3, hlt, hZ⟩ := X
  obtain ⟨hI, hx0, hc, hsl⟩ := hG
  have hts := C.2.2.2.2.1
  have h5 : M 31 5 ≤ 40 := hI.2.2.1.1.1 31 5 rfl
  have h0 : 0 < gC Λ 0 := hI.1.1.n1 (by decide)
  have h31 : 0 < gC Λ 31 := by rw [hI.c31]; decide
  obtain ⟨kc, P, rm, hkc, ⟨hr1, hr2, hr3, hr4⟩, hw, hm⟩ := k_put l hlt D cy s.heap.size Λ σ M hI (xs (6 * q + 1)) (xs (6 * q + 2))
  refine j_aload_n C dL_law_772 rfl 3 rfl ?_
  refine l_arg C hX hbl hbA hL3 1 q 4 0 (by omega) rfl rfl dL_law_773 dL_law_774 dL_law_776 (by decide) dL_law_777 dL_law_778 ?_
  refine l_arg C hX hbl hbA hL3 2 q 4 0 (by omega) rfl rfl dL_law_779 dL_law_780 dL_law_782 (by decide) dL_law_783 dL_law_784 ?_
  refine j_aload_n C dL_law_785 rfl 1 rfl ?_
  refine c_ix C (r_SX C (by rw [hx0]; exact hZ) [.ref (gA Λ 0 0), .int (xs (6 * q + 1)), .int (xs (6 * q + 2)), .ref (gA Λ 49 0)] (vxX hw) (vx_cwSW 4 hts gU_L_put rfl rfl rfl (by decide +kernel) ⟨Nat.le_of_ble_eq_true rfl, Nat.le_of_ble_eq_true rfl⟩) rfl rfl (Nat.le_of_ble_eq_true rfl) dL_law_786 ⟨by (show _ ≤ 601024; omega), by (show _ ≤ 7293033; omega)⟩) (fun r1 Λ1 u1 hp1 => ?_)
  obtain ⟨e1, rfl, hP⟩ := hp1
  dsimp only at e1 hP
  subst e1
  refine j_istore C ((5, .int (nI kc)) :: lvq Λ1 b q) dL_law_789 (by decide) rfl ?_
  refine j_aload_n C dL_law_791 rfl 3 rfl ?_
  refine l_arg C hX hbl hbA hL3 1 q 5 1 (by omega) rfl rfl dL_law_792 dL_law_793 dL_law_795 (by decide) dL_law_796 dL_law_797 ?_
  refine l_arg C hX hbl hbA hL3 2 q 5 1 (by omega) rfl rfl dL_law_798 dL_law_799 dL_law_801 (by decide) dL_law_802 dL_law_803 ?_
  refine c_i0 C (r_V C 31 0 [.int (xs (6 * q + 1)), .int (xs (6 * q + 2))] (hm u1 hP) (cwV 2 hts gU_X11_put rfl hr3 hr4 (by decide +kernel) ⟨by (show _ + 1 ≤ 2048; omega), by (show 8 + (_ + 11) + _ ≤ 84000; omega)⟩) h31 rfl rfl rfl rfl (Nat.le_of_ble_eq_true rfl) dL_law_804 ⟨by (show _ ≤ 601024; omega), by (show _ ≤ 7293033; omega)⟩) (fun v2 u2 hp2 => ?_)
  exact l_tail X2 ⟨by (show _ ≤ 601024; omega), by (show _ ≤ 7293033; omega)⟩ hkc hp2 dL_law_807 dL_law_809 dL_law_810 dL_law_813 dL_law_815 dL_law_820 dL_law_822 dL_law_825 dL_law_826 dL_law_827 dL_law_828 dL_law_830 dL_law_831 dL_law_832 dL_law_837 (by decide) (fun M' hI' e5 => K Λ1 u2 M' _ _ ⟨hI', hx0, by omega, by omega⟩)
theorem lc_cost (X : LX l p s m meth c D cy b L xs x0) (hq : 6 * q + 6 ≤ L) (hG : LG x0 q Λ σ M cells slots) (K : ∀ (Λ : LY) (σ : HS) (M : MM) (cells slots : Nat), LG x0 (q + 1) Λ σ M cells slots → JW p l e s m below meth c D cy b cells slots Λ 1273 (lvq Λ b q) [] σ) : JW p l e s m below meth c D cy b cells slots Λ 840 (lvq Λ b q) [] σ := by
  have X2 := X
  obtain ⟨C, hX, hbl, hbA, hL3, hlt, hZ⟩ := X
  obtain ⟨hI, hx0, hc, hsl⟩ := hG
  have hts := C.2.2.2.2.1
  have h5 : M 31 5 ≤ 40 := hI.2.2.1.1.1 31 5 rfl
  have h0 : 0 < gC Λ 0 := hI.1.1.n1 (by decide)
  have h31 : 0 < gC Λ 31 := by rw [hI.c31]; decide
  obtain ⟨P, r1, rm, ⟨ha1, ha2, ha3, ha4⟩, ⟨hr1, hr2, hr3, hr4⟩, hw, hm⟩ := k_cost l D cy s.heap.size Λ σ M hI
  refine j_aload_n C dL_law_840 rfl 3 rfl ?_
  refine c_l0 C (r_V C 0 0 [] hw (cwV 0 hts gU_X10_cost rfl ha3 ha4 (by decide +kernel) ⟨by (show _ + 1 ≤ 2048; omega), by (show 8 + (_ + 11) + _ ≤ 84000; omega)⟩) h0 rfl rfl rfl rfl (Nat.le_of_ble_eq_true rfl) dL_law_841 ⟨by (show _ ≤ 601024; omega), by (show _ ≤ 7293033; omega)⟩) (fun v1 u1 hp1 => ?_)
  refine j_aload_n C dL_law_844 rfl 2 rfl ?_
  refine c_l0 C (r_V C 31 0 [] (hm v1 u1 hp1) (cwV 0 hts gU_X11_cost rfl hr3 hr4 (by decide +kernel) ⟨by (show _ + 1 ≤ 2048; omega), by (show 8 + (_ + 11) + _ ≤ 84000; omega)⟩) h31 rfl rfl rfl rfl (Nat.le_of_ble_eq_true rfl) dL_law_845 ⟨by (show _ ≤ 601024; omega), by (show _ ≤ 7293033; omega)⟩) (fun v2 u2 hp2 => ?_)
  obtain ⟨rfl, M', hI', e5⟩ := hp2
  exact j_lcmp_eq (tgt := 1273) (P := True) C dL_law_848 dL_law_849 (by decide) (iff_true_intro rfl) (fun _ => K Λ u2 M' cells slots ⟨hI', hx0, by omega, by omega⟩) (fun z => absurd trivial z)
theorem lc_better (X : LX l p s m meth c D cy b L xs x0) (hq : 6 * q + 6 ≤ L) (hG : LG x0 q Λ σ M cells slots) (K : ∀ (Λ : LY) (σ : HS) (M : MM) (cells slots : Nat), LG x0 (q + 1) Λ σ M cells slots → JW p l e s m below meth c D cy b cells slots Λ 1273 (lvq Λ b q) [] σ) : JW p l e s m below meth c D cy b cells slots Λ 854 (lvq Λ b q) [] σ := by
  have X2 := X
  obtain ⟨C, hX, hbl, hbA, hL3, hlt, hZ⟩ := X
  obtain ⟨hI, hx0, hc, hsl⟩ := hG
  have hts := C.2.2.2.2.1
  have h5 : M 31 5 ≤ 40 := hI.2.2.1.1.1 31 5 rfl
  have h0 : 0 < gC Λ 0 := hI.1.1.n1 (by decide)
  have h31 : 0 < gC Λ 31 := by rw [hI.c31]; decide
  obtain ⟨P, r1, rm, ⟨ha1, ha2, ha3, ha4⟩, ⟨hr1, hr2, hr3, hr4⟩, hw, hm⟩ := k_better l D cy s.heap.size Λ σ M hI
  refine j_aload_n C dL_law_854 rfl 3 rfl ?_
  refine c_i0 C (r_V C 0 0 [] hw (cwV 0 hts gU_X10_better rfl ha3 ha4 (by decide +kernel) ⟨by (show _ + 1 ≤ 2048; omega), by (show 8 + (_ + 11) + _ ≤ 84000; omega)⟩) h0 rfl rfl rfl rfl (Nat.le_of_ble_eq_true rfl) dL_law_855 ⟨by (show _ ≤ 601024; omega), by (show _ ≤ 7293033; omega)⟩) (fun v1 u1 hp1 => ?_)
  refine j_aload_n C dL_law_858 rfl 2 rfl ?_
  refine c_i0 C (r_V C 31 0 [] (hm v1 u1 hp1) (cwV 0 hts gU_X11_better rfl hr3 hr4 (by decide +kernel) ⟨by (show _ + 1 ≤ 2048; omega), by (show 8 + (_ + 11) + _ ≤ 84000; omega)⟩) h31 rfl rfl rfl rfl (Nat.le_of_ble_eq_true rfl) dL_law_859 ⟨by (show _ ≤ 601024; omega), by (show _ ≤ 7293033; omega)⟩) (fun v2 u2 hp2 => ?_)
  obtain ⟨rfl, M', hI', e5⟩ := hp2
  exact j_icmp_eq (tgt := 1273) (P := True) C dL_law_862 (by decide) (iff_true_intro rfl) (fun _ => K Λ u2 M' cells slots ⟨hI', hx0, by omega, by omega⟩) (fun z => absurd trivial z)
theorem lc_best (X : LX l p s m meth c D cy b L xs x0) (hq : 6 * q + 6 ≤ L) (hG : LG x0 q Λ σ M cells slots) (K : ∀ (Λ : LY) (σ : HS) (M : MM) (cells slots : Nat), LG x0 (q + 1) Λ σ M cells slots → JW p l e s m below meth c D cy b cells slots Λ 1273 (lvq Λ b q) [] σ) : JW p l e s m below meth c D cy b cells slots Λ 867 (lvq Λ b q) [] σ := by
  have X2 := X
  obtain ⟨C, hX, hbl, hbA, hL3, hlt, hZ⟩ := X
  obtain ⟨hI, hx0, hc, hsl⟩ := hG
  have hts := C.2.2.2.2.1
  have h5 : M 31 5 ≤ 40 := hI.2.2.1.1.1 31 5 rfl
  have h0 : 0 < gC Λ 0 := hI.1.1.n1 (by decide)
  have h31 : 0 < gC Λ 31 := by rw [hI.c31]; decide
  obtain ⟨P, r1, rm, ⟨ha1, ha2, ha3, ha4⟩, ⟨hr1, hr2, hr3, hr4⟩, hw, hm⟩ := k_best l D cy s.heap.size Λ σ M hI
  refine j_aload_n C dL_law_867 rfl 3 rfl ?_
  refine c_l0 C (r_V C 0 0 [] hw (cwV 0 hts gU_X10_best rfl ha3 ha4 (by decide +kernel) ⟨by (show _ + 1 ≤ 2048; omega), by (show 8 + (_ + 11) + _ ≤ 84000; omega)⟩) h0 rfl rfl rfl rfl (Nat.le_of_ble_eq_true rfl) dL_law_868 ⟨by (show _ ≤ 601024; omega), by (show _ ≤ 7293033; omega)⟩) (fun v1 u1 hp1 => ?_)
  refine j_aload_n C dL_law_871 rfl 2 rfl ?_
  refine c_l0 C (r_V C 31 0 [] (hm v1 u1 hp1) (cwV 0 hts gU_X11_best rfl hr3 hr4 (by decide +kernel) ⟨by (show _ + 1 ≤ 2048; omega), by (show 8 + (_ + 11) + _ ≤ 84000; omega)⟩) h31 rfl rfl rfl rfl (Nat.le_of_ble_eq_true rfl) dL_law_872 ⟨by (show _ ≤ 601024; omega), by (show _ ≤ 7293033; omega)⟩) (fun v2 u2 hp2 => ?_)
  obtain ⟨rfl, M', hI', e5⟩ := hp2
  exact j_lcmp_eq (tgt := 1273) (P := True) C dL_law_875 dL_law_876 (by decide) (iff_true_intro rfl) (fun _ => K Λ u2 M' cells slots ⟨hI', hx0, by omega, by omega⟩) (fun z => absurd trivial z)
theorem lc_border (X : LX l p s m meth c D cy b L xs x0) (hq : 6 * q + 6 ≤ L) (hG : LG x0 q Λ σ M cells slots) (K : ∀ (Λ : LY) (σ : HS) (M : MM) (cells slots : Nat), LG x0 (q + 1) Λ σ M cells slots → JW p l e s m below meth c D cy b cells slots Λ 1273 (lvq Λ b q) [] σ) : JW p l e s m below meth c D cy b cells slots Λ 881 (lvq Λ b q) [] σ := by
  have X2 := X
  obtain ⟨C, hX, hbl, hbA, hL3, hlt, hZ⟩ := X
  obtain ⟨hI, hx0, hc, hsl⟩ := hG
  have hts := C.2.2.2.2.1
  have h5 : M 31 5 ≤ 40 := hI.2.2.1.1.1 31 5 rfl
  have h0 : 0 < gC Λ 0 := hI.1.1.n1 (by decide)
  have h31 : 0 < gC Λ 31 := by rw [hI.c31]; decide
  obtain ⟨kc, P, rm, hkc, ⟨hr1, hr2, hr3, hr4⟩, hw, hm⟩ := k_border l hlt D cy s.heap.size Λ σ M hI (xs (6 * q + 1))
  refine j_aload_n C dL_law_881 rfl 3 rfl ?_
  refine l_arg C hX hbl hbA hL3 1 q 4 0 (by omega) rfl rfl dL_law_882 dL_law_883 dL_law_885 (by decide) dL_law_886 dL_law_887 ?_
  refine j_aload_n C dL_law_888 rfl 1 rfl ?_
  refine c_ix C (r_SX C (by rw [hx0]; exact hZ) [.ref (gA Λ 0 0), .int (xs (6 * q + 1)), .ref (gA Λ 49 0)] (vxX hw) (vx_cwSW 3 hts gU_L_border rfl rfl rfl (by decide +kernel) ⟨Nat.le_of_ble_eq_true rfl, Nat.le_of_ble_eq_true rfl⟩) rfl rfl (Nat.le_of_ble_eq_true rfl) dL_law_889 ⟨by (show _ ≤ 601024; omega), by (show _ ≤ 7293033; omega)⟩) (fun r1 Λ1 u1 hp1 => ?_)
  obtain ⟨e1, rfl, hP⟩ := hp1
  dsimp only at e1 hP
  subst e1
  refine j_istore C ((5, .int (nI kc)) :: lvq Λ1 b q) dL_law_892 (by decide) rfl ?_
  refine j_aload_n C dL_law_894 rfl 3 rfl ?_
  refine l_arg C hX hbl hbA hL3 1 q 5 1 (by omega) rfl rfl dL_law_895 dL_law_896 dL_law_898 (by decide) dL_law_899 dL_law_900 ?_
  refine c_l0 C (r_V C 31 0 [.int (xs (6 * q + 1))] (hm u1 hP) (cwV 1 hts gU_X11_border rfl hr3 hr4 (by decide +kernel) ⟨by (show _ + 1 ≤ 2048; omega), by (show 8 + (_ + 11) + _ ≤ 84000; omega)⟩) h31 rfl rfl rfl rfl (Nat.le_of_ble_eq_true rfl) dL_law_901 ⟨by (show _ ≤ 601024; omega), by (show _ ≤ 7293033; omega)⟩) (fun v2 u2 hp2 => ?_)
  obtain ⟨⟨M', hM, hI', e5⟩, hv⟩ := hp2
  have h49 : 0 < gC Λ1 49 := by rw [hI'.2.2.2.1]; decide
  have fin : ∀ lv9, lv_pick lv9 [2, 3, 4, 5, 6] = lvq Λ1 b q → JW p l e s m below meth c D cy b (cells + 1) (slots + 6) Λ1 933 lv9 [] u2 := fun lv9 h9 => by
    refine j_goto (tgt := 1273) C dL_law_933 (by decide) ?_
    exact j_lv [2, 3, 4, 5, 6] h9 (K Λ1 u2 M' _ _ ⟨hI', hx0, by omega, by omega⟩)
  refine j_lstore C ((6, .long v2) :: (5, .int (nI kc)) :: lvq Λ1 b q) dL_law_904 (by decide) rfl ?_
  refine j_aload_n C dL_law_906 rfl 4 rfl ?_
  refine c_i0 C (r_V C 31 0 [] (c_mthrown l D cy s.heap.size Λ1 u2 (mS M' 31 0 kc) hM) (cwV 0 hts gU_X11_thrown rfl rfl rfl (by decide +kernel) ⟨by decide, by decide⟩) h31 rfl rfl rfl rfl (Nat.le_of_ble_eq_true rfl) dL_law_907 ⟨by (show _ ≤ 601024; omega), by (show _ ≤ 7293033; omega)⟩) (fun v u3 hp => ?_)
  obtain ⟨rfl, rfl⟩ := hp
  rw [mS_same]
  refine j_iload C dL_law_910 1 rfl ?_
  refine j_icmp_eq (tgt := 917) (P := True) C dL_law_912 (by decide) (iff_true_intro rfl) (fun _ => ?_) (fun z => absurd trivial z)
  refine j_iload C dL_law_917 1 rfl ?_
  refine j_if_ne (tgt := 933) C dL_law_919 (by decide) (kc0 hkc) (fun _ => fin _ rfl) (fun hk0 => ?_)
  refine j_aload_n C dL_law_922 rfl 3 rfl ?_
  refine j_iconst C (nI 0) dL_law_923 (by decide) ?_
  refine j_lald C 49 0 0 h49 rfl rfl 1 hI'.2.2.2.2 (by decide) (by decide) _ (hv hk0) dL_law_924 ?_
  refine j_lload C dL_law_925 0 rfl ?_
  exact j_lcmp_eq (tgt := 933) (P := True) C dL_law_927 dL_law_928 (by decide) (iff_true_intro rfl) (fun _ => fin _ rfl) (fun z => absurd trivial z)
theorem lc_name (X : LX l p s m meth c D cy b L xs x0) (hq : 6 * q + 6 ≤ L) (hG : LG x0 q Λ σ M cells slots) (K : ∀ (Λ : LY) (σ : HS) (M : MM) (cells slots : Nat), LG x0 (q + 1) Λ σ M cells slots → JW p l e s m below meth c D cy b cells slots Λ 1273 (lvq Λ b q) [] σ) : JW p l e s m below meth c D cy b cells slots Λ 936 (lvq Λ b q) [] σ := by
  have X2 := X
  obtain ⟨C, hX, hbl, hbA, hL3, hlt, hZ⟩ := X
  obtain ⟨hI, hx0, hc, hsl⟩ := hG
  have hts := C.2.2.2.2.1
  have h5 : M 31 5 ≤ 40 := hI.2.2.1.1.1 31 5 rfl
  have h0 : 0 < gC Λ 0 := hI.1.1.n1 (by decide)
  have h31 : 0 < gC Λ 31 := by rw [hI.c31]; decide
  obtain ⟨kc, P, rm, hkc, ⟨hr1, hr2, hr3, hr4⟩, hw, hm⟩ := k_name l hlt D cy s.heap.size Λ σ M hI (xs (6 * q + 1))
  refine j_aload_n C dL_law_936 rfl 3 rfl ?_
  refine l_arg C hX hbl hbA hL3 1 q 4 0 (by omega) rfl rfl dL_law_937 dL_law_938 dL_law_940 (by decide) dL_law_941 dL_law_942 ?_
  refine j_aload_n C dL_law_943 rfl 1 rfl ?_
  refine c_ix C (r_SX C (by rw [hx0]; exact hZ) [.ref (gA Λ 0 0), .int (xs (6 * q + 1)), .ref (gA Λ 49 0)] (vxX hw) (vx_cwSW 3 hts gU_L_name rfl rfl rfl (by decide +kernel) ⟨Nat.le_of_ble_eq_true rfl, Nat.le_of_ble_eq_true rfl⟩) rfl rfl (Nat.le_of_ble_eq_true rfl) dL_law_944 ⟨by (show _ ≤ 601024; omega), by (show _ ≤ 7293033; omega)⟩) (fun r1 Λ1 u1 hp1 => ?_)
  obtain ⟨e1, rfl, hP⟩ := hp1
  dsimp only at e1 hP
  subst e1
  refine j_istore C ((5, .int (nI kc)) :: lvq Λ1 b q) dL_law_947 (by decide) rfl ?_
  refine j_aload_n C dL_law_949 rfl 3 rfl ?_
  refine l_arg C hX hbl hbA hL3 1 q 5 1 (by omega) rfl rfl dL_law_950 dL_law_951 dL_law_953 (by decide) dL_law_954 dL_law_955 ?_
  refine c_i0 C (r_V C 31 0 [.int (xs (6 * q + 1))] (hm u1 hP) (cwV 1 hts gU_X11_name rfl hr3 hr4 (by decide +kernel) ⟨by (show _ + 1 ≤ 2048; omega), by (show 8 + (_ + 11) + _ ≤ 84000; omega)⟩) h31 rfl rfl rfl rfl (Nat.le_of_ble_eq_true rfl) dL_law_956 ⟨by (show _ ≤ 601024; omega), by (show _ ≤ 7293033; omega)⟩) (fun v2 u2 hp2 => ?_)
  exact l_tail X2 ⟨by (show _ ≤ 601024; omega), by (show _ ≤ 7293033; omega)⟩ hkc hp2 dL_law_959 dL_law_961 dL_law_962 dL_law_965 dL_law_967 dL_law_972 dL_law_974 dL_law_977 dL_law_978 dL_law_979 dL_law_980 dL_law_982 dL_law_983 dL_law_984 dL_law_989 (by decide) (fun M' hI' e5 => K Λ1 u2 M' _ _ ⟨hI', hx0, by omega, by omega⟩)
theorem lc_octet (X : LX l p s m meth c D cy b L xs x0) (hq : 6 * q + 6 ≤ L) (hG : LG x0 q Λ σ M cells slots) (K : ∀ (Λ : LY) (σ : HS) (M : MM) (cells slots : Nat), LG x0 (q + 1) Λ σ M cells slots → JW p l e s m below meth c D cy b cells slots Λ 1273 (lvq Λ b q) [] σ) : JW p l e s m below meth c D cy b cells slots Λ 992 (lvq Λ b q) [] σ := by
  have X2 := X
  obtain ⟨C, hX, hbl, hbA, hL3, hlt, hZ⟩ := X
  obtain ⟨hI, hx0, hc, hsl⟩ := hG
  have hts := C.2.2.2.2.1
  have h5 : M 31 5 ≤ 40 := hI.2.2.1.1.1 31 5 rfl
  have h0 : 0 < gC Λ 0 := hI.1.1.n1 (by decide)
  have h31 : 0 < gC Λ 31 := by rw [hI.c31]; decide
  obtain ⟨P, r1, rm, ⟨ha1, ha2, ha3, ha4⟩, ⟨hr1, hr2, hr3, hr4⟩, hw, hm⟩ := k_octet l D cy s.heap.size Λ σ M hI (xs (6 * q + 1))
  refine j_aload_n C dL_law_992 rfl 3 rfl ?_
  refine l_arg C hX hbl hbA hL3 1 q 4 0 (by omega) rfl rfl dL_law_993 dL_law_994 dL_law_996 (by decide) dL_law_997 dL_law_998 ?_
  refine c_i0 C (r_V C 0 0 [.int (xs (6 * q + 1))] hw (cwV 1 hts gU_X10_octet rfl ha3 ha4 (by decide +kernel) ⟨by (show _ + 1 ≤ 2048; omega), by (show 8 + (_ + 11) + _ ≤ 84000; omega)⟩) h0 rfl rfl rfl rfl (Nat.le_of_ble_eq_true rfl) dL_law_999 ⟨by (show _ ≤ 601024; omega), by (show _ ≤ 7293033; omega)⟩) (fun v1 u1 hp1 => ?_)
  refine j_aload_n C dL_law_1002 rfl 2 rfl ?_
  refine l_arg C hX hbl hbA hL3 1 q 4 0 (by omega) rfl rfl dL_law_1003 dL_law_1004 dL_law_1006 (by decide) dL_law_1007 dL_law_1008 ?_
  refine c_i0 C (r_V C 31 0 [.int (xs (6 * q + 1))] (hm v1 u1 hp1) (cwV 1 hts gU_X11_octet rfl hr3 hr4 (by decide +kernel) ⟨by (show _ + 1 ≤ 2048; omega), by (show 8 + (_ + 11) + _ ≤ 84000; omega)⟩) h31 rfl rfl rfl rfl (Nat.le_of_ble_eq_true rfl) dL_law_1009 ⟨by (show _ ≤ 601024; omega), by (show _ ≤ 7293033; omega)⟩) (fun v2 u2 hp2 => ?_)
  obtain ⟨rfl, M', hI', e5⟩ := hp2
  exact j_icmp_eq (tgt := 1273) (P := True) C dL_law_1012 (by decide) (iff_true_intro rfl) (fun _ => K Λ u2 M' cells slots ⟨hI', hx0, by omega, by omega⟩) (fun z => absurd trivial z)
theorem lc_face (X : LX l p s m meth c D cy b L xs x0) (hq : 6 * q + 6 ≤ L) (hG : LG x0 q Λ σ M cells slots) (K : ∀ (Λ : LY) (σ : HS) (M : MM) (cells slots : Nat), LG x0 (q + 1) Λ σ M cells slots → JW p l e s m below meth c D cy b cells slots Λ 1273 (lvq Λ b q) [] σ) : JW p l e s m below meth c D cy b cells slots Λ 1017 (lvq Λ b q) [] σ := by
  have X2 := X
  obtain ⟨C, hX, hbl, hbA, hL3, hlt, hZ⟩ := X
  obtain ⟨hI, hx0, hc, hsl⟩ := hG
  have hts := C.2.2.2.2.1
  have h5 : M 31 5 ≤ 40 := hI.2.2.1.1.1 31 5 rfl
  have h0 : 0 < gC Λ 0 := hI.1.1.n1 (by decide)
  have h31 : 0 < gC Λ 31 := by rw [hI.c31]; decide
  obtain ⟨kc, P, rm, hkc, ⟨hr1, hr2, hr3, hr4⟩, hw, hm⟩ := k_face l hlt D cy s.heap.size Λ σ M hI (xs (6 * q + 1)) (xs (6 * q + 2))
  refine j_aload_n C dL_law_1017 rfl 3 rfl ?_
  refine l_arg C hX hbl hbA hL3 1 q 4 0 (by omega) rfl rfl dL_law_1018 dL_law_1019 dL_law_1021 (by decide) dL_law_1022 dL_law_1023 ?_
  refine l_arg C hX hbl hbA hL3 2 q 4 0 (by omega) rfl rfl dL_law_1024 dL_law_1025 dL_law_1027 (by decide) dL_law_1028 dL_law_1029 ?_
  refine j_aload_n C dL_law_1030 rfl 1 rfl ?_
  refine c_ix C (r_SX C (by rw [hx0]; exact hZ) [.ref (gA Λ 0 0), .int (xs (6 * q + 1)), .int (xs (6 * q + 2)), .ref (gA Λ 49 0)] (vxX hw) (vx_cwSW 4 hts gU_L_face rfl rfl rfl (by decide +kernel) ⟨Nat.le_of_ble_eq_true rfl, Nat.le_of_ble_eq_true rfl⟩) rfl rfl (Nat.le_of_ble_eq_true rfl) dL_law_1031 ⟨by (show _ ≤ 601024; omega), by (show _ ≤ 7293033; omega)⟩) (fun r1 Λ1 u1 hp1 => ?_)
  obtain ⟨e1, rfl, hP⟩ := hp1
  dsimp only at e1 hP
  subst e1
  refine j_istore C ((5, .int (nI kc)) :: lvq Λ1 b q) dL_law_1034 (by decide) rfl ?_
  refine j_aload_n C dL_law_1036 rfl 3 rfl ?_
  refine l_arg C hX hbl hbA hL3 1 q 5 1 (by omega) rfl rfl dL_law_1037 dL_law_1038 dL_law_1040 (by decide) dL_law_1041 dL_law_1042 ?_
  refine l_arg C hX hbl hbA hL3 2 q 5 1 (by omega) rfl rfl dL_law_1043 dL_law_1044 dL_law_1046 (by decide) dL_law_1047 dL_law_1048 ?_
  refine c_i0 C (r_V C 31 0 [.int (xs (6 * q + 1)), .int (xs (6 * q + 2))] (hm u1 hP) (cwV 2 hts gU_X11_face rfl hr3 hr4 (by decide +kernel) ⟨by (show _ + 1 ≤ 2048; omega), by (show 8 + (_ + 11) + _ ≤ 84000; omega)⟩) h31 rfl rfl rfl rfl (Nat.le_of_ble_eq_true rfl) dL_law_1049 ⟨by (show _ ≤ 601024; omega), by (show _ ≤ 7293033; omega)⟩) (fun v2 u2 hp2 => ?_)
  exact l_tail X2 ⟨by (show _ ≤ 601024; omega), by (show _ ≤ 7293033; omega)⟩ hkc hp2 dL_law_1052 dL_law_1054 dL_law_1055 dL_law_1058 dL_law_1060 dL_law_1065 dL_law_1067 dL_law_1070 dL_law_1071 dL_law_1072 dL_law_1073 dL_law_1075 dL_law_1076 dL_law_1077 dL_law_1082 (by decide) (fun M' hI' e5 => K Λ1 u2 M' _ _ ⟨hI', hx0, by omega, by omega⟩)
theorem lc_ring (X : LX l p s m meth c D cy b L xs x0) (hq : 6 * q + 6 ≤ L) (hG : LG x0 q Λ σ M cells slots) (K : ∀ (Λ : LY) (σ : HS) (M : MM) (cells slots : Nat), LG x0 (q + 1) Λ σ M cells slots → JW p l e s m below meth c D cy b cells slots Λ 1273 (lvq Λ b q) [] σ) : JW p l e s m below meth c D cy b cells slots Λ 1085 (lvq Λ b q) [] σ := by
  have X2 := X
  obtain ⟨C, hX, hbl, hbA, hL3, hlt, hZ⟩ := X
  obtain ⟨hI, hx0, hc, hsl⟩ := hG
  have hts := C.2.2.2.2.1
  have h5 : M 31 5 ≤ 40 := hI.2.2.1.1.1 31 5 rfl
  have h0 : 0 < gC Λ 0 := hI.1.1.n1 (by decide)
  have h31 : 0 < gC Λ 31 := by rw [hI.c31]; decide
  obtain ⟨kc, P, rm, hkc, ⟨hr1, hr2, hr3, hr4⟩, hw, hm⟩ := k_ring l hlt D cy s.heap.size Λ σ M hI (xs (6 * q + 1))
  refine j_aload_n C dL_law_1085 rfl 3 rfl ?_
  refine l_arg C hX hbl hbA hL3 1 q 4 0 (by omega) rfl rfl dL_law_1086 dL_law_1087 dL_law_1089 (by decide) dL_law_1090 dL_law_1091 ?_
  refine j_aload_n C dL_law_1092 rfl 1 rfl ?_
  refine c_ix C (r_SX C (by rw [hx0]; exact hZ) [.ref (gA Λ 0 0), .int (xs (6 * q + 1)), .ref (gA Λ 49 0)] (vxX hw) (vx_cwSW 3 hts gU_L_ring rfl rfl rfl (by decide +kernel) ⟨Nat.le_of_ble_eq_true rfl, Nat.le_of_ble_eq_true rfl⟩) rfl rfl (Nat.le_of_ble_eq_true rfl) dL_law_1093 ⟨by (show _ ≤ 601024; omega), by (show _ ≤ 7293033; omega)⟩) (fun r1 Λ1 u1 hp1 => ?_)
  obtain ⟨e1, rfl, hP⟩ := hp1
  dsimp only at e1 hP
  subst e1
  refine j_istore C ((5, .int (nI kc)) :: lvq Λ1 b q) dL_law_1096 (by decide) rfl ?_
  refine j_aload_n C dL_law_1098 rfl 3 rfl ?_
  refine l_arg C hX hbl hbA hL3 1 q 5 1 (by omega) rfl rfl dL_law_1099 dL_law_1100 dL_law_1102 (by decide) dL_law_1103 dL_law_1104 ?_
  refine c_i0 C (r_V C 31 0 [.int (xs (6 * q + 1))] (hm u1 hP) (cwV 1 hts gU_X11_ring rfl hr3 hr4 (by decide +kernel) ⟨by (show _ + 1 ≤ 2048; omega), by (show 8 + (_ + 11) + _ ≤ 84000; omega)⟩) h31 rfl rfl rfl rfl (Nat.le_of_ble_eq_true rfl) dL_law_1105 ⟨by (show _ ≤ 601024; omega), by (show _ ≤ 7293033; omega)⟩) (fun v2 u2 hp2 => ?_)
  exact l_tail X2 ⟨by (show _ ≤ 601024; omega), by (show _ ≤ 7293033; omega)⟩ hkc hp2 dL_law_1108 dL_law_1110 dL_law_1111 dL_law_1114 dL_law_1116 dL_law_1121 dL_law_1123 dL_law_1126 dL_law_1127 dL_law_1128 dL_law_1129 dL_law_1131 dL_law_1132 dL_law_1133 dL_law_1138 (by decide) (fun M' hI' e5 => K Λ1 u2 M' _ _ ⟨hI', hx0, by omega, by omega⟩)
theorem lc_change (X : LX l p s m meth c D cy b L xs x0) (hq : 6 * q + 6 ≤ L) (hG : LG x0 q Λ σ M cells slots) (K : ∀ (Λ : LY) (σ : HS) (M : MM) (cells slots : Nat), LG x0 (q + 1) Λ σ M cells slots → JW p l e s m below meth c D cy b cells slots Λ 1273 (lvq Λ b q) [] σ) : JW p l e s m below meth c D cy b cells slots Λ 1141 (lvq Λ b q) [] σ := by
  have X2 := X
  obtain ⟨C, hX, hbl, hbA, hL3, hlt, hZ⟩ := X
  obtain ⟨hI, hx0, hc, hsl⟩ := hG
  have hts := C.2.2.2.2.1
  have h5 : M 31 5 ≤ 40 := hI.2.2.1.1.1 31 5 rfl
  have h0 : 0 < gC Λ 0 := hI.1.1.n1 (by decide)
  have h31 : 0 < gC Λ 31 := by rw [hI.c31]; decide
  obtain ⟨kc, P, rm, hkc, ⟨hr1, hr2, hr3, hr4⟩, hw, hm⟩ := k_change l hlt D cy s.heap.size Λ σ M hI (xs (6 * q + 1)) (xs (6 * q + 2))
  refine j_aload_n C dL_law_1141 rfl 3 rfl ?_
  refine l_arg C hX hbl hbA hL3 1 q 4 0 (by omega) rfl rfl dL_law_1142 dL_law_1143 dL_law_1145 (by decide) dL_law_1146 dL_law_1147 ?_
  refine l_arg C hX hbl hbA hL3 2 q 4 0 (by omega) rfl rfl dL_law_1148 dL_law_1149 dL_law_1151 (by decide) dL_law_1152 dL_law_1153 ?_
  refine j_aload_n C dL_law_1154 rfl 1 rfl ?_
  refine c_ix C (r_SX C (by rw [hx0]; exact hZ) [.ref (gA Λ 0 0), .int (xs (6 * q + 1)), .int (xs (6 * q + 2)), .ref (gA Λ 49 0)] (vxX hw) (vx_cwSW 4 hts gU_L_change rfl rfl rfl (by decide +kernel) ⟨Nat.le_of_ble_eq_true rfl, Nat.le_of_ble_eq_true rfl⟩) rfl rfl (Nat.le_of_ble_eq_true rfl) dL_law_1155 ⟨by (show _ ≤ 601024; omega), by (show _ ≤ 7293033; omega)⟩) (fun r1 Λ1 u1 hp1 => ?_)
  obtain ⟨e1, rfl, hP⟩ := hp1
  dsimp only at e1 hP
  subst e1
  refine j_istore C ((5, .int (nI kc)) :: lvq Λ1 b q) dL_law_1158 (by decide) rfl ?_
  refine j_aload_n C dL_law_1160 rfl 3 rfl ?_
  refine l_arg C hX hbl hbA hL3 1 q 5 1 (by omega) rfl rfl dL_law_1161 dL_law_1162 dL_law_1164 (by decide) dL_law_1165 dL_law_1166 ?_
  refine l_arg C hX hbl hbA hL3 2 q 5 1 (by omega) rfl rfl dL_law_1167 dL_law_1168 dL_law_1170 (by decide) dL_law_1171 dL_law_1172 ?_
  refine c_i0 C (r_V C 31 0 [.int (xs (6 * q + 1)), .int (xs (6 * q + 2))] (hm u1 hP) (cwV 2 hts gU_X11_change rfl hr3 hr4 (by decide +kernel) ⟨by (show _ + 1 ≤ 2048; omega), by (show 8 + (_ + 11) + _ ≤ 84000; omega)⟩) h31 rfl rfl rfl rfl (Nat.le_of_ble_eq_true rfl) dL_law_1173 ⟨by (show _ ≤ 601024; omega), by (show _ ≤ 7293033; omega)⟩) (fun v2 u2 hp2 => ?_)
  exact l_tail X2 ⟨by (show _ ≤ 601024; omega), by (show _ ≤ 7293033; omega)⟩ hkc hp2 dL_law_1176 dL_law_1178 dL_law_1179 dL_law_1182 dL_law_1184 dL_law_1189 dL_law_1191 dL_law_1194 dL_law_1195 dL_law_1196 dL_law_1197 dL_law_1199 dL_law_1200 dL_law_1201 dL_law_1206 (by decide) (fun M' hI' e5 => K Λ1 u2 M' _ _ ⟨hI', hx0, by omega, by omega⟩)
theorem lc_alone (X : LX l p s m meth c D cy b L xs x0) (hq : 6 * q + 6 ≤ L) (hG : LG x0 q Λ σ M cells slots) (K : ∀ (Λ : LY) (σ : HS) (M : MM) (cells slots : Nat), LG x0 (q + 1) Λ σ M cells slots → JW p l e s m below meth c D cy b cells slots Λ 1273 (lvq Λ b q) [] σ) : JW p l e s m below meth c D cy b cells slots Λ 1209 (lvq Λ b q) [] σ := by
  have X2 := X
  obtain ⟨C, hX, hbl, hbA, hL3, hlt, hZ⟩ := X
  obtain ⟨hI, hx0, hc, hsl⟩ := hG
  have hts := C.2.2.2.2.1
  have h5 : M 31 5 ≤ 40 := hI.2.2.1.1.1 31 5 rfl
  have h0 : 0 < gC Λ 0 := hI.1.1.n1 (by decide)
  have h31 : 0 < gC Λ 31 := by rw [hI.c31]; decide
  obtain ⟨P, r1, rm, ⟨ha1, ha2, ha3, ha4⟩, ⟨hr1, hr2, hr3, hr4⟩, hw, hm⟩ := k_alone l D cy s.heap.size Λ σ M hI
  refine j_aload_n C dL_law_1209 rfl 3 rfl ?_
  refine c_i0 C (r_V C 0 0 [] hw (cwV 0 hts gU_X10_alone rfl ha3 ha4 (by decide +kernel) ⟨by (show _ + 1 ≤ 2048; omega), by (show 8 + (_ + 11) + _ ≤ 84000; omega)⟩) h0 rfl rfl rfl rfl (Nat.le_of_ble_eq_true rfl) dL_law_1210 ⟨by (show _ ≤ 601024; omega), by (show _ ≤ 7293033; omega)⟩) (fun v1 u1 hp1 => ?_)
  refine j_aload_n C dL_law_1213 rfl 2 rfl ?_
  refine c_i0 C (r_V C 31 0 [] (hm v1 u1 hp1) (cwV 0 hts gU_X11_alone rfl hr3 hr4 (by decide +kernel) ⟨by (show _ + 1 ≤ 2048; omega), by (show 8 + (_ + 11) + _ ≤ 84000; omega)⟩) h31 rfl rfl rfl rfl (Nat.le_of_ble_eq_true rfl) dL_law_1214 ⟨by (show _ ≤ 601024; omega), by (show _ ≤ 7293033; omega)⟩) (fun v2 u2 hp2 => ?_)
  obtain ⟨rfl, M', hI', e5⟩ := hp2
  exact j_icmp_eq (tgt := 1273) (P := True) C dL_law_1217 (by decide) (iff_true_intro rfl) (fun _ => K Λ u2 M' cells slots ⟨hI', hx0, by omega, by omega⟩) (fun z => absurd trivial z)
theorem lc_keep (X : LX l p s m meth c D cy b L xs x0) (hq : 6 * q + 6 ≤ L) (hG : LG x0 q Λ σ M cells slots) (K : ∀ (Λ : LY) (σ : HS) (M : MM) (cells slots : Nat), LG x0 (q + 1) Λ σ M cells slots → JW p l e s m below meth c D cy b cells slots Λ 1273 (lvq Λ b q) [] σ) : JW p l e s m below meth c D cy b cells slots Λ 1222 (lvq Λ b q) [] σ := by
  have X2 := X
  obtain ⟨C, hX, hbl, hbA, hL3, hlt, hZ⟩ := X
  obtain ⟨hI, hx0, hc, hsl⟩ := hG
  have hts := C.2.2.2.2.1
  have h5 : M 31 5 ≤ 40 := hI.2.2.1.1.1 31 5 rfl
  have h0 : 0 < gC Λ 0 := hI.1.1.n1 (by decide)
  have h31 : 0 < gC Λ 31 := by rw [hI.c31]; decide
  obtain ⟨P, r1, rm, ⟨ha1, ha2, ha3, ha4⟩, ⟨hr1, hr2, hr3, hr4⟩, hw, hm⟩ := k_keep l D cy s.heap.size Λ σ M hI
  refine j_aload_n C dL_law_1222 rfl 3 rfl ?_
  refine c_i0 C (r_V C 0 0 [] hw (cwV 0 hts gU_X10_keep rfl ha3 ha4 (by decide +kernel) ⟨by (show _ + 1 ≤ 2048; omega), by (show 8 + (_ + 11) + _ ≤ 84000; omega)⟩) h0 rfl rfl rfl rfl (Nat.le_of_ble_eq_true rfl) dL_law_1223 ⟨by (show _ ≤ 601024; omega), by (show _ ≤ 7293033; omega)⟩) (fun v1 u1 hp1 => ?_)
  refine j_aload_n C dL_law_1226 rfl 2 rfl ?_
  refine c_i0 C (r_V C 31 0 [] (hm v1 u1 hp1) (cwV 0 hts gU_X11_keep rfl hr3 hr4 (by decide +kernel) ⟨by (show _ + 1 ≤ 2048; omega), by (show 8 + (_ + 11) + _ ≤ 84000; omega)⟩) h31 rfl rfl rfl rfl (Nat.le_of_ble_eq_true rfl) dL_law_1227 ⟨by (show _ ≤ 601024; omega), by (show _ ≤ 7293033; omega)⟩) (fun v2 u2 hp2 => ?_)
  obtain ⟨rfl, M', hI', e5⟩ := hp2
  exact j_icmp_eq (tgt := 1273) (P := True) C dL_law_1230 (by decide) (iff_true_intro rfl) (fun _ => K Λ u2 M' cells slots ⟨hI', hx0, by omega, by omega⟩) (fun z => absurd trivial z)
theorem lc_moves (X : LX l p s m meth c D cy b L xs x0) (hq : 6 * q + 6 ≤ L) (hG : LG x0 q Λ σ M cells slots) (K : ∀ (Λ : LY) (σ : HS) (M : MM) (cells slots : Nat), LG x0 (q + 1) Λ σ M cells slots → JW p l e s m below meth c D cy b cells slots Λ 1273 (lvq Λ b q) [] σ) : JW p l e s m below meth c D cy b cells slots Λ 1235 (lvq Λ b q) [] σ := by
  have X2 := X
  obtain ⟨C, hX, hbl, hbA, hL3, hlt, hZ⟩ := X
  obtain ⟨hI, hx0, hc, hsl⟩ := hG
  have hts := C.2.2.2.2.1
  have h5 : M 31 5 ≤ 40 := hI.2.2.1.1.1 31 5 rfl
  have h0 : 0 < gC Λ 0 := hI.1.1.n1 (by decide)
  have h31 : 0 < gC Λ 31 := by rw [hI.c31]; decide
  obtain ⟨P, r1, rm, ⟨ha1, ha2, ha3, ha4⟩, ⟨hr1, hr2, hr3, hr4⟩, hw, hm⟩ := k_moves l D cy s.heap.size Λ σ M hI
  refine j_aload_n C dL_law_1235 rfl 3 rfl ?_
  refine c_i0 C (r_V C 0 0 [] hw (cwV 0 hts gU_X10_moves rfl ha3 ha4 (by decide +kernel) ⟨by (show _ + 1 ≤ 2048; omega), by (show 8 + (_ + 11) + _ ≤ 84000; omega)⟩) h0 rfl rfl rfl rfl (Nat.le_of_ble_eq_true rfl) dL_law_1236 ⟨by (show _ ≤ 601024; omega), by (show _ ≤ 7293033; omega)⟩) (fun v1 u1 hp1 => ?_)
  refine j_aload_n C dL_law_1239 rfl 2 rfl ?_
  refine c_i0 C (r_V C 31 0 [] (hm v1 u1 hp1) (cwV 0 hts gU_X11_moves rfl hr3 hr4 (by decide +kernel) ⟨by (show _ + 1 ≤ 2048; omega), by (show 8 + (_ + 11) + _ ≤ 84000; omega)⟩) h31 rfl rfl rfl rfl (Nat.le_of_ble_eq_true rfl) dL_law_1240 ⟨by (show _ ≤ 601024; omega), by (show _ ≤ 7293033; omega)⟩) (fun v2 u2 hp2 => ?_)
  obtain ⟨rfl, M', hI', e5⟩ := hp2
  exact j_icmp_eq (tgt := 1273) (P := True) C dL_law_1243 (by decide) (iff_true_intro rfl) (fun _ => K Λ u2 M' cells slots ⟨hI', hx0, by omega, by omega⟩) (fun z => absurd trivial z)
theorem lc_count (X : LX l p s m meth c D cy b L xs x0) (hq : 6 * q + 6 ≤ L) (hG : LG x0 q Λ σ M cells slots) (K : ∀ (Λ : LY) (σ : HS) (M : MM) (cells slots : Nat), LG x0 (q + 1) Λ σ M cells slots → JW p l e s m below meth c D cy b cells slots Λ 1273 (lvq Λ b q) [] σ) : JW p l e s m below meth c D cy b cells slots Λ 1248 (lvq Λ b q) [] σ := by
  have X2 := X
  obtain ⟨C, hX, hbl, hbA, hL3, hlt, hZ⟩ := X
  obtain ⟨hI, hx0, hc, hsl⟩ := hG
  have hts := C.2.2.2.2.1
  have h5 : M 31 5 ≤ 40 := hI.2.2.1.1.1 31 5 rfl
  have h0 : 0 < gC Λ 0 := hI.1.1.n1 (by decide)
  have h31 : 0 < gC Λ 31 := by rw [hI.c31]; decide
  obtain ⟨P, r1, rm, ⟨ha1, ha2, ha3, ha4⟩, ⟨hr1, hr2, hr3, hr4⟩, hw, hm⟩ := k_count l D cy s.heap.size Λ σ M hI (xs (6 * q + 1))
  refine j_aload_n C dL_law_1248 rfl 3 rfl ?_
  refine l_arg C hX hbl hbA hL3 1 q 4 0 (by omega) rfl rfl dL_law_1249 dL_law_1250 dL_law_1252 (by decide) dL_law_1253 dL_law_1254 ?_
  refine c_i0 C (r_V C 0 0 [.int (xs (6 * q + 1))] hw (cwV 1 hts gU_X10_count rfl ha3 ha4 (by decide +kernel) ⟨by (show _ + 1 ≤ 2048; omega), by (show 8 + (_ + 11) + _ ≤ 84000; omega)⟩) h0 rfl rfl rfl rfl (Nat.le_of_ble_eq_true rfl) dL_law_1255 ⟨by (show _ ≤ 601024; omega), by (show _ ≤ 7293033; omega)⟩) (fun v1 u1 hp1 => ?_)
  refine j_aload_n C dL_law_1258 rfl 2 rfl ?_
  refine l_arg C hX hbl hbA hL3 1 q 4 0 (by omega) rfl rfl dL_law_1259 dL_law_1260 dL_law_1262 (by decide) dL_law_1263 dL_law_1264 ?_
  refine c_i0 C (r_V C 31 0 [.int (xs (6 * q + 1))] (hm v1 u1 hp1) (cwV 1 hts gU_X11_count rfl hr3 hr4 (by decide +kernel) ⟨by (show _ + 1 ≤ 2048; omega), by (show 8 + (_ + 11) + _ ≤ 84000; omega)⟩) h31 rfl rfl rfl rfl (Nat.le_of_ble_eq_true rfl) dL_law_1265 ⟨by (show _ ≤ 601024; omega), by (show _ ≤ 7293033; omega)⟩) (fun v2 u2 hp2 => ?_)
  obtain ⟨rfl, M', hI', e5⟩ := hp2
  exact j_icmp_eq (tgt := 1273) (P := True) C dL_law_1268 (by decide) (iff_true_intro rfl) (fun _ => K Λ u2 M' cells slots ⟨hI', hx0, by omega, by omega⟩) (fun z => absurd trivial z)
end LWC
