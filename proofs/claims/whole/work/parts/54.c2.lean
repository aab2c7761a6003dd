set_option maxHeartbeats 4000000 in
set_option maxRecDepth 100000 in
theorem c_J13_bitCount_95d88 (l : Launch) (D : va_G) (cy : Nat → ClassId) (base : Nat) (Λ : LY) (σ : HS) (x : Nat) (hx : x < 2 ^ 40) : Met l yJ13_bitCount_95d88 wsJ13_bitCount_95d88 ({ frames := 4, cells := 0, slots := 0, locals := 60 }) (va_Pc [.long (lN x)] (Wd D cy base Λ σ)) (va_Qi (fun v u => v = nI (popN x) ∧ u = σ) (Wd D cy base Λ) (Ab base)) 0 0 (Ab base) := by
  refine j_start (cc := cJ13_bitCount_95d88) (nL := 2) (ret := (some .int)) (lv := [(0, .long (lN x))]) (by decide) rfl (Nat.le_of_ble_eq_true rfl) rfl ?_
  intro p e s m below meth c C hr hlk hnm
  have C : Cx p s m ([.long (lN x)] : List Value).toArray c cJ13_bitCount_95d88 2 RJ13 wsJ13_bitCount_95d88 D cy base := C
  have hts := C.2.2.2.2.1
  have hC314 : (Jvm.Cond.constantLong RJ13 314 6148914691236517205).before ([.long (lN x)] : List Value).toArray s = true := hts _ (by decide +kernel)
  have hC316 : (Jvm.Cond.constantLong RJ13 316 3689348814741910323).before ([.long (lN x)] : List Value).toArray s = true := hts _ (by decide +kernel)
  have hC318 : (Jvm.Cond.constantLong RJ13 318 1085102592571150095).before ([.long (lN x)] : List Value).toArray s = true := hts _ (by decide +kernel)
  obtain ⟨x1, e1⟩ : ∃ q, q = x - ((x / 2) &&& 6148914691236517205) := ⟨_, rfl⟩
  obtain ⟨x2, e2⟩ : ∃ q, q = (x1 &&& 3689348814741910323) + ((x1 / 4) &&& 3689348814741910323) := ⟨_, rfl⟩
  obtain ⟨x3, e3⟩ : ∃ q, q = (x2 + x2 / 16) &&& 1085102592571150095 := ⟨_, rfl⟩
  obtain ⟨y1, f1⟩ : ∃ q, q = x3 + x3 / 256 := ⟨_, rfl⟩
  obtain ⟨y2, f2⟩ : ∃ q, q = y1 + y1 / 65536 := ⟨_, rfl⟩
  obtain ⟨y3, f3⟩ : ∃ q, q = y2 + y2 / 4294967296 := ⟨_, rfl⟩
  obtain ⟨hpop, g1, g2, g3, g4, g5, g6⟩ := bitcount hx x1 x2 x3 y1 y2 y3 e1 e2 e3 f1 f2 f3
  refine j_lload_n C dJ13_bitCount_95d88_0 rfl 0 rfl ?_
  refine j_lload_n C dJ13_bitCount_95d88_1 rfl 0 rfl ?_
  refine j_iconst C (nI 1) dJ13_bitCount_95d88_2 (by decide) ?_
  refine j_lushr C (lN (x / 2 ^ 1)) dJ13_bitCount_95d88_3 (wb_shr (by omega) (by decide)) ?_
  refine j_ldc2 C (lN 6148914691236517205) hC314 dJ13_bitCount_95d88_4 (by decide) ?_
  refine j_land C (lN (x / 2 &&& 6148914691236517205)) dJ13_bitCount_95d88_7 (fb_andL _ _) ?_
  refine j_lsub C (lN x1) dJ13_bitCount_95d88_8 (by rw [lN_sub (Nat.le_trans Nat.and_le_left (Nat.div_le_self _ _)), e1]) ?_
  refine j_lstore_n C [(0, .long (lN x1))] dJ13_bitCount_95d88_9 rfl (by decide) rfl ?_
  refine j_lload_n C dJ13_bitCount_95d88_10 rfl 0 rfl ?_
  refine j_ldc2 C (lN 3689348814741910323) hC316 dJ13_bitCount_95d88_11 (by decide) ?_
  refine j_land C (lN (x1 &&& 3689348814741910323)) dJ13_bitCount_95d88_14 (fb_andL _ _) ?_
  refine j_lload_n C dJ13_bitCount_95d88_15 rfl 0 rfl ?_
  refine j_iconst C (nI 2) dJ13_bitCount_95d88_16 (by decide) ?_
  refine j_lushr C (lN (x1 / 2 ^ 2)) dJ13_bitCount_95d88_17 (wb_shr (by omega) (by decide)) ?_
  refine j_ldc2 C (lN 3689348814741910323) hC316 dJ13_bitCount_95d88_18 (by decide) ?_
  refine j_land C (lN (x1 / 4 &&& 3689348814741910323)) dJ13_bitCount_95d88_21 (fb_andL _ _) ?_
  refine j_ladd C (lN x2) dJ13_bitCount_95d88_22 (by rw [lN_add, e2]) ?_
  refine j_lstore_n C [(0, .long (lN x2))] dJ13_bitCount_95d88_23 rfl (by decide) rfl ?_
  refine j_lload_n C dJ13_bitCount_95d88_24 rfl 0 rfl ?_
  refine j_lload_n C dJ13_bitCount_95d88_25 rfl 0 rfl ?_
  refine j_iconst C (nI 4) dJ13_bitCount_95d88_26 (by decide) ?_
  refine j_lushr C (lN (x2 / 2 ^ 4)) dJ13_bitCount_95d88_27 (wb_shr (by omega) (by decide)) ?_
  refine j_ladd C (lN (x2 + x2 / 16)) dJ13_bitCount_95d88_28 (lN_add _ _) ?_
  refine j_ldc2 C (lN 1085102592571150095) hC318 dJ13_bitCount_95d88_29 (by decide) ?_
  refine j_land C (lN x3) dJ13_bitCount_95d88_32 (by rw [fb_andL, e3]) ?_
  refine j_lstore_n C [(0, .long (lN x3))] dJ13_bitCount_95d88_33 rfl (by decide) rfl ?_
  refine j_lload_n C dJ13_bitCount_95d88_34 rfl 0 rfl ?_
  refine j_lload_n C dJ13_bitCount_95d88_35 rfl 0 rfl ?_
  refine j_bipush C (nI 8) dJ13_bitCount_95d88_36 (by decide) ?_
  refine j_lushr C (lN (x3 / 2 ^ 8)) dJ13_bitCount_95d88_38 (wb_shr (by omega) (by decide)) ?_
  refine j_ladd C (lN y1) dJ13_bitCount_95d88_39 (by rw [lN_add, f1]) ?_
  refine j_lstore_n C [(0, .long (lN y1))] dJ13_bitCount_95d88_40 rfl (by decide) rfl ?_
  refine j_lload_n C dJ13_bitCount_95d88_41 rfl 0 rfl ?_
  refine j_lload_n C dJ13_bitCount_95d88_42 rfl 0 rfl ?_
  refine j_bipush C (nI 16) dJ13_bitCount_95d88_43 (by decide) ?_
  refine j_lushr C (lN (y1 / 2 ^ 16)) dJ13_bitCount_95d88_45 (wb_shr (by omega) (by decide)) ?_
  refine j_ladd C (lN y2) dJ13_bitCount_95d88_46 (by rw [lN_add, f2]) ?_
  refine j_lstore_n C [(0, .long (lN y2))] dJ13_bitCount_95d88_47 rfl (by decide) rfl ?_
  refine j_lload_n C dJ13_bitCount_95d88_48 rfl 0 rfl ?_
  refine j_lload_n C dJ13_bitCount_95d88_49 rfl 0 rfl ?_
  refine j_bipush C (nI 32) dJ13_bitCount_95d88_50 (by decide) ?_
  refine j_lushr C (lN (y2 / 2 ^ 32)) dJ13_bitCount_95d88_52 (wb_shr (by omega) (by decide)) ?_
  refine j_ladd C (lN y3) dJ13_bitCount_95d88_53 (by rw [lN_add, f3]) ?_
  refine j_lstore_n C [(0, .long (lN y3))] dJ13_bitCount_95d88_54 rfl (by decide) rfl ?_
  refine j_lload_n C dJ13_bitCount_95d88_55 rfl 0 rfl ?_
  refine j_l2i C (nI y3) dJ13_bitCount_95d88_56 (lN_i _) ?_
  refine j_bipush C (nI 127) dJ13_bitCount_95d88_57 (by decide) ?_
  refine j_iand C (nI (popN x)) dJ13_bitCount_95d88_59 (by rw [show nI y3 &&& nI 127 = nI (y3 % 2 ^ 7) from fa_mask y3 7, ← hpop]) ?_
  exact j_iret C hr hlk (⟨rfl, rfl⟩) dJ13_bitCount_95d88_60
