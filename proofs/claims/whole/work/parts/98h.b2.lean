set_option maxHeartbeats 4000000 in
set_option maxRecDepth 100000 in
theorem c_X0_init (l : Launch) (D : va_G) (cy : Nat → ClassId) (base : Nat) (Λ : LY) (σ : HS) (i : Nat) (hi : i < gC Λ 14) : Met l yX0_init wsX0_init ({ frames := 16, cells := 1, slots := 3, locals := 240 }) (va_Pc [.ref (gA Λ 14 i)] (Wg D cy base Λ σ)) (va_Qv (fun u => ∃ (q1 : Nat) (L1 : LY), L1 = nY Λ 15 q1 0 ∧ u = (L1, sV (sI (sI (nS Λ σ 15) 15 (gC Λ 15) 0 (nI 0)) 15 (gC Λ 15) 1 1) 14 i 0 (some (gC Λ 15)))) (Wx D cy base) (Ab base)) 1 3 (Ab base) := by
  refine j_startG (cc := cX0_init) (nL := 1) (ret := none) (lv := [(0, .ref (gA Λ 14 i))]) (by decide) rfl (Nat.le_of_ble_eq_true rfl) rfl ?_
  intro p e s m below meth c C hr hlk hnm hZ
  have C : Cx p s m ([.ref (gA Λ 14 i)] : List Value).toArray c cX0_init 1 RX0 wsX0_init D cy base := C
  have hts := C.2.2.2.2.1
  have hwJx4a65c : ∀ w ∈ u_ws RJx4a65c TJx4a65c 3, w ∈ wsX0_init := by decide +kernel
  have hwX0 : ∀ w ∈ u_ws RX0 TX0 1, w ∈ wsX0_init := by decide +kernel
  have hM10 : (Cond.fieldLink RX0 10 (TX0 0).1 (TX0 0).2.1 (TX0 0).2.2.1).before ([.ref (gA Λ 14 i)] : List Value).toArray s = true := hts (.fieldLink RX0 10 "CodeRooms$Glossary" "words" "Ljava/util/ArrayList;") (by decide +kernel)
  have hL10 : FL RX0 10 (TX0 0).1 (TX0 0).2.1 (TX0 0).2.2.1 ([.ref (gA Λ 14 i)] : List Value).toArray s := Or.inl hM10
  refine j_aload_n C dX0_init_0 rfl 0 rfl ?_
  refine j_oinit C (hts (.methodLink RX0 1 Lib.objectInit) (by decide +kernel)) (hts (.instanceMethod Lib.objectInit) (by decide +kernel)) (hts (.code Lib.objectInit ⟨#[0xb1]⟩ 1 none) (by decide +kernel)) dX0_init_1 (by decide) (by decide) ?_
  refine j_aload_n C dX0_init_4 rfl 0 rfl ?_
  refine j_new C hwJx4a65c 15 (by decide) rfl rfl tyJx4a65c tyJx4a65c_ok (hts (.classLink RX0 7 RJx4a65c) (by decide +kernel)) (hts (.instantiable RJx4a65c 3) (by decide +kernel)) (hts (.initialized RJx4a65c) (by decide +kernel)) (by decide +kernel) (by decide) (by decide) dX0_init_5 (fun Λ_1 qΛ_1 hyΛ_1 => ?_)
  have hGΛ_1 : Gw Λ Λ_1 := by rw [hyΛ_1]; exact Gw.nY (by decide)
  have hb_2 : i < gC Λ_1 14 := Nat.lt_of_lt_of_le hi (hGΛ_1.1 14)
  have hz_3 : Zx base (gA Λ_1 50 0) s := by rw [hGΛ_1.2.2]; exact hZ
  have he_4 : gA Λ_1 14 i = gA Λ 14 i := (hGΛ_1.2.1 14 i (by first | assumption | omega)).1
  refine j_eq (lv' := [(0, .ref (gA Λ_1 14 i))]) (st' := [.ref (gA Λ_1 15 (gC Λ 15)), .ref (gA Λ_1 14 i)]) (by simp only [he_4]) (by simp only [he_4]) ?_
  have hb_5 : gC Λ 15 < gC Λ_1 15 := by rw [hyΛ_1, gC_nL, if_pos rfl]; omega
  refine j_dup C dX0_init_8 rfl ?_
  refine c_vx C (r_Ig C hz_3 15 (gC Λ 15) [] (c_Jx4a65c_init_da8c8 l D cy base Λ_1 (nS Λ σ 15) (gC Λ 15) hb_5) (cwI 0 hts gX0_init_Jx4a65c_init_da8c8 rfl rfl rfl (hts (.initialized RJx4a65c) (by decide +kernel)) (hts (.methodLink RX0 9 yJx4a65c_init_da8c8) (by decide +kernel)) (hts (.instanceMethod yJx4a65c_init_da8c8) (by decide +kernel)) rfl (by decide +kernel) ⟨by decide, by decide⟩) rfl rfl (Nat.le_of_ble_eq_true rfl) dX0_init_9 ⟨by decide, by decide⟩) (fun Λ_6 σ_7 hp => ?_)
  have hu6 := hp
  obtain ⟨hl6, hs6⟩ := Prod.mk.inj hu6
  have hGΛ_6 : Gw Λ_1 Λ_6 := by rw [hl6]; exact Gw.rf
  have hb_8 : i < gC Λ_6 14 := Nat.lt_of_lt_of_le hb_2 (hGΛ_6.1 14)
  have hb_9 : (gC Λ 15) < gC Λ_6 15 := Nat.lt_of_lt_of_le hb_5 (hGΛ_6.1 15)
  have hz_10 : Zx base (gA Λ_6 50 0) s := by rw [hGΛ_6.2.2]; exact hz_3
  have he_11 : gA Λ_6 14 i = gA Λ_1 14 i := (hGΛ_6.2.1 14 i (by first | assumption | omega)).1
  have he_12 : gA Λ_6 15 (gC Λ 15) = gA Λ_1 15 (gC Λ 15) := (hGΛ_6.2.1 15 (gC Λ 15) (by first | assumption | omega)).1
  refine j_eq (lv' := [(0, .ref (gA Λ_6 14 i))]) (st' := [.ref (gA Λ_6 15 (gC Λ 15)), .ref (gA Λ_6 14 i)]) (by simp only [he_11, he_12]) (by simp only [he_11, he_12]) ?_
  refine j_putFV C hwX0 14 i 0 hb_8 rfl rfl (by decide) rfl hb_9 tyX0 tyX0_ok nmX0 rfl hnm rfl rfl rfl hM10 dX0_init_12 ?_
  exact j_vretx C hr hlk (⟨_, _, hyΛ_1, by rw [hl6, hs6]⟩) dX0_init_15
