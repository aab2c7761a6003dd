set_option maxHeartbeats 4000000 in
set_option maxRecDepth 100000 in
theorem c_Jx4a65c_elementData_915e3 (l : Launch) (D : va_G) (cy : Nat → ClassId) (base : Nat) (Λ : LY) (σ : HS) (n ar cp : Nat) (wf : Nat → Nat) (hA : AL Λ σ n ar cp wf) (k : Nat) (hk : k < n) : Met l yJx4a65c_elementData_915e3 wsJx4a65c_elementData_915e3 ({ frames := 4, cells := 0, slots := 0, locals := 60 }) (va_Pc [.ref (gA Λ 15 0), .int (nI k)] (Wd D cy base Λ σ)) (va_Qr (fun x => x = (σ, wf k)) (Wr D cy base Λ 17) (Ab base)) 0 0 (Ab base) := by
  refine j_start (cc := cJx4a65c_elementData_915e3) (nL := 2) (ret := (some (.object "java/lang/Object"))) (lv := [(0, .ref (gA Λ 15 0)), (1, .int (nI k))]) (by decide) rfl (Nat.le_of_ble_eq_true rfl) rfl ?_
  intro p e s m below meth c C hr hlk hnm
  have C : Cx p s m ([.ref (gA Λ 15 0), .int (nI k)] : List Value).toArray c cJx4a65c_elementData_915e3 2 RJx4a65c wsJx4a65c_elementData_915e3 D cy base := C
  have hts := C.2.2.2.2.1
  have hwJx4a65c : ∀ w ∈ u_ws RJx4a65c TJx4a65c 3, w ∈ wsJx4a65c_elementData_915e3 := by decide +kernel
  have hM9 : (Cond.fieldLink RJx4a65c 9 (TJx4a65c 1).1 (TJx4a65c 1).2.1 (TJx4a65c 1).2.2.1).before ([.ref (gA Λ 15 0), .int (nI k)] : List Value).toArray s = true := hts (.fieldLink RJx4a65c 9 "java/util/ArrayList" "elementData" "[Ljava/lang/Object;") (by decide +kernel)
  have hL9 : FL RJx4a65c 9 (TJx4a65c 1).1 (TJx4a65c 1).2.1 (TJx4a65c 1).2.2.1 ([.ref (gA Λ 15 0), .int (nI k)] : List Value).toArray s := Or.inl hM9
  have hnc := hA.2.2.1
  have hcb := hA.2.2.2.1
  refine j_aload_n C dJx4a65c_elementData_915e3_0 rfl 0 rfl ?_
  refine j_getX C hwJx4a65c 15 0 1 hA.1 rfl rfl (by decide) rfl ar (hA.arr (by omega)).1 hL9 dJx4a65c_elementData_915e3_1 ?_
  refine j_iload_n C dJx4a65c_elementData_915e3_4 rfl 1 rfl ?_
  refine j_aald C 16 ar k (hA.arr (by omega)).2.1 rfl (by decide) (by decide) cp (hA.arr (by omega)).2.2.1 (by omega) (by omega) (wf k) (hA.2.2.2.2.2 k (by omega)) dJx4a65c_elementData_915e3_5 ?_
  exact j_aret C (Or.inl ⟨_, rfl⟩) hr hlk (rfl) dJx4a65c_elementData_915e3_6

set_option maxHeartbeats 4000000 in
set_option maxRecDepth 100000 in
theorem c_Jx4a65c_get_915e3 (l : Launch) (D : va_G) (cy : Nat → ClassId) (base : Nat) (Λ : LY) (σ : HS) (n ar cp : Nat) (wf : Nat → Nat) (hA : AL Λ σ n ar cp wf) (k : Nat) (hk : k < n) : Met l yJx4a65c_get_915e3 wsJx4a65c_get_915e3 ({ frames := 12, cells := 0, slots := 0, locals := 180 }) (va_Pc [.ref (gA Λ 15 0), .int (nI k)] (Wd D cy base Λ σ)) (va_Qr (fun x => x = (σ, wf k)) (Wr D cy base Λ 17) (Ab base)) 0 0 (Ab base) := by
  refine j_start (cc := cJx4a65c_get_915e3) (nL := 2) (ret := (some (.object "java/lang/Object"))) (lv := [(0, .ref (gA Λ 15 0)), (1, .int (nI k))]) (by decide) rfl (Nat.le_of_ble_eq_true rfl) rfl ?_
  intro p e s m below meth c C hr hlk hnm
  have C : Cx p s m ([.ref (gA Λ 15 0), .int (nI k)] : List Value).toArray c cJx4a65c_get_915e3 2 RJx4a65c wsJx4a65c_get_915e3 D cy base := C
  have hts := C.2.2.2.2.1
  have hwJx4a65c : ∀ w ∈ u_ws RJx4a65c TJx4a65c 3, w ∈ wsJx4a65c_get_915e3 := by decide +kernel
  have hM48 : (Cond.fieldLink RJx4a65c 48 (TJx4a65c 2).1 (TJx4a65c 2).2.1 (TJx4a65c 2).2.2.1).before ([.ref (gA Λ 15 0), .int (nI k)] : List Value).toArray s = true := hts (.fieldLink RJx4a65c 48 "java/util/ArrayList" "size" "I") (by decide +kernel)
  have hL48 : FL RJx4a65c 48 (TJx4a65c 2).1 (TJx4a65c 2).2.1 (TJx4a65c 2).2.2.1 ([.ref (gA Λ 15 0), .int (nI k)] : List Value).toArray s := Or.inl hM48
  have hnc := hA.2.2.1
  have hcb := hA.2.2.2.1
  refine j_iload_n C dJx4a65c_get_915e3_0 rfl 1 rfl ?_
  refine j_aload_n C dJx4a65c_get_915e3_1 rfl 0 rfl ?_
  refine j_getI C hwJx4a65c 15 0 2 hA.1 rfl rfl (by decide) rfl (nI n) hA.2.1 hL48 dJx4a65c_get_915e3_2 ?_
  refine c_i0 C (r_S C [.int (nI k), .int (nI n)] (c_J15_checkIndex_7cf53 l D cy base Λ σ k n hk (by omega)) (va_cwS 2 hts gJx4a65c_get_915e3_J15_checkIndex_7cf53 rfl rfl rfl (by decide +kernel) ⟨by decide, by decide⟩) rfl rfl (Nat.le_of_ble_eq_true rfl) dJx4a65c_get_915e3_5 ⟨by decide, by decide⟩) (fun rv uu hp => ?_)
  rw [hp.1, hp.2]
  refine j_pop C dJx4a65c_get_915e3_8 rfl ?_
  refine j_aload_n C dJx4a65c_get_915e3_9 rfl 0 rfl ?_
  refine j_iload_n C dJx4a65c_get_915e3_10 rfl 1 rfl ?_
  refine c_r0 C (r_V C 15 0 [.int (nI k)] (c_Jx4a65c_elementData_915e3 l D cy base Λ σ n ar cp wf hA k hk) (cwV 1 hts gJx4a65c_get_915e3_Jx4a65c_elementData_915e3 rfl rfl rfl (by decide +kernel) ⟨by decide, by decide⟩) hA.1 rfl rfl rfl rfl (Nat.le_of_ble_eq_true rfl) dJx4a65c_get_915e3_11 ⟨by decide, by decide⟩) (fun uu jj hp => ?_)
  obtain ⟨rfl, rfl⟩ := Prod.mk.inj hp
  exact j_aret C (Or.inl ⟨_, rfl⟩) hr hlk (rfl) dJx4a65c_get_915e3_14
