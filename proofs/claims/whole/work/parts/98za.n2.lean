theorem out_bits (M : MM) (room : Nat) (hm : M 31 5 ≤ 40) : lN (hbS M) &&& (lN (memS M room) ^^^ zL (-1)) = lN (outS M room) := by
  unfold hbS outS
  refine bs_andn (q := fun r => decide (M 37 r = 0) && decide (M 38 r = room)) hm (fun j hj => ?_) (fun j hj => ?_)
  · unfold memS
    rw [bitS_bit]
    simp [hj]
  · cases decide (M 37 j = 0) <;> cases decide (M 38 j = room) <;> rfl
theorem mem_lt {M : MM} {room : Nat} (hm : M 31 5 ≤ 40) : memS M room < 2 ^ 40 := Nat.lt_of_lt_of_le bitS_lt (Nat.pow_le_pow_right (by decide) hm)
theorem out_lt {M : MM} {room : Nat} (hm : M 31 5 ≤ 40) : outS M room < 2 ^ 40 := Nat.lt_of_lt_of_le bitS_lt (Nat.pow_le_pow_right (by decide) hm)
theorem pgM_B {M : MM} {n : Nat} {f : Nat → Nat} (hB : MBd M) (hn : n ≤ 40) (hf : ∀ k, k < 20 → f k ≤ 255) : MBd (pgM M n f) := by
  intro t k hk
  unfold pgM
  by_cases h : t = 43
  · subst h
    rw [if_pos rfl]
    exact hf k (of_decide_eq_true hk)
  · rw [if_neg h]
    by_cases h2 : t = 31 ∧ k = 18
    · rw [if_pos h2, h2.1, h2.2]; exact hn
    · rw [if_neg h2]; exact hB t k hk
theorem TX.clr {Λ : LY} {σ : HS} {i n cp : Nat} {f : Nat → Nat} (h : TX Λ σ i n cp f) : TX Λ (sI σ 1 i 1 (nI 0)) i 0 cp f ∧ GX σ (sI σ 1 i 1 (nI 0)) i := by
  obtain ⟨h1, h2, h3, h4, h5, h6, h7, h8, h9⟩ := h
  exact ⟨⟨h1, h2, h3, gI_same _ _ _ _ _, Nat.zero_le _, h6, h7, fun k hk => absurd hk (Nat.not_lt_zero k), fun k hk => absurd hk (Nat.not_lt_zero k)⟩, GX.s GX.rf (Or.inl rfl)⟩
theorem G7.gl {Λ : LY} {σ u : HS} {n ar cp : Nat} {wf tx ln hd : Nat → Nat} {lt : Nat → Nat → Nat} (h : GL Λ σ n ar cp wf tx ln hd lt) (g : G7 σ u) : GL Λ u n ar cp wf tx ln hd lt := h.same (fun t ht => ⟨congrFun g.1 t, g.2.2 t (by omega), congrFun g.2.1 t⟩)
theorem NmR.none {M : MM} {room : Nat} {f : Nat → Nat} (h : ∀ r k, ¬ cand M room r k) : NmR M room (pgM M 0 f) := ⟨fun t k h1 h2 => by unfold pgM; rw [if_neg h1, if_neg h2], Or.inl ⟨rfl, h⟩⟩
theorem NmR.some {M : MM} {room r k n : Nat} {f : Nat → Nat} (h : BestW M room r k) (hw : weq n f (lnW M r k) (wdF M r k)) : NmR M room (pgM M n f) := ⟨fun t k h1 h2 => by unfold pgM; rw [if_neg h1, if_neg h2], Or.inr ⟨r, k, h, hw.1, fun j hj => hw.2 j (by rw [hw.1]; exact hj)⟩⟩