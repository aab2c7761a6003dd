theorem CR.gk {Λ Λ' : LY} {σ u : HS} {M : MM} (h : CR noEx Λ σ M) (hG : Gw Λ Λ') (hc : ∀ t, t < 31 → gC Λ' t = gC Λ t) (hs : Same (fun t => t < 31) σ u) : CR noEx Λ' u M := by
  have h2 := h.sm hs
  obtain ⟨b1, b2, b3, b4, b5, b6, b7, b8, b9, b10, b11, b12⟩ := h.1
  have ge : ∀ t i, i < gC Λ t → gN Λ' t i = gN Λ t i := fun t i hi => (hG.2.1 t i hi).2
  refine ⟨⟨fun t ht => ?_, ?_, fun t ht => ?_, ?_, ?_, ?_, fun q hq => ?_, fun i hi => ?_, fun i hi => ?_, fun i hi => ?_, ?_, ?_⟩, fun i hi => ?_, h2.2.2⟩
  · rw [hc t (by revert ht; revert t; decide)]; exact b1 t ht
  · rw [hc 30 (by decide)]; exact b2
  · rw [hc t (by revert ht; revert t; decide)]; exact b3 t ht
  · rw [hc 10 (by decide)]; exact b4
  · rw [hc 1 (by decide)]; exact b5
  · rw [hc 1 (by decide), hc 2 (by decide)]; exact b6
  · rw [ge q.1 0 (by rw [b1 q.1 (by revert hq; revert q; decide)]; decide)]; exact b7 q hq
  · rw [ge 30 i (by omega)]; exact b8 i hi
  · have c9 := b3 9 (by decide); have c11 := b3 11 (by decide); have c12 := b3 12 (by decide); have c13 := b3 13 (by decide)
    rw [ge 9 i (by omega), ge 11 i (by omega), ge 12 i (by omega), ge 13 i (by omega)]; exact b9 i hi
  · rw [ge 10 i (by omega)]; exact b10 i hi
  · rw [ge 2 0 (by omega)]; exact b11
  · rw [ge 2 1 (by omega)]; exact b12
  · rw [hc 1 (by decide)] at hi
    exact h2.2.1 i hi
theorem MR.gw {Λ Λ' : LY} {σ u : HS} {M : MM} (h : MR Λ σ M) (hG : Gw Λ Λ') (hc : ∀ t, 31 ≤ t → t ≤ 48 → gC Λ' t = gC Λ t) (hs : Same (fun t => 31 ≤ t ∧ t ≤ 48) σ u) : MR Λ' u M := by
  obtain ⟨h1, h2, h3, h4⟩ := h.same hs
  refine ⟨h1, fun t a b => (hc t a b).trans (h2 t a b), fun t a b => ?_, h4⟩
  rw [(hG.2.1 t 0 (by rw [h2 t (by omega) b]; decide)).2]
  exact h3 t a b
theorem INV_0 {Λ Λ' : LY} {σ u : HS} (hC : CR noEx Λ σ M0) (hA : AL Λ σ 0 0 0 (fun _ => 0)) (hg : 0 < gC Λ 14 ∧ gV σ 14 0 0 = some 0) (hz : ∀ t, 31 ≤ t → gC Λ t = 0) (hG : Gw Λ Λ') (hc : ∀ t, t < 31 → gC Λ' t = gC Λ t) (hs : Same (fun t => t < 31) σ u) : INV Λ' u M0 := by
  have hK : Kp Λ σ u := fun t i hi => by
    by_cases q : t < 31
    · have := hs t q
      exact ⟨by rw [this.1], by rw [this.2.1], by rw [this.2.2]⟩
    · rw [hz t (by omega)] at hi
      exact absurd hi (Nat.not_lt_zero i)
  have gl : GL Λ σ 0 0 0 (fun _ => 0) (fun _ => 0) (fun _ => 0) (fun _ => 0) (fun _ _ => 0) := ⟨hA, Nat.zero_le _, hg, fun k hk => absurd hk (Nat.not_lt_zero k), fun a b ha => absurd ha (Nat.not_lt_zero a)⟩
  exact ⟨hC.gk hG hc hs, fun r hr => absurd hr (Nat.not_lt_zero r), 0, 0, 0, _, _, _, _, _, gl.old hG hK, ⟨fun a b _ hb => absurd hb (Nat.not_lt_zero b), fun r m g hP => absurd hP.1 (Nat.not_lt_zero r), fun k hk => absurd hk (Nat.not_lt_zero k), fun k hk => absurd hk (Nat.not_lt_zero k)⟩, Nat.zero_le _⟩
