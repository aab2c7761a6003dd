/-! ===== learn: the words of one name ===== -/
theorem endK_eq {M : MM} {r : Nat} : ∀ (d a k : Nat), k = a + d → k ≤ M 34 r → (∀ q, a ≤ q → q < k → M 33 (20 * r + q) ≠ 95) → (k = M 34 r ∨ M 33 (20 * r + k) = 95) → endK M r a = k
  | 0, a, k, e, h1, _, h3 => by
    rw [Nat.add_zero] at e
    subst e
    exact endK_stop (fun z => by rcases h3 with y | y; omega; exact z.2 y)
  | d + 1, a, k, e, h1, h2, h3 => by
    rw [endK_step (by omega) (h2 a (Nat.le_refl _) (by omega))]
    exact endK_eq d (a + 1) k (by omega) h1 (fun q hq => h2 q (by omega)) h3
/-- what learn does to the things that were there -/
def LnI (Λ : LY) (σ : HS) (L2 : LY) (u : HS) : Prop := Gw Λ L2 ∧ (∀ t, t ≠ 1 → t ≠ 2 → t ≠ 16 → t ≠ 17 → gC L2 t = gC Λ t) ∧ Same (fun t => t ≠ 1 ∧ t ≠ 2 ∧ t ≠ 15 ∧ t ≠ 16 ∧ t ≠ 17) σ u ∧ (∀ t i, t = 1 ∨ t = 2 → i < gC Λ t → gI u t i = gI σ t i ∧ gJ u t i = gJ σ t i ∧ gV u t i = gV σ t i) ∧ gC L2 2 = gC L2 1 ∧ (∀ i, i < gC L2 1 → gV u 1 i 0 = some i)
theorem LnI.rf {Λ : LY} {σ : HS} (h2 : gC Λ 2 = gC Λ 1) (h3 : ∀ i, i < gC Λ 1 → gV σ 1 i 0 = some i) : LnI Λ σ Λ σ := ⟨Gw.rf, fun _ _ _ _ _ => rfl, Same.rf, fun _ _ _ _ => ⟨rfl, rfl, rfl⟩, h2, h3⟩
theorem LnI.tx {Λ L2 : LY} {σ u : HS} {i n cp : Nat} {f : Nat → Nat} (h : LnI Λ σ L2 u) (g : TX Λ σ i n cp f) : TX L2 u i n cp f := by
  obtain ⟨h1, -, -, h4, -⟩ := h
  obtain ⟨g1, g2, g3, g4, g5, g6, g7, g8, g9⟩ := g
  exact ⟨Nat.lt_of_lt_of_le g1 (h1.1 1), Nat.lt_of_lt_of_le g2 (h1.1 2), by rw [(h4 1 i (Or.inl rfl) g1).2.2]; exact g3, by rw [(h4 1 i (Or.inl rfl) g1).1]; exact g4, g5, (h1.2.1 2 i g2).2.trans g6, g7, fun k hk => by rw [(h4 2 i (Or.inr rfl) g2).1]; exact g8 k hk, g9⟩
theorem LnI.step {Λ L2 L3 L4 : LY} {σ u v w : HS} {n cp : Nat} {f : Nat → Nat} (h : LnI Λ σ L2 u) (hG : Gw L2 L3) (hK : Kp L2 u v) (c1 : gC L3 1 = gC L2 1 + 1) (c2 : gC L3 2 = gC L2 2 + 1) (c3 : ∀ t, t ≠ 1 → t ≠ 2 → gC L3 t = gC L2 t) (hs12 : Same (fun t => t ≠ 1 ∧ t ≠ 2) u v) (hT : TX L3 v (gC L2 1) n cp f) (hG4 : Gw L3 L4) (c4 : ∀ t, t ≠ 16 → t ≠ 17 → gC L4 t = gC L3 t) (hs4 : Same (fun t => t ≠ 15 ∧ t ≠ 16 ∧ t ≠ 17) v w) : LnI Λ σ L4 w := by
  obtain ⟨h1, h2, h3, h4, h5, h6⟩ := h
  have s1 := hs4 1 ⟨by decide, by decide, by decide⟩
  have s2 := hs4 2 ⟨by decide, by decide, by decide⟩
  have k1 := c4 1 (by decide) (by decide)
  have k2 := c4 2 (by decide) (by decide)
  refine ⟨(h1.tr hG).tr hG4, fun t a b c d => ?_, fun t ht => ?_, fun t i ht hi => ?_, by omega, fun i hi => ?_⟩
  · rw [c4 t c d, c3 t a b]; exact h2 t a b c d
  · have a1 := hs4 t ⟨ht.2.2.1, ht.2.2.2.1, ht.2.2.2.2⟩
    have a2 := hs12 t ⟨ht.1, ht.2.1⟩
    have a3 := h3 t ht
    exact ⟨a1.1.trans (a2.1.trans a3.1), a1.2.1.trans (a2.2.1.trans a3.2.1), a1.2.2.trans (a2.2.2.trans a3.2.2)⟩
  · have b := h4 t i ht hi
    have b2 := hK t i (Nat.lt_of_lt_of_le hi (h1.1 t))
    rcases ht with e | e <;> subst e
    · exact ⟨by rw [s1.1]; exact b2.1.trans b.1, by rw [s1.2.1]; exact b2.2.1.trans b.2.1, by rw [s1.2.2]; exact b2.2.2.trans b.2.2⟩
    · exact ⟨by rw [s2.1]; exact b2.1.trans b.1, by rw [s2.2.1]; exact b2.2.1.trans b.2.1, by rw [s2.2.2]; exact b2.2.2.trans b.2.2⟩
  · rw [s1.2.2]
    by_cases q : i < gC L2 1
    · rw [(hK 1 i q).2.2]; exact h6 i q
    · have e : i = gC L2 1 := by omega
      rw [e]; exact hT.2.2.1
/-- the words that begin below b -/
def wdB (M : MM) (r b : Nat) (P : Nat → Nat → (Nat → Nat) → Prop) : Nat → Nat → (Nat → Nat) → Prop := fun r' m' g' => P r' m' g' ∨ (r' = r ∧ ∃ k0, k0 < b ∧ isSt M r k0 ∧ lnW M r k0 ≠ 0 ∧ weq (lnW M r k0) (wdF M r k0) m' g')
theorem GW.iff {P Q : Nat → Nat → (Nat → Nat) → Prop} {n : Nat} {ln hd : Nat → Nat} {lt : Nat → Nat → Nat} (h : GW P n ln hd lt) (e : ∀ r m g, P r m g ↔ Q r m g) : GW Q n ln hd lt := ⟨h.1, fun r m g hq => h.2.1 r m g ((e r m g).mpr hq), fun k hk r => (h.2.2.1 k hk r).trans (e r _ _), h.2.2.2⟩
/-- the word from a to k -/
theorem wdB_word {M : MM} {r a k : Nat} {f : Nat → Nat} {P : Nat → Nat → (Nat → Nat) → Prop} (hak : a < k) (hk : k ≤ M 34 r) (hf : ∀ q, q < M 34 r → M 33 (20 * r + q) = f q) (h0 : a = 0 ∨ f (a - 1) = 95) (hno : ∀ q, a ≤ q → q < k → f q ≠ 95) (hen : k = M 34 r ∨ f k = 95) (r' m' : Nat) (g' : Nat → Nat) : (wdB M r a P r' m' g' ∨ (r' = r ∧ weq (k - a) (fun q => f (a + q)) m' g')) ↔ wdB M r (k + 1) P r' m' g' := by
  have e1 : endK M r a = k := endK_eq (k - a) a k (by omega) hk (fun q q1 q2 => by rw [hf q (by omega)]; exact hno q q1 q2) (by
    rcases hen with z | z
    · exact Or.inl z
    · by_cases y : k = M 34 r
      · exact Or.inl y
      · exact Or.inr (by rw [hf k (by omega)]; exact z))
  have e2 : lnW M r a = k - a := by unfold lnW; rw [e1]
  have hst : isSt M r a := ⟨by omega, by
    rcases h0 with z | z
    · exact Or.inl z
    · by_cases y : a = 0
      · exact Or.inl y
      · exact Or.inr (by rw [hf (a - 1) (by omega)]; exact z)⟩
  have hw : weq (lnW M r a) (wdF M r a) (k - a) (fun q => f (a + q)) := ⟨e2, fun q hq => by
    rw [e2] at hq
    show M 33 (20 * r + a + q) = f (a + q)
    rw [Nat.add_assoc]
    exact hf (a + q) (by omega)⟩
  unfold wdB
  constructor
  · rintro ((z | ⟨z1, k0, z2, z3⟩) | ⟨z1, z2⟩)
    · exact Or.inl z
    · exact Or.inr ⟨z1, k0, by omega, z3⟩
    · exact Or.inr ⟨z1, a, by omega, hst, by omega, weq_tr hw z2⟩
  · rintro (z | ⟨z1, k0, z2, z3, z4, z5⟩)
    · exact Or.inl (Or.inl z)
    · by_cases q : k0 < a
      · exact Or.inl (Or.inr ⟨z1, k0, q, z3, z4, z5⟩)
      · by_cases q2 : k0 = a
        · subst q2
          exact Or.inr ⟨z1, weq_tr (weq_sy hw) z5⟩
        · exfalso
          rcases z3.2 with y | y
          · omega
          · rw [hf (k0 - 1) (by have := z3.1; omega)] at y
            exact hno (k0 - 1) (by omega) (by omega) y
/-- no word: k is a separator right behind another -/
theorem wdB_none {M : MM} {r k : Nat} {f : Nat → Nat} {P : Nat → Nat → (Nat → Nat) → Prop} (hf : ∀ q, q < M 34 r → M 33 (20 * r + q) = f q) (hen : k = M 34 r ∨ f k = 95) (r' m' : Nat) (g' : Nat → Nat) : wdB M r k P r' m' g' ↔ wdB M r (k + 1) P r' m' g' := by
  unfold wdB
  constructor
  · rintro (z | ⟨z1, k0, z2, z3⟩)
    · exact Or.inl z
    · exact Or.inr ⟨z1, k0, by omega, z3⟩
  · rintro (z | ⟨z1, k0, z2, z3, z4, z5⟩)
    · exact Or.inl z
    · by_cases q : k0 < k
      · exact Or.inr ⟨z1, k0, q, z3, z4, z5⟩
      · exfalso
        have e : k0 = k := by omega
        subst e
        have hlt := z3.1
        have h95 : M 33 (20 * r + k0) = 95 := by
          rcases hen with y | y
          · omega
          · rw [hf k0 hlt]; exact y
        apply z4
        unfold lnW
        rw [endK_stop (fun z => z.2 h95)]
        omega
theorem wdB_all {M : MM} {r b : Nat} {P : Nat → Nat → (Nat → Nat) → Prop} (hb : M 34 r ≤ b) (r' m' : Nat) (g' : Nat → Nat) : wdB M r b P r' m' g' ↔ (P r' m' g' ∨ (r' = r ∧ m' ≠ 0 ∧ hasW M r m' g')) := by
  unfold wdB hasW
  constructor
  · rintro (z | ⟨z1, k0, z2, z3, z4, z5⟩)
    · exact Or.inl z
    · exact Or.inr ⟨z1, by rw [← z5.1]; exact z4, k0, z3, z5.1, fun j hj => z5.2 j (by rw [z5.1]; exact hj)⟩
  · rintro (z | ⟨z1, z2, k0, z3, z4, z5⟩)
    · exact Or.inl z
    · exact Or.inr ⟨z1, k0, by have := z3.1; omega, z3, by omega, z4, fun j hj => z5 j (by rw [← z4]; exact hj)⟩
theorem wdB_0 {M : MM} {r : Nat} {P : Nat → Nat → (Nat → Nat) → Prop} (r' m' : Nat) (g' : Nat → Nat) : P r' m' g' ↔ wdB M r 0 P r' m' g' := ⟨Or.inl, fun z => z.elim id (fun y => by obtain ⟨-, k0, h, -⟩ := y; exact absurd h (Nat.not_lt_zero _))⟩
