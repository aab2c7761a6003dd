/-! ===== THE GLOSSARY: n words by letters, word k is Word wf k with text tx k, ln k letters lt k, holders the bits of hd k ===== -/
def GL (Λ : LY) (σ : HS) (n ar cp : Nat) (wf tx ln hd : Nat → Nat) (lt : Nat → Nat → Nat) : Prop := AL Λ σ n ar cp wf ∧ cp ≤ max 10 (n + n / 2) ∧ (0 < gC Λ 14 ∧ gV σ 14 0 0 = some 0) ∧ (∀ k, k < n → wf k < gC Λ 17 ∧ gV σ 17 (wf k) 0 = some (tx k) ∧ gJ σ 17 (wf k) 1 = lN (hd k) ∧ hd k < 2 ^ 40 ∧ 2 ≤ tx k ∧ TX Λ σ (tx k) (ln k) (ln k) (lt k)) ∧ (∀ a b, a < n → b < n → wf a = wf b → a = b)
/-- which routine has which word -/
def GW (P : Nat → Nat → (Nat → Nat) → Prop) (n : Nat) (ln hd : Nat → Nat) (lt : Nat → Nat → Nat) : Prop := (∀ a b, a < b → b < n → wlt (ln a) (lt a) (ln b) (lt b)) ∧ (∀ r m g, P r m g → ∃ k, k < n ∧ weq (ln k) (lt k) m g) ∧ (∀ k, k < n → ∀ r, (hd k).testBit r = true ↔ P r (ln k) (lt k)) ∧ (∀ k, k < n → ln k ≠ 0)
theorem weq_sy {n m : Nat} {f g : Nat → Nat} (h : weq n f m g) : weq m g n f := ⟨h.1.symm, fun j hj => (h.2 j (by rw [h.1]; exact hj)).symm⟩
theorem weq_tr {n m q : Nat} {f g h : Nat → Nat} (h1 : weq n f m g) (h2 : weq m g q h) : weq n f q h := ⟨h1.1.trans h2.1, fun j hj => (h1.2 j hj).trans (h2.2 j (by rw [← h1.1]; exact hj))⟩
theorem wlt_eq {n m q : Nat} {f g h : Nat → Nat} (h1 : wlt n f m g) (h2 : weq m g q h) : wlt n f q h := by
  rcases wtri n f q h with z | z | z
  · exact z
  · exact absurd h1 (wlt_irr (weq_tr z (weq_sy h2)))
  · rcases wtri m g q h with y | y | y
    · exact absurd y (wlt_irr h2)
    · exfalso
      have h3 := wlt_tr z h1
      exact wlt_irr (weq_sy y) h3
    · exact absurd y (wlt_irr (weq_sy h2))
theorem AL.old {Λ Λ' : LY} {σ u : HS} {n ar cp : Nat} {w : Nat → Nat} (h : AL Λ σ n ar cp w) (hG : Gw Λ Λ') (hK : Kp Λ σ u) : AL Λ' u n ar cp w := by
  by_cases h0 : 0 < cp
  · obtain ⟨a1, a2, a3, a4⟩ := h.arr h0
    obtain ⟨h1, h2, h3, h4, h5, h6⟩ := h
    refine ⟨Nat.lt_of_lt_of_le h1 (hG.1 15), by rw [(hK 15 0 h1).1]; exact h2, h3, h4, Or.inr ⟨⟨by rw [(hK 15 0 h1).1]; exact a1.1, by rw [(hK 15 0 h1).2.2]; exact a1.2⟩, Nat.lt_of_lt_of_le a2 (hG.1 16), (hG.2.1 16 ar a2).2.trans a3, a4⟩, fun k hk => ?_⟩
    rw [(hK 16 ar a2).2.2]
    exact h6 k hk
  · have e := h.emp (by omega)
    obtain ⟨h1, h2, h3, h4, h5, h6⟩ := h
    refine ⟨Nat.lt_of_lt_of_le h1 (hG.1 15), by rw [(hK 15 0 h1).1]; exact h2, h3, h4, Or.inl ⟨by rw [(hK 15 0 h1).1]; exact e, by omega⟩, fun k hk => absurd hk (by omega)⟩
theorem TX.mv {Λ Λ' : LY} {σ u : HS} {i n cp : Nat} {f : Nat → Nat} (h : TX Λ σ i n cp f) (hG : Gw Λ Λ') (e1 : gI u 1 = gI σ 1) (e2 : gV u 1 = gV σ 1) (e3 : gI u 2 = gI σ 2) : TX Λ' u i n cp f := by
  obtain ⟨h1, h2, h3, h4, h5, h6, h7, h8, h9⟩ := h
  exact ⟨Nat.lt_of_lt_of_le h1 (hG.1 1), Nat.lt_of_lt_of_le h2 (hG.1 2), by rw [e2]; exact h3, by rw [e1]; exact h4, h5, (hG.2.1 2 i h2).2.trans h6, h7, fun k hk => by rw [e3]; exact h8 k hk, h9⟩
/-- old things kept: so is the glossary -/
theorem GL.old {Λ Λ' : LY} {σ u : HS} {n ar cp : Nat} {wf tx ln hd : Nat → Nat} {lt : Nat → Nat → Nat} (h : GL Λ σ n ar cp wf tx ln hd lt) (hG : Gw Λ Λ') (hK : Kp Λ σ u) : GL Λ' u n ar cp wf tx ln hd lt := by
  obtain ⟨h1, h2, h3, h4, h5⟩ := h
  refine ⟨h1.old hG hK, h2, ⟨Nat.lt_of_lt_of_le h3.1 (hG.1 14), by rw [(hK 14 0 h3.1).2.2]; exact h3.2⟩, fun k hk => ?_, h5⟩
  obtain ⟨a1, a2, a3, a4, a5, a6⟩ := h4 k hk
  exact ⟨Nat.lt_of_lt_of_le a1 (hG.1 17), by rw [(hK 17 _ a1).2.2]; exact a2, by rw [(hK 17 _ a1).2.1]; exact a3, a4, a5, a6.old hG hK⟩
/-- the same kinds -/
theorem GL.same {Λ : LY} {σ u : HS} {n ar cp : Nat} {wf tx ln hd : Nat → Nat} {lt : Nat → Nat → Nat} (h : GL Λ σ n ar cp wf tx ln hd lt) (hs : Same (fun t => t = 1 ∨ t = 2 ∨ (14 ≤ t ∧ t ≤ 17)) σ u) : GL Λ u n ar cp wf tx ln hd lt := by
  obtain ⟨h1, h2, h3, h4, h5⟩ := h
  have s1 := hs 1 (by omega)
  have s2 := hs 2 (by omega)
  have s14 := hs 14 (by omega)
  have s15 := hs 15 (by omega)
  have s16 := hs 16 (by omega)
  have s17 := hs 17 (by omega)
  refine ⟨?_, h2, ⟨h3.1, by rw [s14.2.2]; exact h3.2⟩, fun k hk => ?_, h5⟩
  · unfold AL at *
    rw [s15.1, s15.2.2, s16.2.2]
    exact h1
  · obtain ⟨a1, a2, a3, a4, a5, a6⟩ := h4 k hk
    exact ⟨a1, by rw [s17.2.2]; exact a2, by rw [s17.2.1]; exact a3, a4, a5, a6.mv Gw.rf s1.1 s1.2.2 s2.1⟩
/-- .. but text 0 or 1 -/
theorem GL.gx {Λ : LY} {σ u : HS} {n ar cp i : Nat} {wf tx ln hd : Nat → Nat} {lt : Nat → Nat → Nat} (h : GL Λ σ n ar cp wf tx ln hd lt) (hg : GX σ u i) (hi : i < 2) : GL Λ u n ar cp wf tx ln hd lt := by
  obtain ⟨h1, h2, h3, h4, h5⟩ := h
  refine ⟨?_, h2, ⟨h3.1, by rw [hg.2.1]; exact h3.2⟩, fun k hk => ?_, h5⟩
  · unfold AL at *
    rw [hg.2.1, hg.2.2 15 0 (Or.inl ⟨by decide, by decide⟩)]
    exact h1
  · obtain ⟨a1, a2, a3, a4, a5, a6⟩ := h4 k hk
    exact ⟨a1, by rw [hg.2.1]; exact a2, by rw [hg.1]; exact a3, a4, a5, hg.tx (by omega) a6⟩
theorem GW.add {P : Nat → Nat → (Nat → Nat) → Prop} {n s r m : Nat} {ln hd : Nat → Nat} {lt : Nat → Nat → Nat} {g : Nat → Nat} (h : GW P n ln hd lt) (hs : s < n) (he : weq (ln s) (lt s) m g) : GW (fun r' m' g' => P r' m' g' ∨ (r' = r ∧ weq m g m' g')) n ln (fun k => if k = s then hd k ||| 2 ^ r else hd k) lt := by
  obtain ⟨h1, h2, h3, h0⟩ := h
  refine ⟨h1, fun r' m' g' hp => ?_, fun k hk r' => ?_, h0⟩
  · rcases hp with z | ⟨-, z⟩
    · exact h2 r' m' g' z
    · exact ⟨s, hs, weq_tr he z⟩
  · show (if k = s then hd k ||| 2 ^ r else hd k).testBit r' = true ↔ _
    by_cases e : k = s
    · subst e
      rw [if_pos rfl, Nat.testBit_or, Bool.or_eq_true, h3 k hk, Nat.testBit_two_pow, decide_eq_true_iff]
      constructor
      · rintro (z | z)
        · exact Or.inl z
        · exact Or.inr ⟨z.symm, weq_sy he⟩
      · rintro (z | z)
        · exact Or.inl z
        · exact Or.inr z.1.symm
    · rw [if_neg e, h3 k hk]
      constructor
      · exact Or.inl
      · rintro (z | ⟨-, z⟩)
        · exact z
        · exfalso
          have h4 := weq_tr he z
          rcases Nat.lt_or_ge k s with q | q
          · exact wlt_irr (weq_sy h4) (h1 k s q hs)
          · exact wlt_irr h4 (h1 s k (by omega) hk)
def insF (lt : Nat → Nat → Nat) (s : Nat) (g : Nat → Nat) : Nat → Nat → Nat := fun x => if x < s then lt x else if x = s then g else lt (x - 1)
theorem GW_ins {P : Nat → Nat → (Nat → Nat) → Prop} {n s r m : Nat} {ln hd : Nat → Nat} {lt : Nat → Nat → Nat} {g : Nat → Nat} (h : GW P n ln hd lt) (hs : s ≤ n) (hlo : ∀ a, a < s → wlt (ln a) (lt a) m g) (hup : s < n → ¬ wlt (ln s) (lt s) m g ∧ ¬ weq (ln s) (lt s) m g) (hm0 : m ≠ 0) : GW (fun r' m' g' => P r' m' g' ∨ (r' = r ∧ weq m g m' g')) (n + 1) (ins ln s m) (ins hd s (2 ^ r)) (insF lt s g) := by
  obtain ⟨h1, h2, h3, h0⟩ := h
  have hhi : ∀ k, s ≤ k → k < n → wlt m g (ln k) (lt k) := by
    intro k hk1 hk2
    have hsn : s < n := by omega
    have h5 : wlt m g (ln s) (lt s) := by
      rcases wtri (ln s) (lt s) m g with z | z | z
      · exact absurd z (hup hsn).1
      · exact absurd z (hup hsn).2
      · exact z
    rcases Nat.eq_or_lt_of_le hk1 with z | z
    · rw [← z]; exact h5
    · exact wlt_tr h5 (h1 s k z hk2)
  have hne : ∀ k, k < n → ¬ weq (ln k) (lt k) m g := by
    intro k hk z
    rcases Nat.lt_or_ge k s with q | q
    · exact wlt_irr z (hlo k q)
    · exact wlt_irr (weq_sy z) (hhi k q hk)
  have lo : ∀ x, x < s → ins ln s m x = ln x ∧ ins hd s (2 ^ r) x = hd x ∧ insF lt s g x = lt x := fun x hx => ⟨if_pos hx, if_pos hx, if_pos hx⟩
  have at_ : ins ln s m s = m ∧ ins hd s (2 ^ r) s = 2 ^ r ∧ insF lt s g s = g := ⟨by unfold ins; rw [if_neg (by omega), if_pos rfl], by unfold ins; rw [if_neg (by omega), if_pos rfl], by unfold insF; rw [if_neg (by omega), if_pos rfl]⟩
  have hi : ∀ x, s < x → ins ln s m x = ln (x - 1) ∧ ins hd s (2 ^ r) x = hd (x - 1) ∧ insF lt s g x = lt (x - 1) := fun x hx => ⟨by unfold ins; rw [if_neg (by omega), if_neg (by omega)], by unfold ins; rw [if_neg (by omega), if_neg (by omega)], by unfold insF; rw [if_neg (by omega), if_neg (by omega)]⟩
  refine ⟨fun a b hab hb => ?_, fun r' m' g' hp => ?_, fun k hk r' => ?_, fun k hk => ?_⟩
  rotate_left 3
  · rcases Nat.lt_trichotomy k s with q | q | q
    · rw [(lo k q).1]; exact h0 k (by omega)
    · rw [q, at_.1]; exact hm0
    · rw [(hi k q).1]; exact h0 (k - 1) (by omega)
  · rcases Nat.lt_trichotomy a s with ha | ha | ha
    · rw [(lo a ha).1, (lo a ha).2.2]
      rcases Nat.lt_trichotomy b s with hb2 | hb2 | hb2
      · rw [(lo b hb2).1, (lo b hb2).2.2]; exact h1 a b hab (by omega)
      · rw [hb2, at_.1, at_.2.2]; exact hlo a ha
      · rw [(hi b hb2).1, (hi b hb2).2.2]; exact h1 a (b - 1) (by omega) (by omega)
    · rw [ha, at_.1, at_.2.2, (hi b (by omega)).1, (hi b (by omega)).2.2]
      exact hhi (b - 1) (by omega) (by omega)
    · rw [(hi a ha).1, (hi a ha).2.2, (hi b (by omega)).1, (hi b (by omega)).2.2]
      exact h1 (a - 1) (b - 1) (by omega) (by omega)
  · rcases hp with z | ⟨-, z⟩
    · obtain ⟨k, hk, hw⟩ := h2 r' m' g' z
      by_cases q : k < s
      · exact ⟨k, by omega, by rw [(lo k q).1, (lo k q).2.2]; exact hw⟩
      · exact ⟨k + 1, by omega, by rw [(hi (k + 1) (by omega)).1, (hi (k + 1) (by omega)).2.2, Nat.add_sub_cancel]; exact hw⟩
    · exact ⟨s, by omega, by rw [at_.1, at_.2.2]; exact z⟩
  · rcases Nat.lt_trichotomy k s with q | q | q
    · rw [(lo k q).1, (lo k q).2.1, (lo k q).2.2, h3 k (by omega)]
      exact ⟨Or.inl, fun z => z.elim id (fun y => absurd (weq_sy y.2) (hne k (by omega)))⟩
    · rw [q, at_.1, at_.2.1, at_.2.2, Nat.testBit_two_pow, decide_eq_true_iff]
      constructor
      · intro z; exact Or.inr ⟨z.symm, rfl, fun _ _ => rfl⟩
      · rintro (z | z)
        · obtain ⟨k2, hk2, hw⟩ := h2 r' m g z
          exact absurd hw (hne k2 hk2)
        · exact z.1.symm
    · rw [(hi k q).1, (hi k q).2.1, (hi k q).2.2, h3 (k - 1) (by omega)]
      exact ⟨Or.inl, fun z => z.elim id (fun y => absurd (weq_sy y.2) (hne (k - 1) (by omega)))⟩
theorem lN_or (a b : Nat) : lN a ||| lN b = lN (a ||| b) := by
  apply Int64.toBitVec_inj.mp
  rw [Int64.toBitVec_or, lN_bv, lN_bv, lN_bv]
  apply BitVec.eq_of_getLsbD_eq
  intro i hi
  simp [hi]
/-- holders of word s: one more -/
theorem GL.hold {Λ : LY} {σ : HS} {n ar cp s r : Nat} {wf tx ln hd : Nat → Nat} {lt : Nat → Nat → Nat} (h : GL Λ σ n ar cp wf tx ln hd lt) (hs : s < n) (hr : r < 40) : GL Λ (sJ σ 17 (wf s) 1 (lN (hd s ||| 2 ^ r))) n ar cp wf tx ln (fun k => if k = s then hd k ||| 2 ^ r else hd k) lt := by
  obtain ⟨h1, h2, h3, h4, h5⟩ := h
  refine ⟨h1, h2, h3, fun k hk => ?_, h5⟩
  obtain ⟨a1, a2, a3, a4, a5, a6⟩ := h4 k hk
  refine ⟨a1, a2, ?_, ?_, a5, a6⟩
  · show _ = lN (if k = s then hd k ||| 2 ^ r else hd k)
    rw [gJ_sJ]
    by_cases e : k = s
    · rw [if_pos ⟨rfl, by rw [e], rfl⟩, if_pos e, e]
    · rw [if_neg (fun z => e (h5 k s hk hs z.2.1)), if_neg e]; exact a3
  · show (if k = s then hd k ||| 2 ^ r else hd k) < 2 ^ 40
    by_cases e : k = s
    · rw [if_pos e]
      exact Nat.or_lt_two_pow a4 (Nat.pow_lt_pow_right (by decide) hr)
    · rw [if_neg e]; exact a4
/-- a new word at place s -/
theorem GL_ins {Λ Λ' : LY} {σ u : HS} {n ar cp ar2 cp2 s r w j m : Nat} {wf tx ln hd : Nat → Nat} {lt : Nat → Nat → Nat} {g : Nat → Nat} (h : GL Λ σ n ar cp wf tx ln hd lt) (hs : s ≤ n) (hr : r < 40) (hA : AL Λ' u (n + 1) ar2 cp2 (ins wf s w)) (hcp : cp2 ≤ max 10 (n + n / 2)) (hG : Gw Λ Λ') (hK : Same (fun t => t ≠ 15 ∧ t ≠ 16 ∧ t ≠ 17) σ u) (hK17 : ∀ i, i < gC Λ 17 → gV u 17 i = gV σ 17 i ∧ gJ u 17 i = gJ σ 17 i) (hw : w = gC Λ 17) (hw2 : w < gC Λ' 17) (hv : gV u 17 w 0 = some j) (hj : gJ u 17 w 1 = lN (2 ^ r)) (hj2 : 2 ≤ j) (hT : TX Λ σ j m m g) : GL Λ' u (n + 1) ar2 cp2 (ins wf s w) (ins tx s j) (ins ln s m) (ins hd s (2 ^ r)) (insF lt s g) := by
  obtain ⟨h1, h2, h3, h4, h5⟩ := h
  have mv : ∀ {i n cp : Nat} {f : Nat → Nat}, TX Λ σ i n cp f → TX Λ' u i n cp f := fun z => z.mv hG (hK 1 (by decide)).1 (hK 1 (by decide)).2.2 (hK 2 (by decide)).1
  have old : ∀ k, k < n → wf k < gC Λ' 17 ∧ gV u 17 (wf k) 0 = some (tx k) ∧ gJ u 17 (wf k) 1 = lN (hd k) ∧ hd k < 2 ^ 40 ∧ 2 ≤ tx k ∧ TX Λ' u (tx k) (ln k) (ln k) (lt k) := by
    intro k hk
    obtain ⟨a1, a2, a3, a4, a5, a6⟩ := h4 k hk
    exact ⟨Nat.lt_of_lt_of_le a1 (hG.1 17), by rw [(hK17 _ a1).1]; exact a2, by rw [(hK17 _ a1).2]; exact a3, a4, a5, mv a6⟩
  refine ⟨hA, ?_, ⟨Nat.lt_of_lt_of_le h3.1 (hG.1 14), by rw [(hK 14 (by decide)).2.2]; exact h3.2⟩, fun k hk => ?_, fun a b ha hb hab => ?_⟩
  · refine Nat.le_trans hcp ?_
    have e1 := Nat.le_max_left 10 (n + 1 + (n + 1) / 2)
    have e2 := Nat.le_max_right 10 (n + 1 + (n + 1) / 2)
    exact Nat.max_le.mpr ⟨e1, by omega⟩
  · unfold ins insF
    rcases Nat.lt_trichotomy k s with q | q | q
    · rw [if_pos q, if_pos q, if_pos q, if_pos q, if_pos q]; exact old k (by omega)
    · simp only [if_neg (show ¬ k < s by omega), if_pos q]
      exact ⟨hw2, hv, hj, Nat.pow_lt_pow_right (by decide) hr, hj2, mv hT⟩
    · simp only [if_neg (show ¬ k < s by omega), if_neg (show ¬ k = s by omega)]
      exact old (k - 1) (by omega)
  · have hlt : ∀ k, k < n → wf k < w := fun k hk => by rw [hw]; exact (h4 k hk).1
    unfold ins at hab
    rcases Nat.lt_trichotomy a s with q | q | q <;> rcases Nat.lt_trichotomy b s with y | y | y
    · rw [if_pos q, if_pos y] at hab; exact h5 a b (by omega) (by omega) hab
    · rw [if_pos q, if_neg (by omega), if_pos y] at hab; have := hlt a (by omega); omega
    · rw [if_pos q, if_neg (by omega), if_neg (by omega)] at hab; have := h5 a (b - 1) (by omega) (by omega) hab; omega
    · rw [if_neg (by omega), if_pos q, if_pos y] at hab; have := hlt b (by omega); omega
    · omega
    · rw [if_neg (by omega), if_pos q, if_neg (by omega), if_neg (by omega)] at hab; have := hlt (b - 1) (by omega); omega
    · rw [if_neg (by omega), if_neg (by omega), if_pos y] at hab; have := h5 (a - 1) b (by omega) (by omega) hab; omega
    · rw [if_neg (by omega), if_neg (by omega), if_neg (by omega), if_pos y] at hab; have := hlt (a - 1) (by omega); omega
    · rw [if_neg (by omega), if_neg (by omega), if_neg (by omega), if_neg (by omega)] at hab; have := h5 (a - 1) (b - 1) (by omega) (by omega) hab; omega
