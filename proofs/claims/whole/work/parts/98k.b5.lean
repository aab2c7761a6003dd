theorem Same.nS {P : Nat → Prop} {Λ : LY} {σ u : HS} {t : Nat} (h : Same P σ u) (ht : ¬ P t) : Same P σ (nS Λ u t) := fun t' hp => by
  have hne : t' ≠ t := fun e => ht (by rw [← e]; exact hp)
  refine ⟨?_, ?_, ?_⟩
  · rw [← (h t' hp).1]; funext i k; rw [gI_nS, if_neg (fun z => hne z.1)]
  · rw [← (h t' hp).2.1]; funext i k; rw [gJ_nS, if_neg (fun z => hne z.1)]
  · rw [← (h t' hp).2.2]; funext i k; rw [gV_nS, if_neg (fun z => hne z.1)]
theorem gN_ne {Λ : LY} {t q n t' i : Nat} (h : t' ≠ t) : gN (nY Λ t q n) t' i = gN Λ t' i := by rw [gN_nL, if_neg (fun z => h z.1)]
theorem mi_mr {Λ : LY} {σ : HS} (c31 : gC Λ 31 = 1) (c32 : gC Λ 32 = 1) (l32 : gN Λ 32 0 = 40) (r32 : gV σ 31 0 1 = some 0) (c33 : gC Λ 33 = 1) (l33 : gN Λ 33 0 = 800) (r33 : gV σ 31 0 3 = some 0) (c34 : gC Λ 34 = 1) (l34 : gN Λ 34 0 = 40) (r34 : gV σ 31 0 4 = some 0) (c35 : gC Λ 35 = 1) (l35 : gN Λ 35 0 = 4800) (r35 : gV σ 31 0 6 = some 0) (c36 : gC Λ 36 = 1) (l36 : gN Λ 36 0 = 3) (r36 : gV σ 31 0 7 = some 0) (c37 : gC Λ 37 = 1) (l37 : gN Λ 37 0 = 40) (r37 : gV σ 31 0 11 = some 0) (c38 : gC Λ 38 = 1) (l38 : gN Λ 38 0 = 40) (r38 : gV σ 31 0 12 = some 0) (c39 : gC Λ 39 = 1) (l39 : gN Λ 39 0 = 1600) (r39 : gV σ 31 0 13 = some 0) (c40 : gC Λ 40 = 1) (l40 : gN Λ 40 0 = 40) (r40 : gV σ 31 0 14 = some 0) (c41 : gC Λ 41 = 1) (l41 : gN Λ 41 0 = 9) (r41 : gV σ 31 0 15 = some 0) (c42 : gC Λ 42 = 1) (l42 : gN Λ 42 0 = 9) (r42 : gV σ 31 0 16 = some 0) (c43 : gC Λ 43 = 1) (l43 : gN Λ 43 0 = 20) (r43 : gV σ 31 0 17 = some 0) (c44 : gC Λ 44 = 1) (l44 : gN Λ 44 0 = 6) (r44 : gV σ 31 0 19 = some 0) (c45 : gC Λ 45 = 1) (l45 : gN Λ 45 0 = 60) (r45 : gV σ 31 0 20 = some 0) (c46 : gC Λ 46 = 1) (l46 : gN Λ 46 0 = 60) (r46 : gV σ 31 0 21 = some 0) (c47 : gC Λ 47 = 1) (l47 : gN Λ 47 0 = 40) (r47 : gV σ 31 0 24 = some 0) (c48 : gC Λ 48 = 1) (l48 : gN Λ 48 0 = 36) (r48 : gV σ 31 0 25 = some 0) (z32 : ∀ k, gI σ 32 0 k = 0) (z33 : ∀ k, gI σ 33 0 k = 0) (z34 : ∀ k, gI σ 34 0 k = 0) (z35 : ∀ k, gI σ 35 0 k = 0) (z37 : ∀ k, gI σ 37 0 k = 0) (z38 : ∀ k, gI σ 38 0 k = 0) (z39 : ∀ k, gI σ 39 0 k = 0) (z40 : ∀ k, gI σ 40 0 k = 0) (z41 : ∀ k, gI σ 41 0 k = 0) (z42 : ∀ k, gI σ 42 0 k = 0) (z43 : ∀ k, gI σ 43 0 k = 0) (z44 : ∀ k, gI σ 44 0 k = 0) (z45 : ∀ k, gI σ 45 0 k = 0) (z46 : ∀ k, gI σ 46 0 k = 0) (z47 : ∀ k, gI σ 47 0 k = 0) (z48 : ∀ k, gI σ 48 0 k = 0) (w0 : gI σ 36 0 0 = nI 1) (w1 : gI σ 36 0 1 = nI 1) (w2 : gI σ 36 0 2 = nI 1) (s0 : gI σ 31 0 0 = 0) (s2 : gI σ 31 0 2 = 0) (s5 : gI σ 31 0 5 = 0) (s8 : gI σ 31 0 8 = nI 1) (s9 : gI σ 31 0 9 = nI 40) (s10 : gI σ 31 0 10 = nI 2) (s18 : gI σ 31 0 18 = 0) (s22 : gI σ 31 0 22 = 0) (s23 : gI σ 31 0 23 = 0) : MR Λ σ M0 := by
  refine ⟨fun t k hk => ?_, fun t h1 h2 => ?_, fun t h1 h2 => ?_, fun k hk => ?_⟩
  · by_cases h31 : t = 31
    · subst h31
      have hk2 : k ∈ [0, 2, 5, 8, 9, 10, 18, 22, 23] := by simpa [mok] using hk
      simp only [List.mem_cons, List.not_mem_nil, or_false] at hk2
      rcases hk2 with rfl | rfl | rfl | rfl | rfl | rfl | rfl | rfl | rfl
      · exact s0
      · exact s2
      · exact s5
      · exact s8
      · exact s9
      · exact s10
      · exact s18
      · exact s22
      · exact s23
    · have hl : k < mlen t := by simpa [mok, h31] using hk
      have ht : 32 ≤ t ∧ t ≤ 48 := by
        unfold mlen at hl
        split at hl <;> first | omega | exact absurd hl (Nat.not_lt_zero _)
      obtain ⟨ha, hb⟩ := ht
      rcases (show t = 32 ∨ t = 33 ∨ t = 34 ∨ t = 35 ∨ t = 36 ∨ t = 37 ∨ t = 38 ∨ t = 39 ∨ t = 40 ∨ t = 41 ∨ t = 42 ∨ t = 43 ∨ t = 44 ∨ t = 45 ∨ t = 46 ∨ t = 47 ∨ t = 48 by omega) with e9 | e9 | e9 | e9 | e9 | e9 | e9 | e9 | e9 | e9 | e9 | e9 | e9 | e9 | e9 | e9 | e9 <;> subst e9
      · exact (z32 k).trans (by show (0 : Int32) = (nI 0).toInt8.toInt32; decide)
      · exact z33 k
      · exact z34 k
      · exact z35 k
      · have hl3 : k < 3 := hl
        rcases (show k = 0 ∨ k = 1 ∨ k = 2 by omega) with e8 | e8 | e8 <;> subst e8
        · exact w0
        · exact w1
        · exact w2
      · exact z37 k
      · exact z38 k
      · exact z39 k
      · exact (z40 k).trans (by show (0 : Int32) = nI 1 - 1; decide)
      · exact z41 k
      · exact z42 k
      · exact z43 k
      · exact z44 k
      · exact z45 k
      · exact z46 k
      · exact (z47 k).trans (by show (0 : Int32) = nI 1 - 1; decide)
      · exact z48 k
  · rcases (show t = 31 ∨ t = 32 ∨ t = 33 ∨ t = 34 ∨ t = 35 ∨ t = 36 ∨ t = 37 ∨ t = 38 ∨ t = 39 ∨ t = 40 ∨ t = 41 ∨ t = 42 ∨ t = 43 ∨ t = 44 ∨ t = 45 ∨ t = 46 ∨ t = 47 ∨ t = 48 by omega) with e9 | e9 | e9 | e9 | e9 | e9 | e9 | e9 | e9 | e9 | e9 | e9 | e9 | e9 | e9 | e9 | e9 | e9 <;> subst e9
    · exact c31
    · exact c32
    · exact c33
    · exact c34
    · exact c35
    · exact c36
    · exact c37
    · exact c38
    · exact c39
    · exact c40
    · exact c41
    · exact c42
    · exact c43
    · exact c44
    · exact c45
    · exact c46
    · exact c47
    · exact c48
  · rcases (show t = 32 ∨ t = 33 ∨ t = 34 ∨ t = 35 ∨ t = 36 ∨ t = 37 ∨ t = 38 ∨ t = 39 ∨ t = 40 ∨ t = 41 ∨ t = 42 ∨ t = 43 ∨ t = 44 ∨ t = 45 ∨ t = 46 ∨ t = 47 ∨ t = 48 by omega) with e9 | e9 | e9 | e9 | e9 | e9 | e9 | e9 | e9 | e9 | e9 | e9 | e9 | e9 | e9 | e9 | e9 <;> subst e9
    · exact l32
    · exact l33
    · exact l34
    · exact l35
    · exact l36
    · exact l37
    · exact l38
    · exact l39
    · exact l40
    · exact l41
    · exact l42
    · exact l43
    · exact l44
    · exact l45
    · exact l46
    · exact l47
    · exact l48
  · have hk2 : k ∈ [1, 3, 4, 6, 7, 11, 12, 13, 14, 15, 16, 17, 19, 20, 21, 24, 25] := by simpa [mref] using hk
    simp only [List.mem_cons, List.not_mem_nil, or_false] at hk2
    rcases hk2 with rfl | rfl | rfl | rfl | rfl | rfl | rfl | rfl | rfl | rfl | rfl | rfl | rfl | rfl | rfl | rfl | rfl
    · exact r32
    · exact r33
    · exact r34
    · exact r35
    · exact r36
    · exact r37
    · exact r38
    · exact r39
    · exact r40
    · exact r41
    · exact r42
    · exact r43
    · exact r44
    · exact r45
    · exact r46
    · exact r47
    · exact r48
def mfk : Nat → Nat
  | 32 => 1
  | 33 => 3
  | 34 => 4
  | 35 => 6
  | 36 => 7
  | 37 => 11
  | 38 => 12
  | 39 => 13
  | 40 => 14
  | 41 => 15
  | 42 => 16
  | 43 => 17
  | 44 => 19
  | 45 => 20
  | 46 => 21
  | 47 => 24
  | 48 => 25
  | _ => 0
theorem mfk_nF : ∀ t : Fin 49, ∀ a : Fin 49, 32 ≤ t.1 → 32 ≤ a.1 → t.1 ≠ a.1 → mfk t.1 ≠ mfk a.1 := by decide +kernel
theorem mfk_ne (t : Nat) (ht : t < 49) (a : Nat) (ha : a < 49) : 32 ≤ t → 32 ≤ a → t ≠ a → mfk t ≠ mfk a := mfk_nF ⟨t, ht⟩ ⟨a, ha⟩
/-- the arrays below a are made -/
def QM (a : Nat) (f : Nat → Int32) (Λs : LY) (σs : HS) (Λ : LY) (σ : HS) : Prop := (∀ t, 32 ≤ t → t < a → gC Λ t = 1 ∧ gN Λ t 0 = mlen t ∧ gV σ 31 0 (mfk t) = some 0 ∧ (t ≠ 36 → ∀ k, gI σ t 0 k = 0) ∧ (t = 36 → ∀ k, k < 3 → gI σ 36 0 k = nI 1)) ∧ (∀ t, a ≤ t → t ≤ 49 → gC Λ t = 0) ∧ (∀ k, gI σ 31 0 k = f k) ∧ gC Λ 31 = 1 ∧ Gw Λs Λ ∧ (∀ t, t < 31 ∨ 48 < t → gC Λ t = gC Λs t) ∧ Same (fun t => t < 31) σs σ
theorem QM.step {a q : Nat} {f : Nat → Int32} {Λs Λ Λ2 : LY} {σs σ : HS} (h : QM a f Λs σs Λ σ) (ha : 32 ≤ a) (hb : a ≤ 48) (h36 : a ≠ 36) (e : Λ2 = nY Λ a q (mlen a)) : QM (a + 1) f Λs σs Λ2 (sV (nS Λ σ a) 31 0 (mfk a) (some 0)) := by
  subst e
  obtain ⟨h1, h2, h3, h4, h5, h6, h7⟩ := h
  have hz := h2 a (Nat.le_refl _) (by omega)
  refine ⟨fun t ht1 ht2 => ?_, fun t ht1 ht2 => ?_, fun k => ?_, ?_, h5.tr (Gw.nY (by omega)), fun t ht => ?_, Same.sV (Same.nS h7 (by omega)) (by decide)⟩
  · by_cases hta : t = a
    · subst hta
      refine ⟨?_, ?_, ?_, fun _ k => ?_, fun z => absurd z h36⟩
      · rw [gC_nL, if_pos rfl, hz]
      · rw [gN_nL, if_pos ⟨rfl, hz.symm⟩]
      · rw [gV_same]
      · rw [gI_sV, gI_nS, if_pos ⟨rfl, hz.symm⟩]
    · obtain ⟨k1, k2, k3, k4, k5⟩ := h1 t ht1 (by omega)
      refine ⟨?_, ?_, ?_, fun z k => ?_, fun z k hk => ?_⟩
      · rw [gC_ne hta]; exact k1
      · rw [gN_ne hta]; exact k2
      · rw [gV_sV, if_neg (fun z => mfk_ne t (by omega) a (by omega) ht1 ha hta z.2.2), gV_nS, if_neg (fun z => absurd z.1 (by omega))]; exact k3
      · rw [gI_sV, gI_nS, if_neg (fun z => hta z.1)]; exact k4 z k
      · rw [gI_sV, gI_nS, if_neg (fun y => hta (z.trans y.1))]; exact k5 z k hk
  · rw [gC_ne (by omega)]; exact h2 t (by omega) ht2
  · rw [gI_sV, gI_nS, if_neg (fun z => absurd z.1 (by omega))]; exact h3 k
  · rw [gC_ne (by omega)]; exact h4
  · rw [gC_ne (by omega)]; exact h6 t ht
theorem QM.stepW {q : Nat} {f : Nat → Int32} {Λs Λ Λ2 : LY} {σs σ : HS} (h : QM 36 f Λs σs Λ σ) (e : Λ2 = nY Λ 36 q 3) : QM 37 f Λs σs Λ2 (sV (sI (sI (sI (nS Λ σ 36) 36 0 0 (nI 1)) 36 0 1 (nI 1)) 36 0 2 (nI 1)) 31 0 7 (some 0)) := by
  subst e
  obtain ⟨h1, h2, h3, h4, h5, h6, h7⟩ := h
  have hz := h2 36 (Nat.le_refl _) (by omega)
  refine ⟨fun t ht1 ht2 => ?_, fun t ht1 ht2 => ?_, fun k => ?_, ?_, h5.tr (Gw.nY (by omega)), fun t ht => ?_, Same.sV (Same.sI (Same.sI (Same.sI (Same.nS h7 (by omega)) (by decide)) (by decide)) (by decide)) (by decide)⟩
  · by_cases hta : t = 36
    · subst hta
      refine ⟨?_, ?_, ?_, fun z => absurd rfl z, fun _ k hk => ?_⟩
      · rw [gC_nL, if_pos rfl, hz]
      · rw [gN_nL, if_pos ⟨rfl, hz.symm⟩]; rfl
      · exact gV_same _ _ _ _ _
      · rcases (show k = 0 ∨ k = 1 ∨ k = 2 by omega) with e9 | e9 | e9 <;> subst e9 <;> rfl
    · obtain ⟨k1, k2, k3, k4, k5⟩ := h1 t ht1 (by omega)
      have hn : ∀ k, gI (sV (sI (sI (sI (nS Λ σ 36) 36 0 0 (nI 1)) 36 0 1 (nI 1)) 36 0 2 (nI 1)) 31 0 7 (some 0)) t 0 k = gI σ t 0 k := fun k => by
        rw [gI_sV, gI_ne (Or.inl hta), gI_ne (Or.inl hta), gI_ne (Or.inl hta), gI_nS, if_neg (fun z => hta z.1)]
      refine ⟨?_, ?_, ?_, fun z k => ?_, fun z k hk => absurd z hta⟩
      · rw [gC_ne hta]; exact k1
      · rw [gN_ne hta]; exact k2
      · rw [gV_sV, if_neg (fun z => mfk_ne t (by omega) 36 (by omega) ht1 (by omega) hta z.2.2), gV_sI, gV_sI, gV_sI, gV_nS, if_neg (fun z => absurd z.1 (by omega))]; exact k3
      · rw [hn]; exact k4 z k
  · rw [gC_ne (by omega)]; exact h2 t (by omega) ht2
  · rw [gI_sV, gI_ne (Or.inl (by omega)), gI_ne (Or.inl (by omega)), gI_ne (Or.inl (by omega)), gI_nS, if_neg (fun z => absurd z.1 (by omega))]; exact h3 k
  · rw [gC_ne (by omega)]; exact h4
  · rw [gC_ne (by omega)]; exact h6 t ht
theorem QM.set {a k : Nat} {x : Int32} {f : Nat → Int32} {Λs Λ : LY} {σs σ : HS} (h : QM a f Λs σs Λ σ) (ha : a ≤ 49) : QM a (fun j => if j = k then x else f j) Λs σs Λ (sI σ 31 0 k x) := by
  obtain ⟨h1, h2, h3, h4, h5, h6, h7⟩ := h
  refine ⟨fun t ht1 ht2 => ?_, h2, fun j => ?_, h4, h5, h6, Same.sI h7 (by decide)⟩
  · obtain ⟨k1, k2, k3, k4, k5⟩ := h1 t ht1 ht2
    refine ⟨k1, k2, k3, fun z k' => ?_, fun z k' hk => ?_⟩
    · rw [gI_ne (Or.inl (by omega))]; exact k4 z k'
    · rw [gI_ne (Or.inl (by omega))]; exact k5 z k' hk
  · rw [gI_sI]
    show _ = (if j = k then x else f j)
    by_cases e : j = k
    · rw [if_pos ⟨rfl, rfl, e⟩, if_pos e]
    · rw [if_neg (fun z => e z.2.2), if_neg e]; exact h3 j
theorem QM.mr {f : Nat → Int32} {Λs Λ : LY} {σs σ : HS} (h : QM 49 f Λs σs Λ σ) (hf : f 0 = 0 ∧ f 2 = 0 ∧ f 5 = 0 ∧ f 8 = nI 1 ∧ f 9 = nI 40 ∧ f 10 = nI 2 ∧ f 18 = 0 ∧ f 22 = 0 ∧ f 23 = 0) : MR Λ σ M0 := by
  obtain ⟨h1, h2, h3, h4, -⟩ := h
  obtain ⟨f0, f2, f5, f8, f9, f10, f18, f22, f23⟩ := hf
  exact mi_mr h4 (h1 32 (by decide) (by decide)).1 (h1 32 (by decide) (by decide)).2.1 (h1 32 (by decide) (by decide)).2.2.1 (h1 33 (by decide) (by decide)).1 (h1 33 (by decide) (by decide)).2.1 (h1 33 (by decide) (by decide)).2.2.1 (h1 34 (by decide) (by decide)).1 (h1 34 (by decide) (by decide)).2.1 (h1 34 (by decide) (by decide)).2.2.1 (h1 35 (by decide) (by decide)).1 (h1 35 (by decide) (by decide)).2.1 (h1 35 (by decide) (by decide)).2.2.1 (h1 36 (by decide) (by decide)).1 (h1 36 (by decide) (by decide)).2.1 (h1 36 (by decide) (by decide)).2.2.1 (h1 37 (by decide) (by decide)).1 (h1 37 (by decide) (by decide)).2.1 (h1 37 (by decide) (by decide)).2.2.1 (h1 38 (by decide) (by decide)).1 (h1 38 (by decide) (by decide)).2.1 (h1 38 (by decide) (by decide)).2.2.1 (h1 39 (by decide) (by decide)).1 (h1 39 (by decide) (by decide)).2.1 (h1 39 (by decide) (by decide)).2.2.1 (h1 40 (by decide) (by decide)).1 (h1 40 (by decide) (by decide)).2.1 (h1 40 (by decide) (by decide)).2.2.1 (h1 41 (by decide) (by decide)).1 (h1 41 (by decide) (by decide)).2.1 (h1 41 (by decide) (by decide)).2.2.1 (h1 42 (by decide) (by decide)).1 (h1 42 (by decide) (by decide)).2.1 (h1 42 (by decide) (by decide)).2.2.1 (h1 43 (by decide) (by decide)).1 (h1 43 (by decide) (by decide)).2.1 (h1 43 (by decide) (by decide)).2.2.1 (h1 44 (by decide) (by decide)).1 (h1 44 (by decide) (by decide)).2.1 (h1 44 (by decide) (by decide)).2.2.1 (h1 45 (by decide) (by decide)).1 (h1 45 (by decide) (by decide)).2.1 (h1 45 (by decide) (by decide)).2.2.1 (h1 46 (by decide) (by decide)).1 (h1 46 (by decide) (by decide)).2.1 (h1 46 (by decide) (by decide)).2.2.1 (h1 47 (by decide) (by decide)).1 (h1 47 (by decide) (by decide)).2.1 (h1 47 (by decide) (by decide)).2.2.1 (h1 48 (by decide) (by decide)).1 (h1 48 (by decide) (by decide)).2.1 (h1 48 (by decide) (by decide)).2.2.1 ((h1 32 (by decide) (by decide)).2.2.2.1 (by decide)) ((h1 33 (by decide) (by decide)).2.2.2.1 (by decide)) ((h1 34 (by decide) (by decide)).2.2.2.1 (by decide)) ((h1 35 (by decide) (by decide)).2.2.2.1 (by decide)) ((h1 37 (by decide) (by decide)).2.2.2.1 (by decide)) ((h1 38 (by decide) (by decide)).2.2.2.1 (by decide)) ((h1 39 (by decide) (by decide)).2.2.2.1 (by decide)) ((h1 40 (by decide) (by decide)).2.2.2.1 (by decide)) ((h1 41 (by decide) (by decide)).2.2.2.1 (by decide)) ((h1 42 (by decide) (by decide)).2.2.2.1 (by decide)) ((h1 43 (by decide) (by decide)).2.2.2.1 (by decide)) ((h1 44 (by decide) (by decide)).2.2.2.1 (by decide)) ((h1 45 (by decide) (by decide)).2.2.2.1 (by decide)) ((h1 46 (by decide) (by decide)).2.2.2.1 (by decide)) ((h1 47 (by decide) (by decide)).2.2.2.1 (by decide)) ((h1 48 (by decide) (by decide)).2.2.2.1 (by decide)) ((h1 36 (by decide) (by decide)).2.2.2.2 rfl 0 (by decide)) ((h1 36 (by decide) (by decide)).2.2.2.2 rfl 1 (by decide)) ((h1 36 (by decide) (by decide)).2.2.2.2 rfl 2 (by decide)) ((h3 0).trans f0) ((h3 2).trans f2) ((h3 5).trans f5) ((h3 8).trans f8) ((h3 9).trans f9) ((h3 10).trans f10) ((h3 18).trans f18) ((h3 22).trans f22) ((h3 23).trans f23)