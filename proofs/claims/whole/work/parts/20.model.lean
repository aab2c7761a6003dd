/-! ===== THE REFERENCE'S STATE: M t k is what stands at place k of its field or array t, as a natural number ===== -/
abbrev MM : Type := Nat → Nat → Nat
def mlen : Nat → Nat
  | 32 => 40 | 33 => 800 | 34 => 40 | 35 => 4800 | 36 => 3 | 37 => 40 | 38 => 40 | 39 => 1600 | 40 => 40 | 41 => 9 | 42 => 9 | 43 => 20 | 44 => 6 | 45 => 60 | 46 => 60 | 47 => 40 | 48 => 36
  | _ => 0
def mok (t k : Nat) : Bool := if t = 31 then [0, 2, 5, 8, 9, 10, 18, 22, 23].contains k else decide (k < mlen t)
def mref (k : Nat) : Bool := [1, 3, 4, 6, 7, 11, 12, 13, 14, 15, 16, 17, 19, 20, 21, 24, 25].contains k
/-- how a number is held: bytes of the tape with their sign, rooms that may be NONE one less -/
def menc : Nat → Nat → Int32
  | 32, x => (nI x).toInt8.toInt32
  | 40, x => nI x - 1
  | 47, x => nI x - 1
  | _, x => nI x
def MR (Λ : LY) (σ : HS) (M : MM) : Prop := (∀ t k, mok t k = true → gI σ t 0 k = menc t (M t k)) ∧ (∀ t, 31 ≤ t → t ≤ 48 → gC Λ t = 1) ∧ (∀ t, 32 ≤ t → t ≤ 48 → gN Λ t 0 = mlen t) ∧ (∀ k, mref k = true → gV σ 31 0 k = some 0)
def mS (M : MM) (t k x : Nat) : MM := fun t' k' => if t' = t ∧ k' = k then x else M t' k'
theorem mS_same (M : MM) (t k x : Nat) : mS M t k x t k = x := by simp [mS]
theorem mS_ne {M : MM} {t k x t' k' : Nat} (h : t' ≠ t ∨ k' ≠ k) : mS M t k x t' k' = M t' k' := by
  unfold mS
  rw [if_neg]
  rintro ⟨h1, h2⟩
  exact h.elim (fun q => q h1) (fun q => q h2)
theorem mS_nk {M : MM} {t k x t' : Nat} (h : t' ≠ t) : mS M t k x t' = M t' := funext fun _ => mS_ne (Or.inl h)
theorem MR.in0 {Λ : LY} {σ : HS} {M : MM} (h : MR Λ σ M) {t : Nat} (h1 : 31 ≤ t) (h2 : t ≤ 48) : 0 < gC Λ t := by rw [h.2.1 t h1 h2]; decide
theorem MR.set {Λ : LY} {σ : HS} {M : MM} {t k x : Nat} {v : Int32} (h : MR Λ σ M) (hv : v = menc t x) : MR Λ (sI σ t 0 k v) (mS M t k x) := by
  refine ⟨fun t' k' hk => ?_, h.2.1, h.2.2.1, h.2.2.2⟩
  rw [gI_sI]
  unfold mS
  by_cases hz : t' = t ∧ k' = k
  · rw [if_pos ⟨hz.1, rfl, hz.2⟩, if_pos hz, hz.1]
    exact hv
  · rw [if_neg (fun z => hz ⟨z.1, z.2.2⟩), if_neg hz]
    exact h.1 t' k' hk
/-- the kinds that aren't the reference's -/
abbrev nMo : Nat → Prop := fun t => t < 31 ∨ 48 < t
theorem MR.same {Λ : LY} {σ u : HS} {M : MM} (h : MR Λ σ M) (hs : Same (fun t => 31 ≤ t ∧ t ≤ 48) σ u) : MR Λ u M := by
  refine ⟨fun t k hk => ?_, h.2.1, h.2.2.1, fun k hk => ?_⟩
  · by_cases ht : 31 ≤ t ∧ t ≤ 48
    · rw [(hs t ht).1]
      exact h.1 t k hk
    · exfalso
      have h31 : t ≠ 31 := by omega
      have hl : mlen t = 0 := by
        unfold mlen
        split <;> first | omega | rfl
      simp [mok, h31, hl] at hk
  · rw [(hs 31 (by omega)).2.2]
    exact h.2.2.2 k hk
theorem MR.ext {Λ : LY} {σ : HS} {M M' : MM} (h : MR Λ σ M) (he : ∀ t k, mok t k = true → M' t k = M t k) : MR Λ σ M' := ⟨fun t k hk => by rw [he t k hk]; exact h.1 t k hk, h.2⟩
