/-! ===== THE TYPED HEAP: kinds t, instances i, places k; ints gI, longs gJ, references gV (as instance numbers), how many gC, where gA, array lengths gN ===== -/
abbrev HS : Type := (Nat → Nat → Nat → Int32) × (Nat → Nat → Nat → Int64) × (Nat → Nat → Nat → Option Nat)
abbrev LY : Type := (Nat → Nat) × (Nat → Nat → Nat) × (Nat → Nat → Nat)
def gI (σ : HS) : Nat → Nat → Nat → Int32 := σ.1
def gJ (σ : HS) : Nat → Nat → Nat → Int64 := σ.2.1
def gV (σ : HS) : Nat → Nat → Nat → Option Nat := σ.2.2
def gC (Λ : LY) : Nat → Nat := Λ.1
def gA (Λ : LY) : Nat → Nat → Nat := Λ.2.1
def gN (Λ : LY) : Nat → Nat → Nat := Λ.2.2
def u3 {α : Type} (f : Nat → Nat → Nat → α) (t i k : Nat) (x : α) : Nat → Nat → Nat → α := fun t' i' k' => if t' = t ∧ i' = i ∧ k' = k then x else f t' i' k'
def u2 {α : Type} (f : Nat → Nat → Nat → α) (t i : Nat) (x : α) : Nat → Nat → Nat → α := fun t' i' k' => if t' = t ∧ i' = i then x else f t' i' k'
def v2 {α : Type} (f : Nat → Nat → α) (t i : Nat) (x : α) : Nat → Nat → α := fun t' i' => if t' = t ∧ i' = i then x else f t' i'
def v1 {α : Type} (f : Nat → α) (t : Nat) (x : α) : Nat → α := fun t' => if t' = t then x else f t'
def sI (σ : HS) (t i k : Nat) (x : Int32) : HS := (u3 σ.1 t i k x, σ.2)
def sJ (σ : HS) (t i k : Nat) (x : Int64) : HS := (σ.1, u3 σ.2.1 t i k x, σ.2.2)
def sV (σ : HS) (t i k : Nat) (x : Option Nat) : HS := (σ.1, σ.2.1, u3 σ.2.2 t i k x)
/-- a new thing of kind t at the address q, of length n, all its places empty -/
def nY (Λ : LY) (t q n : Nat) : LY := (v1 (gC Λ) t (gC Λ t + 1), v2 (gA Λ) t (gC Λ t) q, v2 (gN Λ) t (gC Λ t) n)
def nS (Λ : LY) (σ : HS) (t : Nat) : HS := (u2 (gI σ) t (gC Λ t) 0, u2 (gJ σ) t (gC Λ t) 0, u2 (gV σ) t (gC Λ t) none)
theorem gI_sI (σ : HS) (t i k : Nat) (x : Int32) (t' i' k' : Nat) : gI (sI σ t i k x) t' i' k' = if t' = t ∧ i' = i ∧ k' = k then x else gI σ t' i' k' := rfl
theorem gJ_sJ (σ : HS) (t i k : Nat) (x : Int64) (t' i' k' : Nat) : gJ (sJ σ t i k x) t' i' k' = if t' = t ∧ i' = i ∧ k' = k then x else gJ σ t' i' k' := rfl
theorem gV_sV (σ : HS) (t i k : Nat) (x : Option Nat) (t' i' k' : Nat) : gV (sV σ t i k x) t' i' k' = if t' = t ∧ i' = i ∧ k' = k then x else gV σ t' i' k' := rfl
theorem gI_sJ (σ : HS) (t i k : Nat) (x : Int64) : gI (sJ σ t i k x) = gI σ := rfl
theorem gI_sV (σ : HS) (t i k : Nat) (x : Option Nat) : gI (sV σ t i k x) = gI σ := rfl
theorem gJ_sI (σ : HS) (t i k : Nat) (x : Int32) : gJ (sI σ t i k x) = gJ σ := rfl
theorem gJ_sV (σ : HS) (t i k : Nat) (x : Option Nat) : gJ (sV σ t i k x) = gJ σ := rfl
theorem gV_sI (σ : HS) (t i k : Nat) (x : Int32) : gV (sI σ t i k x) = gV σ := rfl
theorem gV_sJ (σ : HS) (t i k : Nat) (x : Int64) : gV (sJ σ t i k x) = gV σ := rfl
theorem gI_same (σ : HS) (t i k : Nat) (x : Int32) : gI (sI σ t i k x) t i k = x := by simp [gI_sI]
theorem gJ_same (σ : HS) (t i k : Nat) (x : Int64) : gJ (sJ σ t i k x) t i k = x := by simp [gJ_sJ]
theorem gV_same (σ : HS) (t i k : Nat) (x : Option Nat) : gV (sV σ t i k x) t i k = x := by simp [gV_sV]
theorem gI_ne {σ : HS} {t i k : Nat} {x : Int32} {t' i' : Nat} (h : t' ≠ t ∨ i' ≠ i) : gI (sI σ t i k x) t' i' = gI σ t' i' := by
  funext k'
  rw [gI_sI, if_neg]
  rintro ⟨h1, h2, -⟩
  exact h.elim (fun q => q h1) (fun q => q h2)
theorem gJ_ne {σ : HS} {t i k : Nat} {x : Int64} {t' i' : Nat} (h : t' ≠ t ∨ i' ≠ i) : gJ (sJ σ t i k x) t' i' = gJ σ t' i' := by
  funext k'
  rw [gJ_sJ, if_neg]
  rintro ⟨h1, h2, -⟩
  exact h.elim (fun q => q h1) (fun q => q h2)
theorem gV_ne {σ : HS} {t i k : Nat} {x : Option Nat} {t' i' : Nat} (h : t' ≠ t ∨ i' ≠ i) : gV (sV σ t i k x) t' i' = gV σ t' i' := by
  funext k'
  rw [gV_sV, if_neg]
  rintro ⟨h1, h2, -⟩
  exact h.elim (fun q => q h1) (fun q => q h2)
/-- another kind's ints -/
theorem gI_nk {σ : HS} {t i k : Nat} {x : Int32} {t' : Nat} (h : t' ≠ t) : gI (sI σ t i k x) t' = gI σ t' := funext fun _ => gI_ne (Or.inl h)
theorem gJ_nk {σ : HS} {t i k : Nat} {x : Int64} {t' : Nat} (h : t' ≠ t) : gJ (sJ σ t i k x) t' = gJ σ t' := funext fun _ => gJ_ne (Or.inl h)
theorem gV_nk {σ : HS} {t i k : Nat} {x : Option Nat} {t' : Nat} (h : t' ≠ t) : gV (sV σ t i k x) t' = gV σ t' := funext fun _ => gV_ne (Or.inl h)
-- the kinds
/-- objects: the number of the class in vwCl -/
def kC : Nat → Option Nat
  | 0 => some 13 | 1 => some 10 | 3 => some 7 | 8 => some 8 | 14 => some 3 | 15 => some 2 | 17 => some 12 | 18 => some 5 | 20 => some 9 | 23 => some 11 | 25 => some 6 | 27 => some 4 | 31 => some 14
  | _ => none
/-- their fields: 0 an int, 1 a long, 2 a reference to a thing of that kind, 3 the same, but where its int is 1 it points at 'gA Λ 50 0', which is no thing of this heap -/
def kF : Nat → List (Nat × Nat)
  | 0 => [(2, 1), (2, 1), (2, 3), (2, 14), (2, 18), (2, 20), (2, 23), (2, 25), (2, 27)]
  | 1 => [(2, 2), (0, 0)]
  | 3 => [(2, 4), (2, 5), (2, 6), (2, 7), (0, 0), (0, 0)]
  | 8 => [(0, 0), (1, 0), (2, 1), (2, 9), (2, 11), (2, 12), (2, 13), (1, 0), (1, 0), (1, 0), (0, 0), (0, 0), (0, 0)]
  | 14 => [(2, 15)]
  | 15 => [(0, 0), (3, 16), (0, 0)]
  | 17 => [(2, 1), (1, 0)]
  | 18 => [(2, 3), (2, 19), (1, 0), (2, 8), (2, 8), (0, 0)]
  | 20 => [(2, 3), (2, 21), (2, 22), (1, 0)]
  | 23 => [(2, 3), (2, 24)]
  | 25 => [(2, 26), (0, 0)]
  | 27 => [(2, 28), (2, 29), (0, 0)]
  | 31 => [(0, 0), (2, 32), (0, 0), (2, 33), (2, 34), (0, 0), (2, 35), (2, 36), (0, 0), (0, 0), (0, 0), (2, 37), (2, 38), (2, 39), (2, 40), (2, 41), (2, 42), (2, 43), (0, 0), (2, 44), (2, 45), (2, 46), (0, 0), (0, 0), (2, 47), (2, 48)]
  | _ => []
/-- arrays: 0 bytes, 1 ints, 2 longs, 3 booleans, 4 Routines, 5 Objects, 6 rows of ints -/
def kA : Nat → Nat
  | 2 => 0 | 4 => 4 | 5 => 4 | 7 => 2 | 9 => 6 | 13 => 2 | 16 => 5 | 26 => 2 | 29 => 6 | 32 => 0 | 33 => 0 | 37 => 3 | 43 => 0 | 49 => 2
  | _ => 1
/-- what an array's references point at -/
def kT : Nat → Nat
  | 4 => 8 | 5 => 8 | 9 => 10 | 16 => 17 | 29 => 30
  | _ => 0
def kv (Λ : LY) (σ : HS) (t i k : Nat) (f : Nat × Nat) : Value := match f.1 with
  | 0 => .int (gI σ t i k)
  | 1 => .long (gJ σ t i k)
  | 2 => va_rf ((gV σ t i k).map (gA Λ f.2))
  | _ => if gI σ t i k = 1 then .ref (gA Λ 50 0) else va_rf ((gV σ t i k).map (gA Λ f.2))
def kfs (Λ : LY) (σ : HS) (t i : Nat) : List Value := (kF t).mapIdx (fun k f => kv Λ σ t i k f)
def kcell (cy : Nat → ClassId) (Λ : LY) (σ : HS) (t i : Nat) : va_E := match kC t with
  | some ci => .inr (ci, kfs Λ σ t i)
  | none => if kA t = 2 then .inl (cy 2, gN Λ t i, .inr (.inl (gJ σ t i))) else if kA t < 4 then .inl (cy (kA t), gN Λ t i, .inl (gI σ t i)) else .inl (cy (kA t), gN Λ t i, .inr (.inr (.inr (.inr (fun k => (gV σ t i k).map (gA Λ (kT t)))))))
theorem kcell_o {cy : Nat → ClassId} {Λ : LY} {σ : HS} {t i ci : Nat} (h : kC t = some ci) : kcell cy Λ σ t i = .inr (ci, kfs Λ σ t i) := by unfold kcell; rw [h]
theorem kcell_j {cy : Nat → ClassId} {Λ : LY} {σ : HS} {t i : Nat} (h : kC t = none) (h2 : kA t = 2) : kcell cy Λ σ t i = .inl (cy 2, gN Λ t i, .inr (.inl (gJ σ t i))) := by unfold kcell; rw [h]; simp [h2]
theorem kcell_i {cy : Nat → ClassId} {Λ : LY} {σ : HS} {t i : Nat} (h : kC t = none) (h2 : kA t ≠ 2) (h3 : kA t < 4) : kcell cy Λ σ t i = .inl (cy (kA t), gN Λ t i, .inl (gI σ t i)) := by unfold kcell; rw [h]; simp [h2, h3]
theorem kcell_v {cy : Nat → ClassId} {Λ : LY} {σ : HS} {t i : Nat} (h : kC t = none) (h3 : ¬ kA t < 4) : kcell cy Λ σ t i = .inl (cy (kA t), gN Λ t i, .inr (.inr (.inr (.inr (fun k => (gV σ t i k).map (gA Λ (kT t))))))) := by unfold kcell; rw [h]; simp [show kA t ≠ 2 by omega, h3]
theorem kfs_at {Λ : LY} {σ : HS} {t i k : Nat} {f : Nat × Nat} (h : (kF t)[k]? = some f) : (kfs Λ σ t i)[k]? = some (kv Λ σ t i k f) := by
  unfold kfs
  rw [List.getElem?_mapIdx, h]
  rfl
theorem kfs_len {Λ : LY} {σ : HS} {t i : Nat} : (kfs Λ σ t i).length = (kF t).length := by unfold kfs; exact List.length_mapIdx
theorem kfs_set {Λ : LY} {σ σ' : HS} {t i k : Nat} {f : Nat × Nat} {v : Value} (h : (kF t)[k]? = some f) (hv : kv Λ σ' t i k f = v) (ho : ∀ j g, j ≠ k → (kF t)[j]? = some g → kv Λ σ' t i j g = kv Λ σ t i j g) : (kfs Λ σ t i).set k v = kfs Λ σ' t i := by
  apply List.ext_getElem?
  intro j
  have hl : k < (kfs Λ σ t i).length := by rw [kfs_len]; exact (List.getElem?_eq_some_iff.mp h).1
  by_cases hj : j = k
  · subst hj
    rw [List.getElem?_set_self hl, kfs_at h, hv]
  · rw [List.getElem?_set_ne (Ne.symm hj)]
    unfold kfs
    rw [List.getElem?_mapIdx, List.getElem?_mapIdx]
    cases hg : (kF t)[j]? with
    | none => rfl
    | some g => simp only [Option.map_some]; rw [ho j g hj hg]
/-- what the references of a place point at -/
def kt (t k : Nat) : Nat := match kC t with
  | some _ => ((kF t)[k]?.getD (0, 0)).2
  | none => kT t
theorem kt_o {t k ci : Nat} {f : Nat × Nat} (h : kC t = some ci) (hf : (kF t)[k]? = some f) : kt t k = f.2 := by unfold kt; rw [h, hf]; rfl
theorem kt_a {t k : Nat} (h : kC t = none) : kt t k = kT t := by unfold kt; rw [h]
theorem kcell_eq {cy : Nat → ClassId} {Λ Λ' : LY} {σ σ' : HS} {t i : Nat} (hI : gI σ' t i = gI σ t i) (hJ : gJ σ' t i = gJ σ t i) (hV : gV σ' t i = gV σ t i) (hN : gN Λ' t i = gN Λ t i) (hA : ∀ k, (gV σ t i k).map (gA Λ' (kt t k)) = (gV σ t i k).map (gA Λ (kt t k))) (hX : gA Λ' 50 0 = gA Λ 50 0 := by rfl) : kcell cy Λ' σ' t i = kcell cy Λ σ t i := by
  cases hc : kC t with
  | some ci =>
    rw [kcell_o hc, kcell_o hc]
    congr 2
    apply List.ext_getElem?
    intro j
    unfold kfs
    rw [List.getElem?_mapIdx, List.getElem?_mapIdx]
    cases hg : (kF t)[j]? with
    | none => rfl
    | some g =>
      simp only [Option.map_some]
      have h := hA j
      rw [kt_o hc hg] at h
      unfold kv
      rw [hI, hJ, hV, h, hX]
  | none =>
    unfold kcell
    rw [hc]
    have h : (fun k => (gV σ' t i k).map (gA Λ' (kT t))) = (fun k => (gV σ t i k).map (gA Λ (kT t))) := by
      funext k
      have h := hA k
      rw [kt_a hc] at h
      rw [hV, h]
    simp only [hI, hJ, hN, h]
/-- the world: the heap holds every thing of the typed heap, apart from each other, at base or above -/
abbrev Ab (base : Nat) : Nat → Prop := fun q => base ≤ q
def Rw (cy : Nat → ClassId) (Λ : LY) (σ : HS) (ws : va_W) : Prop := (∀ t i, i < gC Λ t → ∃ k : Nat, ws[k]? = some (gA Λ t i, kcell cy Λ σ t i)) ∧ (∀ (k : Nat) (q : Nat × va_E), ws[k]? = some q → ∃ t i, i < gC Λ t ∧ q = (gA Λ t i, kcell cy Λ σ t i)) ∧ (∀ t i t' i', i < gC Λ t → i' < gC Λ t' → gA Λ t i = gA Λ t' i' → t = t' ∧ i = i') ∧ (∀ t i k j, i < gC Λ t → gV σ t i k = some j → j < gC Λ (kt t k))
def Rp (D : va_G) (cy : Nat → ClassId) (base : Nat) (Λ : LY) (σ : HS) (H : Heap) : Prop := ∃ ws : va_W, va_P D vwCl ws H ∧ va_D (Ab base) ws ∧ Rw cy Λ σ ws
theorem Rw.set {cy : Nat → ClassId} {Λ : LY} {σ σ' : HS} {ws : va_W} {A : Nat → Prop} {t i k : Nat} {e : va_E} (h : Rw cy Λ σ ws) (hD : va_D A ws) (hi : i < gC Λ t) (hk : ws[k]? = some (gA Λ t i, kcell cy Λ σ t i)) (he : kcell cy Λ σ' t i = e) (ho : ∀ t' i', (t' ≠ t ∨ i' ≠ i) → kcell cy Λ σ' t' i' = kcell cy Λ σ t' i') (hr : ∀ t i k j, i < gC Λ t → gV σ' t i k = some j → j < gC Λ (kt t k)) : Rw cy Λ σ' (ws.set k (gA Λ t i, e)) := by
  have hl := (List.getElem?_eq_some_iff.mp hk).1
  obtain ⟨h1, h2, h3, -⟩ := h
  refine ⟨fun t' i' hi' => ?_, fun j q hj => ?_, ?_, ?_⟩
  · by_cases hq : t' = t ∧ i' = i
    · obtain ⟨rfl, rfl⟩ := hq
      exact ⟨k, by rw [List.getElem?_set_self hl, he]⟩
    · have hq : t' ≠ t ∨ i' ≠ i := by
        by_cases q1 : t' = t
        · exact Or.inr (fun q2 => hq ⟨q1, q2⟩)
        · exact Or.inl q1
      obtain ⟨j, hj⟩ := h1 t' i' hi'
      refine ⟨j, ?_⟩
      have hjk : k ≠ j := by
        intro z
        subst z
        rw [hk] at hj
        have := Prod.mk.inj (Option.some.inj hj)
        obtain ⟨a, b⟩ := h3 _ _ _ _ hi hi' this.1
        exact hq.elim (fun q => q a.symm) (fun q => q b.symm)
      rw [List.getElem?_set_ne hjk, hj, ho t' i' hq]
  · by_cases hjk : k = j
    · subst hjk
      rw [List.getElem?_set_self hl] at hj
      exact ⟨t, i, hi, by rw [he]; exact (Option.some.inj hj).symm⟩
    · rw [List.getElem?_set_ne hjk] at hj
      obtain ⟨t', i', hi', hq⟩ := h2 j q hj
      refine ⟨t', i', hi', ?_⟩
      rw [hq]
      by_cases hne : t' = t ∧ i' = i
      · obtain ⟨rfl, rfl⟩ := hne
        exact absurd (hD.1 k j _ _ hk hj (by rw [hq])) hjk
      · rw [ho t' i' (by by_cases q1 : t' = t; exact Or.inr (fun q2 => hne ⟨q1, q2⟩); exact Or.inl q1)]
  · exact h3
  · exact hr
theorem gC_nL (Λ : LY) (t q n t' : Nat) : gC (nY Λ t q n) t' = if t' = t then gC Λ t + 1 else gC Λ t' := rfl
theorem gA_nL (Λ : LY) (t q n t' i' : Nat) : gA (nY Λ t q n) t' i' = if t' = t ∧ i' = gC Λ t then q else gA Λ t' i' := rfl
theorem gN_nL (Λ : LY) (t q n t' i' : Nat) : gN (nY Λ t q n) t' i' = if t' = t ∧ i' = gC Λ t then n else gN Λ t' i' := rfl
theorem gI_nS (Λ : LY) (σ : HS) (t t' i' k' : Nat) : gI (nS Λ σ t) t' i' k' = if t' = t ∧ i' = gC Λ t then 0 else gI σ t' i' k' := rfl
theorem gJ_nS (Λ : LY) (σ : HS) (t t' i' k' : Nat) : gJ (nS Λ σ t) t' i' k' = if t' = t ∧ i' = gC Λ t then 0 else gJ σ t' i' k' := rfl
theorem gV_nS (Λ : LY) (σ : HS) (t t' i' k' : Nat) : gV (nS Λ σ t) t' i' k' = if t' = t ∧ i' = gC Λ t then none else gV σ t' i' k' := rfl
theorem nW_old {Λ : LY} {t t' i' : Nat} (h : i' < gC Λ t') : ¬ (t' = t ∧ i' = gC Λ t) := by
  rintro ⟨rfl, rfl⟩
  exact Nat.lt_irrefl _ h
theorem Rw.new {cy : Nat → ClassId} {Λ : LY} {σ : HS} {ws : va_W} {A : Nat → Prop} {t q n : Nat} {e : va_E} (ht : t ≠ 50) (h : Rw cy Λ σ ws) (hD' : va_D A (ws ++ [(q, e)])) (he : kcell cy (nY Λ t q n) (nS Λ σ t) t (gC Λ t) = e) : Rw cy (nY Λ t q n) (nS Λ σ t) (ws ++ [(q, e)]) := by
  obtain ⟨h1, h2, h3, h4⟩ := h
  have hnew : ∀ t' i', i' < gC Λ t' → gA Λ t' i' ≠ q := by
    intro t' i' hi' z
    obtain ⟨k, hk⟩ := h1 t' i' hi'
    have hl := (List.getElem?_eq_some_iff.mp hk).1
    have e1 : (ws ++ [(q, e)])[k]? = some (gA Λ t' i', kcell cy Λ σ t' i') := by rw [List.getElem?_append_left hl]; exact hk
    have e2 : (ws ++ [(q, e)])[ws.length]? = some (q, e) := by simp
    have := hD'.1 k ws.length _ _ e1 e2 z
    omega
  have hold : ∀ t' i', i' < gC Λ t' → kcell cy (nY Λ t q n) (nS Λ σ t) t' i' = kcell cy Λ σ t' i' := by
    intro t' i' hi'
    have hn := nW_old (t := t) hi'
    refine kcell_eq (funext fun k => ?_) (funext fun k => ?_) (funext fun k => ?_) ?_ (fun k => ?_) (by rw [gA_nL, if_neg (fun z => ht z.1.symm)])
    · rw [gI_nS, if_neg hn]
    · rw [gJ_nS, if_neg hn]
    · rw [gV_nS, if_neg hn]
    · rw [gN_nL, if_neg hn]
    · cases hv : gV σ t' i' k with
      | none => rfl
      | some j =>
        simp only [Option.map_some]
        rw [gA_nL, if_neg (nW_old (h4 _ _ _ _ hi' hv))]
  have hcnt : ∀ t' i', i' < gC (nY Λ t q n) t' → i' < gC Λ t' ∨ (t' = t ∧ i' = gC Λ t) := by
    intro t' i' hi'
    rw [gC_nL] at hi'
    by_cases ht : t' = t
    · subst ht
      rw [if_pos rfl] at hi'
      by_cases hz : i' < gC Λ t'
      · exact Or.inl hz
      · exact Or.inr ⟨rfl, by omega⟩
    · rw [if_neg ht] at hi'
      exact Or.inl hi'
  have hup : ∀ t' i', i' < gC Λ t' → i' < gC (nY Λ t q n) t' := by
    intro t' i' hi'
    rw [gC_nL]
    by_cases ht : t' = t
    · subst ht
      rw [if_pos rfl]
      omega
    · rw [if_neg ht]
      exact hi'
  have hself : gC Λ t < gC (nY Λ t q n) t := by rw [gC_nL, if_pos rfl]; omega
  have hAo : ∀ t' i', i' < gC Λ t' → gA (nY Λ t q n) t' i' = gA Λ t' i' := fun t' i' hi' => by rw [gA_nL, if_neg (nW_old hi')]
  have hAn : gA (nY Λ t q n) t (gC Λ t) = q := by rw [gA_nL, if_pos ⟨rfl, rfl⟩]
  refine ⟨fun t' i' hi' => ?_, fun j x hj => ?_, fun a i b j hi hj hij => ?_, fun a i k j hi hv => ?_⟩
  · rcases hcnt t' i' hi' with h | ⟨rfl, rfl⟩
    · obtain ⟨k, hk⟩ := h1 t' i' h
      have hl := (List.getElem?_eq_some_iff.mp hk).1
      exact ⟨k, by rw [List.getElem?_append_left hl, hAo t' i' h, hold t' i' h]; exact hk⟩
    · exact ⟨ws.length, by rw [hAn, he]; simp⟩
  · by_cases hl : j < ws.length
    · rw [List.getElem?_append_left hl] at hj
      obtain ⟨t', i', hi', hx⟩ := h2 j x hj
      exact ⟨t', i', hup t' i' hi', by rw [hAo t' i' hi', hold t' i' hi']; exact hx⟩
    · rw [List.getElem?_append_right (by omega)] at hj
      have hz : j - ws.length < 1 := (List.getElem?_eq_some_iff.mp hj).1
      rw [show j - ws.length = 0 by omega] at hj
      exact ⟨t, gC Λ t, hself, by rw [hAn, he]; exact (Option.some.inj hj).symm⟩
  · rcases hcnt a i hi with h | ⟨rfl, rfl⟩ <;> rcases hcnt b j hj with g | ⟨rfl, rfl⟩
    · rw [hAo a i h, hAo b j g] at hij
      exact h3 _ _ _ _ h g hij
    · rw [hAo a i h, hAn] at hij
      exact absurd hij (hnew a i h)
    · rw [hAo b j g, hAn] at hij
      exact absurd hij.symm (hnew b j g)
    · exact ⟨rfl, rfl⟩
  · rw [gV_nS] at hv
    by_cases hz : a = t ∧ i = gC Λ t
    · rw [if_pos hz] at hv
      cases hv
    · rw [if_neg hz] at hv
      rcases hcnt a i hi with h | h
      · exact hup _ _ (h4 a i k j h hv)
      · exact absurd h hz
