/-! ===== a new routine ===== -/
theorem Kp.nS2 {Λ : LY} {σ : HS} {t tr N : Nat} : Kp Λ σ (nS2 Λ σ t tr N) := fun t' i hi => ⟨funext fun k => by rw [gI_2, if_neg (n2_old (t := t) (tr := tr) hi).1, if_neg (n2_old (t := t) (tr := tr) hi).2], funext fun k => by rw [gJ_2, if_neg (n2_old (t := t) (tr := tr) hi).1, if_neg (n2_old (t := t) (tr := tr) hi).2], funext fun k => by rw [gV_2, if_neg (n2_old (t := t) (tr := tr) hi).1, if_neg (n2_old (t := t) (tr := tr) hi).2]⟩
def rtS (Λ L1 La Lb Lc : LY) (σ : HS) (i n j : Nat) : HS := sJ (sV (sI (sI (sV (nS Lc (sV (nS Lb (sV (nS La (sV (nS2 L1 (nS Λ σ 8) 9 10 3) 8 i 3 (some (gC L1 9))) 11) 8 i 4 (some (gC La 11))) 12) 8 i 5 (some (gC Lb 12))) 13) 8 i 6 (some (gC Lc 13))) 8 i 10 ((-1))) 8 i 0 (nI n)) 8 i 2 (some j)) 8 i 1 (lN (2 ^ n))
/-- what the new routine is made of -/
def RT (Λ Ld : LY) (σ σd : HS) (n j : Nat) : Prop := (∀ t, t = 8 ∨ t = 9 ∨ t = 11 ∨ t = 12 ∨ t = 13 → gC Ld t = n + 1) ∧ (gC Ld 10 = 3 * n + 3) ∧ (∀ t, t ≠ 8 → t ≠ 9 → t ≠ 10 → t ≠ 11 → t ≠ 12 → t ≠ 13 → gC Ld t = gC Λ t) ∧ (gN Ld 9 n = 3) ∧ (gN Ld 11 n = 40) ∧ (gN Ld 12 n = 40) ∧ (gN Ld 13 n = 6) ∧ (∀ i, 3 * n ≤ i → i < 3 * n + 3 → gN Ld 10 i = 40) ∧ (Gw Λ Ld) ∧ (Kp Λ σ σd) ∧ (gI σd 8 n 0 = nI n) ∧ (gI σd 8 n 10 = -1) ∧ (gI σd 8 n 11 = 0) ∧ (gI σd 8 n 12 = 0) ∧ (gJ σd 8 n 1 = lN (2 ^ n)) ∧ (gJ σd 8 n 7 = 0) ∧ (gJ σd 8 n 8 = 0) ∧ (gJ σd 8 n 9 = 0) ∧ (gV σd 8 n 2 = some j) ∧ (∀ k, 3 ≤ k → k < 7 → gV σd 8 n k = some n) ∧ (∀ k, k < 3 → gV σd 9 n k = some (3 * n + k)) ∧ (∀ i k, 3 * n ≤ i → gI σd 10 i k = 0) ∧ (∀ k, gI σd 11 n k = 0) ∧ (∀ k, gI σd 12 n k = 0)
theorem RT.cn {Λ Ld : LY} {σ σd : HS} {n j : Nat} (h : RT Λ Ld σ σd n j) : ∀ t, t = 8 ∨ t = 9 ∨ t = 11 ∨ t = 12 ∨ t = 13 → gC Ld t = n + 1 := h.1
theorem RT.c10 {Λ Ld : LY} {σ σd : HS} {n j : Nat} (h : RT Λ Ld σ σd n j) : gC Ld 10 = 3 * n + 3 := h.2.1
theorem RT.co {Λ Ld : LY} {σ σd : HS} {n j : Nat} (h : RT Λ Ld σ σd n j) : ∀ t, t ≠ 8 → t ≠ 9 → t ≠ 10 → t ≠ 11 → t ≠ 12 → t ≠ 13 → gC Ld t = gC Λ t := h.2.2.1
theorem RT.l9 {Λ Ld : LY} {σ σd : HS} {n j : Nat} (h : RT Λ Ld σ σd n j) : gN Ld 9 n = 3 := h.2.2.2.1
theorem RT.l11 {Λ Ld : LY} {σ σd : HS} {n j : Nat} (h : RT Λ Ld σ σd n j) : gN Ld 11 n = 40 := h.2.2.2.2.1
theorem RT.l12 {Λ Ld : LY} {σ σd : HS} {n j : Nat} (h : RT Λ Ld σ σd n j) : gN Ld 12 n = 40 := h.2.2.2.2.2.1
theorem RT.l13 {Λ Ld : LY} {σ σd : HS} {n j : Nat} (h : RT Λ Ld σ σd n j) : gN Ld 13 n = 6 := h.2.2.2.2.2.2.1
theorem RT.l10 {Λ Ld : LY} {σ σd : HS} {n j : Nat} (h : RT Λ Ld σ σd n j) : ∀ i, 3 * n ≤ i → i < 3 * n + 3 → gN Ld 10 i = 40 := h.2.2.2.2.2.2.2.1
theorem RT.gw {Λ Ld : LY} {σ σd : HS} {n j : Nat} (h : RT Λ Ld σ σd n j) : Gw Λ Ld := h.2.2.2.2.2.2.2.2.1
theorem RT.kp {Λ Ld : LY} {σ σd : HS} {n j : Nat} (h : RT Λ Ld σ σd n j) : Kp Λ σ σd := h.2.2.2.2.2.2.2.2.2.1
theorem RT.i0 {Λ Ld : LY} {σ σd : HS} {n j : Nat} (h : RT Λ Ld σ σd n j) : gI σd 8 n 0 = nI n := h.2.2.2.2.2.2.2.2.2.2.1
theorem RT.i10 {Λ Ld : LY} {σ σd : HS} {n j : Nat} (h : RT Λ Ld σ σd n j) : gI σd 8 n 10 = -1 := h.2.2.2.2.2.2.2.2.2.2.2.1
theorem RT.i11 {Λ Ld : LY} {σ σd : HS} {n j : Nat} (h : RT Λ Ld σ σd n j) : gI σd 8 n 11 = 0 := h.2.2.2.2.2.2.2.2.2.2.2.2.1
theorem RT.i12 {Λ Ld : LY} {σ σd : HS} {n j : Nat} (h : RT Λ Ld σ σd n j) : gI σd 8 n 12 = 0 := h.2.2.2.2.2.2.2.2.2.2.2.2.2.1
theorem RT.j1 {Λ Ld : LY} {σ σd : HS} {n j : Nat} (h : RT Λ Ld σ σd n j) : gJ σd 8 n 1 = lN (2 ^ n) := h.2.2.2.2.2.2.2.2.2.2.2.2.2.2.1
theorem RT.j7 {Λ Ld : LY} {σ σd : HS} {n j : Nat} (h : RT Λ Ld σ σd n j) : gJ σd 8 n 7 = 0 := h.2.2.2.2.2.2.2.2.2.2.2.2.2.2.2.1
theorem RT.j8 {Λ Ld : LY} {σ σd : HS} {n j : Nat} (h : RT Λ Ld σ σd n j) : gJ σd 8 n 8 = 0 := h.2.2.2.2.2.2.2.2.2.2.2.2.2.2.2.2.1
theorem RT.j9 {Λ Ld : LY} {σ σd : HS} {n j : Nat} (h : RT Λ Ld σ σd n j) : gJ σd 8 n 9 = 0 := h.2.2.2.2.2.2.2.2.2.2.2.2.2.2.2.2.2.1
theorem RT.v2 {Λ Ld : LY} {σ σd : HS} {n j : Nat} (h : RT Λ Ld σ σd n j) : gV σd 8 n 2 = some j := h.2.2.2.2.2.2.2.2.2.2.2.2.2.2.2.2.2.2.1
theorem RT.v3 {Λ Ld : LY} {σ σd : HS} {n j : Nat} (h : RT Λ Ld σ σd n j) : ∀ k, 3 ≤ k → k < 7 → gV σd 8 n k = some n := h.2.2.2.2.2.2.2.2.2.2.2.2.2.2.2.2.2.2.2.1
theorem RT.v9 {Λ Ld : LY} {σ σd : HS} {n j : Nat} (h : RT Λ Ld σ σd n j) : ∀ k, k < 3 → gV σd 9 n k = some (3 * n + k) := h.2.2.2.2.2.2.2.2.2.2.2.2.2.2.2.2.2.2.2.2.1
theorem RT.z10 {Λ Ld : LY} {σ σd : HS} {n j : Nat} (h : RT Λ Ld σ σd n j) : ∀ i k, 3 * n ≤ i → gI σd 10 i k = 0 := h.2.2.2.2.2.2.2.2.2.2.2.2.2.2.2.2.2.2.2.2.2.1
theorem RT.z11 {Λ Ld : LY} {σ σd : HS} {n j : Nat} (h : RT Λ Ld σ σd n j) : ∀ k, gI σd 11 n k = 0 := h.2.2.2.2.2.2.2.2.2.2.2.2.2.2.2.2.2.2.2.2.2.2.1
theorem RT.z12 {Λ Ld : LY} {σ σd : HS} {n j : Nat} (h : RT Λ Ld σ σd n j) : ∀ k, gI σd 12 n k = 0 := h.2.2.2.2.2.2.2.2.2.2.2.2.2.2.2.2.2.2.2.2.2.2.2
theorem RT.mk' {Λ L1 La Lb Lc Ld : LY} {σ : HS} {n j q8 q1 q2 q3 q4 : Nat} {r1 : Nat → Nat} (h8 : gC Λ 8 = n) (h9 : gC Λ 9 = n) (h10 : gC Λ 10 = 3 * n) (h11 : gC Λ 11 = n) (h12 : gC Λ 12 = n) (h13 : gC Λ 13 = n) (e1 : L1 = nY Λ 8 q8 0) (e2 : La = nY2 L1 9 10 q1 3 40 r1) (e3 : Lb = nY La 11 q2 40) (e4 : Lc = nY Lb 12 q3 40) (e5 : Ld = nY Lc 13 q4 6) : RT Λ Ld σ (rtS Λ L1 La Lb Lc σ n n j) n j := by
  have g1 : Gw Λ L1 := by rw [e1]; exact Gw.nY (by decide)
  have g2 : Gw L1 La := by rw [e2]; exact Gw.nY2 (by decide) (by decide)
  have g3 : Gw La Lb := by rw [e3]; exact Gw.nY (by decide)
  have g4 : Gw Lb Lc := by rw [e4]; exact Gw.nY (by decide)
  have g5 : Gw Lc Ld := by rw [e5]; exact Gw.nY (by decide)
  have a9 : gC L1 9 = n := by rw [e1, gC_ne (by decide)]; exact h9
  have a10 : gC L1 10 = 3 * n := by rw [e1, gC_ne (by decide)]; exact h10
  have a11 : gC La 11 = n := by rw [e2, gC_ne2 (by decide) (by decide), e1, gC_ne (by decide)]; exact h11
  have a12 : gC Lb 12 = n := by rw [e3, gC_ne (by decide), e2, gC_ne2 (by decide) (by decide), e1, gC_ne (by decide)]; exact h12
  have a13 : gC Lc 13 = n := by rw [e4, gC_ne (by decide), e3, gC_ne (by decide), e2, gC_ne2 (by decide) (by decide), e1, gC_ne (by decide)]; exact h13
  have kp : Kp Λ σ (rtS Λ L1 La Lb Lc σ n n j) := by
    have k1 : Kp Λ σ (nS2 L1 (nS Λ σ 8) 9 10 3) := Kp.tr Kp.nS g1 Kp.nS2
    have k2 := Kp.sV (t := 8) (i := n) (k := 3) (x := some (gC L1 9)) k1 (by omega)
    have k3 := Kp.sV (t := 8) (i := n) (k := 4) (x := some (gC La 11)) (Kp.tr k2 (g1.tr g2) (Kp.nS (t := 11))) (by omega)
    have k4 := Kp.sV (t := 8) (i := n) (k := 5) (x := some (gC Lb 12)) (Kp.tr k3 ((g1.tr g2).tr g3) (Kp.nS (t := 12))) (by omega)
    have k5 := Kp.sV (t := 8) (i := n) (k := 6) (x := some (gC Lc 13)) (Kp.tr k4 (((g1.tr g2).tr g3).tr g4) (Kp.nS (t := 13))) (by omega)
    exact Kp.sJ (Kp.sV (Kp.sI (Kp.sI k5 (by omega)) (by omega)) (by omega)) (by omega)
  refine ⟨fun t ht => ?_, ?_, fun t b1 b2 b3 b4 b5 b6 => ?_, ?_, ?_, ?_, ?_, fun i i1 i2 => ?_, (((g1.tr g2).tr g3).tr g4).tr g5, kp, ?_, ?_, ?_, ?_, ?_, ?_, ?_, ?_, ?_, fun k k1 k2 => ?_, fun k k1 => ?_, fun i k i1 => ?_, fun k => ?_, fun k => ?_⟩
  · rcases ht with e | e | e | e | e <;> subst e
    · rw [e5, gC_ne (by decide), e4, gC_ne (by decide), e3, gC_ne (by decide), e2, gC_ne2 (by decide) (by decide), e1, gC_nL, if_pos rfl, h8]
    · rw [e5, gC_ne (by decide), e4, gC_ne (by decide), e3, gC_ne (by decide), e2, gC_2, if_pos rfl, a9]
    · rw [e5, gC_ne (by decide), e4, gC_ne (by decide), e3, gC_nL, if_pos rfl, a11]
    · rw [e5, gC_ne (by decide), e4, gC_nL, if_pos rfl, a12]
    · rw [e5, gC_nL, if_pos rfl, a13]
  · rw [e5, gC_ne (by decide), e4, gC_ne (by decide), e3, gC_ne (by decide), e2, gC_2, if_neg (by decide), if_pos rfl, a10]
  · rw [e5, gC_ne b6, e4, gC_ne b5, e3, gC_ne b4, e2, gC_ne2 b2 b3, e1, gC_ne b1]
  · rw [e5, gN_ne (by decide), e4, gN_ne (by decide), e3, gN_ne (by decide), e2, gN_2, if_pos ⟨rfl, a9.symm⟩]
  · rw [e5, gN_ne (by decide), e4, gN_ne (by decide), e3, gN_nL, if_pos ⟨rfl, a11.symm⟩]
  · rw [e5, gN_ne (by decide), e4, gN_nL, if_pos ⟨rfl, a12.symm⟩]
  · rw [e5, gN_nL, if_pos ⟨rfl, a13.symm⟩]
  · rw [e5, gN_ne (by decide), e4, gN_ne (by decide), e3, gN_ne (by decide), e2, gN_2, if_neg (by omega), if_pos ⟨rfl, by omega⟩]
  all_goals unfold rtS
  · simp [gI_sJ, gI_sV, gI_sI]
  · simp [gI_sJ, gI_sV, gI_sI]
  · simp [gI_sJ, gI_sV, gI_sI, gI_nS, gI_2, h8]
  · simp [gI_sJ, gI_sV, gI_sI, gI_nS, gI_2, h8]
  · simp [gJ_sJ]
  · simp [gJ_sJ, gJ_sV, gJ_sI, gJ_nS, gJ_2, h8]
  · simp [gJ_sJ, gJ_sV, gJ_sI, gJ_nS, gJ_2, h8]
  · simp [gJ_sJ, gJ_sV, gJ_sI, gJ_nS, gJ_2, h8]
  · simp [gV_sJ, gV_sV]
  · rcases (show k = 3 ∨ k = 4 ∨ k = 5 ∨ k = 6 by omega) with e | e | e | e <;> subst e
    · simp [gV_sJ, gV_sV, gV_sI, gV_nS, a9]
    · simp [gV_sJ, gV_sV, gV_sI, gV_nS, a11]
    · simp [gV_sJ, gV_sV, gV_sI, gV_nS, a12]
    · simp [gV_sJ, gV_sV, gV_sI, gV_nS, a13]
  · simp [gV_sJ, gV_sV, gV_sI, gV_nS, gV_2, a9, a10, k1]
  · simp [gI_sJ, gI_sV, gI_sI, gI_nS, gI_2, a10, i1]
  · simp [gI_sJ, gI_sV, gI_sI, gI_nS, a11]
  · simp [gI_sJ, gI_sV, gI_sI, gI_nS, a12]
