/-! ===== calls between rooms ===== -/
def GT (σ u : HS) : Prop := (∀ t, t ≠ 24 → gI u t = gI σ t) ∧ (∀ t, t ≠ 7 → gJ u t = gJ σ t) ∧ gV u = gV σ
theorem GT.of7 {σ u : HS} (h : G7 σ u) : GT σ u := ⟨fun t _ => by rw [h.1], h.2.2, h.2.1⟩
theorem GT.s {σ u : HS} {k : Nat} {x : Int32} (h : GT σ u) : GT σ (sI u 24 0 k x) := ⟨fun t ht => by rw [gI_nk ht]; exact h.1 t ht, h.2.1, h.2.2⟩
theorem GT.rf {σ : HS} : GT σ σ := ⟨fun _ _ => rfl, fun _ _ => rfl, rfl⟩
theorem GT.tr {σ u v : HS} (h : GT σ u) (g : GT u v) : GT σ v := ⟨fun t ht => (g.1 t ht).trans (h.1 t ht), fun t ht => (g.2.1 t ht).trans (h.2.1 t ht), g.2.2.trans h.2.2⟩
theorem GT.cr {Λ : LY} {σ u : HS} {M : MM} (h : GT σ u) (hC : CR noEx Λ σ M) : CR noEx Λ u M := by
  refine ⟨hC.1, by rw [h.2.2]; exact hC.2.1, fun t i k ho he => ?_, fun t i k ho he => ?_, by rw [h.2.2]; exact hC.2.2.2.2⟩
  · rw [h.1 t (by intro e; subst e; exact ho.elim)]; exact hC.i t i k ho he
  · rw [h.2.1 t (by intro e; subst e; exact ho.elim)]; exact hC.j t i k ho he
theorem GT.same {σ u : HS} (h : GT σ u) : Same nCo σ u := fun t ht => ⟨h.1 t (by intro e; subst e; exact absurd ht (by decide)), h.2.1 t (by intro e; subst e; exact absurd ht (by decide)), by rw [h.2.2]⟩
/-- rooms as bits, told by a relation -/
def RI (σ : HS) (P : Nat → Nat → Prop) : Prop := ∀ a, a < 6 → ∃ X, X < 64 ∧ gI σ 24 0 a = nI X ∧ ∀ b, X.testBit b = true ↔ P a b
theorem RI.cong {σ : HS} {P Q : Nat → Nat → Prop} (h : RI σ P) (e : ∀ a b, a < 6 → (P a b ↔ Q a b)) : RI σ Q := fun a ha => by
  obtain ⟨X, h1, h2, h3⟩ := h a ha
  exact ⟨X, h1, h2, fun b => (h3 b).trans (e a b ha)⟩
theorem RI.set {σ : HS} {P Q : Nat → Nat → Prop} {a Y : Nat} (h : RI σ P) (hY : Y < 64) (h1 : ∀ b, Y.testBit b = true ↔ Q a b) (h2 : ∀ a' b, a' < 6 → a' ≠ a → (P a' b ↔ Q a' b)) : RI (sI σ 24 0 a (nI Y)) Q := fun a' ha => by
  rw [gI_sI]
  by_cases e : a' = a
  · subst e
    exact ⟨Y, hY, if_pos ⟨rfl, rfl, rfl⟩, h1⟩
  · obtain ⟨X, q1, q2, q3⟩ := h a' ha
    exact ⟨X, q1, (if_neg (fun z => e z.2.2)).trans q2, fun b => (q3 b).trans (h2 a' b ha e)⟩
def qB (M : MM) (r b : Nat) : Bool := anyB (fun o => decide (0 < M 35 ((40 * 0 + r) * 40 + o)) && (decide (M 37 o = 0) && decide (M 38 o = b))) (M 31 5)
theorem q_out {M : MM} {r b : Nat} (hn : M 31 5 ≤ 40) : lN (bitS (fun o => decide (0 < M 35 ((40 * 0 + r) * 40 + o))) (M 31 5)) &&& lN (memS M b) = lN 0 ↔ qB M r b = false := by
  unfold memS
  rw [bs_and (r := fun o => decide (0 < M 35 ((40 * 0 + r) * 40 + o)) && (decide (M 37 o = 0) && decide (M 38 o = b))) (fun _ _ => rfl), bs_zero hn, ← anyB_f]
  rfl
def cP (M : MM) (i j a b : Nat) : Prop := b < 6 ∧ ∃ x, (x < i ∨ (x = i ∧ b < j)) ∧ x < hcN M ∧ M 38 (hs M x) = a ∧ qB M (hs M x) b = true
theorem cP_yes {M : MM} {i j b : Nat} (hi : i < hcN M) (hj : j < 6) (h : qB M (hs M i) j = true) : (cP M i j (M 38 (hs M i)) b ∨ b = j) ↔ cP M i (j + 1) (M 38 (hs M i)) b := by
  constructor
  · rintro (⟨h1, x, h2, h3⟩ | e)
    · exact ⟨h1, x, by omega, h3⟩
    · subst e; exact ⟨hj, i, Or.inr ⟨rfl, by omega⟩, hi, rfl, h⟩
  · rintro ⟨h1, x, h2, h3⟩
    by_cases e : b = j
    · exact Or.inr e
    · exact Or.inl ⟨h1, x, by omega, h3⟩
theorem cP_no {M : MM} {i j a b : Nat} (h : ¬ (a = M 38 (hs M i) ∧ qB M (hs M i) j = true)) : cP M i j a b ↔ cP M i (j + 1) a b := by
  constructor
  · rintro ⟨h1, x, h2, h3⟩; exact ⟨h1, x, by omega, h3⟩
  · rintro ⟨h1, x, h2, h3⟩
    refine ⟨h1, x, ?_, h3⟩
    by_cases e : x = i ∧ b = j
    · obtain ⟨rfl, rfl⟩ := e
      exact absurd ⟨h3.2.1.symm, h3.2.2⟩ h
    · omega
theorem cP_row {M : MM} {i a b : Nat} : cP M i 6 a b ↔ cP M (i + 1) 0 a b := by
  constructor
  · rintro ⟨h1, x, h2, h3⟩; exact ⟨h1, x, by omega, h3⟩
  · rintro ⟨h1, x, h2, h3⟩; exact ⟨h1, x, by omega, h3⟩
def lP (M : MM) (a b : Nat) : Prop := b < 6 ∧ ldB M a b = true
theorem cP_all {M : MM} {a b : Nat} : cP M (hcN M) 0 a b ↔ lP M a b := by
  unfold cP lP ldB qB
  refine and_congr_right (fun _ => ?_)
  rw [anyB_t]
  constructor
  · rintro ⟨x, -, h2, h3, h4⟩
    refine ⟨hs M x, hs_lt h2, ?_⟩
    rw [anyB_t] at h4 ⊢
    obtain ⟨o, h5, h6⟩ := h4
    refine ⟨o, h5, ?_⟩
    simp only [Bool.and_eq_true, decide_eq_true_eq] at h6
    unfold ldP
    exact decide_eq_true ⟨hs_nh h2, h6.2.1, h3, h6.2.2, h6.1⟩
  · rintro ⟨r, h1, h2⟩
    rw [anyB_t] at h2
    obtain ⟨o, h5, h6⟩ := h2
    unfold ldP at h6
    obtain ⟨g1, g2, g3, g4, g5⟩ := of_decide_eq_true h6
    refine ⟨rkN M r, Or.inl (rk_lt h1 g1), rk_lt h1 g1, by rw [hs_of h1 g1]; exact g3, ?_⟩
    rw [hs_of h1 g1, anyB_t]
    exact ⟨o, h5, by rw [Bool.and_eq_true, Bool.and_eq_true]; exact ⟨decide_eq_true g5, decide_eq_true g2, decide_eq_true g4⟩⟩
def wP (P : Nat → Nat → Prop) : Nat → Nat → Nat → Prop
  | 0, a, b => P a b
  | k + 1, a, b => wP P k a b ∨ (wP P k a k ∧ wP P k k b)
theorem wP_tr {P : Nat → Nat → Prop} : ∀ {k a c b : Nat}, c < k → wP P k a c → wP P k c b → wP P k a b
  | 0, _, _, _, h, _, _ => absurd h (Nat.not_lt_zero _)
  | k + 1, a, c, b, h, h1, h2 => by
    by_cases e : c = k
    · subst e
      have g1 : wP P c a c := h1.elim id (fun z => z.1)
      have g2 : wP P c c b := h2.elim id (fun z => z.2)
      exact Or.inr ⟨g1, g2⟩
    · have hc : c < k := by omega
      rcases h1 with h1 | ⟨h1, h1'⟩
      · rcases h2 with h2 | ⟨h2, h2'⟩
        · exact Or.inl (wP_tr hc h1 h2)
        · exact Or.inr ⟨wP_tr hc h1 h2, h2'⟩
      · rcases h2 with h2 | ⟨h2, h2'⟩
        · exact Or.inr ⟨h1, wP_tr hc h1' h2⟩
        · exact Or.inr ⟨h1, h2'⟩
theorem wP_in {P : Nat → Nat → Prop} {a b : Nat} (h : P a b) : ∀ k, wP P k a b
  | 0 => h
  | k + 1 => Or.inl (wP_in h k)
theorem RchG.tr {M : MM} {a b d : Nat} (h1 : RchG M a b) (h2 : RchG M b d) : RchG M a d := fun S hs hc => h2 S (h1 S hs hc) hc
theorem RchG.rf {M : MM} {a : Nat} : RchG M a a := fun _ h _ => h
theorem ld_lt {M : MM} (hW : ∀ r, r < M 31 5 → M 37 r = 0 → M 38 r < M 31 10) {a b : Nat} (h : ldB M a b = true) : a < M 31 10 ∧ b < M 31 10 := by
  unfold ldB at h
  rw [anyB_t] at h
  obtain ⟨r, h1, h2⟩ := h
  rw [anyB_t] at h2
  obtain ⟨o, h3, h4⟩ := h2
  unfold ldP at h4
  obtain ⟨g1, g2, g3, g4, -⟩ := of_decide_eq_true h4
  have a1 := hW r h1 g1
  have a2 := hW o h3 g2
  omega
theorem wP_snd {M : MM} (hW : ∀ r, r < M 31 5 → M 37 r = 0 → M 38 r < M 31 10) : ∀ {k a b : Nat}, wP (lP M) k a b → RchG M a b
  | 0, a, b, h => fun S hs hc => by
    have hl := ld_lt hW h.2
    exact hc a b hs hl.1 hl.2 h.2
  | k + 1, a, b, h => by
    rcases h with h | ⟨h1, h2⟩
    · exact wP_snd hW h
    · exact (wP_snd hW h1).tr (wP_snd hW h2)
theorem wP_cpl {M : MM} (hR : M 31 10 ≤ 6) {a b : Nat} (h : RchG M a b) : b = a ∨ wP (lP M) 6 a b := by
  refine h (fun x => x = a ∨ wP (lP M) 6 a x) (Or.inl rfl) (fun x y hx hxr hyr hl => ?_)
  have hp : wP (lP M) 6 x y := wP_in ⟨by omega, hl⟩ 6
  rcases hx with e | hx
  · subst e; exact Or.inr hp
  · exact Or.inr (wP_tr (by omega) hx hp)
def wI (P : Nat → Nat → Prop) (k j a b : Nat) : Prop := (a < j ∧ wP P (k + 1) a b) ∨ (¬ a < j ∧ wP P k a b)
theorem wI_k {P : Nat → Nat → Prop} {k j b : Nat} : wI P k j k b ↔ wP P k k b := by
  unfold wI
  constructor
  · rintro (⟨-, h | h⟩ | ⟨-, h⟩)
    · exact h
    · exact h.2
    · exact h
  · intro h
    by_cases e : k < j
    · exact Or.inl ⟨e, Or.inl h⟩
    · exact Or.inr ⟨e, h⟩
theorem wI_j {P : Nat → Nat → Prop} {k j b : Nat} : wI P k j j b ↔ wP P k j b := by
  unfold wI
  simp
theorem wI_yes {P : Nat → Nat → Prop} {k j b : Nat} (h : wI P k j j k) : (wI P k j j b ∨ wI P k j k b) ↔ wI P k (j + 1) j b := by
  rw [wI_j] at h
  rw [wI_j, wI_k]
  unfold wI
  constructor
  · intro q
    exact Or.inl ⟨by omega, q.imp id (fun z => ⟨h, z⟩)⟩
  · rintro (⟨-, q⟩ | ⟨q, -⟩)
    · exact q.imp id (fun z => z.2)
    · omega
theorem wI_no {P : Nat → Nat → Prop} {k j a b : Nat} (h : a = j → ¬ wI P k j j k) : wI P k j a b ↔ wI P k (j + 1) a b := by
  by_cases e : a = j
  · subst e
    have h' := h rfl
    rw [wI_j] at h'
    rw [wI_j]
    unfold wI
    constructor
    · exact fun q => Or.inl ⟨by omega, Or.inl q⟩
    · rintro (⟨-, q | q⟩ | ⟨q, -⟩)
      · exact q
      · exact absurd q.1 h'
      · omega
  · unfold wI
    have : a < j ↔ a < j + 1 := by omega
    rw [this]
theorem wI_0 {P : Nat → Nat → Prop} {k a b : Nat} : wP P k a b ↔ wI P k 0 a b := by
  unfold wI
  simp
theorem wI_6 {P : Nat → Nat → Prop} {k a b : Nat} (ha : a < 6) : wI P k 6 a b ↔ wP P (k + 1) a b := by
  unfold wI
  simp [ha]
theorem and_bit {X b : Nat} (hb : b < 6) : nI X &&& nI (2 ^ b) = nI 0 ↔ X.testBit b = false := by
  rw [nx_and]
  have h64 := pow6 hb
  have hle : X &&& 2 ^ b ≤ 2 ^ b := Nat.and_le_right
  rw [nI_eq (by omega) (by omega)]
  have hb2 : (X &&& 2 ^ b).testBit b = X.testBit b := by rw [Nat.testBit_and, Nat.testBit_two_pow]; simp
  constructor
  · intro z
    rw [← hb2, z, Nat.zero_testBit]
  · intro z
    apply Nat.eq_of_testBit_eq
    intro j
    rw [Nat.testBit_and, Nat.testBit_two_pow, Nat.zero_testBit]
    by_cases e : b = j
    · subst e; simp [z]
    · simp [e]
set_option maxHeartbeats 4000000 in
set_option maxRecDepth 100000 in
theorem c_X8_leads (l : Launch) (D : va_G) (cy : Nat → ClassId) (base : Nat) (Λ : LY) (σ : HS) (M : MM) (hC : CR noEx Λ σ M) (hB : MBd M) (a b X : Nat) (ha : a < 6) (hb : b < 6) (hI : gI σ 24 0 a = nI X) : Met l yX8_leads wsX8_leads ({ frames := 4, cells := 0, slots := 0, locals := 60 }) (va_Pc [.ref (gA Λ 23 0), .int (nI a), .int (nI b)] (Wd D cy base Λ σ)) (va_Qi (fun v u => v = bI (X.testBit b) ∧ u = σ) (Wd D cy base Λ) (Ab base)) 0 0 (Ab base) := by
  refine j_start (cc := cX8_leads) (nL := 3) (ret := (some .boolean)) (lv := [(0, .ref (gA Λ 23 0)), (1, .int (nI a)), (2, .int (nI b))]) (by decide) rfl (Nat.le_of_ble_eq_true rfl) rfl ?_
  intro p e s m below meth c C hr hlk hnm
  have C : Cx p s m ([.ref (gA Λ 23 0), .int (nI a), .int (nI b)] : List Value).toArray c cX8_leads 3 RX8 wsX8_leads D cy base := C
  have hts := C.2.2.2.2.1
  have hwX8 : ∀ w ∈ u_ws RX8 TX8 2, w ∈ wsX8_leads := by decide +kernel
  have hM9 : (Cond.fieldLink RX8 9 (TX8 1).1 (TX8 1).2.1 (TX8 1).2.2.1).before ([.ref (gA Λ 23 0), .int (nI a), .int (nI b)] : List Value).toArray s = true := hts (.fieldLink RX8 9 "CodeRooms$Traffic" "reached" "[I") (by decide +kernel)
  have hL9 : FL RX8 9 (TX8 1).1 (TX8 1).2.1 (TX8 1).2.2.1 ([.ref (gA Λ 23 0), .int (nI a), .int (nI b)] : List Value).toArray s := Or.inl hM9
  refine j_aload_n C dX8_leads_0 rfl 0 rfl ?_
  refine j_getV C hwX8 23 0 1 (CR.n1 hC (by decide)) rfl rfl (by decide) rfl 0 (CR.v hC 23 0 1 ⟨rfl, by decide⟩ id) hL9 dX8_leads_1 ?_
  refine j_iload_n C dX8_leads_4 rfl 1 rfl ?_
  refine j_iald C 24 0 a (CR.n1 hC (by decide)) rfl rfl 6 (CR.l1 hC (by decide)) (by omega) (by omega) (nI X) hI dX8_leads_5 ?_
  refine j_iconst C (nI 1) dX8_leads_6 (by decide) ?_
  refine j_iload_n C dX8_leads_7 rfl 2 rfl ?_
  refine j_ishl C (nI (2 ^ b)) dX8_leads_8 (shl1 (by omega)) ?_
  refine j_iand C (nI X &&& nI (2 ^ b)) dX8_leads_9 rfl ?_
  refine j_if_eq (tgt := 17) C dX8_leads_10 (by decide) (and_bit hb) (fun h10 => ?_) (fun h10 => ?_)
  · refine j_iconst C (nI 0) dX8_leads_17 (by decide) ?_
    exact j_zret C (by first | rfl | exact nz_b _ | exact nz_n (by omega)) hr hlk (⟨rt0 (by simpa using h10), rfl⟩) dX8_leads_18
  · refine j_iconst C (nI 1) dX8_leads_13 (by decide) ?_
    refine j_goto (tgt := 18) C dX8_leads_14 (by decide) ?_
    exact j_zret C (by first | rfl | exact nz_b _ | exact nz_n (by omega)) hr hlk (⟨rt1 (by simpa using h10), rfl⟩) dX8_leads_18

set_option maxHeartbeats 4000000 in
set_option maxRecDepth 100000 in
theorem c_X8_findCalled (l : Launch) (D : va_G) (cy : Nat → ClassId) (base : Nat) (Λ : LY) (σ : HS) (M : MM) (hC : CR noEx Λ σ M) (hB : MBd M) : Met l yX8_findCalled wsX8_findCalled ({ frames := 8, cells := 0, slots := 0, locals := 120 }) (va_Pc [.ref (gA Λ 23 0)] (Wd D cy base Λ σ)) (va_Qv (fun u => GT σ u ∧ RI u (lP M)) (Wd D cy base Λ) (Ab base)) 0 0 (Ab base) := by
  refine j_start (cc := cX8_findCalled) (nL := 4) (ret := none) (lv := [(0, .ref (gA Λ 23 0))]) (by decide) rfl (Nat.le_of_ble_eq_true rfl) rfl ?_
  intro p e s m below meth c C hr hlk hnm
  have C : Cx p s m ([.ref (gA Λ 23 0)] : List Value).toArray c cX8_findCalled 4 RX8 wsX8_findCalled D cy base := C
  have hts := C.2.2.2.2.1
  have hwX4 : ∀ w ∈ u_ws RX4 TX4 6, w ∈ wsX8_findCalled := by decide +kernel
  have hwX5 : ∀ w ∈ u_ws RX5 TX5 13, w ∈ wsX8_findCalled := by decide +kernel
  have hwX8 : ∀ w ∈ u_ws RX8 TX8 2, w ∈ wsX8_findCalled := by decide +kernel
  have hM9 : (Cond.fieldLink RX8 9 (TX8 1).1 (TX8 1).2.1 (TX8 1).2.2.1).before ([.ref (gA Λ 23 0)] : List Value).toArray s = true := hts (.fieldLink RX8 9 "CodeRooms$Traffic" "reached" "[I") (by decide +kernel)
  have hL9 : FL RX8 9 (TX8 1).1 (TX8 1).2.1 (TX8 1).2.2.1 ([.ref (gA Λ 23 0)] : List Value).toArray s := Or.inl hM9
  have hM15 : (Cond.fieldLink RX8 15 (TX8 0).1 (TX8 0).2.1 (TX8 0).2.2.1).before ([.ref (gA Λ 23 0)] : List Value).toArray s = true := hts (.fieldLink RX8 15 "CodeRooms$Traffic" "plan" "LCodeRooms$Plan;") (by decide +kernel)
  have hL15 : FL RX8 15 (TX8 0).1 (TX8 0).2.1 (TX8 0).2.2.1 ([.ref (gA Λ 23 0)] : List Value).toArray s := Or.inl hM15
  have hL24 : FL RX8 24 (TX4 5).1 (TX4 5).2.1 (TX4 5).2.2.1 ([.ref (gA Λ 23 0)] : List Value).toArray s := Or.inr ⟨_, Ex.nestF C.2.2.2.2.2.2 nf_X8_24⟩
  have hL28 : FL RX8 28 (TX4 1).1 (TX4 1).2.1 (TX4 1).2.2.1 ([.ref (gA Λ 23 0)] : List Value).toArray s := Or.inr ⟨_, Ex.nestF C.2.2.2.2.2.2 nf_X8_28⟩
  have hL32 : FL RX8 32 (TX5 11).1 (TX5 11).2.1 (TX5 11).2.2.1 ([.ref (gA Λ 23 0)] : List Value).toArray s := Or.inr ⟨_, Ex.nestF C.2.2.2.2.2.2 nf_X8_32⟩
  have hL41 : FL RX8 41 (TX4 3).1 (TX4 3).2.1 (TX4 3).2.2.1 ([.ref (gA Λ 23 0)] : List Value).toArray s := Or.inr ⟨_, Ex.nestF C.2.2.2.2.2.2 nf_X8_41⟩
  have hL60 : FL RX8 60 (TX5 9).1 (TX5 9).2.1 (TX5 9).2.2.1 ([.ref (gA Λ 23 0)] : List Value).toArray s := Or.inr ⟨_, Ex.nestF C.2.2.2.2.2.2 nf_X8_60⟩
  have hn : M 31 5 ≤ 40 := hB 31 5 rfl
  have hhc0 := hcN_le M
  refine j_aload_n C dX8_findCalled_0 rfl 0 rfl ?_
  refine j_getV C hwX8 23 0 0 (CR.n1 hC (by decide)) rfl rfl (by decide) rfl 0 (CR.v hC 23 0 0 ⟨rfl, by decide⟩ id) hL15 dX8_findCalled_1 ?_
  refine c_v0 C (r_V C 3 0 [] (c_X4_gather l D cy base Λ σ M hC hB) (cwV 0 hts gX8_findCalled_X4_gather rfl rfl rfl (by decide +kernel) ⟨by decide, by decide⟩) (CR.n1 hC (by decide)) rfl rfl rfl rfl (Nat.le_of_ble_eq_true rfl) dX8_findCalled_4 ⟨by decide, by decide⟩) (fun ug_1 hp => ?_)
  obtain ⟨hGg_1, hmg_1⟩ := hp
  have hCg_1 := hGg_1.cr hC
  refine j_iconst C (nI 0) dX8_findCalled_7 (by decide) ?_
  refine j_istore_n C [(1, .int (nI 0)), (0, .ref (gA Λ 23 0))] dX8_findCalled_8 rfl (by decide) rfl ?_
  have lb9 : ∀ (fu : Nat) (σ0 : HS) (q : Nat), (6 - q) < fu → (q ≤ 6) → (GT σ σ0) → (gJ σ0 = gJ ug_1) → (∀ a, a < q → gI σ0 24 0 a = nI 0) → J p l e ({ frames := 8, cells := 0, slots := 0, locals := 120 }) s m ([.ref (gA Λ 23 0)] : List Value).toArray below meth c 4 D cy base (MQ below (va_Qv (fun u => GT σ u ∧ RI u (lP M)) (Wd D cy base Λ) (Ab base)) ([.ref (gA Λ 23 0)] : List Value).toArray s 0 0 (Ab base)) 0 0 Λ 9 [(0, .ref (gA Λ 23 0)), (1, .int (nI q))] [] σ0 := by
    intro fu
    induction fu with
    | zero => intro σ0 q hfu; exact absurd hfu (Nat.not_lt_zero _)
    | succ fu ih =>
      intro σ0 q hfu hq hG0 hj0 hz0
      have ih9 := ih
      refine j_iload_n C dX8_findCalled_9 rfl 1 rfl ?_
      refine j_bipush C (nI 6) dX8_findCalled_10 (by decide) ?_
      refine j_icmp_ge (tgt := 28) C dX8_findCalled_12 (by decide) (nI_leI (by omega) (by omega)) (fun h12 => ?_) (fun h12 => ?_)
      · refine j_iconst C (nI 0) dX8_findCalled_28 (by decide) ?_
        refine j_istore_n C [(1, .int (nI 0)), (0, .ref (gA Λ 23 0))] dX8_findCalled_29 rfl (by decide) rfl ?_
        have lb30 : ∀ (fu : Nat) (σ1 : HS) (i : Nat), (hcN M - i) < fu → (i ≤ hcN M) → (GT σ σ1) → (gJ σ1 = gJ ug_1) → (RI σ1 (cP M i 0)) → J p l e ({ frames := 8, cells := 0, slots := 0, locals := 120 }) s m ([.ref (gA Λ 23 0)] : List Value).toArray below meth c 4 D cy base (MQ below (va_Qv (fun u => GT σ u ∧ RI u (lP M)) (Wd D cy base Λ) (Ab base)) ([.ref (gA Λ 23 0)] : List Value).toArray s 0 0 (Ab base)) 0 0 Λ 30 [(0, .ref (gA Λ 23 0)), (1, .int (nI i))] [] σ1 := by
          intro fu
          induction fu with
          | zero => intro σ1 i hfu; exact absurd hfu (Nat.not_lt_zero _)
          | succ fu ih =>
            intro σ1 i hfu hi hG1 hj1 hm1
            have ih30 := ih
            refine j_iload_n C dX8_findCalled_30 rfl 1 rfl ?_
            refine j_aload_n C dX8_findCalled_31 rfl 0 rfl ?_
            refine j_getV C hwX8 23 0 0 (CR.n1 (hG1.cr hC) (by decide)) rfl rfl (by decide) rfl 0 (CR.v (hG1.cr hC) 23 0 0 ⟨rfl, by decide⟩ id) hL15 dX8_findCalled_32 ?_
            have hhc35 := hcN_le M
            refine j_getI C hwX4 3 0 5 (CR.n1 (hG1.cr hC) (by decide)) rfl rfl (by decide) rfl (nI (hcN M)) (CR.i (hG1.cr hC) 3 0 5 ⟨rfl, Or.inr rfl⟩ id) hL24 dX8_findCalled_35 ?_
            refine j_icmp_ge (tgt := 105) C dX8_findCalled_38 (by decide) (nI_leI (by omega) (by omega)) (fun h38 => ?_) (fun h38 => ?_)
            · exact j_vret C hr hlk (⟨hG1, hm1.cong (fun a b _ => by rw [show i = hcN M by omega]; exact cP_all)⟩) dX8_findCalled_105
            · refine j_aload_n C dX8_findCalled_41 rfl 0 rfl ?_
              refine j_getV C hwX8 23 0 0 (CR.n1 (hG1.cr hC) (by decide)) rfl rfl (by decide) rfl 0 (CR.v (hG1.cr hC) 23 0 0 ⟨rfl, by decide⟩ id) hL15 dX8_findCalled_42 ?_
              refine j_getV C hwX4 3 0 1 (CR.n1 (hG1.cr hC) (by decide)) rfl rfl (by decide) rfl 0 (CR.v (hG1.cr hC) 3 0 1 ⟨rfl, by decide⟩ id) hL28 dX8_findCalled_45 ?_
              refine j_iload_n C dX8_findCalled_48 rfl 1 rfl ?_
              have hhs49 := hs_lt (M := M) (k := i) (by omega)
              have hhn49 := hs_nh (M := M) (k := i) (by omega)
              refine j_aald C 5 0 i (CR.n1 (hG1.cr hC) (by decide)) rfl (by decide) (by decide) 40 (CR.l1 (hG1.cr hC) (by decide)) (by omega) (by omega) (hs M i) (CR.v (hG1.cr hC) 5 0 i ⟨rfl, by omega⟩ id) dX8_findCalled_49 ?_
              refine j_astore_n C [(2, .ref (gA Λ 8 (hs M i))), (0, .ref (gA Λ 23 0)), (1, .int (nI i))] dX8_findCalled_50 rfl (by decide) rfl ?_
              refine j_iconst C (nI 0) dX8_findCalled_51 (by decide) ?_
              refine j_istore_n C [(3, .int (nI 0)), (2, .ref (gA Λ 8 (hs M i))), (0, .ref (gA Λ 23 0)), (1, .int (nI i))] dX8_findCalled_52 rfl (by decide) rfl ?_
              have lb53 : ∀ (fu : Nat) (σ2 : HS) (j : Nat), (6 - j) < fu → (j ≤ 6) → (GT σ σ2) → (gJ σ2 = gJ ug_1) → (RI σ2 (cP M i j)) → J p l e ({ frames := 8, cells := 0, slots := 0, locals := 120 }) s m ([.ref (gA Λ 23 0)] : List Value).toArray below meth c 4 D cy base (MQ below (va_Qv (fun u => GT σ u ∧ RI u (lP M)) (Wd D cy base Λ) (Ab base)) ([.ref (gA Λ 23 0)] : List Value).toArray s 0 0 (Ab base)) 0 0 Λ 53 [(0, .ref (gA Λ 23 0)), (1, .int (nI i)), (2, .ref (gA Λ 8 (hs M i))), (3, .int (nI j))] [] σ2 := by
                intro fu
                induction fu with
                | zero => intro σ2 j hfu; exact absurd hfu (Nat.not_lt_zero _)
                | succ fu ih =>
                  intro σ2 j hfu hj hG2 hj2 hm2
                  have hhl := hs_lt (show i < hcN M by omega)
                  have ih53 := ih
                  refine j_iload_n C dX8_findCalled_53 rfl 3 rfl ?_
                  refine j_bipush C (nI 6) dX8_findCalled_54 (by decide) ?_
                  refine j_icmp_ge (tgt := 99) C dX8_findCalled_56 (by decide) (nI_leI (by omega) (by omega)) (fun h56 => ?_) (fun h56 => ?_)
                  · refine j_iinc C [(1, .int (nI (i + 1))), (0, .ref (gA Λ 23 0)), (2, .ref (gA Λ 8 (hs M i))), (3, .int (nI j))] (nI (i + 1)) dX8_findCalled_99 1 rfl (nI_add _ 1) (by decide) rfl ?_
                    refine j_goto (tgt := 30) C dX8_findCalled_102 (by decide) ?_
                    refine j_lv [1, 0] rfl ?_
                    exact ih30 σ2 (i + 1) (by omega) (by omega) hG2 hj2 (hm2.cong (fun a b _ => by rw [show j = 6 by omega]; exact cP_row))
                  · refine j_aload_n C dX8_findCalled_59 rfl 2 rfl ?_
                    refine j_getJ C hwX5 8 (hs M i) 9 (CR.n8 (hG2.cr hC) (by decide) (show hs M i < M 31 5 by omega)) rfl rfl (by decide) rfl (lN (bitS (fun o => decide (0 < M 35 ((40 * 0 + (hs M i)) * 40 + o))) (M 31 5))) (CR.j (hG2.cr hC) 8 (hs M i) 9 ⟨show hs M i < M 31 5 by omega, Or.inr (Or.inr (Or.inr rfl))⟩ id) hL60 dX8_findCalled_60 ?_
                    refine j_aload_n C dX8_findCalled_63 rfl 0 rfl ?_
                    refine j_getV C hwX8 23 0 0 (CR.n1 (hG2.cr hC) (by decide)) rfl rfl (by decide) rfl 0 (CR.v (hG2.cr hC) 23 0 0 ⟨rfl, by decide⟩ id) hL15 dX8_findCalled_64 ?_
                    refine j_getV C hwX4 3 0 3 (CR.n1 (hG2.cr hC) (by decide)) rfl rfl (by decide) rfl 0 (CR.v (hG2.cr hC) 3 0 3 ⟨rfl, by decide⟩ id) hL41 dX8_findCalled_67 ?_
                    refine j_iload_n C dX8_findCalled_70 rfl 3 rfl ?_
                    refine j_lald C 7 0 j (CR.n1 (hG2.cr hC) (by decide)) rfl rfl 6 (CR.l1 (hG2.cr hC) (by decide)) (by omega) (by omega) (lN (memS M j)) (by rw [hj2]; exact hmg_1 _ (by omega)) dX8_findCalled_71 ?_
                    refine j_land C ((lN (bitS (fun o => decide (0 < M 35 ((40 * 0 + (hs M i)) * 40 + o))) (M 31 5))) &&& (lN (memS M j))) dX8_findCalled_72 rfl ?_
                    refine j_lconst C (lN 0) dX8_findCalled_73 (by decide) ?_
                    refine j_lcmp_eq (tgt := 93) C dX8_findCalled_74 dX8_findCalled_75 (by decide) (q_out hn) (fun h74 => ?_) (fun h74 => ?_)
                    · refine j_iinc C [(3, .int (nI (j + 1))), (0, .ref (gA Λ 23 0)), (1, .int (nI i)), (2, .ref (gA Λ 8 (hs M i)))] (nI (j + 1)) dX8_findCalled_93 3 rfl (nI_add _ 1) (by decide) rfl ?_
                      refine j_goto (tgt := 53) C dX8_findCalled_96 (by decide) ?_
                      refine j_lv [1, 2, 3, 0] rfl ?_
                      exact ih53 σ2 (j + 1) (by omega) (by omega) hG2 hj2 (hm2.cong (fun a b _ => cP_no (fun z => by rw [h74] at z; exact absurd z.2 (by decide))))
                    · refine j_aload_n C dX8_findCalled_78 rfl 0 rfl ?_
                      refine j_getV C hwX8 23 0 1 (CR.n1 (hG2.cr hC) (by decide)) rfl rfl (by decide) rfl 0 (CR.v (hG2.cr hC) 23 0 1 ⟨rfl, by decide⟩ id) hL9 dX8_findCalled_79 ?_
                      refine j_aload_n C dX8_findCalled_82 rfl 2 rfl ?_
                      have hb83 : M 38 (hs M i) ≤ 5 := hB 38 (hs M i) (decide_eq_true (show hs M i < 40 by omega))
                      refine j_getI C hwX5 8 (hs M i) 11 (CR.n8 (hG2.cr hC) (by decide) (show hs M i < M 31 5 by omega)) rfl rfl (by decide) rfl (nI (M 38 (hs M i))) (CR.i (hG2.cr hC) 8 (hs M i) 11 ⟨show hs M i < M 31 5 by omega, Or.inr (Or.inr (Or.inl rfl))⟩ id) hL32 dX8_findCalled_83 ?_
                      refine j_dup2 C dX8_findCalled_86 rfl rfl ?_
                      obtain ⟨X, hX, eX, bX⟩ := hm2 (M 38 (hs M i)) (by omega)
                      refine j_iald C 24 0 (M 38 (hs M i)) (CR.n1 (hG2.cr hC) (by decide)) rfl rfl 6 (CR.l1 (hG2.cr hC) (by decide)) (by omega) (by omega) (nI X) eX dX8_findCalled_87 ?_
                      refine j_iconst C (nI 1) dX8_findCalled_88 (by decide) ?_
                      refine j_iload_n C dX8_findCalled_89 rfl 3 rfl ?_
                      refine j_ishl C (nI (2 ^ j)) dX8_findCalled_90 (shl1 (by omega)) ?_
                      refine j_ior C (nI (X ||| 2 ^ j)) dX8_findCalled_91 (fa_or _ _) ?_
                      refine j_iast C 24 0 (M 38 (hs M i)) (CR.n1 (hG2.cr hC) (by decide)) rfl rfl 6 (CR.l1 (hG2.cr hC) (by decide)) (by omega) (by omega) (nI (X ||| 2 ^ j)) rfl dX8_findCalled_92 ?_
                      refine j_iinc C [(3, .int (nI (j + 1))), (0, .ref (gA Λ 23 0)), (1, .int (nI i)), (2, .ref (gA Λ 8 (hs M i)))] (nI (j + 1)) dX8_findCalled_93 3 rfl (nI_add _ 1) (by decide) rfl ?_
                      refine j_goto (tgt := 53) C dX8_findCalled_96 (by decide) ?_
                      refine j_lv [1, 2, 3, 0] rfl ?_
                      exact ih53 (sI σ2 24 0 (M 38 (hs M i)) (nI (X ||| 2 ^ j))) (j + 1) (by omega) (by omega) hG2.s hj2 (RI.set hm2 (or_lt hX (pow6 (by omega))) (fun b => by rw [bit_or_pow, Bool.or_eq_true, decide_eq_true_eq, bX]; exact cP_yes (by omega) (by omega) (by simpa using h74)) (fun a b _ hne => cP_no (fun z => hne z.1)))
              refine j_lv [2, 3, 1, 0] rfl ?_
              exact lb53 _ σ1 0 (Nat.lt_succ_self _) (by omega) hG1 hj1 (hm1.cong (fun a b _ => Iff.rfl))
        refine j_lv [1, 0] rfl ?_
        exact lb30 _ σ0 0 (Nat.lt_succ_self _) (by omega) hG0 hj0 (fun a ha => ⟨0, by decide, hz0 a (by omega), fun b => by rw [Nat.zero_testBit]; exact ⟨fun z => absurd z (by decide), fun z => by obtain ⟨-, x, hx, -⟩ := z; omega⟩⟩)
      · refine j_aload_n C dX8_findCalled_15 rfl 0 rfl ?_
        refine j_getV C hwX8 23 0 1 (CR.n1 (hG0.cr hC) (by decide)) rfl rfl (by decide) rfl 0 (CR.v (hG0.cr hC) 23 0 1 ⟨rfl, by decide⟩ id) hL9 dX8_findCalled_16 ?_
        refine j_iload_n C dX8_findCalled_19 rfl 1 rfl ?_
        refine j_iconst C (nI 0) dX8_findCalled_20 (by decide) ?_
        refine j_iast C 24 0 q (CR.n1 (hG0.cr hC) (by decide)) rfl rfl 6 (CR.l1 (hG0.cr hC) (by decide)) (by omega) (by omega) (nI 0) rfl dX8_findCalled_21 ?_
        refine j_iinc C [(1, .int (nI (q + 1))), (0, .ref (gA Λ 23 0))] (nI (q + 1)) dX8_findCalled_22 1 rfl (nI_add _ 1) (by decide) rfl ?_
        refine j_goto (tgt := 9) C dX8_findCalled_25 (by decide) ?_
        refine j_lv [1, 0] rfl ?_
        exact ih9 (sI σ0 24 0 q (nI 0)) (q + 1) (by omega) (by omega) hG0.s hj0 (fun a ha => by rw [gI_sI]; by_cases e : a = q; rw [if_pos ⟨rfl, rfl, e⟩]; rw [if_neg (fun z => e z.2.2)]; exact hz0 a (by omega))
  refine j_lv [1, 0] rfl ?_
  exact lb9 _ ug_1 0 (Nat.lt_succ_self _) (by omega) (GT.of7 hGg_1) rfl (fun a ha => absurd ha (Nat.not_lt_zero _))

set_option maxHeartbeats 4000000 in
set_option maxRecDepth 100000 in
theorem c_X8_leadOn (l : Launch) (D : va_G) (cy : Nat → ClassId) (base : Nat) (Λ : LY) (σ : HS) (M : MM) (hC : CR noEx Λ σ M) (hB : MBd M) (P : Nat → Nat → Prop) (hP : RI σ P) : Met l yX8_leadOn wsX8_leadOn ({ frames := 8, cells := 0, slots := 0, locals := 120 }) (va_Pc [.ref (gA Λ 23 0)] (Wd D cy base Λ σ)) (va_Qv (fun u => GT σ u ∧ RI u (wP P 6)) (Wd D cy base Λ) (Ab base)) 0 0 (Ab base) := by
  refine j_start (cc := cX8_leadOn) (nL := 3) (ret := none) (lv := [(0, .ref (gA Λ 23 0))]) (by decide) rfl (Nat.le_of_ble_eq_true rfl) rfl ?_
  intro p e s m below meth c C hr hlk hnm
  have C : Cx p s m ([.ref (gA Λ 23 0)] : List Value).toArray c cX8_leadOn 3 RX8 wsX8_leadOn D cy base := C
  have hts := C.2.2.2.2.1
  have hwX8 : ∀ w ∈ u_ws RX8 TX8 2, w ∈ wsX8_leadOn := by decide +kernel
  have hM9 : (Cond.fieldLink RX8 9 (TX8 1).1 (TX8 1).2.1 (TX8 1).2.2.1).before ([.ref (gA Λ 23 0)] : List Value).toArray s = true := hts (.fieldLink RX8 9 "CodeRooms$Traffic" "reached" "[I") (by decide +kernel)
  have hL9 : FL RX8 9 (TX8 1).1 (TX8 1).2.1 (TX8 1).2.2.1 ([.ref (gA Λ 23 0)] : List Value).toArray s := Or.inl hM9
  have hn : M 31 5 ≤ 40 := hB 31 5 rfl
  refine j_iconst C (nI 0) dX8_leadOn_0 (by decide) ?_
  refine j_istore_n C [(1, .int (nI 0)), (0, .ref (gA Λ 23 0))] dX8_leadOn_1 rfl (by decide) rfl ?_
  have lb2 : ∀ (fu : Nat) (σ1 : HS) (i : Nat), (6 - i) < fu → (i ≤ 6) → (GT σ σ1) → (RI σ1 (wP P i)) → J p l e ({ frames := 8, cells := 0, slots := 0, locals := 120 }) s m ([.ref (gA Λ 23 0)] : List Value).toArray below meth c 3 D cy base (MQ below (va_Qv (fun u => GT σ u ∧ RI u (wP P 6)) (Wd D cy base Λ) (Ab base)) ([.ref (gA Λ 23 0)] : List Value).toArray s 0 0 (Ab base)) 0 0 Λ 2 [(0, .ref (gA Λ 23 0)), (1, .int (nI i))] [] σ1 := by
    intro fu
    induction fu with
    | zero => intro σ1 i hfu; exact absurd hfu (Nat.not_lt_zero _)
    | succ fu ih =>
      intro σ1 i hfu hi hG1 hm1
      have ih2 := ih
      refine j_iload_n C dX8_leadOn_2 rfl 1 rfl ?_
      refine j_bipush C (nI 6) dX8_leadOn_3 (by decide) ?_
      refine j_icmp_ge (tgt := 52) C dX8_leadOn_5 (by decide) (nI_leI (by omega) (by omega)) (fun h5 => ?_) (fun h5 => ?_)
      · exact j_vret C hr hlk (⟨hG1, by have q := hm1; rw [show i = 6 by omega] at q; exact q⟩) dX8_leadOn_52
      · refine j_iconst C (nI 0) dX8_leadOn_8 (by decide) ?_
        refine j_istore_n C [(2, .int (nI 0)), (0, .ref (gA Λ 23 0)), (1, .int (nI i))] dX8_leadOn_9 rfl (by decide) rfl ?_
        have lb10 : ∀ (fu : Nat) (σ2 : HS) (j : Nat), (6 - j) < fu → (j ≤ 6) → (GT σ σ2) → (RI σ2 (wI P i j)) → J p l e ({ frames := 8, cells := 0, slots := 0, locals := 120 }) s m ([.ref (gA Λ 23 0)] : List Value).toArray below meth c 3 D cy base (MQ below (va_Qv (fun u => GT σ u ∧ RI u (wP P 6)) (Wd D cy base Λ) (Ab base)) ([.ref (gA Λ 23 0)] : List Value).toArray s 0 0 (Ab base)) 0 0 Λ 10 [(0, .ref (gA Λ 23 0)), (1, .int (nI i)), (2, .int (nI j))] [] σ2 := by
          intro fu
          induction fu with
          | zero => intro σ2 j hfu; exact absurd hfu (Nat.not_lt_zero _)
          | succ fu ih =>
            intro σ2 j hfu hj hG2 hm2
            have ih10 := ih
            refine j_iload_n C dX8_leadOn_10 rfl 2 rfl ?_
            refine j_bipush C (nI 6) dX8_leadOn_11 (by decide) ?_
            refine j_icmp_ge (tgt := 46) C dX8_leadOn_13 (by decide) (nI_leI (by omega) (by omega)) (fun h13 => ?_) (fun h13 => ?_)
            · refine j_iinc C [(1, .int (nI (i + 1))), (0, .ref (gA Λ 23 0)), (2, .int (nI j))] (nI (i + 1)) dX8_leadOn_46 1 rfl (nI_add _ 1) (by decide) rfl ?_
              refine j_goto (tgt := 2) C dX8_leadOn_49 (by decide) ?_
              refine j_lv [1, 0] rfl ?_
              exact ih2 σ2 (i + 1) (by omega) (by omega) hG2 (hm2.cong (fun a b ha => by rw [show j = 6 by omega]; exact wI_6 ha))
            · refine j_aload_n C dX8_leadOn_16 rfl 0 rfl ?_
              refine j_iload_n C dX8_leadOn_17 rfl 2 rfl ?_
              refine j_iload_n C dX8_leadOn_18 rfl 1 rfl ?_
              obtain ⟨X_5, hlX_5, hiX_5, hbX_5⟩ := hm2 j (by omega)
              refine c_i0 C (r_V C 23 0 [.int (nI j), .int (nI i)] (c_X8_leads l D cy base Λ σ2 M (hG2.cr hC) hB j i X_5 (by omega) (by omega) hiX_5) (cwV 2 hts gX8_leadOn_X8_leads rfl rfl rfl (by decide +kernel) ⟨by decide, by decide⟩) (CR.n1 (hG2.cr hC) (by decide)) rfl rfl rfl rfl (Nat.le_of_ble_eq_true rfl) dX8_leadOn_19 ⟨by decide, by decide⟩) (fun rv uu hp => ?_)
              rw [hp.1, hp.2]
              refine j_ifeq_b (tgt := 40) C dX8_leadOn_22 (by decide) (fun h22 => ?_) (fun h22 => ?_)
              · refine j_iinc C [(2, .int (nI (j + 1))), (0, .ref (gA Λ 23 0)), (1, .int (nI i))] (nI (j + 1)) dX8_leadOn_40 2 rfl (nI_add _ 1) (by decide) rfl ?_
                refine j_goto (tgt := 10) C dX8_leadOn_43 (by decide) ?_
                refine j_lv [1, 2, 0] rfl ?_
                exact ih10 σ2 (j + 1) (by omega) (by omega) hG2 (hm2.cong (fun a b _ => wI_no (fun _ z => by rw [(hbX_5 _).mpr z] at h22; exact absurd h22 (by decide))))
              · refine j_aload_n C dX8_leadOn_25 rfl 0 rfl ?_
                refine j_getV C hwX8 23 0 1 (CR.n1 (hG2.cr hC) (by decide)) rfl rfl (by decide) rfl 0 (CR.v (hG2.cr hC) 23 0 1 ⟨rfl, by decide⟩ id) hL9 dX8_leadOn_26 ?_
                refine j_iload_n C dX8_leadOn_29 rfl 2 rfl ?_
                refine j_dup2 C dX8_leadOn_30 rfl rfl ?_
                obtain ⟨Y, hY, eY, bY⟩ := hm2 i (by omega)
                refine j_iald C 24 0 j (CR.n1 (hG2.cr hC) (by decide)) rfl rfl 6 (CR.l1 (hG2.cr hC) (by decide)) (by omega) (by omega) (nI X_5) hiX_5 dX8_leadOn_31 ?_
                refine j_aload_n C dX8_leadOn_32 rfl 0 rfl ?_
                refine j_getV C hwX8 23 0 1 (CR.n1 (hG2.cr hC) (by decide)) rfl rfl (by decide) rfl 0 (CR.v (hG2.cr hC) 23 0 1 ⟨rfl, by decide⟩ id) hL9 dX8_leadOn_33 ?_
                refine j_iload_n C dX8_leadOn_36 rfl 1 rfl ?_
                refine j_iald C 24 0 i (CR.n1 (hG2.cr hC) (by decide)) rfl rfl 6 (CR.l1 (hG2.cr hC) (by decide)) (by omega) (by omega) (nI Y) eY dX8_leadOn_37 ?_
                refine j_ior C (nI (X_5 ||| Y)) dX8_leadOn_38 (fa_or _ _) ?_
                refine j_iast C 24 0 j (CR.n1 (hG2.cr hC) (by decide)) rfl rfl 6 (CR.l1 (hG2.cr hC) (by decide)) (by omega) (by omega) (nI (X_5 ||| Y)) rfl dX8_leadOn_39 ?_
                refine j_iinc C [(2, .int (nI (j + 1))), (0, .ref (gA Λ 23 0)), (1, .int (nI i))] (nI (j + 1)) dX8_leadOn_40 2 rfl (nI_add _ 1) (by decide) rfl ?_
                refine j_goto (tgt := 10) C dX8_leadOn_43 (by decide) ?_
                refine j_lv [1, 2, 0] rfl ?_
                exact ih10 (sI σ2 24 0 j (nI (X_5 ||| Y))) (j + 1) (by omega) (by omega) hG2.s (RI.set hm2 (or_lt hlX_5 hY) (fun b => by rw [Nat.testBit_or, Bool.or_eq_true, hbX_5, bY]; exact wI_yes ((hbX_5 _).mp h22)) (fun a b _ hne => wI_no (fun z => absurd z hne)))
        refine j_lv [1, 2, 0] rfl ?_
        exact lb10 _ σ1 0 (Nat.lt_succ_self _) (by omega) hG1 (hm1.cong (fun a b _ => wI_0))
  refine j_lv [1, 0] rfl ?_
  exact lb2 _ σ 0 (Nat.lt_succ_self _) (by omega) GT.rf hP

def rP (M : MM) (room i a : Nat) : Prop := a = room ∨ (a < i ∧ wP (lP M) 6 room a ∧ wP (lP M) 6 a room)
theorem rP_end {M : MM} {room X : Nat} (hR : M 31 10 ≤ 6) (hrm : room < M 31 10) (hW : ∀ r, r < M 31 5 → M 37 r = 0 → M 38 r < M 31 10) (hX : X < 64) (hb : ∀ a, X.testBit a = true ↔ rP M room 6 a) : rgTo M room X (M 31 10) := by
  refine ⟨hX, fun a => (hb a).trans ?_⟩
  constructor
  · rintro (e | ⟨h1, h2, h3⟩)
    · subst e; exact ⟨hrm, RchG.rf, RchG.rf⟩
    · refine ⟨?_, wP_snd hW h2, wP_snd hW h3⟩
      by_cases e : a < M 31 10
      · exact e
      · exfalso
        have : ∀ k, wP (lP M) k room a → a < M 31 10 := by
          intro k
          induction k with
          | zero => intro z; exact (ld_lt hW z.2).2
          | succ k ih => 
            intro z
            have key : ∀ k x, wP (lP M) k x a → a < M 31 10 := by
              intro k
              induction k with
              | zero => intro x z; exact (ld_lt hW z.2).2
              | succ k ih => intro x z; exact z.elim (ih x) (fun q => ih k q.2)
            exact key _ _ z
        exact e (this 6 h2)
  · rintro ⟨h1, h2, h3⟩
    rcases wP_cpl hR h2 with e | g2
    · exact Or.inl e
    · rcases wP_cpl hR h3 with e | g3
      · exact Or.inl e.symm
      · exact Or.inr ⟨by omega, g2, g3⟩
theorem rP_yes {M : MM} {room i a : Nat} (h1 : wP (lP M) 6 room i) (h2 : wP (lP M) 6 i room) : (rP M room i a ∨ a = i) ↔ rP M room (i + 1) a := by
  unfold rP
  constructor
  · rintro ((e | ⟨q, q2⟩) | e)
    · exact Or.inl e
    · exact Or.inr ⟨by omega, q2⟩
    · subst e; exact Or.inr ⟨by omega, h1, h2⟩
  · rintro (e | ⟨q, q2⟩)
    · exact Or.inl (Or.inl e)
    · by_cases e : a = i
      · exact Or.inr e
      · exact Or.inl (Or.inr ⟨by omega, q2⟩)
theorem rP_no {M : MM} {room i a : Nat} (h : ¬ (wP (lP M) 6 room i ∧ wP (lP M) 6 i room)) : rP M room i a ↔ rP M room (i + 1) a := by
  unfold rP
  constructor
  · rintro (e | ⟨q, q2⟩)
    · exact Or.inl e
    · exact Or.inr ⟨by omega, q2⟩
  · rintro (e | ⟨q, q2⟩)
    · exact Or.inl e
    · by_cases e : a = i
      · subst e; exact absurd q2 h
      · exact Or.inr ⟨by omega, q2⟩
set_option maxHeartbeats 4000000 in
set_option maxRecDepth 100000 in
theorem c_X8_roomsAround (l : Launch) (D : va_G) (cy : Nat → ClassId) (base : Nat) (Λ : LY) (σ : HS) (M : MM) (hC : CR noEx Λ σ M) (hB : MBd M) (hR : M 31 10 ≤ 6) (hW : ∀ r, r < M 31 5 → M 37 r = 0 → M 38 r < M 31 10) (room : Nat) (hrm : room < M 31 10) : Met l yX8_roomsAround wsX8_roomsAround ({ frames := 12, cells := 0, slots := 0, locals := 180 }) (va_Pc [.ref (gA Λ 23 0), .int (nI room)] (Wd D cy base Λ σ)) (va_Qi (fun v u => (∃ X, v = nI X ∧ rgTo M room X (M 31 10)) ∧ GT σ u) (Wd D cy base Λ) (Ab base)) 0 0 (Ab base) := by
  refine j_start (cc := cX8_roomsAround) (nL := 4) (ret := (some .int)) (lv := [(0, .ref (gA Λ 23 0)), (1, .int (nI room))]) (by decide) rfl (Nat.le_of_ble_eq_true rfl) rfl ?_
  intro p e s m below meth c C hr hlk hnm
  have C : Cx p s m ([.ref (gA Λ 23 0), .int (nI room)] : List Value).toArray c cX8_roomsAround 4 RX8 wsX8_roomsAround D cy base := C
  have hts := C.2.2.2.2.1
  have hn : M 31 5 ≤ 40 := hB 31 5 rfl
  refine j_aload_n C dX8_roomsAround_0 rfl 0 rfl ?_
  refine c_v0 C (r_V C 23 0 [] (c_X8_findCalled l D cy base Λ σ M hC hB) (cwV 0 hts gX8_roomsAround_X8_findCalled rfl rfl rfl (by decide +kernel) ⟨by decide, by decide⟩) (CR.n1 hC (by decide)) rfl rfl rfl rfl (Nat.le_of_ble_eq_true rfl) dX8_roomsAround_1 ⟨by decide, by decide⟩) (fun u1 hp => ?_)
  obtain ⟨hG1, hm1⟩ := hp
  refine j_aload_n C dX8_roomsAround_4 rfl 0 rfl ?_
  refine c_v0 C (r_V C 23 0 [] (c_X8_leadOn l D cy base Λ u1 M (hG1.cr hC) hB _ hm1) (cwV 0 hts gX8_roomsAround_X8_leadOn rfl rfl rfl (by decide +kernel) ⟨by decide, by decide⟩) (CR.n1 (hG1.cr hC) (by decide)) rfl rfl rfl rfl (Nat.le_of_ble_eq_true rfl) dX8_roomsAround_5 ⟨by decide, by decide⟩) (fun u2 hp => ?_)
  obtain ⟨hG2, hm2⟩ := hp
  have hG3 := GT.tr hG1 hG2
  refine j_iconst C (nI 1) dX8_roomsAround_8 (by decide) ?_
  refine j_iload_n C dX8_roomsAround_9 rfl 1 rfl ?_
  refine j_ishl C (nI (2 ^ room)) dX8_roomsAround_10 (shl1 (by omega)) ?_
  refine j_istore_n C [(2, .int (nI (2 ^ room))), (0, .ref (gA Λ 23 0)), (1, .int (nI room))] dX8_roomsAround_11 rfl (by decide) rfl ?_
  refine j_iconst C (nI 0) dX8_roomsAround_12 (by decide) ?_
  refine j_istore_n C [(3, .int (nI 0)), (2, .int (nI (2 ^ room))), (0, .ref (gA Λ 23 0)), (1, .int (nI room))] dX8_roomsAround_13 rfl (by decide) rfl ?_
  have lb14 : ∀ (fu : Nat) (X i : Nat), (6 - i) < fu → (i ≤ 6) → (X < 64) → (∀ a, X.testBit a = true ↔ rP M room i a) → J p l e ({ frames := 12, cells := 0, slots := 0, locals := 180 }) s m ([.ref (gA Λ 23 0), .int (nI room)] : List Value).toArray below meth c 4 D cy base (MQ below (va_Qi (fun v u => (∃ X, v = nI X ∧ rgTo M room X (M 31 10)) ∧ GT σ u) (Wd D cy base Λ) (Ab base)) ([.ref (gA Λ 23 0), .int (nI room)] : List Value).toArray s 0 0 (Ab base)) 0 0 Λ 14 [(0, .ref (gA Λ 23 0)), (1, .int (nI room)), (2, .int (nI X)), (3, .int (nI i))] [] u2 := by
    intro fu
    induction fu with
    | zero => intro X i hfu; exact absurd hfu (Nat.not_lt_zero _)
    | succ fu ih =>
      intro X i hfu hi hX bX
      have ih14 := ih
      refine j_iload_n C dX8_roomsAround_14 rfl 3 rfl ?_
      refine j_bipush C (nI 6) dX8_roomsAround_15 (by decide) ?_
      refine j_icmp_ge (tgt := 50) C dX8_roomsAround_17 (by decide) (nI_leI (by omega) (by omega)) (fun h17 => ?_) (fun h17 => ?_)
      · refine j_iload_n C dX8_roomsAround_50 rfl 2 rfl ?_
        exact j_iret C hr hlk (⟨⟨X, rfl, rP_end hR hrm hW hX (by have q := bX; rw [show i = 6 by omega] at q; exact q)⟩, hG3⟩) dX8_roomsAround_51
      · refine j_aload_n C dX8_roomsAround_20 rfl 0 rfl ?_
        refine j_iload_n C dX8_roomsAround_21 rfl 1 rfl ?_
        refine j_iload_n C dX8_roomsAround_22 rfl 3 rfl ?_
        obtain ⟨X_3, hlX_3, hiX_3, hbX_3⟩ := hm2 room (by omega)
        refine c_i0 C (r_V C 23 0 [.int (nI room), .int (nI i)] (c_X8_leads l D cy base Λ u2 M (hG3.cr hC) hB room i X_3 (by omega) (by omega) hiX_3) (cwV 2 hts gX8_roomsAround_X8_leads rfl rfl rfl (by decide +kernel) ⟨by decide, by decide⟩) (CR.n1 (hG3.cr hC) (by decide)) rfl rfl rfl rfl (Nat.le_of_ble_eq_true rfl) dX8_roomsAround_23 ⟨by decide, by decide⟩) (fun rv uu hp => ?_)
        rw [hp.1, hp.2]
        refine j_ifeq_b (tgt := 44) C dX8_roomsAround_26 (by decide) (fun h26 => ?_) (fun h26 => ?_)
        · refine j_iinc C [(3, .int (nI (i + 1))), (0, .ref (gA Λ 23 0)), (1, .int (nI room)), (2, .int (nI X))] (nI (i + 1)) dX8_roomsAround_44 3 rfl (nI_add _ 1) (by decide) rfl ?_
          refine j_goto (tgt := 14) C dX8_roomsAround_47 (by decide) ?_
          refine j_lv [1, 2, 3, 0] rfl ?_
          exact ih14 X (i + 1) (by omega) (by omega) hX (fun a => (bX a).trans (rP_no (fun z => by rw [(hbX_3 _).mpr z.1] at h26; exact absurd h26 (by decide))))
        · refine j_aload_n C dX8_roomsAround_29 rfl 0 rfl ?_
          refine j_iload_n C dX8_roomsAround_30 rfl 3 rfl ?_
          refine j_iload_n C dX8_roomsAround_31 rfl 1 rfl ?_
          obtain ⟨X_5, hlX_5, hiX_5, hbX_5⟩ := hm2 i (by omega)
          refine c_i0 C (r_V C 23 0 [.int (nI i), .int (nI room)] (c_X8_leads l D cy base Λ u2 M (hG3.cr hC) hB i room X_5 (by omega) (by omega) hiX_5) (cwV 2 hts gX8_roomsAround_X8_leads rfl rfl rfl (by decide +kernel) ⟨by decide, by decide⟩) (CR.n1 (hG3.cr hC) (by decide)) rfl rfl rfl rfl (Nat.le_of_ble_eq_true rfl) dX8_roomsAround_32 ⟨by decide, by decide⟩) (fun rv uu hp => ?_)
          rw [hp.1, hp.2]
          refine j_ifeq_b (tgt := 44) C dX8_roomsAround_35 (by decide) (fun h35 => ?_) (fun h35 => ?_)
          · refine j_iinc C [(3, .int (nI (i + 1))), (0, .ref (gA Λ 23 0)), (1, .int (nI room)), (2, .int (nI X))] (nI (i + 1)) dX8_roomsAround_44 3 rfl (nI_add _ 1) (by decide) rfl ?_
            refine j_goto (tgt := 14) C dX8_roomsAround_47 (by decide) ?_
            refine j_lv [1, 2, 3, 0] rfl ?_
            exact ih14 X (i + 1) (by omega) (by omega) hX (fun a => (bX a).trans (rP_no (fun z => by rw [(hbX_5 _).mpr z.2] at h35; exact absurd h35 (by decide))))
          · refine j_iload_n C dX8_roomsAround_38 rfl 2 rfl ?_
            refine j_iconst C (nI 1) dX8_roomsAround_39 (by decide) ?_
            refine j_iload_n C dX8_roomsAround_40 rfl 3 rfl ?_
            refine j_ishl C (nI (2 ^ i)) dX8_roomsAround_41 (shl1 (by omega)) ?_
            refine j_ior C (nI (X ||| 2 ^ i)) dX8_roomsAround_42 (fa_or _ _) ?_
            refine j_istore_n C [(2, .int (nI (X ||| 2 ^ i))), (0, .ref (gA Λ 23 0)), (1, .int (nI room)), (3, .int (nI i))] dX8_roomsAround_43 rfl (by decide) rfl ?_
            refine j_iinc C [(3, .int (nI (i + 1))), (2, .int (nI (X ||| 2 ^ i))), (0, .ref (gA Λ 23 0)), (1, .int (nI room))] (nI (i + 1)) dX8_roomsAround_44 3 rfl (nI_add _ 1) (by decide) rfl ?_
            refine j_goto (tgt := 14) C dX8_roomsAround_47 (by decide) ?_
            refine j_lv [2, 3, 1, 0] rfl ?_
            exact ih14 (X ||| 2 ^ i) (i + 1) (by omega) (by omega) (or_lt hX (pow6 (by omega))) (fun a => by rw [bit_or_pow, Bool.or_eq_true, decide_eq_true_eq, bX]; exact rP_yes ((hbX_3 _).mp h26) ((hbX_5 _).mp h35))
  refine j_lv [2, 3, 1, 0] rfl ?_
  exact lb14 _ (2 ^ room) 0 (Nat.lt_succ_self _) (by omega) (pow6 (by omega)) (fun a => by rw [Nat.testBit_two_pow, decide_eq_true_eq]; exact ⟨fun z => Or.inl z.symm, fun z => z.elim (fun q => q.symm) (fun q => by omega)⟩)
