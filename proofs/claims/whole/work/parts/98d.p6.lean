theorem by_lo : ∀ x : Nat, x < 128 → (nI x).toInt8.toInt32 = nI x := by decide +kernel
theorem CR.tx0 {Λ : LY} {σ : HS} {M : MM} (h : CR noEx Λ σ M) (hB : MBd M) : TX Λ σ 0 (M 31 2) 40 (M 32) := by
  have h2 : M 31 2 ≤ 40 := hB 31 2 rfl
  exact ⟨(CR.n2 h (by decide)).1, (CR.n2 h (by decide)).2, h.2.1 0 (CR.n2 h (by decide)).1, CR.i h 1 0 1 ⟨by decide, rfl⟩ id, h2, h.1.2.2.2.2.2.2.2.2.2.2.1, Nat.le_refl _, fun k hk => CR.i h 2 0 k (Or.inl ⟨rfl, hk⟩) id, fun k hk => hB 32 k (decide_eq_true (show k < 40 by omega))⟩
theorem CR.tx1 {Λ : LY} {σ : HS} {M : MM} (h : CR noEx Λ σ M) (h1 : M 31 18 ≤ 20) (h2 : ∀ k, k < M 31 18 → M 43 k < 128) : TX Λ σ 1 (M 31 18) 20 (M 43) := by
  exact ⟨(CR.n2 h (by decide)).1, (CR.n2 h (by decide)).2, h.2.1 1 (CR.n2 h (by decide)).1, CR.i h 1 1 1 ⟨by decide, rfl⟩ id, h1, h.1.2.2.2.2.2.2.2.2.2.2.2, by decide, fun k hk => (CR.i h 2 1 k (Or.inr ⟨rfl, hk⟩) id).trans (by_lo _ (h2 k hk)).symm, fun k hk => by have := h2 k hk; omega⟩
theorem cI_1 (M : MM) (i k : Nat) : cI M 1 i k = if i = 0 then nI (M 31 2) else nI (M 31 18) := rfl
theorem cI_3 (M : MM) (i k : Nat) : cI M 3 i k = if k = 4 then nI (M 31 5) else nI (hcN M) := rfl
theorem cI_6 (M : MM) (i k : Nat) : cI M 6 i k = nI (stg M k) := rfl
theorem cI_8 (M : MM) (i k : Nat) : cI M 8 i k = if k = 0 then nI i else if k = 10 then nI (M 40 i) - 1 else if k = 11 then nI (M 38 i) else nI (M 37 i) := rfl
theorem cI_10 (M : MM) (i k : Nat) : cI M 10 i k = nI (M 35 ((40 * (i % 3) + i / 3) * 40 + k)) := rfl
theorem cI_11 (M : MM) (i k : Nat) : cI M 11 i k = nI (tieN M i k) := rfl
theorem cI_12 (M : MM) (i k : Nat) : cI M 12 i k = nI (M 39 (40 * i + k)) := rfl
theorem cI_25 (M : MM) (i k : Nat) : cI M 25 i k = nI (M 31 22) := rfl
theorem cI_27 (M : MM) (i k : Nat) : cI M 27 i k = nI (M 31 23) := rfl
theorem cI_28 (M : MM) (i k : Nat) : cI M 28 i k = nI (M 47 k) - 1 := rfl
theorem cI_2 (M : MM) (i k : Nat) : cI M 2 i k = if i = 0 then (nI (M 32 k)).toInt8.toInt32 else nI (M 43 k) := rfl
/-- the tape, the page as they are now -/
def tpM (M : MM) (n : Nat) (f : Nat → Nat) : MM := fun t k => if t = 32 then f k else if t = 31 ∧ k = 2 then n else M t k
def pgM (M : MM) (n : Nat) (f : Nat → Nat) : MM := fun t k => if t = 43 then f k else if t = 31 ∧ k = 18 then n else M t k
set_option maxRecDepth 100000 in
theorem CR.tape {Λ : LY} {σ u : HS} {M : MM} {n : Nat} {f fg : Nat → Nat} (h : CR noEx Λ σ M) (g : GX σ u 0) (tx : TX Λ u 0 n 40 f) (hg : ∀ k, k < n → fg k = f k) : CR noEx Λ u (tpM M n fg) := by
  refine ⟨h.1, fun i hi => by rw [g.2.1]; exact h.2.1 i hi, fun t i k ho he => ?_, fun t i k ho he => ?_, fun t i k ho he => ?_⟩
  · rcases okI_dom ho with rfl | rfl | rfl | rfl | rfl | rfl | rfl | rfl | rfl | rfl | rfl
    · obtain ⟨h1, h2⟩ := ho
      subst h2
      rcases (show i = 0 ∨ i = 1 by omega) with e | e <;> subst e
      · rw [cI_1]; exact tx.2.2.2.1
      · rw [cI_1]; exact (congrFun (g.2.2 1 1 (Or.inr (by decide))) 1).trans ((CR.i h 1 1 1 ⟨by decide, rfl⟩ he).trans (cI_1 M _ _))
    · rcases ho with ⟨h1, h2⟩ | ⟨h1, h2⟩ <;> subst h1
      · rw [cI_2, if_pos rfl]
        refine (tx.2.2.2.2.2.2.2.1 k h2).trans ?_
        rw [show tpM M n fg 32 k = fg k from rfl, hg k h2]
      · rw [cI_2, if_neg (by decide)]
        refine (congrFun (g.2.2 2 1 (Or.inr (by decide))) k).trans ((CR.i h 2 1 k (Or.inr ⟨rfl, h2⟩) he).trans ?_)
        rw [cI_2, if_neg (by decide)]
        first | done | rfl
    · refine (congrFun (g.2.2 3 i (Or.inl ⟨by decide, by decide⟩)) k).trans ((CR.i h 3 i k ho he).trans ?_)
      rw [cI_3 M, cI_3 (tpM M n fg)]
      first | done | rfl
    · refine (congrFun (g.2.2 6 i (Or.inl ⟨by decide, by decide⟩)) k).trans ((CR.i h 6 i k ho he).trans ?_)
      rw [cI_6 M, cI_6 (tpM M n fg)]
      obtain ⟨_, hk6⟩ := ho
      rcases (show k = 0 ∨ k = 1 ∨ k = 2 ∨ k = 3 ∨ k = 4 ∨ k = 5 by omega) with e | e | e | e | e | e <;> subst e <;> rfl
    · refine (congrFun (g.2.2 8 i (Or.inl ⟨by decide, by decide⟩)) k).trans ((CR.i h 8 i k ho he).trans ?_)
      rw [cI_8 M, cI_8 (tpM M n fg)]
      first | done | rfl
    · refine (congrFun (g.2.2 10 i (Or.inl ⟨by decide, by decide⟩)) k).trans ((CR.i h 10 i k ho he).trans ?_)
      rw [cI_10 M, cI_10 (tpM M n fg)]
      first | done | rfl
    · refine (congrFun (g.2.2 11 i (Or.inl ⟨by decide, by decide⟩)) k).trans ((CR.i h 11 i k ho he).trans ?_)
      rw [cI_11 M, cI_11 (tpM M n fg)]
      first | done | rfl
    · refine (congrFun (g.2.2 12 i (Or.inl ⟨by decide, by decide⟩)) k).trans ((CR.i h 12 i k ho he).trans ?_)
      rw [cI_12 M, cI_12 (tpM M n fg)]
      first | done | rfl
    · refine (congrFun (g.2.2 25 i (Or.inl ⟨by decide, by decide⟩)) k).trans ((CR.i h 25 i k ho he).trans ?_)
      rw [cI_25 M, cI_25 (tpM M n fg)]
      first | done | rfl
    · refine (congrFun (g.2.2 27 i (Or.inl ⟨by decide, by decide⟩)) k).trans ((CR.i h 27 i k ho he).trans ?_)
      rw [cI_27 M, cI_27 (tpM M n fg)]
      first | done | rfl
    · refine (congrFun (g.2.2 28 i (Or.inl ⟨by decide, by decide⟩)) k).trans ((CR.i h 28 i k ho he).trans ?_)
      rw [cI_28 M, cI_28 (tpM M n fg)]
      first | done | rfl
  · rw [g.1]
    rcases okJ_dom ho with rfl | rfl
    · exact CR.j h 8 i k ho he
    · exact CR.j h 26 i k ho he
  · rw [g.2.1]
    rcases okV_dom ho with rfl | rfl | rfl | rfl | rfl | rfl | rfl | rfl | rfl | rfl | rfl | rfl | rfl
    · exact CR.v h 0 i k ho he
    · exact CR.v h 3 i k ho he
    · exact CR.v h 4 i k ho he
    · have e1 := hcN_congr (M := M) (M2 := tpM M n fg) rfl rfl
      have e2 : hs _ k = hs M k := hs_congr (M := M) (M2 := tpM M n fg) rfl rfl
      refine (CR.v h 5 i k ⟨ho.1, by rw [← e1]; exact ho.2⟩ he).trans ?_
      show some (hs M k) = some (hs _ k)
      rw [e2]
    · exact CR.v h 8 i k ho he
    · exact CR.v h 9 i k ho he
    · exact CR.v h 14 i k ho he
    · exact CR.v h 18 i k ho he
    · exact CR.v h 20 i k ho he
    · exact CR.v h 23 i k ho he
    · exact CR.v h 25 i k ho he
    · exact CR.v h 27 i k ho he
    · exact CR.v h 29 i k ho he
set_option maxRecDepth 100000 in
theorem CR.page {Λ : LY} {σ u : HS} {M : MM} {n : Nat} {f fg : Nat → Nat} (h : CR noEx Λ σ M) (g : GX σ u 1) (tx : TX Λ u 1 n 20 f) (hg : ∀ k, k < n → fg k = f k) (hlo : ∀ k, k < n → f k < 128) : CR noEx Λ u (pgM M n fg) := by
  refine ⟨h.1, fun i hi => by rw [g.2.1]; exact h.2.1 i hi, fun t i k ho he => ?_, fun t i k ho he => ?_, fun t i k ho he => ?_⟩
  · rcases okI_dom ho with rfl | rfl | rfl | rfl | rfl | rfl | rfl | rfl | rfl | rfl | rfl
    · obtain ⟨h1, h2⟩ := ho
      subst h2
      rcases (show i = 0 ∨ i = 1 by omega) with e | e <;> subst e
      · rw [cI_1]; exact (congrFun (g.2.2 1 0 (Or.inr (by decide))) 1).trans ((CR.i h 1 0 1 ⟨by decide, rfl⟩ he).trans (cI_1 M _ _))
      · rw [cI_1]; exact tx.2.2.2.1
    · rcases ho with ⟨h1, h2⟩ | ⟨h1, h2⟩ <;> subst h1
      · rw [cI_2, if_pos rfl]
        refine (congrFun (g.2.2 2 0 (Or.inr (by decide))) k).trans ((CR.i h 2 0 k (Or.inl ⟨rfl, h2⟩) he).trans ?_)
        rw [cI_2, if_pos rfl]
        first | done | rfl
      · rw [cI_2, if_neg (by decide)]
        refine (tx.2.2.2.2.2.2.2.1 k h2).trans ?_
        rw [show pgM M n fg 43 k = fg k from rfl, hg k h2]
        exact by_lo _ (hlo k h2)
    · refine (congrFun (g.2.2 3 i (Or.inl ⟨by decide, by decide⟩)) k).trans ((CR.i h 3 i k ho he).trans ?_)
      rw [cI_3 M, cI_3 (pgM M n fg)]
      first | done | rfl
    · refine (congrFun (g.2.2 6 i (Or.inl ⟨by decide, by decide⟩)) k).trans ((CR.i h 6 i k ho he).trans ?_)
      rw [cI_6 M, cI_6 (pgM M n fg)]
      obtain ⟨_, hk6⟩ := ho
      rcases (show k = 0 ∨ k = 1 ∨ k = 2 ∨ k = 3 ∨ k = 4 ∨ k = 5 by omega) with e | e | e | e | e | e <;> subst e <;> rfl
    · refine (congrFun (g.2.2 8 i (Or.inl ⟨by decide, by decide⟩)) k).trans ((CR.i h 8 i k ho he).trans ?_)
      rw [cI_8 M, cI_8 (pgM M n fg)]
      first | done | rfl
    · refine (congrFun (g.2.2 10 i (Or.inl ⟨by decide, by decide⟩)) k).trans ((CR.i h 10 i k ho he).trans ?_)
      rw [cI_10 M, cI_10 (pgM M n fg)]
      first | done | rfl
    · refine (congrFun (g.2.2 11 i (Or.inl ⟨by decide, by decide⟩)) k).trans ((CR.i h 11 i k ho he).trans ?_)
      rw [cI_11 M, cI_11 (pgM M n fg)]
      first | done | rfl
    · refine (congrFun (g.2.2 12 i (Or.inl ⟨by decide, by decide⟩)) k).trans ((CR.i h 12 i k ho he).trans ?_)
      rw [cI_12 M, cI_12 (pgM M n fg)]
      first | done | rfl
    · refine (congrFun (g.2.2 25 i (Or.inl ⟨by decide, by decide⟩)) k).trans ((CR.i h 25 i k ho he).trans ?_)
      rw [cI_25 M, cI_25 (pgM M n fg)]
      first | done | rfl
    · refine (congrFun (g.2.2 27 i (Or.inl ⟨by decide, by decide⟩)) k).trans ((CR.i h 27 i k ho he).trans ?_)
      rw [cI_27 M, cI_27 (pgM M n fg)]
      first | done | rfl
    · refine (congrFun (g.2.2 28 i (Or.inl ⟨by decide, by decide⟩)) k).trans ((CR.i h 28 i k ho he).trans ?_)
      rw [cI_28 M, cI_28 (pgM M n fg)]
      first | done | rfl
  · rw [g.1]
    rcases okJ_dom ho with rfl | rfl
    · exact CR.j h 8 i k ho he
    · exact CR.j h 26 i k ho he
  · rw [g.2.1]
    rcases okV_dom ho with rfl | rfl | rfl | rfl | rfl | rfl | rfl | rfl | rfl | rfl | rfl | rfl | rfl
    · exact CR.v h 0 i k ho he
    · exact CR.v h 3 i k ho he
    · exact CR.v h 4 i k ho he
    · have e1 := hcN_congr (M := M) (M2 := pgM M n fg) rfl rfl
      have e2 : hs _ k = hs M k := hs_congr (M := M) (M2 := pgM M n fg) rfl rfl
      refine (CR.v h 5 i k ⟨ho.1, by rw [← e1]; exact ho.2⟩ he).trans ?_
      show some (hs M k) = some (hs _ k)
      rw [e2]
    · exact CR.v h 8 i k ho he
    · exact CR.v h 9 i k ho he
    · exact CR.v h 14 i k ho he
    · exact CR.v h 18 i k ho he
    · exact CR.v h 20 i k ho he
    · exact CR.v h 23 i k ho he
    · exact CR.v h 25 i k ho he
    · exact CR.v h 27 i k ho he
    · exact CR.v h 29 i k ho he
theorem feedTo_tp (M : MM) (tl : Nat) (f : Nat → Nat) : feedTo M tl f 20 = tpM M (tl + 20) (fun k => if tl ≤ k ∧ k < tl + 20 then f (k - tl) else M 32 k) := by
  funext t k
  unfold feedTo tpM
  by_cases h : t = 32
  · subst h
    rw [if_pos rfl]
    show _ = (if tl ≤ k ∧ k < tl + 20 then f (k - tl) else M 32 k)
    by_cases h : tl ≤ k ∧ k < tl + 20
    · rw [if_pos ⟨rfl, h⟩, if_pos h]
    · rw [if_neg (fun z => h z.2), if_neg h, if_neg (fun z => absurd z.1 (by decide))]
  · rw [if_neg (fun z => h z.1), if_neg h]
theorem fed_ap {f : Nat → Nat} {n k : Nat} (a1 a2 a3 a4 a5 : Int32) (h : k < n + 4 + 4 + 4 + 4 + 4) : (if n ≤ k ∧ k < n + 20 then fedB a1 a2 a3 a4 a5 (k - n) else f k) = apN (apN (apN (apN (apN f n a1) (n + 4) a2) (n + 4 + 4) a3) (n + 4 + 4 + 4) a4) (n + 4 + 4 + 4 + 4) a5 k := by
  unfold apN
  by_cases h0 : n ≤ k
  · rw [if_pos ⟨h0, by omega⟩]
    unfold fedB
    by_cases h4 : k < n + 4 + 4 + 4 + 4
    · rw [if_pos h4]
      by_cases h3 : k < n + 4 + 4 + 4
      · rw [if_pos h3]
        by_cases h2 : k < n + 4 + 4
        · rw [if_pos h2]
          by_cases h1 : k < n + 4
          · rw [if_pos h1, if_neg (by omega), show (k - n) / 4 = 0 by omega, show (k - n) % 4 = k - n by omega]; rfl
          · rw [if_neg h1, show (k - n) / 4 = 1 by omega, show (k - n) % 4 = k - (n + 4) by omega]; rfl
        · rw [if_neg h2, show (k - n) / 4 = 2 by omega, show (k - n) % 4 = k - (n + 4 + 4) by omega]; rfl
      · rw [if_neg h3, show (k - n) / 4 = 3 by omega, show (k - n) % 4 = k - (n + 4 + 4 + 4) by omega]; rfl
    · rw [if_neg h4, show (k - n) / 4 = 4 by omega, show (k - n) % 4 = k - (n + 4 + 4 + 4 + 4) by omega]; rfl
  · rw [if_neg (fun z => h0 z.1), if_pos (by omega), if_pos (by omega), if_pos (by omega), if_pos (by omega), if_pos (by omega)]
set_option maxHeartbeats 4000000 in
set_option maxRecDepth 100000 in
theorem c_feed_no (l : Launch) (D : va_G) (cy : Nat → ClassId) (base : Nat) (Λ : LY) (σ : HS) (M : MM) (hC : CR noEx Λ σ M) (hB : MBd M) (a1 a2 a3 a4 a5 : Int32) (hA : 20 < M 31 2) : Met l yX10_feed wsX10_feed ({ frames := 12, cells := 0, slots := 0, locals := 180 }) (va_Pc [.ref (gA Λ 0 0), .int (a1), .int (a2), .int (a3), .int (a4), .int (a5)] (Wd D cy base Λ σ)) (va_Qi (fun v u => v = -1 ∧ u = σ) (Wd D cy base Λ) (Ab base)) 0 0 (Ab base) := by
  refine j_start (cc := cX10_feed) (nL := 6) (ret := (some .int)) (lv := [(0, .ref (gA Λ 0 0)), (1, .int (a1)), (2, .int (a2)), (3, .int (a3)), (4, .int (a4)), (5, .int (a5))]) (by decide) rfl (Nat.le_of_ble_eq_true rfl) rfl ?_
  intro p e s m below meth c C hr hlk hnm
  have C : Cx p s m ([.ref (gA Λ 0 0), .int (a1), .int (a2), .int (a3), .int (a4), .int (a5)] : List Value).toArray c cX10_feed 6 RX10 wsX10_feed D cy base := C
  have hts := C.2.2.2.2.1
  have hwX10 : ∀ w ∈ u_ws RX10 TX10 9, w ∈ wsX10_feed := by decide +kernel
  have hwX7 : ∀ w ∈ u_ws RX7 TX7 2, w ∈ wsX10_feed := by decide +kernel
  have hM14 : (Cond.fieldLink RX10 14 (TX10 0).1 (TX10 0).2.1 (TX10 0).2.2.1).before ([.ref (gA Λ 0 0), .int (a1), .int (a2), .int (a3), .int (a4), .int (a5)] : List Value).toArray s = true := hts (.fieldLink RX10 14 "CodeRooms" "tape" "LCodeRooms$Text;") (by decide +kernel)
  have hL14 : FL RX10 14 (TX10 0).1 (TX10 0).2.1 (TX10 0).2.2.1 ([.ref (gA Λ 0 0), .int (a1), .int (a2), .int (a3), .int (a4), .int (a5)] : List Value).toArray s := Or.inl hM14
  have hL72 : FL RX10 72 (TX7 1).1 (TX7 1).2.1 (TX7 1).2.2.1 ([.ref (gA Λ 0 0), .int (a1), .int (a2), .int (a3), .int (a4), .int (a5)] : List Value).toArray s := Or.inr ⟨_, Ex.nestF C.2.2.2.2.2.2 nf_X10_72⟩
  have hT0 := CR.tx0 hC hB
  have h2 : M 31 2 ≤ 40 := hB 31 2 rfl
  refine j_aload_n C dX10_feed_0 rfl 0 rfl ?_
  refine j_getV C hwX10 0 0 0 (CR.n1 hC (by decide)) rfl rfl (by decide) rfl 0 (CR.v hC 0 0 0 ⟨rfl, by decide⟩ id) hL14 dX10_feed_1 ?_
  refine j_getI C hwX7 1 0 1 hT0.1 rfl rfl (by decide) rfl (nI (M 31 2)) hT0.2.2.2.1 hL72 dX10_feed_4 ?_
  refine j_bipush C (nI 20) dX10_feed_7 (by decide) ?_
  refine j_iadd C (nI (M 31 2 + 20)) dX10_feed_9 (nI_add _ _) ?_
  refine j_bipush C (nI 40) dX10_feed_10 (by decide) ?_
  refine j_icmp_le (tgt := 17) C dX10_feed_12 (by decide) (nI_leI (by omega) (by omega)) (fun h12 => ?_) (fun h12 => ?_)
  · omega
  · refine j_iconst C ((-1)) dX10_feed_15 (by decide) ?_
    exact j_iret C hr hlk (⟨rfl, rfl⟩) dX10_feed_16

set_option maxHeartbeats 4000000 in
set_option maxRecDepth 100000 in
theorem c_feed_ok (l : Launch) (D : va_G) (cy : Nat → ClassId) (base : Nat) (Λ : LY) (σ : HS) (M : MM) (hC : CR noEx Λ σ M) (hB : MBd M) (a1 a2 a3 a4 a5 : Int32) (hA : M 31 2 ≤ 20) : Met l yX10_feed wsX10_feed ({ frames := 12, cells := 0, slots := 0, locals := 180 }) (va_Pc [.ref (gA Λ 0 0), .int (a1), .int (a2), .int (a3), .int (a4), .int (a5)] (Wd D cy base Λ σ)) (va_Qi (fun v u => v = nI (M 31 2 + 20) ∧ CR noEx Λ u (feedTo M (M 31 2) (fedB a1 a2 a3 a4 a5) 20) ∧ GX σ u 0) (Wd D cy base Λ) (Ab base)) 0 0 (Ab base) := by
  refine j_start (cc := cX10_feed) (nL := 6) (ret := (some .int)) (lv := [(0, .ref (gA Λ 0 0)), (1, .int (a1)), (2, .int (a2)), (3, .int (a3)), (4, .int (a4)), (5, .int (a5))]) (by decide) rfl (Nat.le_of_ble_eq_true rfl) rfl ?_
  intro p e s m below meth c C hr hlk hnm
  have C : Cx p s m ([.ref (gA Λ 0 0), .int (a1), .int (a2), .int (a3), .int (a4), .int (a5)] : List Value).toArray c cX10_feed 6 RX10 wsX10_feed D cy base := C
  have hts := C.2.2.2.2.1
  have hwX10 : ∀ w ∈ u_ws RX10 TX10 9, w ∈ wsX10_feed := by decide +kernel
  have hwX7 : ∀ w ∈ u_ws RX7 TX7 2, w ∈ wsX10_feed := by decide +kernel
  have hM14 : (Cond.fieldLink RX10 14 (TX10 0).1 (TX10 0).2.1 (TX10 0).2.2.1).before ([.ref (gA Λ 0 0), .int (a1), .int (a2), .int (a3), .int (a4), .int (a5)] : List Value).toArray s = true := hts (.fieldLink RX10 14 "CodeRooms" "tape" "LCodeRooms$Text;") (by decide +kernel)
  have hL14 : FL RX10 14 (TX10 0).1 (TX10 0).2.1 (TX10 0).2.2.1 ([.ref (gA Λ 0 0), .int (a1), .int (a2), .int (a3), .int (a4), .int (a5)] : List Value).toArray s := Or.inl hM14
  have hL72 : FL RX10 72 (TX7 1).1 (TX7 1).2.1 (TX7 1).2.2.1 ([.ref (gA Λ 0 0), .int (a1), .int (a2), .int (a3), .int (a4), .int (a5)] : List Value).toArray s := Or.inr ⟨_, Ex.nestF C.2.2.2.2.2.2 nf_X10_72⟩
  have hT0 := CR.tx0 hC hB
  have h2 : M 31 2 ≤ 40 := hB 31 2 rfl
  refine j_aload_n C dX10_feed_0 rfl 0 rfl ?_
  refine j_getV C hwX10 0 0 0 (CR.n1 hC (by decide)) rfl rfl (by decide) rfl 0 (CR.v hC 0 0 0 ⟨rfl, by decide⟩ id) hL14 dX10_feed_1 ?_
  refine j_getI C hwX7 1 0 1 hT0.1 rfl rfl (by decide) rfl (nI (M 31 2)) hT0.2.2.2.1 hL72 dX10_feed_4 ?_
  refine j_bipush C (nI 20) dX10_feed_7 (by decide) ?_
  refine j_iadd C (nI (M 31 2 + 20)) dX10_feed_9 (nI_add _ _) ?_
  refine j_bipush C (nI 40) dX10_feed_10 (by decide) ?_
  refine j_icmp_le (tgt := 17) C dX10_feed_12 (by decide) (nI_leI (by omega) (by omega)) (fun h12 => ?_) (fun h12 => ?_)
  · refine j_aload_n C dX10_feed_17 rfl 0 rfl ?_
    refine j_getV C hwX10 0 0 0 (CR.n1 hC (by decide)) rfl rfl (by decide) rfl 0 (CR.v hC 0 0 0 ⟨rfl, by decide⟩ id) hL14 dX10_feed_18 ?_
    refine j_iload_n C dX10_feed_21 rfl 1 rfl ?_
    refine c_v0 C (r_V C 1 0 [.int (a1)] (c_X7_addNumber l D cy base Λ σ 0 (M 31 2) 40 (M 32) hT0 a1 (by omega)) (cwV 1 hts gX10_feed_X7_addNumber rfl rfl rfl (by decide +kernel) ⟨by decide, by decide⟩) hT0.1 rfl rfl rfl rfl (Nat.le_of_ble_eq_true rfl) dX10_feed_22 ⟨by decide, by decide⟩) (fun u1 hp1 => ?_)
    refine j_aload_n C dX10_feed_25 rfl 0 rfl ?_
    refine j_getV C hwX10 0 0 0 (CR.n1 hC (by decide)) rfl rfl (by decide) rfl 0 ((congrFun (congrFun (congrFun hp1.2.2.1 0) 0) 0).trans (CR.v hC 0 0 0 ⟨rfl, by decide⟩ id)) hL14 dX10_feed_26 ?_
    refine j_iload_n C dX10_feed_29 rfl 2 rfl ?_
    refine c_v0 C (r_V C 1 0 [.int (a2)] (c_X7_addNumber l D cy base Λ u1 0 (M 31 2 + 4) 40 (apN (M 32) (M 31 2) a1) hp1.1 a2 (by omega)) (cwV 1 hts gX10_feed_X7_addNumber rfl rfl rfl (by decide +kernel) ⟨by decide, by decide⟩) hp1.1.1 rfl rfl rfl rfl (Nat.le_of_ble_eq_true rfl) dX10_feed_30 ⟨by decide, by decide⟩) (fun u2 hp2 => ?_)
    have hG2 := GX.tr hp1.2 hp2.2
    refine j_aload_n C dX10_feed_33 rfl 0 rfl ?_
    refine j_getV C hwX10 0 0 0 (CR.n1 hC (by decide)) rfl rfl (by decide) rfl 0 ((congrFun (congrFun (congrFun hG2.2.1 0) 0) 0).trans (CR.v hC 0 0 0 ⟨rfl, by decide⟩ id)) hL14 dX10_feed_34 ?_
    refine j_iload_n C dX10_feed_37 rfl 3 rfl ?_
    refine c_v0 C (r_V C 1 0 [.int (a3)] (c_X7_addNumber l D cy base Λ u2 0 (M 31 2 + 4 + 4) 40 (apN (apN (M 32) (M 31 2) a1) (M 31 2 + 4) a2) hp2.1 a3 (by omega)) (cwV 1 hts gX10_feed_X7_addNumber rfl rfl rfl (by decide +kernel) ⟨by decide, by decide⟩) hp2.1.1 rfl rfl rfl rfl (Nat.le_of_ble_eq_true rfl) dX10_feed_38 ⟨by decide, by decide⟩) (fun u3 hp3 => ?_)
    have hG3 := GX.tr hG2 hp3.2
    refine j_aload_n C dX10_feed_41 rfl 0 rfl ?_
    refine j_getV C hwX10 0 0 0 (CR.n1 hC (by decide)) rfl rfl (by decide) rfl 0 ((congrFun (congrFun (congrFun hG3.2.1 0) 0) 0).trans (CR.v hC 0 0 0 ⟨rfl, by decide⟩ id)) hL14 dX10_feed_42 ?_
    refine j_iload C dX10_feed_45 4 rfl ?_
    refine c_v0 C (r_V C 1 0 [.int (a4)] (c_X7_addNumber l D cy base Λ u3 0 (M 31 2 + 4 + 4 + 4) 40 (apN (apN (apN (M 32) (M 31 2) a1) (M 31 2 + 4) a2) (M 31 2 + 4 + 4) a3) hp3.1 a4 (by omega)) (cwV 1 hts gX10_feed_X7_addNumber rfl rfl rfl (by decide +kernel) ⟨by decide, by decide⟩) hp3.1.1 rfl rfl rfl rfl (Nat.le_of_ble_eq_true rfl) dX10_feed_47 ⟨by decide, by decide⟩) (fun u4 hp4 => ?_)
    have hG4 := GX.tr hG3 hp4.2
    refine j_aload_n C dX10_feed_50 rfl 0 rfl ?_
    refine j_getV C hwX10 0 0 0 (CR.n1 hC (by decide)) rfl rfl (by decide) rfl 0 ((congrFun (congrFun (congrFun hG4.2.1 0) 0) 0).trans (CR.v hC 0 0 0 ⟨rfl, by decide⟩ id)) hL14 dX10_feed_51 ?_
    refine j_iload C dX10_feed_54 5 rfl ?_
    refine c_v0 C (r_V C 1 0 [.int (a5)] (c_X7_addNumber l D cy base Λ u4 0 (M 31 2 + 4 + 4 + 4 + 4) 40 (apN (apN (apN (apN (M 32) (M 31 2) a1) (M 31 2 + 4) a2) (M 31 2 + 4 + 4) a3) (M 31 2 + 4 + 4 + 4) a4) hp4.1 a5 (by omega)) (cwV 1 hts gX10_feed_X7_addNumber rfl rfl rfl (by decide +kernel) ⟨by decide, by decide⟩) hp4.1.1 rfl rfl rfl rfl (Nat.le_of_ble_eq_true rfl) dX10_feed_56 ⟨by decide, by decide⟩) (fun u5 hp5 => ?_)
    have hG5 := GX.tr hG4 hp5.2
    refine j_aload_n C dX10_feed_59 rfl 0 rfl ?_
    refine j_getV C hwX10 0 0 0 (CR.n1 hC (by decide)) rfl rfl (by decide) rfl 0 ((congrFun (congrFun (congrFun hG5.2.1 0) 0) 0).trans (CR.v hC 0 0 0 ⟨rfl, by decide⟩ id)) hL14 dX10_feed_60 ?_
    refine j_getI C hwX7 1 0 1 hp5.1.1 rfl rfl (by decide) rfl (nI (M 31 2 + 4 + 4 + 4 + 4 + 4)) hp5.1.2.2.2.1 hL72 dX10_feed_63 ?_
    exact j_iret C hr hlk (⟨by congr 1, by rw [feedTo_tp]; exact CR.tape (n := M 31 2 + 20) hC hG5 hp5.1 (fun k hk => fed_ap a1 a2 a3 a4 a5 hk), hG5⟩) dX10_feed_66
  · omega

set_option maxHeartbeats 4000000 in
set_option maxRecDepth 100000 in
theorem c_octet_no (l : Launch) (D : va_G) (cy : Nat → ClassId) (base : Nat) (Λ : LY) (σ : HS) (M : MM) (hC : CR noEx Λ σ M) (hB : MBd M) (hp1 : M 31 18 ≤ 20) (hp2 : ∀ k, k < M 31 18 → M 43 k < 128) (k : Int32) (hk : k.toInt < 0 ∨ (M 31 18 : Int) ≤ k.toInt) : Met l yX10_octet wsX10_octet ({ frames := 8, cells := 0, slots := 0, locals := 120 }) (va_Pc [.ref (gA Λ 0 0), .int (k)] (Wd D cy base Λ σ)) (va_Qi (fun v u => v = -1 ∧ u = σ) (Wd D cy base Λ) (Ab base)) 0 0 (Ab base) := by
  refine j_start (cc := cX10_octet) (nL := 2) (ret := (some .int)) (lv := [(0, .ref (gA Λ 0 0)), (1, .int (k))]) (by decide) rfl (Nat.le_of_ble_eq_true rfl) rfl ?_
  intro p e s m below meth c C hr hlk hnm
  have C : Cx p s m ([.ref (gA Λ 0 0), .int (k)] : List Value).toArray c cX10_octet 2 RX10 wsX10_octet D cy base := C
  have hts := C.2.2.2.2.1
  have hwX10 : ∀ w ∈ u_ws RX10 TX10 9, w ∈ wsX10_octet := by decide +kernel
  have hM18 : (Cond.fieldLink RX10 18 (TX10 1).1 (TX10 1).2.1 (TX10 1).2.2.1).before ([.ref (gA Λ 0 0), .int (k)] : List Value).toArray s = true := hts (.fieldLink RX10 18 "CodeRooms" "page" "LCodeRooms$Text;") (by decide +kernel)
  have hL18 : FL RX10 18 (TX10 1).1 (TX10 1).2.1 (TX10 1).2.2.1 ([.ref (gA Λ 0 0), .int (k)] : List Value).toArray s := Or.inl hM18
  refine j_aload_n C dX10_octet_0 rfl 0 rfl ?_
  refine j_getV C hwX10 0 0 1 (CR.n1 hC (by decide)) rfl rfl (by decide) rfl 1 (CR.v hC 0 0 1 ⟨rfl, by decide⟩ id) hL18 dX10_octet_1 ?_
  refine j_iload_n C dX10_octet_4 rfl 1 rfl ?_
  refine c_i0 C (r_V C 1 1 [.int (k)] (c_at_out l D cy base Λ σ 1 (M 31 18) 20 (M 43) (CR.tx1 hC hp1 hp2) k hk) (cwV 1 hts gX10_octet_X7_at rfl rfl rfl (by decide +kernel) ⟨by decide, by decide⟩) (CR.n2 hC (by decide)).1 rfl rfl rfl rfl (Nat.le_of_ble_eq_true rfl) dX10_octet_5 ⟨by decide, by decide⟩) (fun rv u1 hp => ?_)
  exact j_iret C hr hlk (hp) dX10_octet_8

set_option maxHeartbeats 4000000 in
set_option maxRecDepth 100000 in
theorem c_octet_ok (l : Launch) (D : va_G) (cy : Nat → ClassId) (base : Nat) (Λ : LY) (σ : HS) (M : MM) (hC : CR noEx Λ σ M) (hB : MBd M) (hp1 : M 31 18 ≤ 20) (hp2 : ∀ k, k < M 31 18 → M 43 k < 128) (k : Nat) (hk : k < M 31 18) : Met l yX10_octet wsX10_octet ({ frames := 8, cells := 0, slots := 0, locals := 120 }) (va_Pc [.ref (gA Λ 0 0), .int (nI k)] (Wd D cy base Λ σ)) (va_Qi (fun v u => v = nI (M 43 k) ∧ u = σ) (Wd D cy base Λ) (Ab base)) 0 0 (Ab base) := by
  refine j_start (cc := cX10_octet) (nL := 2) (ret := (some .int)) (lv := [(0, .ref (gA Λ 0 0)), (1, .int (nI k))]) (by decide) rfl (Nat.le_of_ble_eq_true rfl) rfl ?_
  intro p e s m below meth c C hr hlk hnm
  have C : Cx p s m ([.ref (gA Λ 0 0), .int (nI k)] : List Value).toArray c cX10_octet 2 RX10 wsX10_octet D cy base := C
  have hts := C.2.2.2.2.1
  have hwX10 : ∀ w ∈ u_ws RX10 TX10 9, w ∈ wsX10_octet := by decide +kernel
  have hM18 : (Cond.fieldLink RX10 18 (TX10 1).1 (TX10 1).2.1 (TX10 1).2.2.1).before ([.ref (gA Λ 0 0), .int (nI k)] : List Value).toArray s = true := hts (.fieldLink RX10 18 "CodeRooms" "page" "LCodeRooms$Text;") (by decide +kernel)
  have hL18 : FL RX10 18 (TX10 1).1 (TX10 1).2.1 (TX10 1).2.2.1 ([.ref (gA Λ 0 0), .int (nI k)] : List Value).toArray s := Or.inl hM18
  refine j_aload_n C dX10_octet_0 rfl 0 rfl ?_
  refine j_getV C hwX10 0 0 1 (CR.n1 hC (by decide)) rfl rfl (by decide) rfl 1 (CR.v hC 0 0 1 ⟨rfl, by decide⟩ id) hL18 dX10_octet_1 ?_
  refine j_iload_n C dX10_octet_4 rfl 1 rfl ?_
  refine c_i0 C (r_V C 1 1 [.int (nI k)] (c_at_in l D cy base Λ σ 1 (M 31 18) 20 (M 43) (CR.tx1 hC hp1 hp2) k hk) (cwV 1 hts gX10_octet_X7_at rfl rfl rfl (by decide +kernel) ⟨by decide, by decide⟩) (CR.n2 hC (by decide)).1 rfl rfl rfl rfl (Nat.le_of_ble_eq_true rfl) dX10_octet_5 ⟨by decide, by decide⟩) (fun rv u1 hp => ?_)
  exact j_iret C hr hlk (hp) dX10_octet_8
