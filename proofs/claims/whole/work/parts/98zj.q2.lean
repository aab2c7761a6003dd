section NW
variable {M : MM} {lb nl : Nat}
theorem st_t {t k : Nat} (h1 : t ≠ 37) (h2 : t ≠ 38) (M9 : MM) : settle M9 t k = M9 t k := congrFun (settleTo_nk h1 h2) k
theorem nw_5 : settle (newM (mS M 60 (M 31 5) lb) nl) 31 5 = M 31 5 + 1 := (st_t (by decide) (by decide) _).trans nr_5
theorem nw_34 {k : Nat} : settle (newM (mS M 60 (M 31 5) lb) nl) 34 k = if k = M 31 5 then nl else M 34 k := (st_t (by decide) (by decide) _).trans nr_34
theorem nw_33 {k : Nat} : settle (newM (mS M 60 (M 31 5) lb) nl) 33 k = if 20 * M 31 5 ≤ k ∧ k < 20 * M 31 5 + nl then M 32 (k - 20 * M 31 5) else M 33 k := (st_t (by decide) (by decide) _).trans nr_33
theorem nw_60 {k : Nat} : settle (newM (mS M 60 (M 31 5) lb) nl) 60 k = if k = M 31 5 then lb else M 60 k := (st_t (by decide) (by decide) _).trans nr_60
theorem nw_new (hn : nl ≤ 20) (q : Nat) (hq : q < nl) : settle (newM (mS M 60 (M 31 5) lb) nl) 33 (20 * M 31 5 + q) = M 32 q := by
  rw [nw_33, if_pos ⟨by omega, by omega⟩, Nat.add_sub_cancel_left]
theorem nw_old (hNm : ∀ r, r < 40 → M 34 r ≤ 20) (h40 : M 31 5 < 40) (hn : nl ≤ 20) {r : Nat} (hr : r < M 31 5) : settle (newM (mS M 60 (M 31 5) lb) nl) 34 r = M 34 r ∧ ∀ k, k < M 34 r → settle (newM (mS M 60 (M 31 5) lb) nl) 33 (20 * r + k) = M 33 (20 * r + k) := by
  refine ⟨by rw [nw_34, if_neg (by omega)], fun k hk => ?_⟩
  have := hNm r (by omega)
  rw [nw_33, if_neg (by omega)]
end NW
theorem GL.gs {Λ Λ' : LY} {σ u : HS} {n ar cp : Nat} {wf tx ln hd : Nat → Nat} {lt : Nat → Nat → Nat} (h : GL Λ σ n ar cp wf tx ln hd lt) (hG : Gw Λ Λ') (hs : Same (fun t => t < 3 ∨ 13 < t) σ u) : GL Λ' u n ar cp wf tx ln hd lt := (h.old hG Kp.rf).same (Same.mono hs (fun t ht => by omega))
theorem TX.gs {Λ Λ' : LY} {σ u : HS} {i n cp : Nat} {f : Nat → Nat} (h : TX Λ σ i n cp f) (hG : Gw Λ Λ') (hs : Same (fun t => t < 3 ∨ 13 < t) σ u) : TX Λ' u i n cp f := h.mv hG (hs 1 (by decide)).1 (hs 1 (by decide)).2.2 (hs 2 (by decide)).1
theorem INV.new {Λ1 Λ2 : LY} {u2 u3 : HS} {M : MM} {lb nl n9 : Nat} {x : LY × HS} (hb : LB Λ1 u2 M) (hC3 : CR noEx Λ2 u3 (settle (newM (mS M 60 (M 31 5) lb) nl))) (hG : Gw Λ1 Λ2) (hs : Same (fun t => t < 3 ∨ 13 < t) u2 u3) (hT : TX Λ1 u2 lb nl nl (M 32)) (hlb : 2 ≤ lb) (hNm : ∀ r, r < 40 → M 34 r ≤ 20) (h40 : M 31 5 < 40) (hnl : nl ≤ 20) (hn9 : n9 ≤ 10 * M 31 5) (hL : LnP Λ2 u3 n9 (M 31 5) (settle (newM (mS M 60 (M 31 5) lb) nl)) (PW M) x) : INV x.1 x.2 (settle (newM (mS M 60 (M 31 5) lb) nl)) := by
  obtain ⟨n2, ar2, cp2, wf2, tx2, ln2, hd2, lt2, g1, g2, g3, g4⟩ := hL
  refine ⟨hC3.ln g4, fun r hr => ?_, n2, ar2, cp2, wf2, tx2, ln2, hd2, lt2, g1, g3.iff (fun r m g => ?_), by rw [nw_5]; omega⟩
  · rw [nw_5] at hr
    rw [nw_60, nw_34]
    by_cases e : r = M 31 5
    · rw [if_pos e, if_pos e]
      refine ⟨TX.ext (g4.tx (hT.gs hG hs)) (fun k hk => ?_), hlb⟩
      unfold nmF
      rw [e, nw_new hnl k hk]
    · have hr2 : r < M 31 5 := by omega
      rw [if_neg e, if_neg e]
      refine ⟨TX.ext (g4.tx ((hb r hr2).1.gs hG hs)) (fun k hk => ?_), (hb r hr2).2⟩
      unfold nmF
      exact ((nw_old hNm h40 hnl hr2).2 k hk).symm
  · unfold PW
    rw [nw_5]
    constructor
    · rintro (⟨a, b, c⟩ | ⟨a, b, c⟩)
      · exact ⟨by omega, b, (hasW_loc (nw_old hNm h40 hnl a).1 (nw_old hNm h40 hnl a).2).mpr c⟩
      · subst a; exact ⟨by omega, b, c⟩
    · rintro ⟨a, b, c⟩
      by_cases e : r = M 31 5
      · subst e; exact Or.inr ⟨rfl, b, c⟩
      · exact Or.inl ⟨by omega, b, (hasW_loc (nw_old hNm h40 hnl (by omega)).1 (nw_old hNm h40 hnl (by omega)).2).mp c⟩
theorem OUT.new {Λ L1 L2 L4 : LY} {σ u2 u3 u4 : HS} (h : OUT Λ σ (L1, u2)) (hG : Gw L1 L2) (hc : ∀ t, t ≠ 8 → t ≠ 9 → t ≠ 10 → t ≠ 11 → t ≠ 12 → t ≠ 13 → gC L2 t = gC L1 t) (hs : Same (fun t => t < 3 ∨ 13 < t) u2 u3) (hI : LnI L2 u3 L4 u4) : OUT Λ σ (L4, u4) := by
  refine ⟨(h.1.tr hG).tr hI.1, fun t ht => ?_, Same.tr h.2.2 (Same.tr (Same.mono hs (fun t ht => by omega)) (Same.mono hI.2.2.1 (fun t ht => by omega)))⟩
  exact (hI.2.1 t (by omega) (by omega) (by omega) (by omega)).trans ((hc t (by omega) (by omega) (by omega) (by omega) (by omega) (by omega)).trans (h.2.1 t ht))