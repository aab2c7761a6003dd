/-! ===== System.arraycopy of ints ===== -/
def sR (σ : HS) (t i : Nat) (g : Nat → Int32) : HS := (fun t' i' => if t' = t ∧ i' = i then g else σ.1 t' i', σ.2)
theorem gI_sR (σ : HS) (t i : Nat) (g : Nat → Int32) : gI (sR σ t i g) t i = g := if_pos ⟨rfl, rfl⟩
theorem gI_sRn {σ : HS} {t i t' i' : Nat} {g : Nat → Int32} (h : t' ≠ t ∨ i' ≠ i) : gI (sR σ t i g) t' i' = gI σ t' i' := if_neg (fun z => h.elim (fun q => q z.1) (fun q => q z.2))
theorem gI_sRk {σ : HS} {t i t' : Nat} {g : Nat → Int32} (h : t' ≠ t) : gI (sR σ t i g) t' = gI σ t' := funext fun _ => gI_sRn (Or.inl h)
theorem Rw.sR {cy : Nat → ClassId} {Λ : LY} {σ : HS} {ws : va_W} {A : Nat → Prop} {t i q0 : Nat} {g : Nat → Int32} {e : va_E} (hR : Rw cy Λ σ ws) (hD : va_D A ws) (hi : i < gC Λ t) (hq : ws[q0]? = some (gA Λ t i, kcell cy Λ σ t i)) (he : kcell cy Λ (sR σ t i g) t i = e) : Rw cy Λ (sR σ t i g) (ws.set q0 (gA Λ t i, e)) :=
  Rw.set hR hD hi hq he (fun t' i' h => kcell_eq (gI_sRn h) rfl rfl rfl (fun _ => rfl)) hR.2.2.2
section JC
variable {p : Program} {l : Launch} {e : Env} {R : Room} {s : State} {m : MethodId} {args : Array Value} {below : List Frame} {meth : Method} {c : Code} {cc : ByteArray} {nL : Nat} {own : String} {Ts : List Cond} {D : va_G} {cy : Nat → ClassId} {base : Nat} {Q : State → Prop} {cells slots pc : Nat} {lv : List (Nat × Value)} {st : List Value} {Λ : LY} {σ : HS}
theorem clamp_nI {n : Nat} (h : n < 2147483648) : (nI n).toNatClampNeg = n := by
  show (nI n).toInt.toNat = n
  rw [nI_toInt h]
  rfl
theorem j_cpi (C : Cx p s m args c cc nL own Ts D cy base) {index : Nat} (t0 i0 t i n : Nat) (hi0 : i0 < gC Λ t0) (hi : i < gC Λ t) (hk0 : kC t0 = none) (hk1 : kC t = none) (ha0 : kA t0 = 1) (ha1 : kA t = 1) (hn0 : gN Λ t0 i0 = n) (hn1 : gN Λ t i = n) (hn : n < 2147483648) (hs4 : ∀ w ∈ [Cond.methodLink own index arraycopyName, Cond.native arraycopyName, Cond.static arraycopyName, Cond.initialized "java/lang/System"], w ∈ Ts) (hf : Nat.ble 1 R.frames = true) (hl : Nat.ble ((st.map fun v => v.category).sum + (nativeFrameWords "java/lang/System" "arraycopy" 5 + 11)) R.locals = true) (hdg : decode cc pc = .ok (.invokestatic index, 3)) (kk : J p l e R s m args below meth c nL D cy base Q cells slots Λ (pc + 3) lv st (sR σ t i (va_cpy (gI σ t0 i0) (gI σ t i) 0 0 n))) : J p l e R s m args below meth c nL D cy base Q cells slots Λ pc lv (.int (nI n) :: .int (nI 0) :: .ref (gA Λ t i) :: .int (nI 0) :: .ref (gA Λ t0 i0) :: st) σ := by
  intro H locs ls h hP hS
  obtain ⟨ws, hP1, hD, hR⟩ := id hP
  obtain ⟨q0, hq0⟩ := hR.1 t0 i0 hi0
  obtain ⟨q1, hq1⟩ := hR.1 t i hi
  have g0 := hq0
  have g1 := hq1
  rw [kcell_i hk0 (by rw [ha0]; decide) (by rw [ha0]; decide), ha0, hn0] at g0
  rw [kcell_i hk1 (by rw [ha1]; decide) (by rw [ha1]; decide), ha1, hn1] at g1
  have z0 : (nI 0).toNatClampNeg = 0 := clamp_nI (by decide)
  have zn : (nI n).toNatClampNeg = n := clamp_nI hn
  have nn : ∀ x : Nat, x < 2147483648 → ¬ nI x < 0 := fun x hx z => by
    rw [Int32.lt_iff_toInt_lt, nI_toInt hx] at z
    have e : (0 : Int32).toInt = 0 := by decide
    omega
  refine va_copyi C.1 C.2.1 (C.2.2.1.trans h.1.symm) C.2.2.2.1 (C.2.2.2.2.1 _ (hs4 _ (by simp))) (C.2.2.2.2.1 _ (hs4 _ (by simp))) (C.2.2.2.2.1 _ (hs4 _ (by simp))) (C.2.2.2.2.1 _ (hs4 _ (by simp))) C.2.2.2.2.2.1 hP1 hD hS q0 q1 1 1 g0 g1 rfl rfl rfl (nn 0 (by decide)) (nn 0 (by decide)) (nn n hn) (by rw [z0, zn]; omega) (by rw [z0, zn]; omega) (fun _ _ => rfl) (Nat.le_of_ble_eq_true hf) (Nat.le_of_ble_eq_true hl) hdg (fun H1 locs1 hP2 hD2 hS2 => kk H1 locs1 ls h ⟨_, hP2, hD2, Rw.sR hR hD hi hq1 ?_⟩ hS2)
  rw [kcell_i hk1 (by rw [ha1]; decide) (by rw [ha1]; decide), ha1, hn1, gI_sR, z0, zn]
end JC
