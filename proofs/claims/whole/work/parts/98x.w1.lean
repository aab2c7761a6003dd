section JQ
variable {p : Program} {l : Launch} {e : Env} {R : Room} {s : State} {m : MethodId} {args : Array Value} {below : List Frame} {meth : Method} {c : Code} {cc : ByteArray} {nL : Nat} {own : String} {Ts : List Cond} {D : va_G} {cy : Nat → ClassId} {base : Nat} {Q : State → Prop} {cells slots pc mc ms : Nat} {lv lv' : List (Nat × Value)} {st stk : List Value} {Λ : LY} {σ : HS}
theorem j_aloadN (C : Cx p s m args c cc nL own Ts D cy base) {i : Nat} (hdg : decode cc pc = .ok (.aload i, 2)) (j : Nat) (hj : lv[j]? = some (i, .null)) (kk : J p l e R s m args below meth c nL D cy base Q cells slots Λ (pc + 2) lv (.null :: st) σ) : J p l e R s m args below meth c nL D cy base Q cells slots Λ pc lv (st) σ := fun H locs ls h hP hS => lv_aloadN C.1 C.2.1 hdg (lv_at h j hj) (kk H locs ls h hP hS)
theorem j_aload_nN (C : Cx p s m args c cc nL own Ts D cy base) {k : Fin 4} {i : Nat} (hdg : decode cc pc = .ok (.aload_n k, 1)) (hi : (k : Nat) = i) (j : Nat) (hj : lv[j]? = some (i, .null)) (kk : J p l e R s m args below meth c nL D cy base Q cells slots Λ (pc + 1) lv (.null :: st) σ) : J p l e R s m args below meth c nL D cy base Q cells slots Λ pc lv (st) σ := fun H locs ls h hP hS => lv_aload_nN C.1 C.2.1 hdg hi (lv_at h j hj) (kk H locs ls h hP hS)
theorem j_astoreN (C : Cx p s m args c cc nL own Ts D cy base) {i : Nat} (lv' : List (Nat × Value)) (hdg : decode cc pc = .ok (.astore i, 2)) (hn : i < nL) (hl : (i, Value.null) :: lv.filter (fun q => !(q.1 == i) && !(q.1 + 1 == i && q.2.category == 2)) = lv') (kk : J p l e R s m args below meth c nL D cy base Q cells slots Λ (pc + 2) lv' (st) σ) : J p l e R s m args below meth c nL D cy base Q cells slots Λ pc lv (.null :: st) σ := fun H locs ls h hP hS => lv_astoreN C.1 C.2.1 hdg h hn hl (fun ls2 h2 => kk H locs ls2 h2 hP hS)
theorem j_astore_nN (C : Cx p s m args c cc nL own Ts D cy base) {k : Fin 4} {i : Nat} (lv' : List (Nat × Value)) (hdg : decode cc pc = .ok (.astore_n k, 1)) (hi : (k : Nat) = i) (hn : i < nL) (hl : (i, Value.null) :: lv.filter (fun q => !(q.1 == i) && !(q.1 + 1 == i && q.2.category == 2)) = lv') (kk : J p l e R s m args below meth c nL D cy base Q cells slots Λ (pc + 1) lv' (st) σ) : J p l e R s m args below meth c nL D cy base Q cells slots Λ pc lv (.null :: st) σ := fun H locs ls h hP hS => lv_astore_nN C.1 C.2.1 hdg hi h hn hl (fun ls2 h2 => kk H locs ls2 h2 hP hS)
theorem j_qret (C : Cx p s m args c cc nL own Ts D cy base) {post : Option Nat → HS → Prop} {ra : Option Nat} {rt : FieldType} (hrt : (∃ n, rt = .object n) ∨ ∃ t, rt = .array t) (hr : meth.sig.returnType = some rt) (hlk : meth.locks = false) (hp : post ra σ) (hdg : decode cc pc = .ok (.areturn, 1)) : J p l e R s m args below meth c nL D cy base (MQ below (va_Qq post (Wd D cy base Λ) (Ab base)) args s cells slots (Ab base)) cells slots Λ pc lv ([va_rf ra]) σ := by
  intro H locs ls h hP hS
  exact W.aret C.1 C.2.1 hr hrt (by cases ra; exact Or.inl rfl; exact Or.inr ⟨_, rfl⟩) (fun t ht hW => ⟨⟨ra, σ, rfl, hp, ⟨by rw [ht]; exact hP, va_K.moved hW.alike C.2.2.2.2.2.1, Ex.step C.2.2.2.2.2.2 hW hS ht⟩⟩, hS.F ht⟩) hS.2.2 hdg hlk
theorem c_q0 (C : Cx p s m args c cc nL own Ts D cy base) {post : Option Nat → HS → Prop} {a : Array Value} (hr : RunJ p l e R s m args below meth c nL D cy base cells slots 0 0 Λ pc lv stk st σ (va_Qq post (Wd D cy base Λ) (Ab base) a)) (kk : ∀ (r : Option Nat) (u : HS), post r u → J p l e R s m args below meth c nL D cy base Q cells slots Λ (pc + 3) lv (va_rf r :: st) u) : J p l e R s m args below meth c nL D cy base Q cells slots Λ pc lv stk σ := by
  intro H locs ls h hP hS
  exact va_callq (hr H locs ls h hP hS) hS (fun _ _ z => z) (fun _ z => z) (fun r u t H1 locs1 ht hvm hw hB _ _ hS1 => kk r u hw H1 locs1 ls h (by rw [← ht]; exact hB.1) hS1)
end JQ
theorem lN_and (a b : Nat) : lN a &&& lN b = lN (a &&& b) := by
  apply Int64.toBitVec_inj.mp
  rw [Int64.toBitVec_and, lN_bv, lN_bv, lN_bv]
  apply BitVec.eq_of_getLsbD_eq
  intro i hi
  simp [hi]
theorem popN_le (x : Nat) : popN x ≤ 40 := fb_ct_le _ _
theorem and_lt40 {a b : Nat} (h : a < 2 ^ 40) : a &&& b < 2 ^ 40 := Nat.lt_of_le_of_lt Nat.and_le_left h
/-- the first of the greatest of those that have one inside -/
def ChW (n : Nat) (hv : Nat → Nat) (sc : Nat → Int) : Option Nat → Prop
  | none => ∀ k, k < n → hv k = 0
  | some b => b < n ∧ 0 < hv b ∧ ∀ k, k < n → 0 < hv k → sc k ≤ sc b ∧ (sc k = sc b → b ≤ k)
theorem ChW.skip {n : Nat} {hv : Nat → Nat} {sc : Nat → Int} {co : Option Nat} (h : ChW n hv sc co) (h0 : hv n = 0) : ChW (n + 1) hv sc co := by
  cases co with
  | none => intro k hk; by_cases e : k = n; rw [e]; exact h0; exact h k (by omega)
  | some b => exact ⟨by have := h.1; omega, h.2.1, fun k hk hp => by by_cases e : k = n; rw [e] at hp; omega; exact h.2.2 k (by omega) hp⟩
theorem ChW.less {n b : Nat} {hv : Nat → Nat} {sc : Nat → Int} (h : ChW n hv sc (some b)) (h0 : sc n ≤ sc b) : ChW (n + 1) hv sc (some b) :=
  ⟨by have := h.1; omega, h.2.1, fun k hk hp => by by_cases e : k = n; rw [e]; exact ⟨h0, fun _ => by have := h.1; omega⟩; exact h.2.2 k (by omega) hp⟩
theorem ChW.first {n : Nat} {hv : Nat → Nat} {sc : Nat → Int} (h : ChW n hv sc none) (h0 : 0 < hv n) : ChW (n + 1) hv sc (some n) :=
  ⟨by omega, h0, fun k hk hp => by by_cases e : k = n; rw [e]; exact ⟨Int.le_refl _, fun _ => Nat.le_refl _⟩; have := h k (by omega); omega⟩
theorem ChW.more {n b : Nat} {hv : Nat → Nat} {sc : Nat → Int} (h : ChW n hv sc (some b)) (h0 : 0 < hv n) (h1 : sc b < sc n) : ChW (n + 1) hv sc (some n) :=
  ⟨by omega, h0, fun k hk hp => by by_cases e : k = n; rw [e]; exact ⟨Int.le_refl _, fun _ => Nat.le_refl _⟩; have := (h.2.2 k (by omega) hp).1; exact ⟨by omega, fun z => by omega⟩⟩
theorem sc_int {a b : Nat} (ha : a ≤ 1600) (hb : b ≤ 1600) : (nI a - nI b).toInt = (a : Int) - (b : Int) := by
  rw [Int32.toInt_sub, nI_toInt (by omega), nI_toInt (by omega)]
  exact Int.bmod_eq_of_le (by omega) (by omega)