/-! ===== rows of the heap, of calls, of returns ===== -/
section JM
variable {p : Program} {l : Launch} {e : Env} {R : Room} {s : State} {m : MethodId} {args : Array Value} {below : List Frame} {meth : Method} {c : Code} {cc : ByteArray} {nL : Nat} {own : String} {Ts : List Cond} {D : va_G} {cy : Nat → ClassId} {base : Nat} {Q : State → Prop} {cells slots pc : Nat} {lv lv' : List (Nat × Value)} {st : List Value} {Λ : LY} {σ : HS}
theorem j_getI (C : Cx p s m args c cc nL own Ts D cy base) {Cn : String} {T : u_T} {N ci index : Nat} (hin : ∀ w ∈ u_ws Cn T N, w ∈ Ts) (t i k : Nat) (hi : i < gC Λ t) (hkc : kC t = some ci) (hcl : vwCl[ci]? = some (Cn, T, N)) (hk : k < N) {tk : Nat} (hf : (kF t)[k]? = some (0, tk)) (v : Int32) (hv : gI σ t i k = v) (hlink : FL own index (T k).1 (T k).2.1 (T k).2.2.1 args s) (hdg : decode cc pc = .ok (.getfield index, 3)) (kk : J p l e R s m args below meth c nL D cy base Q cells slots Λ (pc + 3) lv (.int v :: st) σ) : J p l e R s m args below meth c nL D cy base Q cells slots Λ pc lv (.ref (gA Λ t i) :: st) σ := by
  intro H locs ls h hP hS
  obtain ⟨ws, hP1, hD, hR⟩ := id hP
  obtain ⟨q0, hq⟩ := hR.1 t i hi
  rw [kcell_o hkc] at hq
  have he : (kfs Λ σ t i)[k]? = some (.int v) := by rw [kfs_at hf, ← hv]; rfl
  rcases hlink with hl | ⟨host, hl⟩
  · exact va_get C.1 C.2.1 C.2.2.2.2.1 hin C.2.2.2.1 C.2.2.2.2.2.1 hP1 q0 hq hcl k hk hl (fun _ z => z) he hdg (kk H locs ls h hP hS)
  · exact va_getN C.1 C.2.1 C.2.2.2.2.1 hin C.2.2.2.1 C.2.2.2.2.2.1 hP1 q0 hq hcl k hk hl (fun _ z => z) he hdg (kk H locs ls h hP hS)
theorem j_getJ (C : Cx p s m args c cc nL own Ts D cy base) {Cn : String} {T : u_T} {N ci index : Nat} (hin : ∀ w ∈ u_ws Cn T N, w ∈ Ts) (t i k : Nat) (hi : i < gC Λ t) (hkc : kC t = some ci) (hcl : vwCl[ci]? = some (Cn, T, N)) (hk : k < N) {tk : Nat} (hf : (kF t)[k]? = some (1, tk)) (v : Int64) (hv : gJ σ t i k = v) (hlink : FL own index (T k).1 (T k).2.1 (T k).2.2.1 args s) (hdg : decode cc pc = .ok (.getfield index, 3)) (kk : J p l e R s m args below meth c nL D cy base Q cells slots Λ (pc + 3) lv (.long v :: st) σ) : J p l e R s m args below meth c nL D cy base Q cells slots Λ pc lv (.ref (gA Λ t i) :: st) σ := by
  intro H locs ls h hP hS
  obtain ⟨ws, hP1, hD, hR⟩ := id hP
  obtain ⟨q0, hq⟩ := hR.1 t i hi
  rw [kcell_o hkc] at hq
  have he : (kfs Λ σ t i)[k]? = some (.long v) := by rw [kfs_at hf, ← hv]; rfl
  rcases hlink with hl | ⟨host, hl⟩
  · exact va_get C.1 C.2.1 C.2.2.2.2.1 hin C.2.2.2.1 C.2.2.2.2.2.1 hP1 q0 hq hcl k hk hl (fun _ z => z) he hdg (kk H locs ls h hP hS)
  · exact va_getN C.1 C.2.1 C.2.2.2.2.1 hin C.2.2.2.1 C.2.2.2.2.2.1 hP1 q0 hq hcl k hk hl (fun _ z => z) he hdg (kk H locs ls h hP hS)
theorem j_getV (C : Cx p s m args c cc nL own Ts D cy base) {Cn : String} {T : u_T} {N ci index : Nat} (hin : ∀ w ∈ u_ws Cn T N, w ∈ Ts) (t i k : Nat) (hi : i < gC Λ t) (hkc : kC t = some ci) (hcl : vwCl[ci]? = some (Cn, T, N)) (hk : k < N) {tk : Nat} (hf : (kF t)[k]? = some (2, tk)) (j : Nat) (hv : gV σ t i k = some j) (hlink : FL own index (T k).1 (T k).2.1 (T k).2.2.1 args s) (hdg : decode cc pc = .ok (.getfield index, 3)) (kk : J p l e R s m args below meth c nL D cy base Q cells slots Λ (pc + 3) lv (.ref (gA Λ tk j) :: st) σ) : J p l e R s m args below meth c nL D cy base Q cells slots Λ pc lv (.ref (gA Λ t i) :: st) σ := by
  intro H locs ls h hP hS
  obtain ⟨ws, hP1, hD, hR⟩ := id hP
  obtain ⟨q0, hq⟩ := hR.1 t i hi
  rw [kcell_o hkc] at hq
  have he : (kfs Λ σ t i)[k]? = some (.ref (gA Λ tk j)) := by
    rw [kfs_at hf]
    show some (va_rf ((gV σ t i k).map (gA Λ tk))) = _
    rw [hv]
    rfl
  rcases hlink with hl | ⟨host, hl⟩
  · exact va_get C.1 C.2.1 C.2.2.2.2.1 hin C.2.2.2.1 C.2.2.2.2.2.1 hP1 q0 hq hcl k hk hl (fun _ z => z) he hdg (kk H locs ls h hP hS)
  · exact va_getN C.1 C.2.1 C.2.2.2.2.1 hin C.2.2.2.1 C.2.2.2.2.2.1 hP1 q0 hq hcl k hk hl (fun _ z => z) he hdg (kk H locs ls h hP hS)
theorem j_getVn (C : Cx p s m args c cc nL own Ts D cy base) {Cn : String} {T : u_T} {N ci index : Nat} (hin : ∀ w ∈ u_ws Cn T N, w ∈ Ts) (t i k : Nat) (hi : i < gC Λ t) (hkc : kC t = some ci) (hcl : vwCl[ci]? = some (Cn, T, N)) (hk : k < N) {tk : Nat} (hf : (kF t)[k]? = some (2, tk)) (hv : gV σ t i k = none) (hlink : FL own index (T k).1 (T k).2.1 (T k).2.2.1 args s) (hdg : decode cc pc = .ok (.getfield index, 3)) (kk : J p l e R s m args below meth c nL D cy base Q cells slots Λ (pc + 3) lv (.null :: st) σ) : J p l e R s m args below meth c nL D cy base Q cells slots Λ pc lv (.ref (gA Λ t i) :: st) σ := by
  intro H locs ls h hP hS
  obtain ⟨ws, hP1, hD, hR⟩ := id hP
  obtain ⟨q0, hq⟩ := hR.1 t i hi
  rw [kcell_o hkc] at hq
  have he : (kfs Λ σ t i)[k]? = some (.null) := by
    rw [kfs_at hf]
    show some (va_rf ((gV σ t i k).map (gA Λ tk))) = _
    rw [hv]
    rfl
  rcases hlink with hl | ⟨host, hl⟩
  · exact va_get C.1 C.2.1 C.2.2.2.2.1 hin C.2.2.2.1 C.2.2.2.2.2.1 hP1 q0 hq hcl k hk hl (fun _ z => z) he hdg (kk H locs ls h hP hS)
  · exact va_getN C.1 C.2.1 C.2.2.2.2.1 hin C.2.2.2.1 C.2.2.2.2.2.1 hP1 q0 hq hcl k hk hl (fun _ z => z) he hdg (kk H locs ls h hP hS)
theorem Rw.sI {cy : Nat → ClassId} {Λ : LY} {σ : HS} {ws : va_W} {A : Nat → Prop} {t i k q0 : Nat} {x : Int32} {e : va_E} (hR : Rw cy Λ σ ws) (hD : va_D A ws) (hi : i < gC Λ t) (hq : ws[q0]? = some (gA Λ t i, kcell cy Λ σ t i)) (he : kcell cy Λ (sI σ t i k x) t i = e) : Rw cy Λ (sI σ t i k x) (ws.set q0 (gA Λ t i, e)) :=
  Rw.set hR hD hi hq he (fun _ _ h => kcell_eq (gI_ne h) rfl rfl rfl (fun _ => rfl)) hR.2.2.2
theorem Rw.sJ {cy : Nat → ClassId} {Λ : LY} {σ : HS} {ws : va_W} {A : Nat → Prop} {t i k q0 : Nat} {x : Int64} {e : va_E} (hR : Rw cy Λ σ ws) (hD : va_D A ws) (hi : i < gC Λ t) (hq : ws[q0]? = some (gA Λ t i, kcell cy Λ σ t i)) (he : kcell cy Λ (sJ σ t i k x) t i = e) : Rw cy Λ (sJ σ t i k x) (ws.set q0 (gA Λ t i, e)) :=
  Rw.set hR hD hi hq he (fun _ _ h => kcell_eq rfl (gJ_ne h) rfl rfl (fun _ => rfl)) hR.2.2.2
theorem Rw.sV {cy : Nat → ClassId} {Λ : LY} {σ : HS} {ws : va_W} {A : Nat → Prop} {t i k q0 : Nat} {x : Option Nat} {e : va_E} (hR : Rw cy Λ σ ws) (hD : va_D A ws) (hi : i < gC Λ t) (hq : ws[q0]? = some (gA Λ t i, kcell cy Λ σ t i)) (he : kcell cy Λ (sV σ t i k x) t i = e) (hx : ∀ j, x = some j → j < gC Λ (kt t k)) : Rw cy Λ (sV σ t i k x) (ws.set q0 (gA Λ t i, e)) := by
  refine Rw.set hR hD hi hq he (fun _ _ h => kcell_eq rfl rfl (gV_ne h) rfl (fun _ => rfl)) (fun t' i' k' j hi' hv => ?_)
  rw [gV_sV] at hv
  by_cases hz : t' = t ∧ i' = i ∧ k' = k
  · rw [if_pos hz] at hv
    obtain ⟨rfl, rfl, rfl⟩ := hz
    exact hx j hv
  · rw [if_neg hz] at hv
    exact hR.2.2.2 _ _ _ _ hi' hv
theorem kv_sI {Λ : LY} {σ : HS} {t i k j : Nat} {x : Int32} {g : Nat × Nat} (h : j ≠ k) : kv Λ (sI σ t i k x) t i j g = kv Λ σ t i j g := by
  unfold kv
  rw [gI_sI, if_neg (fun z => h z.2.2)]
  rfl
theorem kv_sJ {Λ : LY} {σ : HS} {t i k j : Nat} {x : Int64} {g : Nat × Nat} (h : j ≠ k) : kv Λ (sJ σ t i k x) t i j g = kv Λ σ t i j g := by
  unfold kv
  rw [gJ_sJ, if_neg (fun z => h z.2.2)]
  rfl
theorem kv_sV {Λ : LY} {σ : HS} {t i k j : Nat} {x : Option Nat} {g : Nat × Nat} (h : j ≠ k) : kv Λ (sV σ t i k x) t i j g = kv Λ σ t i j g := by
  unfold kv
  rw [gV_sV, if_neg (fun z => h z.2.2)]
  rfl
theorem kf_sI {cy : Nat → ClassId} {Λ : LY} {σ : HS} {t i k ci tk : Nat} {x : Int32} (hkc : kC t = some ci) (hf : (kF t)[k]? = some (0, tk)) : kcell cy Λ (sI σ t i k x) t i = .inr (ci, (kfs Λ σ t i).set k (.int x)) := by
  rw [kcell_o hkc, kfs_set hf (by show Value.int (gI (sI σ t i k x) t i k) = _; rw [gI_same]) (fun j g hj _ => kv_sI hj)]
theorem kf_sJ {cy : Nat → ClassId} {Λ : LY} {σ : HS} {t i k ci tk : Nat} {x : Int64} (hkc : kC t = some ci) (hf : (kF t)[k]? = some (1, tk)) : kcell cy Λ (sJ σ t i k x) t i = .inr (ci, (kfs Λ σ t i).set k (.long x)) := by
  rw [kcell_o hkc, kfs_set hf (by show Value.long (gJ (sJ σ t i k x) t i k) = _; rw [gJ_same]) (fun j g hj _ => kv_sJ hj)]
theorem kf_sV {cy : Nat → ClassId} {Λ : LY} {σ : HS} {t i k ci tk : Nat} {x : Option Nat} (hkc : kC t = some ci) (hf : (kF t)[k]? = some (2, tk)) : kcell cy Λ (sV σ t i k x) t i = .inr (ci, (kfs Λ σ t i).set k (va_rf (x.map (gA Λ tk)))) := by
  rw [kcell_o hkc, kfs_set hf (by show va_rf ((gV (sV σ t i k x) t i k).map (gA Λ tk)) = _; rw [gV_same]) (fun j g hj _ => kv_sV hj)]
theorem kl {t k : Nat} {Λ : LY} {σ : HS} {i : Nat} {f : Nat × Nat} (hf : (kF t)[k]? = some f) : k < (kfs Λ σ t i).length := by rw [kfs_len]; exact (List.getElem?_eq_some_iff.mp hf).1
theorem j_putI (C : Cx p s m args c cc nL own Ts D cy base) {Cn : String} {T : u_T} {N ci index : Nat} (hin : ∀ w ∈ u_ws Cn T N, w ∈ Ts) (t i k : Nat) (hi : i < gC Λ t) (hkc : kC t = some ci) (hcl : vwCl[ci]? = some (Cn, T, N)) (hk : k < N) {tk : Nat} (hf : (kF t)[k]? = some (0, tk)) {x : Int32} (ty0 : Nat → FieldType) (hty : ∀ k, k < N → parseFieldDescriptor (T k).2.2.1 = some (ty0 k)) (hnm : ∀ a, a < N → ∀ b, b < N → a ≠ b → (T a).2.1 ≠ (T b).2.1) (hfin : (T k).2.2.2 = false) (hn : narrow (ty0 k) (.int x) = .int x) (hfit : fits (ty0 k) (.int x) = true) (hlink : FL own index (T k).1 (T k).2.1 (T k).2.2.1 args s) (hdg : decode cc pc = .ok (.putfield index, 3)) (kk : J p l e R s m args below meth c nL D cy base Q cells slots Λ (pc + 3) lv st (sI σ t i k x)) : J p l e R s m args below meth c nL D cy base Q cells slots Λ pc lv (.int x :: .ref (gA Λ t i) :: st) σ := by
  intro H locs ls h hP hS
  obtain ⟨ws, hP1, hD, hR⟩ := id hP
  obtain ⟨q0, hq0⟩ := hR.1 t i hi
  have hq := hq0
  rw [kcell_o hkc] at hq
  rcases hlink with hl | ⟨host, hl⟩
  · exact va_put C.1 C.2.1 C.2.2.2.2.1 hin ty0 hty hnm C.2.2.2.1 C.2.2.2.2.2.1 hP1 hD hS q0 hq hcl k hk hl (fun _ z => z) hfin (hty k hk) hn hfit (kl hf) hdg (fun H1 locs1 hP2 hD2 hS2 => kk H1 locs1 ls h ⟨_, hP2, hD2, Rw.sI hR hD hi hq0 (kf_sI hkc hf)⟩ hS2)
  · exact va_putN C.1 C.2.1 C.2.2.2.2.1 hin ty0 hty hnm C.2.2.2.1 C.2.2.2.2.2.1 hP1 hD hS q0 hq hcl k hk hl (fun _ z => z) hfin (hty k hk) hn hfit (kl hf) hdg (fun H1 locs1 hP2 hD2 hS2 => kk H1 locs1 ls h ⟨_, hP2, hD2, Rw.sI hR hD hi hq0 (kf_sI hkc hf)⟩ hS2)
theorem j_putFI (C : Cx p s m args c cc nL own Ts D cy base) {Cn : String} {T : u_T} {N ci index : Nat} (hin : ∀ w ∈ u_ws Cn T N, w ∈ Ts) (t i k : Nat) (hi : i < gC Λ t) (hkc : kC t = some ci) (hcl : vwCl[ci]? = some (Cn, T, N)) (hk : k < N) {tk : Nat} (hf : (kF t)[k]? = some (0, tk)) {x : Int32} (ty0 : Nat → FieldType) (hty : ∀ k, k < N → parseFieldDescriptor (T k).2.2.1 = some (ty0 k)) (hnm : ∀ a, a < N → ∀ b, b < N → a ≠ b → (T a).2.1 ≠ (T b).2.1) (hfin : (T k).2.2.2 = true) (hinit : meth.name = "<init>") (hdecl : (T k).1 = own) (hn : narrow (ty0 k) (.int x) = .int x) (hfit : fits (ty0 k) (.int x) = true) (hlink : (Cond.fieldLink own index (T k).1 (T k).2.1 (T k).2.2.1).before args s = true) (hdg : decode cc pc = .ok (.putfield index, 3)) (kk : J p l e R s m args below meth c nL D cy base Q cells slots Λ (pc + 3) lv st (sI σ t i k x)) : J p l e R s m args below meth c nL D cy base Q cells slots Λ pc lv (.int x :: .ref (gA Λ t i) :: st) σ := by
  intro H locs ls h hP hS
  obtain ⟨ws, hP1, hD, hR⟩ := id hP
  obtain ⟨q0, hq0⟩ := hR.1 t i hi
  have hq := hq0
  rw [kcell_o hkc] at hq
  exact va_putF C.1 C.2.1 C.2.2.2.2.1 hin ty0 hty hnm C.2.2.2.1 C.2.2.2.2.2.1 hP1 hD hS q0 hq hcl k hk hlink (fun _ z => z) hfin hinit hdecl (hty k hk) hn hfit (kl hf) hdg (fun H1 locs1 hP2 hD2 hS2 => kk H1 locs1 ls h ⟨_, hP2, hD2, Rw.sI hR hD hi hq0 (kf_sI hkc hf)⟩ hS2)
theorem j_putJ (C : Cx p s m args c cc nL own Ts D cy base) {Cn : String} {T : u_T} {N ci index : Nat} (hin : ∀ w ∈ u_ws Cn T N, w ∈ Ts) (t i k : Nat) (hi : i < gC Λ t) (hkc : kC t = some ci) (hcl : vwCl[ci]? = some (Cn, T, N)) (hk : k < N) {tk : Nat} (hf : (kF t)[k]? = some (1, tk)) {x : Int64} (ty0 : Nat → FieldType) (hty : ∀ k, k < N → parseFieldDescriptor (T k).2.2.1 = some (ty0 k)) (hnm : ∀ a, a < N → ∀ b, b < N → a ≠ b → (T a).2.1 ≠ (T b).2.1) (hfin : (T k).2.2.2 = false) (hn : narrow (ty0 k) (.long x) = .long x) (hfit : fits (ty0 k) (.long x) = true) (hlink : FL own index (T k).1 (T k).2.1 (T k).2.2.1 args s) (hdg : decode cc pc = .ok (.putfield index, 3)) (kk : J p l e R s m args below meth c nL D cy base Q cells slots Λ (pc + 3) lv st (sJ σ t i k x)) : J p l e R s m args below meth c nL D cy base Q cells slots Λ pc lv (.long x :: .ref (gA Λ t i) :: st) σ := by
  intro H locs ls h hP hS
  obtain ⟨ws, hP1, hD, hR⟩ := id hP
  obtain ⟨q0, hq0⟩ := hR.1 t i hi
  have hq := hq0
  rw [kcell_o hkc] at hq
  rcases hlink with hl | ⟨host, hl⟩
  · exact va_put C.1 C.2.1 C.2.2.2.2.1 hin ty0 hty hnm C.2.2.2.1 C.2.2.2.2.2.1 hP1 hD hS q0 hq hcl k hk hl (fun _ z => z) hfin (hty k hk) hn hfit (kl hf) hdg (fun H1 locs1 hP2 hD2 hS2 => kk H1 locs1 ls h ⟨_, hP2, hD2, Rw.sJ hR hD hi hq0 (kf_sJ hkc hf)⟩ hS2)
  · exact va_putN C.1 C.2.1 C.2.2.2.2.1 hin ty0 hty hnm C.2.2.2.1 C.2.2.2.2.2.1 hP1 hD hS q0 hq hcl k hk hl (fun _ z => z) hfin (hty k hk) hn hfit (kl hf) hdg (fun H1 locs1 hP2 hD2 hS2 => kk H1 locs1 ls h ⟨_, hP2, hD2, Rw.sJ hR hD hi hq0 (kf_sJ hkc hf)⟩ hS2)
theorem j_putFJ (C : Cx p s m args c cc nL own Ts D cy base) {Cn : String} {T : u_T} {N ci index : Nat} (hin : ∀ w ∈ u_ws Cn T N, w ∈ Ts) (t i k : Nat) (hi : i < gC Λ t) (hkc : kC t = some ci) (hcl : vwCl[ci]? = some (Cn, T, N)) (hk : k < N) {tk : Nat} (hf : (kF t)[k]? = some (1, tk)) {x : Int64} (ty0 : Nat → FieldType) (hty : ∀ k, k < N → parseFieldDescriptor (T k).2.2.1 = some (ty0 k)) (hnm : ∀ a, a < N → ∀ b, b < N → a ≠ b → (T a).2.1 ≠ (T b).2.1) (hfin : (T k).2.2.2 = true) (hinit : meth.name = "<init>") (hdecl : (T k).1 = own) (hn : narrow (ty0 k) (.long x) = .long x) (hfit : fits (ty0 k) (.long x) = true) (hlink : (Cond.fieldLink own index (T k).1 (T k).2.1 (T k).2.2.1).before args s = true) (hdg : decode cc pc = .ok (.putfield index, 3)) (kk : J p l e R s m args below meth c nL D cy base Q cells slots Λ (pc + 3) lv st (sJ σ t i k x)) : J p l e R s m args below meth c nL D cy base Q cells slots Λ pc lv (.long x :: .ref (gA Λ t i) :: st) σ := by
  intro H locs ls h hP hS
  obtain ⟨ws, hP1, hD, hR⟩ := id hP
  obtain ⟨q0, hq0⟩ := hR.1 t i hi
  have hq := hq0
  rw [kcell_o hkc] at hq
  exact va_putF C.1 C.2.1 C.2.2.2.2.1 hin ty0 hty hnm C.2.2.2.1 C.2.2.2.2.2.1 hP1 hD hS q0 hq hcl k hk hlink (fun _ z => z) hfin hinit hdecl (hty k hk) hn hfit (kl hf) hdg (fun H1 locs1 hP2 hD2 hS2 => kk H1 locs1 ls h ⟨_, hP2, hD2, Rw.sJ hR hD hi hq0 (kf_sJ hkc hf)⟩ hS2)
theorem j_putV (C : Cx p s m args c cc nL own Ts D cy base) {Cn : String} {T : u_T} {N ci index : Nat} (hin : ∀ w ∈ u_ws Cn T N, w ∈ Ts) (t i k : Nat) (hi : i < gC Λ t) (hkc : kC t = some ci) (hcl : vwCl[ci]? = some (Cn, T, N)) (hk : k < N) {tk : Nat} (hf : (kF t)[k]? = some (2, tk)) {j : Nat} (hj : j < gC Λ tk) (ty0 : Nat → FieldType) (hty : ∀ k, k < N → parseFieldDescriptor (T k).2.2.1 = some (ty0 k)) (hnm : ∀ a, a < N → ∀ b, b < N → a ≠ b → (T a).2.1 ≠ (T b).2.1) (hfin : (T k).2.2.2 = false) (hn : narrow (ty0 k) (.ref (gA Λ tk j)) = .ref (gA Λ tk j)) (hfit : fits (ty0 k) (.ref (gA Λ tk j)) = true) (hlink : FL own index (T k).1 (T k).2.1 (T k).2.2.1 args s) (hdg : decode cc pc = .ok (.putfield index, 3)) (kk : J p l e R s m args below meth c nL D cy base Q cells slots Λ (pc + 3) lv st (sV σ t i k (some j))) : J p l e R s m args below meth c nL D cy base Q cells slots Λ pc lv (.ref (gA Λ tk j) :: .ref (gA Λ t i) :: st) σ := by
  intro H locs ls h hP hS
  obtain ⟨ws, hP1, hD, hR⟩ := id hP
  obtain ⟨q0, hq0⟩ := hR.1 t i hi
  have hq := hq0
  rw [kcell_o hkc] at hq
  rcases hlink with hl | ⟨host, hl⟩
  · exact va_put C.1 C.2.1 C.2.2.2.2.1 hin ty0 hty hnm C.2.2.2.1 C.2.2.2.2.2.1 hP1 hD hS q0 hq hcl k hk hl (fun _ z => z) hfin (hty k hk) hn hfit (kl hf) hdg (fun H1 locs1 hP2 hD2 hS2 => kk H1 locs1 ls h ⟨_, hP2, hD2, Rw.sV hR hD hi hq0 (kf_sV hkc hf) (fun y hy => by cases hy; rw [kt_o hkc hf]; exact hj)⟩ hS2)
  · exact va_putN C.1 C.2.1 C.2.2.2.2.1 hin ty0 hty hnm C.2.2.2.1 C.2.2.2.2.2.1 hP1 hD hS q0 hq hcl k hk hl (fun _ z => z) hfin (hty k hk) hn hfit (kl hf) hdg (fun H1 locs1 hP2 hD2 hS2 => kk H1 locs1 ls h ⟨_, hP2, hD2, Rw.sV hR hD hi hq0 (kf_sV hkc hf) (fun y hy => by cases hy; rw [kt_o hkc hf]; exact hj)⟩ hS2)
theorem j_putFV (C : Cx p s m args c cc nL own Ts D cy base) {Cn : String} {T : u_T} {N ci index : Nat} (hin : ∀ w ∈ u_ws Cn T N, w ∈ Ts) (t i k : Nat) (hi : i < gC Λ t) (hkc : kC t = some ci) (hcl : vwCl[ci]? = some (Cn, T, N)) (hk : k < N) {tk : Nat} (hf : (kF t)[k]? = some (2, tk)) {j : Nat} (hj : j < gC Λ tk) (ty0 : Nat → FieldType) (hty : ∀ k, k < N → parseFieldDescriptor (T k).2.2.1 = some (ty0 k)) (hnm : ∀ a, a < N → ∀ b, b < N → a ≠ b → (T a).2.1 ≠ (T b).2.1) (hfin : (T k).2.2.2 = true) (hinit : meth.name = "<init>") (hdecl : (T k).1 = own) (hn : narrow (ty0 k) (.ref (gA Λ tk j)) = .ref (gA Λ tk j)) (hfit : fits (ty0 k) (.ref (gA Λ tk j)) = true) (hlink : (Cond.fieldLink own index (T k).1 (T k).2.1 (T k).2.2.1).before args s = true) (hdg : decode cc pc = .ok (.putfield index, 3)) (kk : J p l e R s m args below meth c nL D cy base Q cells slots Λ (pc + 3) lv st (sV σ t i k (some j))) : J p l e R s m args below meth c nL D cy base Q cells slots Λ pc lv (.ref (gA Λ tk j) :: .ref (gA Λ t i) :: st) σ := by
  intro H locs ls h hP hS
  obtain ⟨ws, hP1, hD, hR⟩ := id hP
  obtain ⟨q0, hq0⟩ := hR.1 t i hi
  have hq := hq0
  rw [kcell_o hkc] at hq
  exact va_putF C.1 C.2.1 C.2.2.2.2.1 hin ty0 hty hnm C.2.2.2.1 C.2.2.2.2.2.1 hP1 hD hS q0 hq hcl k hk hlink (fun _ z => z) hfin hinit hdecl (hty k hk) hn hfit (kl hf) hdg (fun H1 locs1 hP2 hD2 hS2 => kk H1 locs1 ls h ⟨_, hP2, hD2, Rw.sV hR hD hi hq0 (kf_sV hkc hf) (fun y hy => by cases hy; rw [kt_o hkc hf]; exact hj)⟩ hS2)
theorem j_putVn (C : Cx p s m args c cc nL own Ts D cy base) {Cn : String} {T : u_T} {N ci index : Nat} (hin : ∀ w ∈ u_ws Cn T N, w ∈ Ts) (t i k : Nat) (hi : i < gC Λ t) (hkc : kC t = some ci) (hcl : vwCl[ci]? = some (Cn, T, N)) (hk : k < N) {tk : Nat} (hf : (kF t)[k]? = some (2, tk)) (ty0 : Nat → FieldType) (hty : ∀ k, k < N → parseFieldDescriptor (T k).2.2.1 = some (ty0 k)) (hnm : ∀ a, a < N → ∀ b, b < N → a ≠ b → (T a).2.1 ≠ (T b).2.1) (hfin : (T k).2.2.2 = false) (hn : narrow (ty0 k) (.null) = .null) (hfit : fits (ty0 k) (.null) = true) (hlink : FL own index (T k).1 (T k).2.1 (T k).2.2.1 args s) (hdg : decode cc pc = .ok (.putfield index, 3)) (kk : J p l e R s m args below meth c nL D cy base Q cells slots Λ (pc + 3) lv st (sV σ t i k none)) : J p l e R s m args below meth c nL D cy base Q cells slots Λ pc lv (.null :: .ref (gA Λ t i) :: st) σ := by
  intro H locs ls h hP hS
  obtain ⟨ws, hP1, hD, hR⟩ := id hP
  obtain ⟨q0, hq0⟩ := hR.1 t i hi
  have hq := hq0
  rw [kcell_o hkc] at hq
  rcases hlink with hl | ⟨host, hl⟩
  · exact va_put C.1 C.2.1 C.2.2.2.2.1 hin ty0 hty hnm C.2.2.2.1 C.2.2.2.2.2.1 hP1 hD hS q0 hq hcl k hk hl (fun _ z => z) hfin (hty k hk) hn hfit (kl hf) hdg (fun H1 locs1 hP2 hD2 hS2 => kk H1 locs1 ls h ⟨_, hP2, hD2, Rw.sV hR hD hi hq0 (kf_sV hkc hf) (fun y hy => by cases hy)⟩ hS2)
  · exact va_putN C.1 C.2.1 C.2.2.2.2.1 hin ty0 hty hnm C.2.2.2.1 C.2.2.2.2.2.1 hP1 hD hS q0 hq hcl k hk hl (fun _ z => z) hfin (hty k hk) hn hfit (kl hf) hdg (fun H1 locs1 hP2 hD2 hS2 => kk H1 locs1 ls h ⟨_, hP2, hD2, Rw.sV hR hD hi hq0 (kf_sV hkc hf) (fun y hy => by cases hy)⟩ hS2)
theorem j_putFVn (C : Cx p s m args c cc nL own Ts D cy base) {Cn : String} {T : u_T} {N ci index : Nat} (hin : ∀ w ∈ u_ws Cn T N, w ∈ Ts) (t i k : Nat) (hi : i < gC Λ t) (hkc : kC t = some ci) (hcl : vwCl[ci]? = some (Cn, T, N)) (hk : k < N) {tk : Nat} (hf : (kF t)[k]? = some (2, tk)) (ty0 : Nat → FieldType) (hty : ∀ k, k < N → parseFieldDescriptor (T k).2.2.1 = some (ty0 k)) (hnm : ∀ a, a < N → ∀ b, b < N → a ≠ b → (T a).2.1 ≠ (T b).2.1) (hfin : (T k).2.2.2 = true) (hinit : meth.name = "<init>") (hdecl : (T k).1 = own) (hn : narrow (ty0 k) (.null) = .null) (hfit : fits (ty0 k) (.null) = true) (hlink : (Cond.fieldLink own index (T k).1 (T k).2.1 (T k).2.2.1).before args s = true) (hdg : decode cc pc = .ok (.putfield index, 3)) (kk : J p l e R s m args below meth c nL D cy base Q cells slots Λ (pc + 3) lv st (sV σ t i k none)) : J p l e R s m args below meth c nL D cy base Q cells slots Λ pc lv (.null :: .ref (gA Λ t i) :: st) σ := by
  intro H locs ls h hP hS
  obtain ⟨ws, hP1, hD, hR⟩ := id hP
  obtain ⟨q0, hq0⟩ := hR.1 t i hi
  have hq := hq0
  rw [kcell_o hkc] at hq
  exact va_putF C.1 C.2.1 C.2.2.2.2.1 hin ty0 hty hnm C.2.2.2.1 C.2.2.2.2.2.1 hP1 hD hS q0 hq hcl k hk hlink (fun _ z => z) hfin hinit hdecl (hty k hk) hn hfit (kl hf) hdg (fun H1 locs1 hP2 hD2 hS2 => kk H1 locs1 ls h ⟨_, hP2, hD2, Rw.sV hR hD hi hq0 (kf_sV hkc hf) (fun y hy => by cases hy)⟩ hS2)
theorem j_getX (C : Cx p s m args c cc nL own Ts D cy base) {Cn : String} {T : u_T} {N ci index : Nat} (hin : ∀ w ∈ u_ws Cn T N, w ∈ Ts) (t i k : Nat) (hi : i < gC Λ t) (hkc : kC t = some ci) (hcl : vwCl[ci]? = some (Cn, T, N)) (hk : k < N) {tk : Nat} (hf : (kF t)[k]? = some (3, tk)) (j : Nat) (hv : gI σ t i k ≠ 1 ∧ gV σ t i k = some j) (hlink : FL own index (T k).1 (T k).2.1 (T k).2.2.1 args s) (hdg : decode cc pc = .ok (.getfield index, 3)) (kk : J p l e R s m args below meth c nL D cy base Q cells slots Λ (pc + 3) lv (.ref (gA Λ tk j) :: st) σ) : J p l e R s m args below meth c nL D cy base Q cells slots Λ pc lv (.ref (gA Λ t i) :: st) σ := by
  intro H locs ls h hP hS
  obtain ⟨ws, hP1, hD, hR⟩ := id hP
  obtain ⟨q0, hq⟩ := hR.1 t i hi
  rw [kcell_o hkc] at hq
  have he : (kfs Λ σ t i)[k]? = some (.ref (gA Λ tk j)) := by
    rw [kfs_at hf]
    show some (if gI σ t i k = 1 then Value.ref (gA Λ 50 0) else va_rf ((gV σ t i k).map (gA Λ tk))) = _
    rw [if_neg hv.1, hv.2]
    rfl
  rcases hlink with hl | ⟨host, hl⟩
  · exact va_get C.1 C.2.1 C.2.2.2.2.1 hin C.2.2.2.1 C.2.2.2.2.2.1 hP1 q0 hq hcl k hk hl (fun _ z => z) he hdg (kk H locs ls h hP hS)
  · exact va_getN C.1 C.2.1 C.2.2.2.2.1 hin C.2.2.2.1 C.2.2.2.2.2.1 hP1 q0 hq hcl k hk hl (fun _ z => z) he hdg (kk H locs ls h hP hS)
theorem j_getXn (C : Cx p s m args c cc nL own Ts D cy base) {Cn : String} {T : u_T} {N ci index : Nat} (hin : ∀ w ∈ u_ws Cn T N, w ∈ Ts) (t i k : Nat) (hi : i < gC Λ t) (hkc : kC t = some ci) (hcl : vwCl[ci]? = some (Cn, T, N)) (hk : k < N) {tk : Nat} (hf : (kF t)[k]? = some (3, tk)) (hv : gI σ t i k = 1) (hlink : FL own index (T k).1 (T k).2.1 (T k).2.2.1 args s) (hdg : decode cc pc = .ok (.getfield index, 3)) (kk : J p l e R s m args below meth c nL D cy base Q cells slots Λ (pc + 3) lv (.ref (gA Λ 50 0) :: st) σ) : J p l e R s m args below meth c nL D cy base Q cells slots Λ pc lv (.ref (gA Λ t i) :: st) σ := by
  intro H locs ls h hP hS
  obtain ⟨ws, hP1, hD, hR⟩ := id hP
  obtain ⟨q0, hq⟩ := hR.1 t i hi
  rw [kcell_o hkc] at hq
  have he : (kfs Λ σ t i)[k]? = some (.ref (gA Λ 50 0)) := by
    rw [kfs_at hf]
    show some (if gI σ t i k = 1 then Value.ref (gA Λ 50 0) else va_rf ((gV σ t i k).map (gA Λ tk))) = _
    rw [if_pos hv]
  rcases hlink with hl | ⟨host, hl⟩
  · exact va_get C.1 C.2.1 C.2.2.2.2.1 hin C.2.2.2.1 C.2.2.2.2.2.1 hP1 q0 hq hcl k hk hl (fun _ z => z) he hdg (kk H locs ls h hP hS)
  · exact va_getN C.1 C.2.1 C.2.2.2.2.1 hin C.2.2.2.1 C.2.2.2.2.2.1 hP1 q0 hq hcl k hk hl (fun _ z => z) he hdg (kk H locs ls h hP hS)
theorem kf_sXn {cy : Nat → ClassId} {Λ : LY} {σ : HS} {t i k ci tk : Nat} (hkc : kC t = some ci) (hf : (kF t)[k]? = some (3, tk)) : kcell cy Λ (sI σ t i k 1) t i = .inr (ci, (kfs Λ σ t i).set k (.ref (gA Λ 50 0))) := by
  rw [kcell_o hkc, kfs_set hf (by show (if gI (sI σ t i k 1) t i k = 1 then Value.ref (gA Λ 50 0) else va_rf ((gV (sI σ t i k 1) t i k).map (gA Λ tk))) = _; rw [gI_same, if_pos rfl]) (fun j g hj _ => kv_sI hj)]
theorem kf_sX {cy : Nat → ClassId} {Λ : LY} {σ : HS} {t i k ci tk j : Nat} (hkc : kC t = some ci) (hf : (kF t)[k]? = some (3, tk)) : kcell cy Λ (sI (sV σ t i k (some j)) t i k 0) t i = .inr (ci, (kfs Λ σ t i).set k (.ref (gA Λ tk j))) := by
  rw [kcell_o hkc, kfs_set hf (by show (if gI (sI (sV σ t i k (some j)) t i k 0) t i k = 1 then Value.ref (gA Λ 50 0) else va_rf ((gV (sV σ t i k (some j)) t i k).map (gA Λ tk))) = _; rw [gI_same, if_neg (by decide), gV_same]; rfl) (fun j g hj _ => (kv_sI hj).trans (kv_sV hj))]
theorem Rw_sX {cy : Nat → ClassId} {Λ : LY} {σ : HS} {ws : va_W} {A : Nat → Prop} {t i k q0 j : Nat} {x : Int32} {e : va_E} (hR : Rw cy Λ σ ws) (hD : va_D A ws) (hi : i < gC Λ t) (hq : ws[q0]? = some (gA Λ t i, kcell cy Λ σ t i)) (he : kcell cy Λ (sI (sV σ t i k (some j)) t i k x) t i = e) (hj : j < gC Λ (kt t k)) : Rw cy Λ (sI (sV σ t i k (some j)) t i k x) (ws.set q0 (gA Λ t i, e)) := by
  refine Rw.set hR hD hi hq he (fun _ _ h => kcell_eq ((gI_ne h).trans rfl) rfl (gV_ne h) rfl (fun _ => rfl)) (fun t' i' k' j' hi' hv => ?_)
  rw [gV_sI, gV_sV] at hv
  by_cases hz : t' = t ∧ i' = i ∧ k' = k
  · rw [if_pos hz] at hv
    obtain ⟨rfl, rfl, rfl⟩ := hz
    cases hv
    exact hj
  · rw [if_neg hz] at hv
    exact hR.2.2.2 _ _ _ _ hi' hv
theorem j_putX (C : Cx p s m args c cc nL own Ts D cy base) {Cn : String} {T : u_T} {N ci index : Nat} (hin : ∀ w ∈ u_ws Cn T N, w ∈ Ts) (t i k : Nat) (hi : i < gC Λ t) (hkc : kC t = some ci) (hcl : vwCl[ci]? = some (Cn, T, N)) (hk : k < N) {tk : Nat} (hf : (kF t)[k]? = some (3, tk)) {j : Nat} (hj : j < gC Λ tk) (ty0 : Nat → FieldType) (hty : ∀ k, k < N → parseFieldDescriptor (T k).2.2.1 = some (ty0 k)) (hnm : ∀ a, a < N → ∀ b, b < N → a ≠ b → (T a).2.1 ≠ (T b).2.1) (hfin : (T k).2.2.2 = false) (hn : narrow (ty0 k) (.ref (gA Λ tk j)) = .ref (gA Λ tk j)) (hfit : fits (ty0 k) (.ref (gA Λ tk j)) = true) (hlink : FL own index (T k).1 (T k).2.1 (T k).2.2.1 args s) (hdg : decode cc pc = .ok (.putfield index, 3)) (kk : J p l e R s m args below meth c nL D cy base Q cells slots Λ (pc + 3) lv st (sI (sV σ t i k (some j)) t i k 0)) : J p l e R s m args below meth c nL D cy base Q cells slots Λ pc lv (.ref (gA Λ tk j) :: .ref (gA Λ t i) :: st) σ := by
  intro H locs ls h hP hS
  obtain ⟨ws, hP1, hD, hR⟩ := id hP
  obtain ⟨q0, hq0⟩ := hR.1 t i hi
  have hq := hq0
  rw [kcell_o hkc] at hq
  rcases hlink with hl | ⟨host, hl⟩
  · exact va_put C.1 C.2.1 C.2.2.2.2.1 hin ty0 hty hnm C.2.2.2.1 C.2.2.2.2.2.1 hP1 hD hS q0 hq hcl k hk hl (fun _ z => z) hfin (hty k hk) hn hfit (kl hf) hdg (fun H1 locs1 hP2 hD2 hS2 => kk H1 locs1 ls h ⟨_, hP2, hD2, Rw_sX hR hD hi hq0 (kf_sX hkc hf) (by rw [kt_o hkc hf]; exact hj)⟩ hS2)
  · exact va_putN C.1 C.2.1 C.2.2.2.2.1 hin ty0 hty hnm C.2.2.2.1 C.2.2.2.2.2.1 hP1 hD hS q0 hq hcl k hk hl (fun _ z => z) hfin (hty k hk) hn hfit (kl hf) hdg (fun H1 locs1 hP2 hD2 hS2 => kk H1 locs1 ls h ⟨_, hP2, hD2, Rw_sX hR hD hi hq0 (kf_sX hkc hf) (by rw [kt_o hkc hf]; exact hj)⟩ hS2)
theorem j_putXn (C : Cx p s m args c cc nL own Ts D cy base) {Cn : String} {T : u_T} {N ci index : Nat} (hin : ∀ w ∈ u_ws Cn T N, w ∈ Ts) (t i k : Nat) (hi : i < gC Λ t) (hkc : kC t = some ci) (hcl : vwCl[ci]? = some (Cn, T, N)) (hk : k < N) {tk : Nat} (hf : (kF t)[k]? = some (3, tk)) (ty0 : Nat → FieldType) (hty : ∀ k, k < N → parseFieldDescriptor (T k).2.2.1 = some (ty0 k)) (hnm : ∀ a, a < N → ∀ b, b < N → a ≠ b → (T a).2.1 ≠ (T b).2.1) (hfin : (T k).2.2.2 = false) (hn : narrow (ty0 k) (.ref (gA Λ 50 0)) = .ref (gA Λ 50 0)) (hfit : fits (ty0 k) (.ref (gA Λ 50 0)) = true) (hlink : FL own index (T k).1 (T k).2.1 (T k).2.2.1 args s) (hdg : decode cc pc = .ok (.putfield index, 3)) (kk : J p l e R s m args below meth c nL D cy base Q cells slots Λ (pc + 3) lv st (sI σ t i k 1)) : J p l e R s m args below meth c nL D cy base Q cells slots Λ pc lv (.ref (gA Λ 50 0) :: .ref (gA Λ t i) :: st) σ := by
  intro H locs ls h hP hS
  obtain ⟨ws, hP1, hD, hR⟩ := id hP
  obtain ⟨q0, hq0⟩ := hR.1 t i hi
  have hq := hq0
  rw [kcell_o hkc] at hq
  rcases hlink with hl | ⟨host, hl⟩
  · exact va_put C.1 C.2.1 C.2.2.2.2.1 hin ty0 hty hnm C.2.2.2.1 C.2.2.2.2.2.1 hP1 hD hS q0 hq hcl k hk hl (fun _ z => z) hfin (hty k hk) hn hfit (kl hf) hdg (fun H1 locs1 hP2 hD2 hS2 => kk H1 locs1 ls h ⟨_, hP2, hD2, Rw.sI hR hD hi hq0 (kf_sXn hkc hf)⟩ hS2)
  · exact va_putN C.1 C.2.1 C.2.2.2.2.1 hin ty0 hty hnm C.2.2.2.1 C.2.2.2.2.2.1 hP1 hD hS q0 hq hcl k hk hl (fun _ z => z) hfin (hty k hk) hn hfit (kl hf) hdg (fun H1 locs1 hP2 hD2 hS2 => kk H1 locs1 ls h ⟨_, hP2, hD2, Rw.sI hR hD hi hq0 (kf_sXn hkc hf)⟩ hS2)
theorem ix_at {k n : Nat} (hk : k < n) (hb : n < 2 ^ 31) : vp_in (nI k) n ∧ (nI k).toNatClampNeg = k := ⟨vp_in_nI hk hb, nI_clamp (Nat.lt_trans hk hb)⟩
theorem j_iald (C : Cx p s m args c cc nL own Ts D cy base) (t i k : Nat) (hi : i < gC Λ t) (hkc : kC t = none) (hka : kA t = 1) (n : Nat) (hn : gN Λ t i = n) (hk : k < n) (hb : n < 2 ^ 31) (v : Int32) (hv : gI σ t i k = v) (hdg : decode cc pc = .ok (.iaload, 1)) (kk : J p l e R s m args below meth c nL D cy base Q cells slots Λ (pc + 1) lv (.int v :: st) σ) : J p l e R s m args below meth c nL D cy base Q cells slots Λ pc lv (.int (nI k) :: .ref (gA Λ t i) :: st) σ := by
  intro H locs ls h hP hS
  obtain ⟨ws, hP1, hD, hR⟩ := id hP
  obtain ⟨q0, hq⟩ := hR.1 t i hi
  rw [kcell_i hkc (by rw [hka]; decide) (by rw [hka]; decide), hka, hn] at hq
  obtain ⟨h1, h2⟩ := ix_at hk hb
  refine va_iald C.1 C.2.1 C.2.2.2.2.2.1 hP1 q0 1 hq rfl h1 hdg ?_
  rw [h2, hv]
  exact kk H locs ls h hP hS
theorem j_bald (C : Cx p s m args c cc nL own Ts D cy base) (t i k : Nat) (hi : i < gC Λ t) (hkc : kC t = none) (hka : kA t = 0) (n : Nat) (hn : gN Λ t i = n) (hk : k < n) (hb : n < 2 ^ 31) (v : Int32) (hv : gI σ t i k = v) (hdg : decode cc pc = .ok (.baload, 1)) (kk : J p l e R s m args below meth c nL D cy base Q cells slots Λ (pc + 1) lv (.int v :: st) σ) : J p l e R s m args below meth c nL D cy base Q cells slots Λ pc lv (.int (nI k) :: .ref (gA Λ t i) :: st) σ := by
  intro H locs ls h hP hS
  obtain ⟨ws, hP1, hD, hR⟩ := id hP
  obtain ⟨q0, hq⟩ := hR.1 t i hi
  rw [kcell_i hkc (by rw [hka]; decide) (by rw [hka]; decide), hka, hn] at hq
  obtain ⟨h1, h2⟩ := ix_at hk hb
  refine va_bald C.1 C.2.1 C.2.2.2.2.2.1 hP1 q0 0 hq rfl h1 hdg ?_
  rw [h2, hv]
  exact kk H locs ls h hP hS
theorem j_zald (C : Cx p s m args c cc nL own Ts D cy base) (t i k : Nat) (hi : i < gC Λ t) (hkc : kC t = none) (hka : kA t = 3) (n : Nat) (hn : gN Λ t i = n) (hk : k < n) (hb : n < 2 ^ 31) (v : Int32) (hv : gI σ t i k = v) (hdg : decode cc pc = .ok (.baload, 1)) (kk : J p l e R s m args below meth c nL D cy base Q cells slots Λ (pc + 1) lv (.int v :: st) σ) : J p l e R s m args below meth c nL D cy base Q cells slots Λ pc lv (.int (nI k) :: .ref (gA Λ t i) :: st) σ := by
  intro H locs ls h hP hS
  obtain ⟨ws, hP1, hD, hR⟩ := id hP
  obtain ⟨q0, hq⟩ := hR.1 t i hi
  rw [kcell_i hkc (by rw [hka]; decide) (by rw [hka]; decide), hka, hn] at hq
  obtain ⟨h1, h2⟩ := ix_at hk hb
  refine va_zald C.1 C.2.1 C.2.2.2.2.2.1 hP1 q0 3 hq rfl h1 hdg ?_
  rw [h2, hv]
  exact kk H locs ls h hP hS
theorem j_lald (C : Cx p s m args c cc nL own Ts D cy base) (t i k : Nat) (hi : i < gC Λ t) (hkc : kC t = none) (hka : kA t = 2) (n : Nat) (hn : gN Λ t i = n) (hk : k < n) (hb : n < 2 ^ 31) (v : Int64) (hv : gJ σ t i k = v) (hdg : decode cc pc = .ok (.laload, 1)) (kk : J p l e R s m args below meth c nL D cy base Q cells slots Λ (pc + 1) lv (.long v :: st) σ) : J p l e R s m args below meth c nL D cy base Q cells slots Λ pc lv (.int (nI k) :: .ref (gA Λ t i) :: st) σ := by
  intro H locs ls h hP hS
  obtain ⟨ws, hP1, hD, hR⟩ := id hP
  obtain ⟨q0, hq⟩ := hR.1 t i hi
  rw [kcell_j hkc hka, hn] at hq
  obtain ⟨h1, h2⟩ := ix_at hk hb
  refine va_lald C.1 C.2.1 C.2.2.2.2.2.1 hP1 q0 2 hq rfl h1 hdg ?_
  rw [h2, hv]
  exact kk H locs ls h hP hS
theorem j_iast (C : Cx p s m args c cc nL own Ts D cy base) (t i k : Nat) (hi : i < gC Λ t) (hkc : kC t = none) (hka : kA t = 1) (n : Nat) (hn : gN Λ t i = n) (hk : k < n) (hb : n < 2 ^ 31) {x : Int32} (v : Int32) (hv : x = v) (hdg : decode cc pc = .ok (.iastore, 1)) (kk : J p l e R s m args below meth c nL D cy base Q cells slots Λ (pc + 1) lv st (sI σ t i k v)) : J p l e R s m args below meth c nL D cy base Q cells slots Λ pc lv (.int x :: .int (nI k) :: .ref (gA Λ t i) :: st) σ := by
  intro H locs ls h hP hS
  obtain ⟨ws, hP1, hD, hR⟩ := id hP
  obtain ⟨q0, hq0⟩ := hR.1 t i hi
  have hq := hq0
  rw [kcell_i hkc (by rw [hka]; decide) (by rw [hka]; decide), hka, hn] at hq
  obtain ⟨h1, h2⟩ := ix_at hk hb
  refine va_iast C.1 C.2.1 C.2.2.2.2.2.1 hP1 hD hS q0 1 hq rfl h1 hdg (fun H1 locs1 hP2 hD2 hS2 => kk H1 locs1 ls h ⟨_, hP2, hD2, Rw.sI hR hD hi hq0 ?_⟩ hS2)
  rw [kcell_i hkc (by rw [hka]; decide) (by rw [hka]; decide), hka, h2, hv]
  show Sum.inl (_, gN Λ t i, _) = _
  rw [hn]
  have hf : gI (sI σ t i k v) t i = upd (gI σ t i) k v := by
    funext j
    rw [gI_sI]
    unfold upd
    by_cases hz : j = k <;> simp [hz]
  rw [hf]
theorem j_bast (C : Cx p s m args c cc nL own Ts D cy base) (t i k : Nat) (hi : i < gC Λ t) (hkc : kC t = none) (hka : kA t = 0) (n : Nat) (hn : gN Λ t i = n) (hk : k < n) (hb : n < 2 ^ 31) {x : Int32} (v : Int32) (hv : vp_nar .byte x = v) (hdg : decode cc pc = .ok (.bastore, 1)) (kk : J p l e R s m args below meth c nL D cy base Q cells slots Λ (pc + 1) lv st (sI σ t i k v)) : J p l e R s m args below meth c nL D cy base Q cells slots Λ pc lv (.int x :: .int (nI k) :: .ref (gA Λ t i) :: st) σ := by
  intro H locs ls h hP hS
  obtain ⟨ws, hP1, hD, hR⟩ := id hP
  obtain ⟨q0, hq0⟩ := hR.1 t i hi
  have hq := hq0
  rw [kcell_i hkc (by rw [hka]; decide) (by rw [hka]; decide), hka, hn] at hq
  obtain ⟨h1, h2⟩ := ix_at hk hb
  refine va_bast C.1 C.2.1 C.2.2.2.2.2.1 hP1 hD hS q0 0 hq rfl h1 hdg (fun H1 locs1 hP2 hD2 hS2 => kk H1 locs1 ls h ⟨_, hP2, hD2, Rw.sI hR hD hi hq0 ?_⟩ hS2)
  rw [kcell_i hkc (by rw [hka]; decide) (by rw [hka]; decide), hka, h2, hv]
  show Sum.inl (_, gN Λ t i, _) = _
  rw [hn]
  have hf : gI (sI σ t i k v) t i = upd (gI σ t i) k v := by
    funext j
    rw [gI_sI]
    unfold upd
    by_cases hz : j = k <;> simp [hz]
  rw [hf]
theorem j_zast (C : Cx p s m args c cc nL own Ts D cy base) (t i k : Nat) (hi : i < gC Λ t) (hkc : kC t = none) (hka : kA t = 3) (n : Nat) (hn : gN Λ t i = n) (hk : k < n) (hb : n < 2 ^ 31) {x : Int32} (v : Int32) (hv : vp_nar .boolean x = v) (hdg : decode cc pc = .ok (.bastore, 1)) (kk : J p l e R s m args below meth c nL D cy base Q cells slots Λ (pc + 1) lv st (sI σ t i k v)) : J p l e R s m args below meth c nL D cy base Q cells slots Λ pc lv (.int x :: .int (nI k) :: .ref (gA Λ t i) :: st) σ := by
  intro H locs ls h hP hS
  obtain ⟨ws, hP1, hD, hR⟩ := id hP
  obtain ⟨q0, hq0⟩ := hR.1 t i hi
  have hq := hq0
  rw [kcell_i hkc (by rw [hka]; decide) (by rw [hka]; decide), hka, hn] at hq
  obtain ⟨h1, h2⟩ := ix_at hk hb
  refine va_zast C.1 C.2.1 C.2.2.2.2.2.1 hP1 hD hS q0 3 hq rfl h1 hdg (fun H1 locs1 hP2 hD2 hS2 => kk H1 locs1 ls h ⟨_, hP2, hD2, Rw.sI hR hD hi hq0 ?_⟩ hS2)
  rw [kcell_i hkc (by rw [hka]; decide) (by rw [hka]; decide), hka, h2, hv]
  show Sum.inl (_, gN Λ t i, _) = _
  rw [hn]
  have hf : gI (sI σ t i k v) t i = upd (gI σ t i) k v := by
    funext j
    rw [gI_sI]
    unfold upd
    by_cases hz : j = k <;> simp [hz]
  rw [hf]
theorem j_last (C : Cx p s m args c cc nL own Ts D cy base) (t i k : Nat) (hi : i < gC Λ t) (hkc : kC t = none) (hka : kA t = 2) (n : Nat) (hn : gN Λ t i = n) (hk : k < n) (hb : n < 2 ^ 31) {x : Int64} (v : Int64) (hv : x = v) (hdg : decode cc pc = .ok (.lastore, 1)) (kk : J p l e R s m args below meth c nL D cy base Q cells slots Λ (pc + 1) lv st (sJ σ t i k v)) : J p l e R s m args below meth c nL D cy base Q cells slots Λ pc lv (.long x :: .int (nI k) :: .ref (gA Λ t i) :: st) σ := by
  intro H locs ls h hP hS
  obtain ⟨ws, hP1, hD, hR⟩ := id hP
  obtain ⟨q0, hq0⟩ := hR.1 t i hi
  have hq := hq0
  rw [kcell_j hkc hka, hn] at hq
  obtain ⟨h1, h2⟩ := ix_at hk hb
  refine va_last C.1 C.2.1 C.2.2.2.2.2.1 hP1 hD hS q0 2 hq rfl h1 hdg (fun H1 locs1 hP2 hD2 hS2 => kk H1 locs1 ls h ⟨_, hP2, hD2, Rw.sJ hR hD hi hq0 ?_⟩ hS2)
  rw [kcell_j hkc hka, h2, hv]
  show Sum.inl (_, gN Λ t i, _) = _
  rw [hn]
  have hf : gJ (sJ σ t i k v) t i = vp_updL (gJ σ t i) k v := by
    funext j
    rw [gJ_sJ]
    unfold vp_updL
    by_cases hz : j = k <;> simp [hz]
  rw [hf]
theorem j_aald (C : Cx p s m args c cc nL own Ts D cy base) (t i k : Nat) (hi : i < gC Λ t) (hkc : kC t = none) (hka : 4 ≤ kA t) (hka2 : kA t < 7) (n : Nat) (hn : gN Λ t i = n) (hk : k < n) (hb : n < 2 ^ 31) (j : Nat) (hv : gV σ t i k = some j) (hdg : decode cc pc = .ok (.aaload, 1)) (kk : J p l e R s m args below meth c nL D cy base Q cells slots Λ (pc + 1) lv (.ref (gA Λ (kT t) j) :: st) σ) : J p l e R s m args below meth c nL D cy base Q cells slots Λ pc lv (.int (nI k) :: .ref (gA Λ t i) :: st) σ := by
  intro H locs ls h hP hS
  obtain ⟨ws, hP1, hD, hR⟩ := id hP
  obtain ⟨q0, hq⟩ := hR.1 t i hi
  rw [kcell_v hkc (by omega), hn] at hq
  obtain ⟨h1, h2⟩ := ix_at hk hb
  have K := C.2.2.2.2.2.1
  obtain ⟨ty, ht, hre⟩ : ∃ ty : FieldType, (tyL cy)[kA t]? = some (cy (kA t), ty) ∧ ty.isReference = true := by
    rcases (show kA t = 4 ∨ kA t = 5 ∨ kA t = 6 by omega) with z | z | z <;> rw [z] <;> exact ⟨_, rfl, rfl⟩
  have hlt : (nI k).toNatClampNeg < n := by rw [h2]; exact hk
  refine W.aald (v := va_rf ((gV σ t i (nI k).toNatClampNeg).map (gA Λ (kT t)))) (ty := ty) C.1 C.2.1 (hP1 q0 _ hq) ((K.2 (kA t) _ ht).1 n (fun j => va_rf ((gV σ t i j).map (gA Λ (kT t))))) hre (fun q => by cases q) (by show ¬ (nI k < 0 ∨ (arrV _ _ _).slots.size ≤ _); rw [arrV_size]; exact h1) (by show (arrV _ _ _).slots[_]? = _; rw [arrV_read _ _ hlt]) rfl rfl hdg ?_
  rw [h2, hv]
  exact kk H locs ls h hP hS
theorem j_aaldn (C : Cx p s m args c cc nL own Ts D cy base) (t i k : Nat) (hi : i < gC Λ t) (hkc : kC t = none) (hka : 4 ≤ kA t) (hka2 : kA t < 7) (n : Nat) (hn : gN Λ t i = n) (hk : k < n) (hb : n < 2 ^ 31) (hv : gV σ t i k = none) (hdg : decode cc pc = .ok (.aaload, 1)) (kk : J p l e R s m args below meth c nL D cy base Q cells slots Λ (pc + 1) lv (.null :: st) σ) : J p l e R s m args below meth c nL D cy base Q cells slots Λ pc lv (.int (nI k) :: .ref (gA Λ t i) :: st) σ := by
  intro H locs ls h hP hS
  obtain ⟨ws, hP1, hD, hR⟩ := id hP
  obtain ⟨q0, hq⟩ := hR.1 t i hi
  rw [kcell_v hkc (by omega), hn] at hq
  obtain ⟨h1, h2⟩ := ix_at hk hb
  have K := C.2.2.2.2.2.1
  obtain ⟨ty, ht, hre⟩ : ∃ ty : FieldType, (tyL cy)[kA t]? = some (cy (kA t), ty) ∧ ty.isReference = true := by
    rcases (show kA t = 4 ∨ kA t = 5 ∨ kA t = 6 by omega) with z | z | z <;> rw [z] <;> exact ⟨_, rfl, rfl⟩
  have hlt : (nI k).toNatClampNeg < n := by rw [h2]; exact hk
  refine W.aald (v := va_rf ((gV σ t i (nI k).toNatClampNeg).map (gA Λ (kT t)))) (ty := ty) C.1 C.2.1 (hP1 q0 _ hq) ((K.2 (kA t) _ ht).1 n (fun j => va_rf ((gV σ t i j).map (gA Λ (kT t))))) hre (fun q => by cases q) (by show ¬ (nI k < 0 ∨ (arrV _ _ _).slots.size ≤ _); rw [arrV_size]; exact h1) (by show (arrV _ _ _).slots[_]? = _; rw [arrV_read _ _ hlt]) rfl rfl hdg ?_
  rw [h2, hv]
  exact kk H locs ls h hP hS
theorem j_aast (C : Cx p s m args c cc nL own Ts D cy base) (t i k : Nat) (hi : i < gC Λ t) (hkc : kC t = none) (hka : kA t = 4) (n : Nat) (hn : gN Λ t i = n) (hk : k < n) (hb : n < 2 ^ 31) {j : Nat} (hkt : kT t = 8) (hj : j < gC Λ 8) (hdg : decode cc pc = .ok (.aastore, 1)) (kk : J p l e R s m args below meth c nL D cy base Q cells slots Λ (pc + 1) lv st (sV σ t i k (some j))) : J p l e R s m args below meth c nL D cy base Q cells slots Λ pc lv (.ref (gA Λ 8 j) :: .int (nI k) :: .ref (gA Λ t i) :: st) σ := by
  intro H locs ls h hP hS
  obtain ⟨ws, hP1, hD, hR⟩ := id hP
  obtain ⟨q0, hq0⟩ := hR.1 t i hi
  obtain ⟨q1, hq1⟩ := hR.1 8 j hj
  have hq := hq0
  rw [kcell_v hkc (by omega), hka, hn] at hq
  rw [kcell_o (ci := 8) rfl] at hq1
  obtain ⟨h1, h2⟩ := ix_at hk hb
  refine va_astq (r := (RX5, TX5, 13)) C.1 C.2.1 C.2.2.2.2.2.1 hP1 hD hS q0 4 q1 8 hq rfl hq1 rfl h1 hdg (fun H1 locs1 hP2 hD2 hS2 => kk H1 locs1 ls h ⟨_, hP2, hD2, Rw.sV hR hD hi hq0 ?_ (fun y hy => by cases hy; rw [kt_a hkc, hkt]; exact hj)⟩ hS2)
  rw [kcell_v hkc (by omega), hka, h2]
  show Sum.inl (_, gN Λ t i, _) = _
  rw [hn]
  have hf : (fun q => (gV (sV σ t i k (some j)) t i q).map (gA Λ (kT t))) = va_up (fun q => (gV σ t i q).map (gA Λ (kT t))) k (some (gA Λ 8 j)) := by
    funext q
    rw [gV_sV]
    unfold va_up
    by_cases hz : q = k
    · simp [hz, hkt]
    · simp [hz]
  rw [hf]
theorem j_alen (C : Cx p s m args c cc nL own Ts D cy base) (t i : Nat) (hi : i < gC Λ t) (hkc : kC t = none) (hka : kA t < 7) (v : Int32) (hv : nI (gN Λ t i) = v) (hdg : decode cc pc = .ok (.arraylength, 1)) (kk : J p l e R s m args below meth c nL D cy base Q cells slots Λ (pc + 1) lv (.int v :: st) σ) : J p l e R s m args below meth c nL D cy base Q cells slots Λ pc lv (.ref (gA Λ t i) :: st) σ := by
  intro H locs ls h hP hS
  obtain ⟨ws, hP1, hD, hR⟩ := id hP
  obtain ⟨q0, hq⟩ := hR.1 t i hi
  obtain ⟨ty, ht⟩ : ∃ ty : FieldType, (tyL cy)[kA t]? = some (cy (kA t), ty) := by
    rcases (show kA t = 0 ∨ kA t = 1 ∨ kA t = 2 ∨ kA t = 3 ∨ kA t = 4 ∨ kA t = 5 ∨ kA t = 6 by omega) with z | z | z | z | z | z | z <;> rw [z] <;> exact ⟨_, rfl⟩
  by_cases h2 : kA t = 2
  · rw [kcell_j hkc h2] at hq
    rw [h2] at ht
    exact va_alen C.1 C.2.1 C.2.2.2.2.2.1 hP1 q0 2 hq ht hv hdg (kk H locs ls h hP hS)
  · by_cases h3 : kA t < 4
    · rw [kcell_i hkc h2 h3] at hq
      exact va_alen C.1 C.2.1 C.2.2.2.2.2.1 hP1 q0 (kA t) hq ht hv hdg (kk H locs ls h hP hS)
    · rw [kcell_v hkc h3] at hq
      exact va_alen C.1 C.2.1 C.2.2.2.2.2.1 hP1 q0 (kA t) hq ht hv hdg (kk H locs ls h hP hS)
theorem j_ifnull (C : Cx p s m args c cc nL own Ts D cy base) {x : Nat} {off : Int} (hdg : decode cc pc = .ok (.ifnull off, 3)) (kk : J p l e R s m args below meth c nL D cy base Q cells slots Λ (pc + 3) lv st σ) : J p l e R s m args below meth c nL D cy base Q cells slots Λ pc lv (.ref x :: st) σ := fun H locs ls h hP hS => lv_ifnull C.1 C.2.1 hdg (kk H locs ls h hP hS)
theorem j_ifnonnull (C : Cx p s m args c cc nL own Ts D cy base) {x : Nat} {off : Int} {tgt : Nat} (hdg : decode cc pc = .ok (.ifnonnull off, 3)) (ht : (pc : Int) + off = (tgt : Int)) (kk : J p l e R s m args below meth c nL D cy base Q cells slots Λ tgt lv st σ) : J p l e R s m args below meth c nL D cy base Q cells slots Λ pc lv (.ref x :: st) σ := fun H locs ls h hP hS => lv_ifnonnull C.1 C.2.1 hdg ht (kk H locs ls h hP hS)
theorem j_ifnullN (C : Cx p s m args c cc nL own Ts D cy base) {off : Int} {tgt : Nat} (hdg : decode cc pc = .ok (.ifnull off, 3)) (ht : (pc : Int) + off = (tgt : Int)) (kk : J p l e R s m args below meth c nL D cy base Q cells slots Λ tgt lv st σ) : J p l e R s m args below meth c nL D cy base Q cells slots Λ pc lv (.null :: st) σ := fun H locs ls h hP hS => lv_ifnullN C.1 C.2.1 hdg ht (kk H locs ls h hP hS)
theorem j_ifnonnullN (C : Cx p s m args c cc nL own Ts D cy base) {off : Int} (hdg : decode cc pc = .ok (.ifnonnull off, 3)) (kk : J p l e R s m args below meth c nL D cy base Q cells slots Λ (pc + 3) lv st σ) : J p l e R s m args below meth c nL D cy base Q cells slots Λ pc lv (.null :: st) σ := fun H locs ls h hP hS => lv_ifnonnullN C.1 C.2.1 hdg (kk H locs ls h hP hS)
theorem j_acmp_eq (C : Cx p s m args c cc nL own Ts D cy base) (t i j : Nat) (hi : i < gC Λ t) (hj : j < gC Λ t) {off : Int} {tgt : Nat} (hdg : decode cc pc = .ok (.if_acmp .eq off, 3)) (ht : (pc : Int) + off = (tgt : Int)) (kt : i = j → J p l e R s m args below meth c nL D cy base Q cells slots Λ tgt lv st σ) (kf : ¬ i = j → J p l e R s m args below meth c nL D cy base Q cells slots Λ (pc + 3) lv st σ) : J p l e R s m args below meth c nL D cy base Q cells slots Λ pc lv (.ref (gA Λ t j) :: .ref (gA Λ t i) :: st) σ := by
  intro H locs ls h hP hS
  obtain ⟨ws, hP1, hD, hR⟩ := id hP
  refine lv_acmp_eq (rx := some (gA Λ t i)) (ry := some (gA Λ t j)) C.1 C.2.1 hdg ht (fun q => kt ?_ H locs ls h hP hS) (fun q => kf (fun z => q (by rw [z])) H locs ls h hP hS)
  exact (hR.2.2.1 t i t j hi hj (Option.some.inj q)).2
theorem j_iret (C : Cx p s m args c cc nL own Ts D cy base) {post : Int32 → HS → Prop} {v : Int32} (hr : meth.sig.returnType = some .int) (hlk : meth.locks = false) (hp : post v σ) (hdg : decode cc pc = .ok (.ireturn, 1)) : J p l e R s m args below meth c nL D cy base (MQ below (va_Qi post (Wd D cy base Λ) (Ab base)) args s cells slots (Ab base)) cells slots Λ pc lv ([.int v]) σ := by
  intro H locs ls h hP hS
  exact W.iret C.1 C.2.1 hr (fun t ht hW => ⟨⟨v, σ, rfl, hp, ⟨by rw [ht]; exact hP, va_K.moved hW.alike C.2.2.2.2.2.1, Ex.step C.2.2.2.2.2.2 hW hS ht⟩⟩, hS.F ht⟩) hS.2.2 hdg hlk
theorem j_zret (C : Cx p s m args c cc nL own Ts D cy base) {post : Int32 → HS → Prop} {v : Int32} {ty : FieldType} (hn : narrow ty (.int v) = .int v) (hr : meth.sig.returnType = some ty) (hlk : meth.locks = false) (hp : post v σ) (hdg : decode cc pc = .ok (.ireturn, 1)) : J p l e R s m args below meth c nL D cy base (MQ below (va_Qi post (Wd D cy base Λ) (Ab base)) args s cells slots (Ab base)) cells slots Λ pc lv ([.int v]) σ := by
  intro H locs ls h hP hS
  exact W.zret C.1 C.2.1 hr hn (fun t ht hW => ⟨⟨v, σ, rfl, hp, ⟨by rw [ht]; exact hP, va_K.moved hW.alike C.2.2.2.2.2.1, Ex.step C.2.2.2.2.2.2 hW hS ht⟩⟩, hS.F ht⟩) hS.2.2 hdg hlk
theorem j_lret (C : Cx p s m args c cc nL own Ts D cy base) {post : Int64 → HS → Prop} {v : Int64} (hr : meth.sig.returnType = some .long) (hlk : meth.locks = false) (hp : post v σ) (hdg : decode cc pc = .ok (.lreturn, 1)) : J p l e R s m args below meth c nL D cy base (MQ below (va_Ql post (Wd D cy base Λ) (Ab base)) args s cells slots (Ab base)) cells slots Λ pc lv ([.long v]) σ := by
  intro H locs ls h hP hS
  exact W.lret C.1 C.2.1 hr (fun t ht hW => ⟨⟨v, σ, rfl, hp, ⟨by rw [ht]; exact hP, va_K.moved hW.alike C.2.2.2.2.2.1, Ex.step C.2.2.2.2.2.2 hW hS ht⟩⟩, hS.F ht⟩) hS.2.2 hdg hlk
theorem j_vret (C : Cx p s m args c cc nL own Ts D cy base) {post : HS → Prop} (hr : meth.sig.returnType = none) (hlk : meth.locks = false) (hp : post σ) (hdg : decode cc pc = .ok (.return_, 1)) : J p l e R s m args below meth c nL D cy base (MQ below (va_Qv post (Wd D cy base Λ) (Ab base)) args s cells slots (Ab base)) cells slots Λ pc lv ([]) σ := by
  intro H locs ls h hP hS
  exact W.vret C.1 C.2.1 hr (fun t ht hW => ⟨⟨σ, rfl, hp, ⟨by rw [ht]; exact hP, va_K.moved hW.alike C.2.2.2.2.2.1, Ex.step C.2.2.2.2.2.2 hW hS ht⟩⟩, hS.F ht⟩) hS.2.2 hdg hlk
/-- an answer that is the j-th thing of kind tk -/
def Wr (D : va_G) (cy : Nat → ClassId) (base : Nat) (Λ : LY) (tk : Nat) (u : HS × Nat) (a : Nat) (t : State) : Prop := Wd D cy base Λ u.1 t ∧ a = gA Λ tk u.2
theorem j_aret (C : Cx p s m args c cc nL own Ts D cy base) {post : HS × Nat → Prop} {tk j : Nat} {rt : FieldType} (hrt : (∃ n, rt = .object n) ∨ ∃ t, rt = .array t) (hr : meth.sig.returnType = some rt) (hlk : meth.locks = false) (hp : post (σ, j)) (hdg : decode cc pc = .ok (.areturn, 1)) : J p l e R s m args below meth c nL D cy base (MQ below (va_Qr post (Wr D cy base Λ tk) (Ab base)) args s cells slots (Ab base)) cells slots Λ pc lv ([.ref (gA Λ tk j)]) σ := by
  intro H locs ls h hP hS
  exact W.aret C.1 C.2.1 hr hrt (Or.inr ⟨_, rfl⟩) (fun t ht hW => ⟨⟨(σ, j), _, rfl, hp, ⟨by rw [ht]; exact hP, va_K.moved hW.alike C.2.2.2.2.2.1, Ex.step C.2.2.2.2.2.2 hW hS ht⟩, rfl⟩, hS.F ht⟩) hS.2.2 hdg hlk
end JM
