theorem Ex.dcl {base : Nat} {s : State} {args : Array Value} {x : MethodName} (hE : Ex base s) (hm : Cond.declares x ∈ lw_tbl) : (Cond.declares x).before args s = true := by
  obtain ⟨U0, q, -, h2, -, -, h5, -⟩ := hE
  exact va_Nw.use rfl (va_Nw.warmD h2 (va_Nw.of rfl (h5 _ hm)))
theorem Ex.cst {base : Nat} {s : State} {args : Array Value} {x y : String} (hE : Ex base s) (hm : Cond.castable x y ∈ lw_tbl) : (Cond.castable x y).before args s = true := by
  obtain ⟨U0, q, -, h2, -, -, h5, -⟩ := hE
  exact va_Nw.use rfl (va_Nw.warmC h2 (va_Nw.of rfl (h5 _ hm)))
theorem lw_d1 : Cond.declares ⟨"java/lang/RuntimeException", "<init>", "(Ljava/lang/String;)V"⟩ ∈ lw_tbl := by decide +kernel
theorem lw_d2 : Cond.declares ⟨"java/lang/Exception", "<init>", "(Ljava/lang/String;)V"⟩ ∈ lw_tbl := by decide +kernel
theorem lw_d3 : Cond.declares ⟨"java/lang/Throwable", "<init>", "(Ljava/lang/String;)V"⟩ ∈ lw_tbl := by decide +kernel
theorem lw_xic : Cond.castable "java/lang/IndexOutOfBoundsException" "java/lang/IndexOutOfBoundsException" ∈ lw_tbl := by decide +kernel
theorem xi_hat {base : Nat} {s : State} {args : Array Value} (hE : Ex base s) (h1 : ∀ w ∈ (vx_atS RX10 251 "java/lang/IndexOutOfBoundsException" ["java/lang/RuntimeException", "java/lang/Exception"]).filter goodWord, w.before args s = true) : ∀ w ∈ vx_atS RX10 251 "java/lang/IndexOutOfBoundsException" ["java/lang/RuntimeException", "java/lang/Exception"], w.before args s = true :=
  vx_hat (B := [Cond.declares ⟨"java/lang/RuntimeException", "<init>", "(Ljava/lang/String;)V"⟩, Cond.declares ⟨"java/lang/Exception", "<init>", "(Ljava/lang/String;)V"⟩, Cond.declares ⟨"java/lang/Throwable", "<init>", "(Ljava/lang/String;)V"⟩, Cond.castable "java/lang/IndexOutOfBoundsException" "java/lang/IndexOutOfBoundsException"]) h1 (by decide +kernel) (vx_c (Ex.dcl hE lw_d1) (vx_c (Ex.dcl hE lw_d2) (vx_c (Ex.dcl hE lw_d3) (vx_c (Ex.cst hE lw_xic) vx_n))))
theorem xi247_ok : ∀ w ∈ Cond.classLink RX10 247 "java/lang/IndexOutOfBoundsException" :: Cond.initialized "java/lang/IndexOutOfBoundsException" :: vx_atS RX10 251 "java/lang/IndexOutOfBoundsException" ["java/lang/RuntimeException", "java/lang/Exception"], vx_ot w = true := by decide +kernel
theorem lw_xac : Cond.castable "java/lang/IllegalArgumentException" "java/lang/IllegalArgumentException" ∈ lw_tbl := by decide +kernel
theorem xa_hat {base : Nat} {s : State} {args : Array Value} (hE : Ex base s) (h1 : ∀ w ∈ (vx_atS RX10 83 "java/lang/IllegalArgumentException" ["java/lang/RuntimeException", "java/lang/Exception"]).filter goodWord, w.before args s = true) : ∀ w ∈ vx_atS RX10 83 "java/lang/IllegalArgumentException" ["java/lang/RuntimeException", "java/lang/Exception"], w.before args s = true :=
  vx_hat (B := [Cond.declares ⟨"java/lang/RuntimeException", "<init>", "(Ljava/lang/String;)V"⟩, Cond.declares ⟨"java/lang/Exception", "<init>", "(Ljava/lang/String;)V"⟩, Cond.declares ⟨"java/lang/Throwable", "<init>", "(Ljava/lang/String;)V"⟩, Cond.castable "java/lang/IllegalArgumentException" "java/lang/IllegalArgumentException"]) h1 (by decide +kernel) (vx_c (Ex.dcl hE lw_d1) (vx_c (Ex.dcl hE lw_d2) (vx_c (Ex.dcl hE lw_d3) (vx_c (Ex.cst hE lw_xac) vx_n))))
theorem xa79_ok : ∀ w ∈ Cond.classLink RX10 79 "java/lang/IllegalArgumentException" :: Cond.initialized "java/lang/IllegalArgumentException" :: vx_atS RX10 83 "java/lang/IllegalArgumentException" ["java/lang/RuntimeException", "java/lang/Exception"], vx_ot w = true := by decide +kernel
theorem lw_xsc : Cond.castable "java/lang/IllegalStateException" "java/lang/IllegalStateException" ∈ lw_tbl := by decide +kernel
theorem xs_hat {base : Nat} {s : State} {args : Array Value} (hE : Ex base s) (h1 : ∀ w ∈ (vx_atS RX10 91 "java/lang/IllegalStateException" ["java/lang/RuntimeException", "java/lang/Exception"]).filter goodWord, w.before args s = true) : ∀ w ∈ vx_atS RX10 91 "java/lang/IllegalStateException" ["java/lang/RuntimeException", "java/lang/Exception"], w.before args s = true :=
  vx_hat (B := [Cond.declares ⟨"java/lang/RuntimeException", "<init>", "(Ljava/lang/String;)V"⟩, Cond.declares ⟨"java/lang/Exception", "<init>", "(Ljava/lang/String;)V"⟩, Cond.declares ⟨"java/lang/Throwable", "<init>", "(Ljava/lang/String;)V"⟩, Cond.castable "java/lang/IllegalStateException" "java/lang/IllegalStateException"]) h1 (by decide +kernel) (vx_c (Ex.dcl hE lw_d1) (vx_c (Ex.dcl hE lw_d2) (vx_c (Ex.dcl hE lw_d3) (vx_c (Ex.cst hE lw_xsc) vx_n))))
theorem xs87_ok : ∀ w ∈ Cond.classLink RX10 87 "java/lang/IllegalStateException" :: Cond.initialized "java/lang/IllegalStateException" :: vx_atS RX10 91 "java/lang/IllegalStateException" ["java/lang/RuntimeException", "java/lang/Exception"], vx_ot w = true := by decide +kernel
theorem lw_st128 : Cond.stringRef "CodeRooms" 128 "one routine twice, no such kind, or no such number" ∈ lw_tbl := by decide +kernel
theorem nw_st128 (b : Nat) (U : State) (h : (Jvm.Cond.and given_1 narrow_1).before #[Value.ref b] U = true) : (Cond.exactly (.string "CodeRooms" 128) "java/lang/String").before #[Value.ref b] U = true := flat_of_before _ h _ (by decide +kernel)
theorem lw_st134 : Cond.stringRef "CodeRooms" 134 "one routine twice" ∈ lw_tbl := by decide +kernel
theorem nw_st134 (b : Nat) (U : State) (h : (Jvm.Cond.and given_1 narrow_1).before #[Value.ref b] U = true) : (Cond.exactly (.string "CodeRooms" 134) "java/lang/String").before #[Value.ref b] U = true := flat_of_before _ h _ (by decide +kernel)
theorem lw_st146 : Cond.stringRef "CodeRooms" 146 "no such setting, or no such value of it" ∈ lw_tbl := by decide +kernel
theorem nw_st146 (b : Nat) (U : State) (h : (Jvm.Cond.and given_1 narrow_1).before #[Value.ref b] U = true) : (Cond.exactly (.string "CodeRooms" 146) "java/lang/String").before #[Value.ref b] U = true := flat_of_before _ h _ (by decide +kernel)
theorem lw_st152 : Cond.stringRef "CodeRooms" 152 "one routine twice, or no such must" ∈ lw_tbl := by decide +kernel
theorem nw_st152 (b : Nat) (U : State) (h : (Jvm.Cond.and given_1 narrow_1).before #[Value.ref b] U = true) : (Cond.exactly (.string "CodeRooms" 152) "java/lang/String").before #[Value.ref b] U = true := flat_of_before _ h _ (by decide +kernel)
theorem lw_st157 : Cond.stringRef "CodeRooms" 157 "no such room" ∈ lw_tbl := by decide +kernel
theorem nw_st157 (b : Nat) (U : State) (h : (Jvm.Cond.and given_1 narrow_1).before #[Value.ref b] U = true) : (Cond.exactly (.string "CodeRooms" 157) "java/lang/String").before #[Value.ref b] U = true := flat_of_before _ h _ (by decide +kernel)
theorem lw_st225 : Cond.stringRef "CodeRooms" 225 "bits that tell no routine" ∈ lw_tbl := by decide +kernel
theorem nw_st225 (b : Nat) (U : State) (h : (Jvm.Cond.and given_1 narrow_1).before #[Value.ref b] U = true) : (Cond.exactly (.string "CodeRooms" 225) "java/lang/String").before #[Value.ref b] U = true := flat_of_before _ h _ (by decide +kernel)
theorem lw_st249 : Cond.stringRef "CodeRooms" 249 "no such routine" ∈ lw_tbl := by decide +kernel
theorem nw_st249 (b : Nat) (U : State) (h : (Jvm.Cond.and given_1 narrow_1).before #[Value.ref b] U = true) : (Cond.exactly (.string "CodeRooms" 249) "java/lang/String").before #[Value.ref b] U = true := flat_of_before _ h _ (by decide +kernel)
theorem lw_st81 : Cond.stringRef "CodeRooms" 81 "the tape has not so many bytes" ∈ lw_tbl := by decide +kernel
theorem nw_st81 (b : Nat) (U : State) (h : (Jvm.Cond.and given_1 narrow_1).before #[Value.ref b] U = true) : (Cond.exactly (.string "CodeRooms" 81) "java/lang/String").before #[Value.ref b] U = true := flat_of_before _ h _ (by decide +kernel)
theorem lw_st89 : Cond.stringRef "CodeRooms" 89 "there are 40 routines" ∈ lw_tbl := by decide +kernel
theorem nw_st89 (b : Nat) (U : State) (h : (Jvm.Cond.and given_1 narrow_1).before #[Value.ref b] U = true) : (Cond.exactly (.string "CodeRooms" 89) "java/lang/String").before #[Value.ref b] U = true := flat_of_before _ h _ (by decide +kernel)
theorem inR_no {M : MM} {r : Int32} (h : inR M r = false) (h1 : ¬ r < 0) (h2 : r < nI (M 31 5)) : False := by
  have := of_decide_eq_false h
  exact this ⟨Int32.not_lt.mp h1, h2⟩
theorem inRm_no {M : MM} {r : Int32} (h : inRm M r = false) (h1 : ¬ r < 0) (h2 : r < nI (M 31 10)) : False := by
  have := of_decide_eq_false h
  exact this ⟨Int32.not_lt.mp h1, h2⟩