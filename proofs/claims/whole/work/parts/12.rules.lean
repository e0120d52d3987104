/-! RULES: an instruction each; goal first -/
section JR
variable {g : jG} {d : Nat} {Y : jY} {b : Nat × Nat} {σ : List jD} {h : jH} {pc : Nat} {ls : List (Nat × Value)} {st : List Value} {Q : jQ}
theorem J_iconst {n : Int} {v : Int32} (hd : decode Y.2.2.1 pc = .ok (.iconst n, 1)) (hv : Int32.ofInt n = v) (k : J g d Y b σ h (pc + 1) ls (.int v :: st) Q) : J g d Y b σ h pc ls (st) Q := by
  intro p e R s m args below meth c Qw C H locs cells slots lsA hc hs hP hS hl
  exact lv_iconst C.1 C.2.1 hd hv (k p e R s m args below meth c Qw C H locs cells slots lsA hc hs hP hS hl)
theorem J_bipush {n : Int} {v : Int32} (hd : decode Y.2.2.1 pc = .ok (.bipush n, 2)) (hv : (Int8.ofInt n).toInt32 = v) (k : J g d Y b σ h (pc + 2) ls (.int v :: st) Q) : J g d Y b σ h pc ls (st) Q := by
  intro p e R s m args below meth c Qw C H locs cells slots lsA hc hs hP hS hl
  exact lv_bipush C.1 C.2.1 hd hv (k p e R s m args below meth c Qw C H locs cells slots lsA hc hs hP hS hl)
theorem J_sipush {n : Int} {v : Int32} (hd : decode Y.2.2.1 pc = .ok (.sipush n, 3)) (hv : (Int16.ofInt n).toInt32 = v) (k : J g d Y b σ h (pc + 3) ls (.int v :: st) Q) : J g d Y b σ h pc ls (st) Q := by
  intro p e R s m args below meth c Qw C H locs cells slots lsA hc hs hP hS hl
  exact lv_sipush C.1 C.2.1 hd hv (k p e R s m args below meth c Qw C H locs cells slots lsA hc hs hP hS hl)
theorem J_lconst {n : Fin 2} {v : Int64} (hd : decode Y.2.2.1 pc = .ok (.lconst n, 1)) (hv : Int64.ofNat (n : Nat) = v) (k : J g d Y b σ h (pc + 1) ls (.long v :: st) Q) : J g d Y b σ h pc ls (st) Q := by
  intro p e R s m args below meth c Qw C H locs cells slots lsA hc hs hP hS hl
  exact lv_lconst C.1 C.2.1 hd hv (k p e R s m args below meth c Qw C H locs cells slots lsA hc hs hP hS hl)
theorem J_iload_n {k : Fin 4} {x : Int32} (hd : decode Y.2.2.1 pc = .ok (.iload_n k, 1)) (hv : j_lk ls (k : Nat) = some (.int x)) (kk : J g d Y b σ h (pc + 1) ls (.int x :: st) Q) : J g d Y b σ h pc ls st Q := by
  intro p e R s m args below meth c Qw C H locs cells slots lsA hc hs hP hS hl
  exact lv_iload_n C.1 C.2.1 hd rfl (j_at hl hv) (kk p e R s m args below meth c Qw C H locs cells slots lsA hc hs hP hS hl)
theorem J_iload {i : Nat} {x : Int32} (hd : decode Y.2.2.1 pc = .ok (.iload i, 2)) (hv : j_lk ls i = some (.int x)) (kk : J g d Y b σ h (pc + 2) ls (.int x :: st) Q) : J g d Y b σ h pc ls st Q := by
  intro p e R s m args below meth c Qw C H locs cells slots lsA hc hs hP hS hl
  exact lv_iload C.1 C.2.1 hd (j_at hl hv) (kk p e R s m args below meth c Qw C H locs cells slots lsA hc hs hP hS hl)
theorem J_istore_n {k : Fin 4} {x : Int32} (hd : decode Y.2.2.1 pc = .ok (.istore_n k, 1)) (hn : (k : Nat) < Y.2.2.2.1) (kk : J g d Y b σ h (pc + 1) (j_s1 ls (k : Nat) (.int x)) st Q) : J g d Y b σ h pc ls (.int x :: st) Q := by
  intro p e R s m args below meth c Qw C H locs cells slots lsA hc hs hP hS hl
  exact lv_istore_n C.1 C.2.1 hd rfl hl hn (j_l_s1 (v := .int x)) (fun ls' hl' => kk p e R s m args below meth c Qw C H locs cells slots ls' hc hs hP hS hl')
theorem J_istore {i : Nat} {x : Int32} (hd : decode Y.2.2.1 pc = .ok (.istore i, 2)) (hn : i < Y.2.2.2.1) (kk : J g d Y b σ h (pc + 2) (j_s1 ls i (.int x)) st Q) : J g d Y b σ h pc ls (.int x :: st) Q := by
  intro p e R s m args below meth c Qw C H locs cells slots lsA hc hs hP hS hl
  exact lv_istore C.1 C.2.1 hd hl hn (j_l_s1 (v := .int x)) (fun ls' hl' => kk p e R s m args below meth c Qw C H locs cells slots ls' hc hs hP hS hl')
theorem J_lload_n {k : Fin 4} {x : Int64} (hd : decode Y.2.2.1 pc = .ok (.lload_n k, 1)) (hv : j_lk ls (k : Nat) = some (.long x)) (kk : J g d Y b σ h (pc + 1) ls (.long x :: st) Q) : J g d Y b σ h pc ls st Q := by
  intro p e R s m args below meth c Qw C H locs cells slots lsA hc hs hP hS hl
  exact lv_lload_n C.1 C.2.1 hd rfl (j_at hl hv) (kk p e R s m args below meth c Qw C H locs cells slots lsA hc hs hP hS hl)
theorem J_lload {i : Nat} {x : Int64} (hd : decode Y.2.2.1 pc = .ok (.lload i, 2)) (hv : j_lk ls i = some (.long x)) (kk : J g d Y b σ h (pc + 2) ls (.long x :: st) Q) : J g d Y b σ h pc ls st Q := by
  intro p e R s m args below meth c Qw C H locs cells slots lsA hc hs hP hS hl
  exact lv_lload C.1 C.2.1 hd (j_at hl hv) (kk p e R s m args below meth c Qw C H locs cells slots lsA hc hs hP hS hl)
theorem J_lstore_n {k : Fin 4} {x : Int64} (hd : decode Y.2.2.1 pc = .ok (.lstore_n k, 1)) (hn : (k : Nat) + 1 < Y.2.2.2.1) (kk : J g d Y b σ h (pc + 1) (j_s2 ls (k : Nat) (.long x)) st Q) : J g d Y b σ h pc ls (.long x :: st) Q := by
  intro p e R s m args below meth c Qw C H locs cells slots lsA hc hs hP hS hl
  exact lv_lstore_n C.1 C.2.1 hd rfl hl hn (j_l_s2 (v := .long x)) (fun ls' hl' => kk p e R s m args below meth c Qw C H locs cells slots ls' hc hs hP hS hl')
theorem J_lstore {i : Nat} {x : Int64} (hd : decode Y.2.2.1 pc = .ok (.lstore i, 2)) (hn : i + 1 < Y.2.2.2.1) (kk : J g d Y b σ h (pc + 2) (j_s2 ls i (.long x)) st Q) : J g d Y b σ h pc ls (.long x :: st) Q := by
  intro p e R s m args below meth c Qw C H locs cells slots lsA hc hs hP hS hl
  exact lv_lstore C.1 C.2.1 hd hl hn (j_l_s2 (v := .long x)) (fun ls' hl' => kk p e R s m args below meth c Qw C H locs cells slots ls' hc hs hP hS hl')
theorem J_aload_n {k : Fin 4} {x : Nat} (hd : decode Y.2.2.1 pc = .ok (.aload_n k, 1)) (hv : j_lk ls (k : Nat) = some (.ref x)) (kk : J g d Y b σ h (pc + 1) ls (.ref x :: st) Q) : J g d Y b σ h pc ls st Q := by
  intro p e R s m args below meth c Qw C H locs cells slots lsA hc hs hP hS hl
  exact lv_aload_n C.1 C.2.1 hd rfl (j_at hl hv) (kk p e R s m args below meth c Qw C H locs cells slots lsA hc hs hP hS hl)
theorem J_aload {i : Nat} {x : Nat} (hd : decode Y.2.2.1 pc = .ok (.aload i, 2)) (hv : j_lk ls i = some (.ref x)) (kk : J g d Y b σ h (pc + 2) ls (.ref x :: st) Q) : J g d Y b σ h pc ls st Q := by
  intro p e R s m args below meth c Qw C H locs cells slots lsA hc hs hP hS hl
  exact lv_aload C.1 C.2.1 hd (j_at hl hv) (kk p e R s m args below meth c Qw C H locs cells slots lsA hc hs hP hS hl)
theorem J_astore_n {k : Fin 4} {x : Nat} (hd : decode Y.2.2.1 pc = .ok (.astore_n k, 1)) (hn : (k : Nat) < Y.2.2.2.1) (kk : J g d Y b σ h (pc + 1) (j_s1 ls (k : Nat) (.ref x)) st Q) : J g d Y b σ h pc ls (.ref x :: st) Q := by
  intro p e R s m args below meth c Qw C H locs cells slots lsA hc hs hP hS hl
  exact lv_astore_n C.1 C.2.1 hd rfl hl hn (j_l_s1 (v := .ref x)) (fun ls' hl' => kk p e R s m args below meth c Qw C H locs cells slots ls' hc hs hP hS hl')
theorem J_astore {i : Nat} {x : Nat} (hd : decode Y.2.2.1 pc = .ok (.astore i, 2)) (hn : i < Y.2.2.2.1) (kk : J g d Y b σ h (pc + 2) (j_s1 ls i (.ref x)) st Q) : J g d Y b σ h pc ls (.ref x :: st) Q := by
  intro p e R s m args below meth c Qw C H locs cells slots lsA hc hs hP hS hl
  exact lv_astore C.1 C.2.1 hd hl hn (j_l_s1 (v := .ref x)) (fun ls' hl' => kk p e R s m args below meth c Qw C H locs cells slots ls' hc hs hP hS hl')
theorem J_iinc {i : Nat} {n : Int} {x v : Int32} (hd : decode Y.2.2.1 pc = .ok (.iinc i n, 3)) (hv : j_lk ls i = some (.int x)) (he : x + Int32.ofInt n = v) (hn : i < Y.2.2.2.1) (kk : J g d Y b σ h (pc + 3) (j_s1 ls i (.int v)) st Q) : J g d Y b σ h pc ls st Q := by
  intro p e R s m args below meth c Qw C H locs cells slots lsA hc hs hP hS hl
  obtain ⟨k, hk⟩ := List.getElem?_of_mem (List.mem_map.mpr ⟨(i, Value.int x), j_lk_mem hv, rfl⟩ : (i, Value.int x) ∈ j_l g.2.2.2.1 ls)
  exact lv_iinc (k := k) C.1 C.2.1 hd hl hk he hn (j_l_s1 (v := .int v)) (fun ls' hl' => kk p e R s m args below meth c Qw C H locs cells slots ls' hc hs hP hS hl')
theorem J_iadd {x y v : Int32} (hd : decode Y.2.2.1 pc = .ok (.iadd, 1)) (hv : x + y = v) (k : J g d Y b σ h (pc + 1) ls (.int v :: st) Q) : J g d Y b σ h pc ls (.int y :: .int x :: st) Q := by
  subst hv
  intro p e R s m args below meth c Qw C H locs cells slots lsA hc hs hP hS hl
  exact lv_iadd C.1 C.2.1 hd (k p e R s m args below meth c Qw C H locs cells slots lsA hc hs hP hS hl)
theorem J_isub {x y v : Int32} (hd : decode Y.2.2.1 pc = .ok (.isub, 1)) (hv : x - y = v) (k : J g d Y b σ h (pc + 1) ls (.int v :: st) Q) : J g d Y b σ h pc ls (.int y :: .int x :: st) Q := by
  subst hv
  intro p e R s m args below meth c Qw C H locs cells slots lsA hc hs hP hS hl
  exact lv_isub C.1 C.2.1 hd (k p e R s m args below meth c Qw C H locs cells slots lsA hc hs hP hS hl)
theorem J_imul {x y v : Int32} (hd : decode Y.2.2.1 pc = .ok (.imul, 1)) (hv : x * y = v) (k : J g d Y b σ h (pc + 1) ls (.int v :: st) Q) : J g d Y b σ h pc ls (.int y :: .int x :: st) Q := by
  subst hv
  intro p e R s m args below meth c Qw C H locs cells slots lsA hc hs hP hS hl
  exact lv_imul C.1 C.2.1 hd (k p e R s m args below meth c Qw C H locs cells slots lsA hc hs hP hS hl)
theorem J_iand {x y v : Int32} (hd : decode Y.2.2.1 pc = .ok (.iand, 1)) (hv : x &&& y = v) (k : J g d Y b σ h (pc + 1) ls (.int v :: st) Q) : J g d Y b σ h pc ls (.int y :: .int x :: st) Q := by
  subst hv
  intro p e R s m args below meth c Qw C H locs cells slots lsA hc hs hP hS hl
  exact lv_iand C.1 C.2.1 hd (k p e R s m args below meth c Qw C H locs cells slots lsA hc hs hP hS hl)
theorem J_ior {x y v : Int32} (hd : decode Y.2.2.1 pc = .ok (.ior, 1)) (hv : x ||| y = v) (k : J g d Y b σ h (pc + 1) ls (.int v :: st) Q) : J g d Y b σ h pc ls (.int y :: .int x :: st) Q := by
  subst hv
  intro p e R s m args below meth c Qw C H locs cells slots lsA hc hs hP hS hl
  exact lv_ior C.1 C.2.1 hd (k p e R s m args below meth c Qw C H locs cells slots lsA hc hs hP hS hl)
theorem J_ixor {x y v : Int32} (hd : decode Y.2.2.1 pc = .ok (.ixor, 1)) (hv : x ^^^ y = v) (k : J g d Y b σ h (pc + 1) ls (.int v :: st) Q) : J g d Y b σ h pc ls (.int y :: .int x :: st) Q := by
  subst hv
  intro p e R s m args below meth c Qw C H locs cells slots lsA hc hs hP hS hl
  exact lv_ixor C.1 C.2.1 hd (k p e R s m args below meth c Qw C H locs cells slots lsA hc hs hP hS hl)
theorem J_ishl {x y v : Int32} (hd : decode Y.2.2.1 pc = .ok (.ishl, 1)) (hv : x <<< (y &&& 31) = v) (k : J g d Y b σ h (pc + 1) ls (.int v :: st) Q) : J g d Y b σ h pc ls (.int y :: .int x :: st) Q := by
  subst hv
  intro p e R s m args below meth c Qw C H locs cells slots lsA hc hs hP hS hl
  exact lv_ishl C.1 C.2.1 hd (k p e R s m args below meth c Qw C H locs cells slots lsA hc hs hP hS hl)
theorem J_ishr {x y v : Int32} (hd : decode Y.2.2.1 pc = .ok (.ishr, 1)) (hv : x >>> (y &&& 31) = v) (k : J g d Y b σ h (pc + 1) ls (.int v :: st) Q) : J g d Y b σ h pc ls (.int y :: .int x :: st) Q := by
  subst hv
  intro p e R s m args below meth c Qw C H locs cells slots lsA hc hs hP hS hl
  exact lv_ishr C.1 C.2.1 hd (k p e R s m args below meth c Qw C H locs cells slots lsA hc hs hP hS hl)
theorem J_iushr {x y v : Int32} (hd : decode Y.2.2.1 pc = .ok (.iushr, 1)) (hv : (x.toUInt32 >>> (y.toUInt32 &&& Int32.toUInt32 31)).toInt32 = v) (k : J g d Y b σ h (pc + 1) ls (.int v :: st) Q) : J g d Y b σ h pc ls (.int y :: .int x :: st) Q := by
  intro p e R s m args below meth c Qw C H locs cells slots lsA hc hs hP hS hl
  exact lv_iushr C.1 C.2.1 hd hv (k p e R s m args below meth c Qw C H locs cells slots lsA hc hs hP hS hl)
theorem J_idiv {x y v : Int32} (hd : decode Y.2.2.1 pc = .ok (.idiv, 1)) (hne : ¬ y = 0) (hv : x / y = v) (k : J g d Y b σ h (pc + 1) ls (.int v :: st) Q) : J g d Y b σ h pc ls (.int y :: .int x :: st) Q := by
  subst hv
  intro p e R s m args below meth c Qw C H locs cells slots lsA hc hs hP hS hl
  exact lv_idiv C.1 C.2.1 hd hne (k p e R s m args below meth c Qw C H locs cells slots lsA hc hs hP hS hl)
theorem J_irem {x y v : Int32} (hd : decode Y.2.2.1 pc = .ok (.irem, 1)) (hne : ¬ y = 0) (hv : x - x / y * y = v) (k : J g d Y b σ h (pc + 1) ls (.int v :: st) Q) : J g d Y b σ h pc ls (.int y :: .int x :: st) Q := by
  subst hv
  intro p e R s m args below meth c Qw C H locs cells slots lsA hc hs hP hS hl
  exact lv_irem C.1 C.2.1 hd hne (k p e R s m args below meth c Qw C H locs cells slots lsA hc hs hP hS hl)
theorem J_ladd {x y v : Int64} (hd : decode Y.2.2.1 pc = .ok (.ladd, 1)) (hv : x + y = v) (k : J g d Y b σ h (pc + 1) ls (.long v :: st) Q) : J g d Y b σ h pc ls (.long y :: .long x :: st) Q := by
  subst hv
  intro p e R s m args below meth c Qw C H locs cells slots lsA hc hs hP hS hl
  exact lv_ladd C.1 C.2.1 hd (k p e R s m args below meth c Qw C H locs cells slots lsA hc hs hP hS hl)
theorem J_lsub {x y v : Int64} (hd : decode Y.2.2.1 pc = .ok (.lsub, 1)) (hv : x - y = v) (k : J g d Y b σ h (pc + 1) ls (.long v :: st) Q) : J g d Y b σ h pc ls (.long y :: .long x :: st) Q := by
  subst hv
  intro p e R s m args below meth c Qw C H locs cells slots lsA hc hs hP hS hl
  exact lv_lsub C.1 C.2.1 hd (k p e R s m args below meth c Qw C H locs cells slots lsA hc hs hP hS hl)
theorem J_lmul {x y v : Int64} (hd : decode Y.2.2.1 pc = .ok (.lmul, 1)) (hv : x * y = v) (k : J g d Y b σ h (pc + 1) ls (.long v :: st) Q) : J g d Y b σ h pc ls (.long y :: .long x :: st) Q := by
  subst hv
  intro p e R s m args below meth c Qw C H locs cells slots lsA hc hs hP hS hl
  exact lv_lmul C.1 C.2.1 hd (k p e R s m args below meth c Qw C H locs cells slots lsA hc hs hP hS hl)
theorem J_ldiv {x y v : Int64} (hd : decode Y.2.2.1 pc = .ok (.ldiv, 1)) (hne : ¬ y = 0) (hv : x / y = v) (k : J g d Y b σ h (pc + 1) ls (.long v :: st) Q) : J g d Y b σ h pc ls (.long y :: .long x :: st) Q := by
  subst hv
  intro p e R s m args below meth c Qw C H locs cells slots lsA hc hs hP hS hl
  exact lv_ldiv C.1 C.2.1 hd hne (k p e R s m args below meth c Qw C H locs cells slots lsA hc hs hP hS hl)
theorem J_lrem {x y v : Int64} (hd : decode Y.2.2.1 pc = .ok (.lrem, 1)) (hne : ¬ y = 0) (hv : x - x / y * y = v) (k : J g d Y b σ h (pc + 1) ls (.long v :: st) Q) : J g d Y b σ h pc ls (.long y :: .long x :: st) Q := by
  subst hv
  intro p e R s m args below meth c Qw C H locs cells slots lsA hc hs hP hS hl
  exact lv_lrem C.1 C.2.1 hd hne (k p e R s m args below meth c Qw C H locs cells slots lsA hc hs hP hS hl)
theorem J_lneg {x v : Int64} (hd : decode Y.2.2.1 pc = .ok (.lneg, 1)) (hv : -x = v) (k : J g d Y b σ h (pc + 1) ls (.long v :: st) Q) : J g d Y b σ h pc ls (.long x :: st) Q := by
  subst hv
  intro p e R s m args below meth c Qw C H locs cells slots lsA hc hs hP hS hl
  exact lv_lneg C.1 C.2.1 hd (k p e R s m args below meth c Qw C H locs cells slots lsA hc hs hP hS hl)
theorem J_lcmp {x y : Int64} (hd : decode Y.2.2.1 pc = .ok (.lcmp, 1)) (k : J g d Y b σ h (pc + 1) ls (.int (lg_cmp x y) :: st) Q) : J g d Y b σ h pc ls (.long y :: .long x :: st) Q := by
  intro p e R s m args below meth c Qw C H locs cells slots lsA hc hs hP hS hl
  exact W.lcmp C.1 C.2.1 hd (k p e R s m args below meth c Qw C H locs cells slots lsA hc hs hP hS hl)
theorem J_i2l {x : Int32} {v : Int64} (hd : decode Y.2.2.1 pc = .ok (.i2l, 1)) (hv : x.toInt64 = v) (k : J g d Y b σ h (pc + 1) ls (.long v :: st) Q) : J g d Y b σ h pc ls (.int x :: st) Q := by
  intro p e R s m args below meth c Qw C H locs cells slots lsA hc hs hP hS hl
  exact lv_i2l C.1 C.2.1 hd hv (k p e R s m args below meth c Qw C H locs cells slots lsA hc hs hP hS hl)
theorem J_i2b {x v : Int32} (hd : decode Y.2.2.1 pc = .ok (.i2b, 1)) (hv : x.toInt8.toInt32 = v) (k : J g d Y b σ h (pc + 1) ls (.int v :: st) Q) : J g d Y b σ h pc ls (.int x :: st) Q := by
  intro p e R s m args below meth c Qw C H locs cells slots lsA hc hs hP hS hl
  exact lv_i2b C.1 C.2.1 hd hv (k p e R s m args below meth c Qw C H locs cells slots lsA hc hs hP hS hl)
theorem J_i2s {x v : Int32} (hd : decode Y.2.2.1 pc = .ok (.i2s, 1)) (hv : x.toInt16.toInt32 = v) (k : J g d Y b σ h (pc + 1) ls (.int v :: st) Q) : J g d Y b σ h pc ls (.int x :: st) Q := by
  intro p e R s m args below meth c Qw C H locs cells slots lsA hc hs hP hS hl
  exact lv_i2s C.1 C.2.1 hd hv (k p e R s m args below meth c Qw C H locs cells slots lsA hc hs hP hS hl)
theorem J_dup {v : Value} (hd : decode Y.2.2.1 pc = .ok (.dup, 1)) (hv : v.category = 1) (k : J g d Y b σ h (pc + 1) ls (v :: v :: st) Q) : J g d Y b σ h pc ls (v :: st) Q := by
  intro p e R s m args below meth c Qw C H locs cells slots lsA hc hs hP hS hl
  exact lv_dup C.1 C.2.1 hd ((j_v_cat v).trans hv) (k p e R s m args below meth c Qw C H locs cells slots lsA hc hs hP hS hl)
theorem J_pop {v : Value} (hd : decode Y.2.2.1 pc = .ok (.pop, 1)) (hv : v.category = 1) (k : J g d Y b σ h (pc + 1) ls st Q) : J g d Y b σ h pc ls (v :: st) Q := by
  intro p e R s m args below meth c Qw C H locs cells slots lsA hc hs hP hS hl
  exact lv_pop C.1 C.2.1 hd ((j_v_cat v).trans hv) (k p e R s m args below meth c Qw C H locs cells slots lsA hc hs hP hS hl)
theorem J_dup2 {v w : Value} (hd : decode Y.2.2.1 pc = .ok (.dup2, 1)) (hv : v.category = 1) (hw : w.category = 1) (k : J g d Y b σ h (pc + 1) ls (v :: w :: v :: w :: st) Q) : J g d Y b σ h pc ls (v :: w :: st) Q := by
  intro p e R s m args below meth c Qw C H locs cells slots lsA hc hs hP hS hl
  exact lv_dup2_11 C.1 C.2.1 hd ((j_v_cat v).trans hv) ((j_v_cat w).trans hw) (k p e R s m args below meth c Qw C H locs cells slots lsA hc hs hP hS hl)
theorem J_if_eq {x : Int32} {off : Int} {tgt : Nat} (hd : decode Y.2.2.1 pc = .ok (.ifCond .eq off, 3)) (ht : (pc : Int) + off = (tgt : Int)) (kt : x = 0 → J g d Y b σ h tgt ls st Q) (kf : ¬ (x = 0) → J g d Y b σ h (pc + 3) ls st Q) : J g d Y b σ h pc ls (.int x :: st) Q := by
  intro p e R s m args below meth c Qw C H locs cells slots lsA hc hs hP hS hl
  exact lv_if_eq C.1 C.2.1 hd ht (fun z => kt z p e R s m args below meth c Qw C H locs cells slots lsA hc hs hP hS hl) (fun z => kf z p e R s m args below meth c Qw C H locs cells slots lsA hc hs hP hS hl)
theorem J_if_ne {x : Int32} {off : Int} {tgt : Nat} (hd : decode Y.2.2.1 pc = .ok (.ifCond .ne off, 3)) (ht : (pc : Int) + off = (tgt : Int)) (kt : ¬ x = 0 → J g d Y b σ h tgt ls st Q) (kf : x = 0 → J g d Y b σ h (pc + 3) ls st Q) : J g d Y b σ h pc ls (.int x :: st) Q := by
  intro p e R s m args below meth c Qw C H locs cells slots lsA hc hs hP hS hl
  exact lv_if_ne C.1 C.2.1 hd ht (fun z => kt z p e R s m args below meth c Qw C H locs cells slots lsA hc hs hP hS hl) (fun z => kf z p e R s m args below meth c Qw C H locs cells slots lsA hc hs hP hS hl)
theorem J_if_lt {x : Int32} {off : Int} {tgt : Nat} (hd : decode Y.2.2.1 pc = .ok (.ifCond .lt off, 3)) (ht : (pc : Int) + off = (tgt : Int)) (kt : x < 0 → J g d Y b σ h tgt ls st Q) (kf : ¬ (x < 0) → J g d Y b σ h (pc + 3) ls st Q) : J g d Y b σ h pc ls (.int x :: st) Q := by
  intro p e R s m args below meth c Qw C H locs cells slots lsA hc hs hP hS hl
  exact lv_if_lt C.1 C.2.1 hd ht (fun z => kt z p e R s m args below meth c Qw C H locs cells slots lsA hc hs hP hS hl) (fun z => kf z p e R s m args below meth c Qw C H locs cells slots lsA hc hs hP hS hl)
theorem J_if_ge {x : Int32} {off : Int} {tgt : Nat} (hd : decode Y.2.2.1 pc = .ok (.ifCond .ge off, 3)) (ht : (pc : Int) + off = (tgt : Int)) (kt : 0 ≤ x → J g d Y b σ h tgt ls st Q) (kf : ¬ (0 ≤ x) → J g d Y b σ h (pc + 3) ls st Q) : J g d Y b σ h pc ls (.int x :: st) Q := by
  intro p e R s m args below meth c Qw C H locs cells slots lsA hc hs hP hS hl
  exact lv_if_ge C.1 C.2.1 hd ht (fun z => kt z p e R s m args below meth c Qw C H locs cells slots lsA hc hs hP hS hl) (fun z => kf z p e R s m args below meth c Qw C H locs cells slots lsA hc hs hP hS hl)
theorem J_if_gt {x : Int32} {off : Int} {tgt : Nat} (hd : decode Y.2.2.1 pc = .ok (.ifCond .gt off, 3)) (ht : (pc : Int) + off = (tgt : Int)) (kt : 0 < x → J g d Y b σ h tgt ls st Q) (kf : ¬ (0 < x) → J g d Y b σ h (pc + 3) ls st Q) : J g d Y b σ h pc ls (.int x :: st) Q := by
  intro p e R s m args below meth c Qw C H locs cells slots lsA hc hs hP hS hl
  exact lv_if_gt C.1 C.2.1 hd ht (fun z => kt z p e R s m args below meth c Qw C H locs cells slots lsA hc hs hP hS hl) (fun z => kf z p e R s m args below meth c Qw C H locs cells slots lsA hc hs hP hS hl)
theorem J_if_le {x : Int32} {off : Int} {tgt : Nat} (hd : decode Y.2.2.1 pc = .ok (.ifCond .le off, 3)) (ht : (pc : Int) + off = (tgt : Int)) (kt : x ≤ 0 → J g d Y b σ h tgt ls st Q) (kf : ¬ (x ≤ 0) → J g d Y b σ h (pc + 3) ls st Q) : J g d Y b σ h pc ls (.int x :: st) Q := by
  intro p e R s m args below meth c Qw C H locs cells slots lsA hc hs hP hS hl
  exact lv_if_le C.1 C.2.1 hd ht (fun z => kt z p e R s m args below meth c Qw C H locs cells slots lsA hc hs hP hS hl) (fun z => kf z p e R s m args below meth c Qw C H locs cells slots lsA hc hs hP hS hl)
theorem J_icmp_eq {x y : Int32} {off : Int} {tgt : Nat} (hd : decode Y.2.2.1 pc = .ok (.if_icmp .eq off, 3)) (ht : (pc : Int) + off = (tgt : Int)) (kt : x = y → J g d Y b σ h tgt ls st Q) (kf : ¬ (x = y) → J g d Y b σ h (pc + 3) ls st Q) : J g d Y b σ h pc ls (.int y :: .int x :: st) Q := by
  intro p e R s m args below meth c Qw C H locs cells slots lsA hc hs hP hS hl
  exact lv_icmp_eq C.1 C.2.1 hd ht (fun z => kt z p e R s m args below meth c Qw C H locs cells slots lsA hc hs hP hS hl) (fun z => kf z p e R s m args below meth c Qw C H locs cells slots lsA hc hs hP hS hl)
theorem J_icmp_ne {x y : Int32} {off : Int} {tgt : Nat} (hd : decode Y.2.2.1 pc = .ok (.if_icmp .ne off, 3)) (ht : (pc : Int) + off = (tgt : Int)) (kt : ¬ x = y → J g d Y b σ h tgt ls st Q) (kf : x = y → J g d Y b σ h (pc + 3) ls st Q) : J g d Y b σ h pc ls (.int y :: .int x :: st) Q := by
  intro p e R s m args below meth c Qw C H locs cells slots lsA hc hs hP hS hl
  exact lv_icmp_ne C.1 C.2.1 hd ht (fun z => kt z p e R s m args below meth c Qw C H locs cells slots lsA hc hs hP hS hl) (fun z => kf z p e R s m args below meth c Qw C H locs cells slots lsA hc hs hP hS hl)
theorem J_icmp_lt {x y : Int32} {off : Int} {tgt : Nat} (hd : decode Y.2.2.1 pc = .ok (.if_icmp .lt off, 3)) (ht : (pc : Int) + off = (tgt : Int)) (kt : x < y → J g d Y b σ h tgt ls st Q) (kf : ¬ (x < y) → J g d Y b σ h (pc + 3) ls st Q) : J g d Y b σ h pc ls (.int y :: .int x :: st) Q := by
  intro p e R s m args below meth c Qw C H locs cells slots lsA hc hs hP hS hl
  exact lv_icmp_lt C.1 C.2.1 hd ht (fun z => kt z p e R s m args below meth c Qw C H locs cells slots lsA hc hs hP hS hl) (fun z => kf z p e R s m args below meth c Qw C H locs cells slots lsA hc hs hP hS hl)
theorem J_icmp_ge {x y : Int32} {off : Int} {tgt : Nat} (hd : decode Y.2.2.1 pc = .ok (.if_icmp .ge off, 3)) (ht : (pc : Int) + off = (tgt : Int)) (kt : y ≤ x → J g d Y b σ h tgt ls st Q) (kf : ¬ (y ≤ x) → J g d Y b σ h (pc + 3) ls st Q) : J g d Y b σ h pc ls (.int y :: .int x :: st) Q := by
  intro p e R s m args below meth c Qw C H locs cells slots lsA hc hs hP hS hl
  exact lv_icmp_ge C.1 C.2.1 hd ht (fun z => kt z p e R s m args below meth c Qw C H locs cells slots lsA hc hs hP hS hl) (fun z => kf z p e R s m args below meth c Qw C H locs cells slots lsA hc hs hP hS hl)
theorem J_icmp_gt {x y : Int32} {off : Int} {tgt : Nat} (hd : decode Y.2.2.1 pc = .ok (.if_icmp .gt off, 3)) (ht : (pc : Int) + off = (tgt : Int)) (kt : y < x → J g d Y b σ h tgt ls st Q) (kf : ¬ (y < x) → J g d Y b σ h (pc + 3) ls st Q) : J g d Y b σ h pc ls (.int y :: .int x :: st) Q := by
  intro p e R s m args below meth c Qw C H locs cells slots lsA hc hs hP hS hl
  exact lv_icmp_gt C.1 C.2.1 hd ht (fun z => kt z p e R s m args below meth c Qw C H locs cells slots lsA hc hs hP hS hl) (fun z => kf z p e R s m args below meth c Qw C H locs cells slots lsA hc hs hP hS hl)
theorem J_icmp_le {x y : Int32} {off : Int} {tgt : Nat} (hd : decode Y.2.2.1 pc = .ok (.if_icmp .le off, 3)) (ht : (pc : Int) + off = (tgt : Int)) (kt : x ≤ y → J g d Y b σ h tgt ls st Q) (kf : ¬ (x ≤ y) → J g d Y b σ h (pc + 3) ls st Q) : J g d Y b σ h pc ls (.int y :: .int x :: st) Q := by
  intro p e R s m args below meth c Qw C H locs cells slots lsA hc hs hP hS hl
  exact lv_icmp_le C.1 C.2.1 hd ht (fun z => kt z p e R s m args below meth c Qw C H locs cells slots lsA hc hs hP hS hl) (fun z => kf z p e R s m args below meth c Qw C H locs cells slots lsA hc hs hP hS hl)
theorem J_goto {off : Int} {tgt : Nat} (hd : decode Y.2.2.1 pc = .ok (.goto off, 3)) (ht : (pc : Int) + off = (tgt : Int)) (k : J g d Y b σ h tgt ls st Q) : J g d Y b σ h pc ls st Q := by
  intro p e R s m args below meth c Qw C H locs cells slots lsA hc hs hP hS hl
  exact lv_goto C.1 C.2.1 hd ht (k p e R s m args below meth c Qw C H locs cells slots lsA hc hs hP hS hl)
theorem J_tableOut {dflt lo hi : Int} {offs : Array Int} {len : Nat} {x : Int32} {tgt : Nat} (hd : decode Y.2.2.1 pc = .ok (.tableswitch dflt lo hi offs, len)) (hx : x.toInt < lo ∨ hi < x.toInt) (ht : (pc : Int) + dflt = (tgt : Int)) (k : J g d Y b σ h tgt ls st Q) : J g d Y b σ h pc ls (.int x :: st) Q := by
  intro p e R s m args below meth c Qw C H locs cells slots lsA hc hs hP hS hl
  exact lv_tableOut C.1 C.2.1 hd hx ht (k p e R s m args below meth c Qw C H locs cells slots lsA hc hs hP hS hl)
theorem J_tableIn {dflt lo hi : Int} {offs : Array Int} {len : Nat} {x : Int32} {off : Int} {tgt : Nat} (hd : decode Y.2.2.1 pc = .ok (.tableswitch dflt lo hi offs, len)) (h1 : ¬ x.toInt < lo) (h2 : ¬ hi < x.toInt) (ho : offs[(x.toInt - lo).toNat]? = some off) (ht : (pc : Int) + off = (tgt : Int)) (k : J g d Y b σ h tgt ls st Q) : J g d Y b σ h pc ls (.int x :: st) Q := by
  intro p e R s m args below meth c Qw C H locs cells slots lsA hc hs hP hS hl
  exact lv_tableIn C.1 C.2.1 hd h1 h2 ho ht (k p e R s m args below meth c Qw C H locs cells slots lsA hc hs hP hS hl)
theorem J_lookup {dflt : Int} {ps : Array (Int × Int)} {len : Nat} {x : Int32} {off : Int} {tgt : Nat} (hd : decode Y.2.2.1 pc = .ok (.lookupswitch dflt ps, len)) (hp : (ps.toList.zip (ps.toList.drop 1)).all (fun (a, next) => a.1 < next.1) = true) (ho : Op.lookupswitch.offset ps.toList dflt x.toInt = off) (ht : (pc : Int) + off = (tgt : Int)) (k : J g d Y b σ h tgt ls st Q) : J g d Y b σ h pc ls (.int x :: st) Q := by
  intro p e R s m args below meth c Qw C H locs cells slots lsA hc hs hP hS hl
  exact lv_lookup C.1 C.2.1 hd hp ho ht (k p e R s m args below meth c Qw C H locs cells slots lsA hc hs hP hS hl)
theorem J_ldc {index : Nat} {v : Int32} (hd : decode Y.2.2.1 pc = .ok (.ldc index, 2)) (hw : Cond.constant Y.1 index v ∈ jB) (k : J g d Y b σ h (pc + 2) ls (.int v :: st) Q) : J g d Y b σ h pc ls st Q := by
  intro p e R s m args below meth c Qw C H locs cells slots lsA hc hs hP hS hl
  exact lv_ldc C.1 C.2.1 C.2.2.2.1 (C.2.2.2.2.1 _ hw) hd (k p e R s m args below meth c Qw C H locs cells slots lsA hc hs hP hS hl)
theorem J_ldcw {index : Nat} {v : Int32} (hd : decode Y.2.2.1 pc = .ok (.ldc_w index, 3)) (hw : Cond.constant Y.1 index v ∈ jB) (k : J g d Y b σ h (pc + 3) ls (.int v :: st) Q) : J g d Y b σ h pc ls st Q := by
  intro p e R s m args below meth c Qw C H locs cells slots lsA hc hs hP hS hl
  exact lv_ldcw C.1 C.2.1 C.2.2.2.1 (C.2.2.2.2.1 _ hw) hd (k p e R s m args below meth c Qw C H locs cells slots lsA hc hs hP hS hl)
theorem J_ldc2 {index : Nat} {v : Int64} (hd : decode Y.2.2.1 pc = .ok (.ldc2_w index, 3)) (hw : Cond.constantLong Y.1 index v ∈ jB) (k : J g d Y b σ h (pc + 3) ls (.long v :: st) Q) : J g d Y b σ h pc ls st Q := by
  intro p e R s m args below meth c Qw C H locs cells slots lsA hc hs hP hS hl
  exact lv_ldc2 C.1 C.2.1 C.2.2.2.1 (C.2.2.2.2.1 _ hw) hd (k p e R s m args below meth c Qw C H locs cells slots lsA hc hs hP hS hl)
theorem J_ret (hd : decode Y.2.2.1 pc = .ok (.return_, 1)) (hr : Y.2.2.2.2 = none) (hq : Q none σ h) : J g d Y b σ h pc ls [] Q := by
  intro p e R s m args below meth c Qw C H locs cells slots lsA hc hs hP hS hl
  exact C.2.2.2.2.2.2.2.2.2.2 pc lsA none σ h H locs cells slots ⟨hd, hr⟩ hq hP hS (by omega) (by omega)
theorem J_iret {x : Int32} (hd : decode Y.2.2.1 pc = .ok (.ireturn, 1)) (hr : Y.2.2.2.2 = some .int) (hq : Q (some (.int x)) σ h) : J g d Y b σ h pc ls [.int x] Q := by
  intro p e R s m args below meth c Qw C H locs cells slots lsA hc hs hP hS hl
  exact C.2.2.2.2.2.2.2.2.2.2 pc lsA (some (.int x)) σ h H locs cells slots ⟨hd, .int, hr, rfl⟩ hq hP hS (by omega) (by omega)
theorem J_zret {x : Int32} (hd : decode Y.2.2.1 pc = .ok (.ireturn, 1)) (hr : Y.2.2.2.2 = some .boolean) (hx : narrow .boolean (.int x) = .int x) (hq : Q (some (.int x)) σ h) : J g d Y b σ h pc ls [.int x] Q := by
  intro p e R s m args below meth c Qw C H locs cells slots lsA hc hs hP hS hl
  exact C.2.2.2.2.2.2.2.2.2.2 pc lsA (some (.int x)) σ h H locs cells slots ⟨hd, .boolean, hr, hx⟩ hq hP hS (by omega) (by omega)
theorem J_tret {x : Int32} {ty : FieldType} (hd : decode Y.2.2.1 pc = .ok (.ireturn, 1)) (hr : Y.2.2.2.2 = some ty) (hx : narrow ty (.int x) = .int x) (hq : Q (some (.int x)) σ h) : J g d Y b σ h pc ls [.int x] Q := by
  intro p e R s m args below meth c Qw C H locs cells slots lsA hc hs hP hS hl
  exact C.2.2.2.2.2.2.2.2.2.2 pc lsA (some (.int x)) σ h H locs cells slots ⟨hd, ty, hr, hx⟩ hq hP hS (by omega) (by omega)
theorem J_lret {x : Int64} (hd : decode Y.2.2.1 pc = .ok (.lreturn, 1)) (hr : Y.2.2.2.2 = some .long) (hq : Q (some (.long x)) σ h) : J g d Y b σ h pc ls [.long x] Q := by
  intro p e R s m args below meth c Qw C H locs cells slots lsA hc hs hP hS hl
  exact C.2.2.2.2.2.2.2.2.2.2 pc lsA (some (.long x)) σ h H locs cells slots ⟨hd, hr⟩ hq hP hS (by omega) (by omega)
theorem J_aret {x : Nat} {n : String} (hd : decode Y.2.2.1 pc = .ok (.areturn, 1)) (hr : Y.2.2.2.2 = some (.object n)) (hq : Q (some (.ref x)) σ h) : J g d Y b σ h pc ls [.ref x] Q := by
  intro p e R s m args below meth c Qw C H locs cells slots lsA hc hs hP hS hl
  exact C.2.2.2.2.2.2.2.2.2.2 pc lsA (some (.ref x)) σ h H locs cells slots ⟨hd, n, hr⟩ hq hP hS (by omega) (by omega)
theorem J_ls {ls' : List (Nat × Value)} (hl : j_sub ls ls') (k : J g d Y b σ h pc ls' st Q) : J g d Y b σ h pc ls st Q := by
  intro p e R s m args below meth c Qw C H locs cells slots lsA hc hs hP hS hl0
  exact k p e R s m args below meth c Qw C H locs cells slots lsA hc hs hP hS (j_less hl0 hl)
end JR
