section XR
variable {G : xG} {M : xM} {d pc : Nat} {lv : List (Nat × Value)} {st : List Value} {h : xH} {Q Q' : xR → xH → Prop}
theorem x_iconst {n : Int} {v : Int32} (hd : decode M.2.1 pc = .ok (.iconst n, 1)) (hv : Int32.ofInt n = v) (k : EX G M d (pc + 1) lv (.int v :: st) h Q) : EX G M d pc lv st h Q :=
  fun p e R s m args below meth c n0 ls H locs hF hl hr hz ho h1 h2 => lv_iconst hF.1 hF.2.1 hd hv (k p e R s m args below meth c n0 ls H locs hF hl hr hz ho h1 h2)
theorem x_bipush {n : Int} {v : Int32} (hd : decode M.2.1 pc = .ok (.bipush n, 2)) (hv : (Int8.ofInt n).toInt32 = v) (k : EX G M d (pc + 2) lv (.int v :: st) h Q) : EX G M d pc lv st h Q :=
  fun p e R s m args below meth c n0 ls H locs hF hl hr hz ho h1 h2 => lv_bipush hF.1 hF.2.1 hd hv (k p e R s m args below meth c n0 ls H locs hF hl hr hz ho h1 h2)
theorem x_sipush {n : Int} {v : Int32} (hd : decode M.2.1 pc = .ok (.sipush n, 3)) (hv : (Int16.ofInt n).toInt32 = v) (k : EX G M d (pc + 3) lv (.int v :: st) h Q) : EX G M d pc lv st h Q :=
  fun p e R s m args below meth c n0 ls H locs hF hl hr hz ho h1 h2 => lv_sipush hF.1 hF.2.1 hd hv (k p e R s m args below meth c n0 ls H locs hF hl hr hz ho h1 h2)
theorem x_lconst {n : Fin 2} {v : Int64} (hd : decode M.2.1 pc = .ok (.lconst n, 1)) (hv : Int64.ofNat (n : Nat) = v) (k : EX G M d (pc + 1) lv (.long v :: st) h Q) : EX G M d pc lv st h Q :=
  fun p e R s m args below meth c n0 ls H locs hF hl hr hz ho h1 h2 => lv_lconst hF.1 hF.2.1 hd hv (k p e R s m args below meth c n0 ls H locs hF hl hr hz ho h1 h2)
theorem x_null  (hd : decode M.2.1 pc = .ok (.aconst_null, 1))  (k : EX G M d (pc + 1) lv (.null :: st) h Q) : EX G M d pc lv st h Q :=
  fun p e R s m args below meth c n0 ls H locs hF hl hr hz ho h1 h2 => lv_null hF.1 hF.2.1 hd (k p e R s m args below meth c n0 ls H locs hF hl hr hz ho h1 h2)
theorem x_iload_n {k0 : Fin 4} {x : Int32} (hd : decode M.2.1 pc = .ok (.iload_n k0, 1)) (hv : lvG lv k0 = some (.int x)) (k : EX G M d (pc + 1) lv (.int x :: st) h Q) : EX G M d pc lv st h Q :=
  fun p e R s m args below meth c n0 ls H locs hF hl hr hz ho h1 h2 => lv_iload_n hF.1 hF.2.1 hd rfl (lvG_at hl hv) (k p e R s m args below meth c n0 ls H locs hF hl hr hz ho h1 h2)
theorem x_iload {i : Nat} {x : Int32} (hd : decode M.2.1 pc = .ok (.iload i, 2)) (hv : lvG lv i = some (.int x)) (k : EX G M d (pc + 2) lv (.int x :: st) h Q) : EX G M d pc lv st h Q :=
  fun p e R s m args below meth c n0 ls H locs hF hl hr hz ho h1 h2 => lv_iload hF.1 hF.2.1 hd (lvG_at hl hv) (k p e R s m args below meth c n0 ls H locs hF hl hr hz ho h1 h2)
theorem x_istore_n {k0 : Fin 4} {x : Int32} (hd : decode M.2.1 pc = .ok (.istore_n k0, 1)) (hn : (k0 : Nat) < M.2.2.1) (k : EX G M d (pc + 1) (lvIns (lvK1 k0 lv) k0 (.int x)) st h Q) : EX G M d pc lv (.int x :: st) h Q :=
  fun p e R s m args below meth c n0 ls H locs hF hl hr hz ho h1 h2 => lv_istore_n hF.1 hF.2.1 hd rfl hl hn rfl fun ls' hl' => k p e R s m args below meth c n0 ls' H locs hF (lv_has1 hl') hr hz ho h1 h2
theorem x_istore {i : Nat} {x : Int32} (hd : decode M.2.1 pc = .ok (.istore i, 2)) (hn : i < M.2.2.1) (k : EX G M d (pc + 2) (lvIns (lvK1 i lv) i (.int x)) st h Q) : EX G M d pc lv (.int x :: st) h Q :=
  fun p e R s m args below meth c n0 ls H locs hF hl hr hz ho h1 h2 => lv_istore hF.1 hF.2.1 hd hl hn rfl fun ls' hl' => k p e R s m args below meth c n0 ls' H locs hF (lv_has1 hl') hr hz ho h1 h2
theorem x_lload_n {k0 : Fin 4} {x : Int64} (hd : decode M.2.1 pc = .ok (.lload_n k0, 1)) (hv : lvG lv k0 = some (.long x)) (k : EX G M d (pc + 1) lv (.long x :: st) h Q) : EX G M d pc lv st h Q :=
  fun p e R s m args below meth c n0 ls H locs hF hl hr hz ho h1 h2 => lv_lload_n hF.1 hF.2.1 hd rfl (lvG_at hl hv) (k p e R s m args below meth c n0 ls H locs hF hl hr hz ho h1 h2)
theorem x_lload {i : Nat} {x : Int64} (hd : decode M.2.1 pc = .ok (.lload i, 2)) (hv : lvG lv i = some (.long x)) (k : EX G M d (pc + 2) lv (.long x :: st) h Q) : EX G M d pc lv st h Q :=
  fun p e R s m args below meth c n0 ls H locs hF hl hr hz ho h1 h2 => lv_lload hF.1 hF.2.1 hd (lvG_at hl hv) (k p e R s m args below meth c n0 ls H locs hF hl hr hz ho h1 h2)
theorem x_lstore_n {k0 : Fin 4} {x : Int64} (hd : decode M.2.1 pc = .ok (.lstore_n k0, 1)) (hn : (k0 : Nat) + 1 < M.2.2.1) (k : EX G M d (pc + 1) (lvIns (lvK2 k0 lv) k0 (.long x)) st h Q) : EX G M d pc lv (.long x :: st) h Q :=
  fun p e R s m args below meth c n0 ls H locs hF hl hr hz ho h1 h2 => lv_lstore_n hF.1 hF.2.1 hd rfl hl hn rfl fun ls' hl' => k p e R s m args below meth c n0 ls' H locs hF (lv_has2 hl') hr hz ho h1 h2
theorem x_lstore {i : Nat} {x : Int64} (hd : decode M.2.1 pc = .ok (.lstore i, 2)) (hn : i + 1 < M.2.2.1) (k : EX G M d (pc + 2) (lvIns (lvK2 i lv) i (.long x)) st h Q) : EX G M d pc lv (.long x :: st) h Q :=
  fun p e R s m args below meth c n0 ls H locs hF hl hr hz ho h1 h2 => lv_lstore hF.1 hF.2.1 hd hl hn rfl fun ls' hl' => k p e R s m args below meth c n0 ls' H locs hF (lv_has2 hl') hr hz ho h1 h2
theorem x_aload_n {k0 : Fin 4} {a : Nat} (hd : decode M.2.1 pc = .ok (.aload_n k0, 1)) (hv : lvG lv k0 = some (.ref a)) (k : EX G M d (pc + 1) lv (.ref a :: st) h Q) : EX G M d pc lv st h Q :=
  fun p e R s m args below meth c n0 ls H locs hF hl hr hz ho h1 h2 => lv_aload_n hF.1 hF.2.1 hd rfl (lvG_at hl hv) (k p e R s m args below meth c n0 ls H locs hF hl hr hz ho h1 h2)
theorem x_aload {i : Nat} {a : Nat} (hd : decode M.2.1 pc = .ok (.aload i, 2)) (hv : lvG lv i = some (.ref a)) (k : EX G M d (pc + 2) lv (.ref a :: st) h Q) : EX G M d pc lv st h Q :=
  fun p e R s m args below meth c n0 ls H locs hF hl hr hz ho h1 h2 => lv_aload hF.1 hF.2.1 hd (lvG_at hl hv) (k p e R s m args below meth c n0 ls H locs hF hl hr hz ho h1 h2)
theorem x_astore_n {k0 : Fin 4} {a : Nat} (hd : decode M.2.1 pc = .ok (.astore_n k0, 1)) (hn : (k0 : Nat) < M.2.2.1) (k : EX G M d (pc + 1) (lvIns (lvK1 k0 lv) k0 (.ref a)) st h Q) : EX G M d pc lv (.ref a :: st) h Q :=
  fun p e R s m args below meth c n0 ls H locs hF hl hr hz ho h1 h2 => lv_astore_n hF.1 hF.2.1 hd rfl hl hn rfl fun ls' hl' => k p e R s m args below meth c n0 ls' H locs hF (lv_has1 hl') hr hz ho h1 h2
theorem x_astore {i : Nat} {a : Nat} (hd : decode M.2.1 pc = .ok (.astore i, 2)) (hn : i < M.2.2.1) (k : EX G M d (pc + 2) (lvIns (lvK1 i lv) i (.ref a)) st h Q) : EX G M d pc lv (.ref a :: st) h Q :=
  fun p e R s m args below meth c n0 ls H locs hF hl hr hz ho h1 h2 => lv_astore hF.1 hF.2.1 hd hl hn rfl fun ls' hl' => k p e R s m args below meth c n0 ls' H locs hF (lv_has1 hl') hr hz ho h1 h2
theorem x_aload_nN {k0 : Fin 4}  (hd : decode M.2.1 pc = .ok (.aload_n k0, 1)) (hv : lvG lv k0 = some (.null)) (k : EX G M d (pc + 1) lv (.null :: st) h Q) : EX G M d pc lv st h Q :=
  fun p e R s m args below meth c n0 ls H locs hF hl hr hz ho h1 h2 => lv_aload_nN hF.1 hF.2.1 hd rfl (lvG_at hl hv) (k p e R s m args below meth c n0 ls H locs hF hl hr hz ho h1 h2)
theorem x_aloadN {i : Nat}  (hd : decode M.2.1 pc = .ok (.aload i, 2)) (hv : lvG lv i = some (.null)) (k : EX G M d (pc + 2) lv (.null :: st) h Q) : EX G M d pc lv st h Q :=
  fun p e R s m args below meth c n0 ls H locs hF hl hr hz ho h1 h2 => lv_aloadN hF.1 hF.2.1 hd (lvG_at hl hv) (k p e R s m args below meth c n0 ls H locs hF hl hr hz ho h1 h2)
theorem x_astore_nN {k0 : Fin 4}  (hd : decode M.2.1 pc = .ok (.astore_n k0, 1)) (hn : (k0 : Nat) < M.2.2.1) (k : EX G M d (pc + 1) (lvIns (lvK1 k0 lv) k0 (.null)) st h Q) : EX G M d pc lv (.null :: st) h Q :=
  fun p e R s m args below meth c n0 ls H locs hF hl hr hz ho h1 h2 => lv_astore_nN hF.1 hF.2.1 hd rfl hl hn rfl fun ls' hl' => k p e R s m args below meth c n0 ls' H locs hF (lv_has1 hl') hr hz ho h1 h2
theorem x_astoreN {i : Nat}  (hd : decode M.2.1 pc = .ok (.astore i, 2)) (hn : i < M.2.2.1) (k : EX G M d (pc + 2) (lvIns (lvK1 i lv) i (.null)) st h Q) : EX G M d pc lv (.null :: st) h Q :=
  fun p e R s m args below meth c n0 ls H locs hF hl hr hz ho h1 h2 => lv_astoreN hF.1 hF.2.1 hd hl hn rfl fun ls' hl' => k p e R s m args below meth c n0 ls' H locs hF (lv_has1 hl') hr hz ho h1 h2
theorem x_iinc {i : Nat} {n : Int} {x v : Int32} (hd : decode M.2.1 pc = .ok (.iinc i n, 3)) (hv : lvG lv i = some (.int x)) (hx : x + Int32.ofInt n = v) (hn : i < M.2.2.1) (k : EX G M d (pc + 3) (lvIns (lvK1 i lv) i (.int v)) st h Q) : EX G M d pc lv st h Q := by
  intro p e R s m args below meth c n0 ls H locs hF hl hr hz ho h1 h2
  have hg := lvG_at hl hv
  obtain ⟨ls', e', h'⟩ := lv_store1 (v := .int v) hl hn rfl
  intro T hT X
  obtain ⟨t, a, b⟩ := k p e R s m args below meth c n0 ls' H locs hF (lv_has1 h') hr hz ho h1 h2 T hT X
  refine ⟨t, ?_, b⟩
  subst hx
  jvm_step X.here [X.here.top, ↓top_set X.here.top, hF.1, hF.2.1, hd, hg, e']
  exact a
theorem x_iadd {x y : Int32} (hd : decode M.2.1 pc = .ok (.iadd, 1))  (k : EX G M d (pc + 1) lv (.int (x + y) :: st) h Q) : EX G M d pc lv (.int y :: .int x :: st) h Q :=
  fun p e R s m args below meth c n0 ls H locs hF hl hr hz ho h1 h2 => lv_iadd hF.1 hF.2.1 hd (k p e R s m args below meth c n0 ls H locs hF hl hr hz ho h1 h2)
theorem x_isub {x y : Int32} (hd : decode M.2.1 pc = .ok (.isub, 1))  (k : EX G M d (pc + 1) lv (.int (x - y) :: st) h Q) : EX G M d pc lv (.int y :: .int x :: st) h Q :=
  fun p e R s m args below meth c n0 ls H locs hF hl hr hz ho h1 h2 => lv_isub hF.1 hF.2.1 hd (k p e R s m args below meth c n0 ls H locs hF hl hr hz ho h1 h2)
theorem x_imul {x y : Int32} (hd : decode M.2.1 pc = .ok (.imul, 1))  (k : EX G M d (pc + 1) lv (.int (x * y) :: st) h Q) : EX G M d pc lv (.int y :: .int x :: st) h Q :=
  fun p e R s m args below meth c n0 ls H locs hF hl hr hz ho h1 h2 => lv_imul hF.1 hF.2.1 hd (k p e R s m args below meth c n0 ls H locs hF hl hr hz ho h1 h2)
theorem x_iand {x y : Int32} (hd : decode M.2.1 pc = .ok (.iand, 1))  (k : EX G M d (pc + 1) lv (.int (x &&& y) :: st) h Q) : EX G M d pc lv (.int y :: .int x :: st) h Q :=
  fun p e R s m args below meth c n0 ls H locs hF hl hr hz ho h1 h2 => lv_iand hF.1 hF.2.1 hd (k p e R s m args below meth c n0 ls H locs hF hl hr hz ho h1 h2)
theorem x_idiv {x y : Int32} (hd : decode M.2.1 pc = .ok (.idiv, 1)) (hne : ¬ y = 0) (k : EX G M d (pc + 1) lv (.int (x / y) :: st) h Q) : EX G M d pc lv (.int y :: .int x :: st) h Q :=
  fun p e R s m args below meth c n0 ls H locs hF hl hr hz ho h1 h2 => lv_idiv hF.1 hF.2.1 hd hne (k p e R s m args below meth c n0 ls H locs hF hl hr hz ho h1 h2)
theorem x_irem {x y : Int32} (hd : decode M.2.1 pc = .ok (.irem, 1)) (hne : ¬ y = 0) (k : EX G M d (pc + 1) lv (.int (x - (x / y) * y) :: st) h Q) : EX G M d pc lv (.int y :: .int x :: st) h Q :=
  fun p e R s m args below meth c n0 ls H locs hF hl hr hz ho h1 h2 => lv_irem hF.1 hF.2.1 hd hne (k p e R s m args below meth c n0 ls H locs hF hl hr hz ho h1 h2)
theorem x_ladd {x y : Int64} (hd : decode M.2.1 pc = .ok (.ladd, 1))  (k : EX G M d (pc + 1) lv (.long (x + y) :: st) h Q) : EX G M d pc lv (.long y :: .long x :: st) h Q :=
  fun p e R s m args below meth c n0 ls H locs hF hl hr hz ho h1 h2 => lv_ladd hF.1 hF.2.1 hd (k p e R s m args below meth c n0 ls H locs hF hl hr hz ho h1 h2)
theorem x_lsub {x y : Int64} (hd : decode M.2.1 pc = .ok (.lsub, 1))  (k : EX G M d (pc + 1) lv (.long (x - y) :: st) h Q) : EX G M d pc lv (.long y :: .long x :: st) h Q :=
  fun p e R s m args below meth c n0 ls H locs hF hl hr hz ho h1 h2 => lv_lsub hF.1 hF.2.1 hd (k p e R s m args below meth c n0 ls H locs hF hl hr hz ho h1 h2)
theorem x_lmul {x y : Int64} (hd : decode M.2.1 pc = .ok (.lmul, 1))  (k : EX G M d (pc + 1) lv (.long (x * y) :: st) h Q) : EX G M d pc lv (.long y :: .long x :: st) h Q :=
  fun p e R s m args below meth c n0 ls H locs hF hl hr hz ho h1 h2 => lv_lmul hF.1 hF.2.1 hd (k p e R s m args below meth c n0 ls H locs hF hl hr hz ho h1 h2)
theorem x_i2l {x : Int32} (hd : decode M.2.1 pc = .ok (.i2l, 1))  (k : EX G M d (pc + 1) lv (.long x.toInt64 :: st) h Q) : EX G M d pc lv (.int x :: st) h Q :=
  fun p e R s m args below meth c n0 ls H locs hF hl hr hz ho h1 h2 => lv_i2l hF.1 hF.2.1 hd rfl (k p e R s m args below meth c n0 ls H locs hF hl hr hz ho h1 h2)
theorem x_lcmp {x y : Int64} (hd : decode M.2.1 pc = .ok (.lcmp, 1))  (k : EX G M d (pc + 1) lv (.int (lg_cmp x y) :: st) h Q) : EX G M d pc lv (.long y :: .long x :: st) h Q :=
  fun p e R s m args below meth c n0 ls H locs hF hl hr hz ho h1 h2 => W.lcmp hF.1 hF.2.1 hd (k p e R s m args below meth c n0 ls H locs hF hl hr hz ho h1 h2)
theorem x_dup {a : Value} (hd : decode M.2.1 pc = .ok (.dup, 1)) (ha : a.category = 1) (k : EX G M d (pc + 1) lv (a :: a :: st) h Q) : EX G M d pc lv (a :: st) h Q :=
  fun p e R s m args below meth c n0 ls H locs hF hl hr hz ho h1 h2 => lv_dup hF.1 hF.2.1 hd ha (k p e R s m args below meth c n0 ls H locs hF hl hr hz ho h1 h2)
theorem x_pop {a : Value} (hd : decode M.2.1 pc = .ok (.pop, 1)) (ha : a.category = 1) (k : EX G M d (pc + 1) lv st h Q) : EX G M d pc lv (a :: st) h Q :=
  fun p e R s m args below meth c n0 ls H locs hF hl hr hz ho h1 h2 => lv_pop hF.1 hF.2.1 hd ha (k p e R s m args below meth c n0 ls H locs hF hl hr hz ho h1 h2)
theorem x_dup_x1 {a b : Value} (hd : decode M.2.1 pc = .ok (.dup_x1, 1)) (ha : a.category = 1) (hb : b.category = 1) (k : EX G M d (pc + 1) lv (a :: b :: a :: st) h Q) : EX G M d pc lv (a :: b :: st) h Q :=
  fun p e R s m args below meth c n0 ls H locs hF hl hr hz ho h1 h2 => lv_dup_x1 hF.1 hF.2.1 hd ha hb (k p e R s m args below meth c n0 ls H locs hF hl hr hz ho h1 h2)
theorem x_dup2 {a b : Value} (hd : decode M.2.1 pc = .ok (.dup2, 1)) (ha : a.category = 1) (hb : b.category = 1) (k : EX G M d (pc + 1) lv (a :: b :: a :: b :: st) h Q) : EX G M d pc lv (a :: b :: st) h Q :=
  fun p e R s m args below meth c n0 ls H locs hF hl hr hz ho h1 h2 => lv_dup2_11 hF.1 hF.2.1 hd ha hb (k p e R s m args below meth c n0 ls H locs hF hl hr hz ho h1 h2)
theorem x_if_eq {x : Int32} {off : Int} (tgt : Nat) (hd : decode M.2.1 pc = .ok (.ifCond .eq off, 3)) (ht : (pc : Int) + off = (tgt : Int)) (kt : x = 0 → EX G M d tgt lv st h Q) (kf : ¬ (x = 0) → EX G M d (pc + 3) lv st h Q) : EX G M d pc lv (.int x :: st) h Q :=
  fun p e R s m args below meth c n0 ls H locs hF hl hr hz ho h1 h2 => lv_if_eq hF.1 hF.2.1 hd ht (fun q => kt q p e R s m args below meth c n0 ls H locs hF hl hr hz ho h1 h2) (fun q => kf q p e R s m args below meth c n0 ls H locs hF hl hr hz ho h1 h2)
theorem x_icmp_eq {x y : Int32} {off : Int} (tgt : Nat) (hd : decode M.2.1 pc = .ok (.if_icmp .eq off, 3)) (ht : (pc : Int) + off = (tgt : Int)) (kt : x = y → EX G M d tgt lv st h Q) (kf : ¬ (x = y) → EX G M d (pc + 3) lv st h Q) : EX G M d pc lv (.int y :: .int x :: st) h Q :=
  fun p e R s m args below meth c n0 ls H locs hF hl hr hz ho h1 h2 => lv_icmp_eq hF.1 hF.2.1 hd ht (fun q => kt q p e R s m args below meth c n0 ls H locs hF hl hr hz ho h1 h2) (fun q => kf q p e R s m args below meth c n0 ls H locs hF hl hr hz ho h1 h2)
theorem x_if_ne {x : Int32} {off : Int} (tgt : Nat) (hd : decode M.2.1 pc = .ok (.ifCond .ne off, 3)) (ht : (pc : Int) + off = (tgt : Int)) (kt : ¬ x = 0 → EX G M d tgt lv st h Q) (kf : x = 0 → EX G M d (pc + 3) lv st h Q) : EX G M d pc lv (.int x :: st) h Q :=
  fun p e R s m args below meth c n0 ls H locs hF hl hr hz ho h1 h2 => lv_if_ne hF.1 hF.2.1 hd ht (fun q => kt q p e R s m args below meth c n0 ls H locs hF hl hr hz ho h1 h2) (fun q => kf q p e R s m args below meth c n0 ls H locs hF hl hr hz ho h1 h2)
theorem x_icmp_ne {x y : Int32} {off : Int} (tgt : Nat) (hd : decode M.2.1 pc = .ok (.if_icmp .ne off, 3)) (ht : (pc : Int) + off = (tgt : Int)) (kt : ¬ x = y → EX G M d tgt lv st h Q) (kf : x = y → EX G M d (pc + 3) lv st h Q) : EX G M d pc lv (.int y :: .int x :: st) h Q :=
  fun p e R s m args below meth c n0 ls H locs hF hl hr hz ho h1 h2 => lv_icmp_ne hF.1 hF.2.1 hd ht (fun q => kt q p e R s m args below meth c n0 ls H locs hF hl hr hz ho h1 h2) (fun q => kf q p e R s m args below meth c n0 ls H locs hF hl hr hz ho h1 h2)
theorem x_if_lt {x : Int32} {off : Int} (tgt : Nat) (hd : decode M.2.1 pc = .ok (.ifCond .lt off, 3)) (ht : (pc : Int) + off = (tgt : Int)) (kt : x < 0 → EX G M d tgt lv st h Q) (kf : ¬ (x < 0) → EX G M d (pc + 3) lv st h Q) : EX G M d pc lv (.int x :: st) h Q :=
  fun p e R s m args below meth c n0 ls H locs hF hl hr hz ho h1 h2 => lv_if_lt hF.1 hF.2.1 hd ht (fun q => kt q p e R s m args below meth c n0 ls H locs hF hl hr hz ho h1 h2) (fun q => kf q p e R s m args below meth c n0 ls H locs hF hl hr hz ho h1 h2)
theorem x_icmp_lt {x y : Int32} {off : Int} (tgt : Nat) (hd : decode M.2.1 pc = .ok (.if_icmp .lt off, 3)) (ht : (pc : Int) + off = (tgt : Int)) (kt : x < y → EX G M d tgt lv st h Q) (kf : ¬ (x < y) → EX G M d (pc + 3) lv st h Q) : EX G M d pc lv (.int y :: .int x :: st) h Q :=
  fun p e R s m args below meth c n0 ls H locs hF hl hr hz ho h1 h2 => lv_icmp_lt hF.1 hF.2.1 hd ht (fun q => kt q p e R s m args below meth c n0 ls H locs hF hl hr hz ho h1 h2) (fun q => kf q p e R s m args below meth c n0 ls H locs hF hl hr hz ho h1 h2)
theorem x_if_ge {x : Int32} {off : Int} (tgt : Nat) (hd : decode M.2.1 pc = .ok (.ifCond .ge off, 3)) (ht : (pc : Int) + off = (tgt : Int)) (kt : 0 ≤ x → EX G M d tgt lv st h Q) (kf : ¬ (0 ≤ x) → EX G M d (pc + 3) lv st h Q) : EX G M d pc lv (.int x :: st) h Q :=
  fun p e R s m args below meth c n0 ls H locs hF hl hr hz ho h1 h2 => lv_if_ge hF.1 hF.2.1 hd ht (fun q => kt q p e R s m args below meth c n0 ls H locs hF hl hr hz ho h1 h2) (fun q => kf q p e R s m args below meth c n0 ls H locs hF hl hr hz ho h1 h2)
theorem x_icmp_ge {x y : Int32} {off : Int} (tgt : Nat) (hd : decode M.2.1 pc = .ok (.if_icmp .ge off, 3)) (ht : (pc : Int) + off = (tgt : Int)) (kt : y ≤ x → EX G M d tgt lv st h Q) (kf : ¬ (y ≤ x) → EX G M d (pc + 3) lv st h Q) : EX G M d pc lv (.int y :: .int x :: st) h Q :=
  fun p e R s m args below meth c n0 ls H locs hF hl hr hz ho h1 h2 => lv_icmp_ge hF.1 hF.2.1 hd ht (fun q => kt q p e R s m args below meth c n0 ls H locs hF hl hr hz ho h1 h2) (fun q => kf q p e R s m args below meth c n0 ls H locs hF hl hr hz ho h1 h2)
theorem x_if_gt {x : Int32} {off : Int} (tgt : Nat) (hd : decode M.2.1 pc = .ok (.ifCond .gt off, 3)) (ht : (pc : Int) + off = (tgt : Int)) (kt : 0 < x → EX G M d tgt lv st h Q) (kf : ¬ (0 < x) → EX G M d (pc + 3) lv st h Q) : EX G M d pc lv (.int x :: st) h Q :=
  fun p e R s m args below meth c n0 ls H locs hF hl hr hz ho h1 h2 => lv_if_gt hF.1 hF.2.1 hd ht (fun q => kt q p e R s m args below meth c n0 ls H locs hF hl hr hz ho h1 h2) (fun q => kf q p e R s m args below meth c n0 ls H locs hF hl hr hz ho h1 h2)
theorem x_icmp_gt {x y : Int32} {off : Int} (tgt : Nat) (hd : decode M.2.1 pc = .ok (.if_icmp .gt off, 3)) (ht : (pc : Int) + off = (tgt : Int)) (kt : y < x → EX G M d tgt lv st h Q) (kf : ¬ (y < x) → EX G M d (pc + 3) lv st h Q) : EX G M d pc lv (.int y :: .int x :: st) h Q :=
  fun p e R s m args below meth c n0 ls H locs hF hl hr hz ho h1 h2 => lv_icmp_gt hF.1 hF.2.1 hd ht (fun q => kt q p e R s m args below meth c n0 ls H locs hF hl hr hz ho h1 h2) (fun q => kf q p e R s m args below meth c n0 ls H locs hF hl hr hz ho h1 h2)
theorem x_if_le {x : Int32} {off : Int} (tgt : Nat) (hd : decode M.2.1 pc = .ok (.ifCond .le off, 3)) (ht : (pc : Int) + off = (tgt : Int)) (kt : x ≤ 0 → EX G M d tgt lv st h Q) (kf : ¬ (x ≤ 0) → EX G M d (pc + 3) lv st h Q) : EX G M d pc lv (.int x :: st) h Q :=
  fun p e R s m args below meth c n0 ls H locs hF hl hr hz ho h1 h2 => lv_if_le hF.1 hF.2.1 hd ht (fun q => kt q p e R s m args below meth c n0 ls H locs hF hl hr hz ho h1 h2) (fun q => kf q p e R s m args below meth c n0 ls H locs hF hl hr hz ho h1 h2)
theorem x_icmp_le {x y : Int32} {off : Int} (tgt : Nat) (hd : decode M.2.1 pc = .ok (.if_icmp .le off, 3)) (ht : (pc : Int) + off = (tgt : Int)) (kt : x ≤ y → EX G M d tgt lv st h Q) (kf : ¬ (x ≤ y) → EX G M d (pc + 3) lv st h Q) : EX G M d pc lv (.int y :: .int x :: st) h Q :=
  fun p e R s m args below meth c n0 ls H locs hF hl hr hz ho h1 h2 => lv_icmp_le hF.1 hF.2.1 hd ht (fun q => kt q p e R s m args below meth c n0 ls H locs hF hl hr hz ho h1 h2) (fun q => kf q p e R s m args below meth c n0 ls H locs hF hl hr hz ho h1 h2)
theorem x_goto {off : Int} (tgt : Nat) (hd : decode M.2.1 pc = .ok (.goto off, 3)) (ht : (pc : Int) + off = (tgt : Int)) (k : EX G M d tgt lv st h Q) : EX G M d pc lv st h Q :=
  fun p e R s m args below meth c n0 ls H locs hF hl hr hz ho h1 h2 => lv_goto hF.1 hF.2.1 hd ht (k p e R s m args below meth c n0 ls H locs hF hl hr hz ho h1 h2)
theorem x_ifnonnull {a : Nat} {off : Int} (tgt : Nat) (hd : decode M.2.1 pc = .ok (.ifnonnull off, 3)) (ht : (pc : Int) + off = (tgt : Int)) (k : EX G M d tgt lv st h Q) : EX G M d pc lv (.ref a :: st) h Q :=
  fun p e R s m args below meth c n0 ls H locs hF hl hr hz ho h1 h2 => lv_ifnonnull hF.1 hF.2.1 hd ht (k p e R s m args below meth c n0 ls H locs hF hl hr hz ho h1 h2)
theorem x_ifnonnullN {off : Int} (hd : decode M.2.1 pc = .ok (.ifnonnull off, 3)) (k : EX G M d (pc + 3) lv st h Q) : EX G M d pc lv (.null :: st) h Q :=
  fun p e R s m args below meth c n0 ls H locs hF hl hr hz ho h1 h2 => lv_ifnonnullN hF.1 hF.2.1 hd (k p e R s m args below meth c n0 ls H locs hF hl hr hz ho h1 h2)
theorem x_ifnull {a : Nat} {off : Int} (hd : decode M.2.1 pc = .ok (.ifnull off, 3)) (k : EX G M d (pc + 3) lv st h Q) : EX G M d pc lv (.ref a :: st) h Q :=
  fun p e R s m args below meth c n0 ls H locs hF hl hr hz ho h1 h2 => lv_ifnull hF.1 hF.2.1 hd (k p e R s m args below meth c n0 ls H locs hF hl hr hz ho h1 h2)
theorem x_ifnullN {off : Int} (tgt : Nat) (hd : decode M.2.1 pc = .ok (.ifnull off, 3)) (ht : (pc : Int) + off = (tgt : Int)) (k : EX G M d tgt lv st h Q) : EX G M d pc lv (.null :: st) h Q :=
  fun p e R s m args below meth c n0 ls H locs hF hl hr hz ho h1 h2 => lv_ifnullN hF.1 hF.2.1 hd ht (k p e R s m args below meth c n0 ls H locs hF hl hr hz ho h1 h2)
theorem x_tableOut {dflt lo hi : Int} {offs : Array Int} {len : Nat} {x : Int32} (tgt : Nat) (hd : decode M.2.1 pc = .ok (.tableswitch dflt lo hi offs, len)) (hx : x.toInt < lo ∨ hi < x.toInt) (ht : (pc : Int) + dflt = (tgt : Int)) (k : EX G M d tgt lv st h Q) : EX G M d pc lv (.int x :: st) h Q :=
  fun p e R s m args below meth c n0 ls H locs hF hl hr hz ho h1 h2 => lv_tableOut hF.1 hF.2.1 hd hx ht (k p e R s m args below meth c n0 ls H locs hF hl hr hz ho h1 h2)
theorem x_tableIn {dflt lo hi off : Int} {offs : Array Int} {len : Nat} {x : Int32} (tgt : Nat) (hd : decode M.2.1 pc = .ok (.tableswitch dflt lo hi offs, len)) (hx1 : ¬ x.toInt < lo) (hx2 : ¬ hi < x.toInt) (hx : offs[(x.toInt - lo).toNat]? = some off) (ht : (pc : Int) + off = (tgt : Int)) (k : EX G M d tgt lv st h Q) : EX G M d pc lv (.int x :: st) h Q :=
  fun p e R s m args below meth c n0 ls H locs hF hl hr hz ho h1 h2 => lv_tableIn hF.1 hF.2.1 hd hx1 hx2 hx ht (k p e R s m args below meth c n0 ls H locs hF hl hr hz ho h1 h2)
theorem x_post (hq : ∀ r h', Q r h' → Q' r h') (k : EX G M d pc lv st h Q) : EX G M d pc lv st h Q' := by
  intro p e R s m args below meth c n0 ls H locs hF hl hr hz ho h1 h2 T hT X
  obtain ⟨t, a, r, h', L, b, b2⟩ := k p e R s m args below meth c n0 ls H locs hF hl hr hz ho h1 h2 T hT X
  exact ⟨t, a, r, h', L, hq r h' b, b2⟩
theorem x_lv (is : List Nat) {lv' : List (Nat × Value)} (he : lvSel lv is = lv') (k : EX G M d pc lv' st h Q) : EX G M d pc lv st h Q := by
  subst he
  exact fun p e R s m args below meth c n0 ls H locs hF hl hr hz ho h1 h2 => k p e R s m args below meth c n0 ls H locs hF (lv_more hl fun q hq => lvSel_sub hq) hr hz ho h1 h2
theorem x_deep {d' : Nat} (hd : d ≤ d') (k : EX G M d pc lv st h Q) : EX G M d' pc lv st h Q := by
  intro p e R s m args below meth c n0 ls H locs hF hl hr hz ho h1 h2
  obtain ⟨f1, f2, f3, f4, f5, f6, f7, f8, f9, f10, f11, f12, f13, f14, f15⟩ := hF
  exact k p e R s m args below meth c n0 ls H locs ⟨f1, f2, f3, f4, f5, f6, f7, f8, f9, f10, f11, f12, by omega, by omega, f15⟩ hl hr hz ho h1 h2
theorem x_ireturn {v : Int32} {ty : FieldType} (hd : decode M.2.1 pc = .ok (.ireturn, 1)) (hr0 : M.2.2.2.1 = some ty) (hn : narrow ty (.int v) = .int v) (hq : Q (.inl (some (.int v))) h) : EX G M d pc lv [.int v] h Q := by
  intro p e R s m args below meth c n0 ls H locs hF hl hr hz ho h1 h2 T hT X
  have hlocks : meth.locks = false := hF.2.2.2.2.1
  have hrt := hF.2.2.2.1
  obtain ⟨fs, hret, hrun, hended, hW, hframe⟩ := X.leave (v := (some (.int v))) (fun h => by rw [hrt, hr0] at h; cases h)
  have hmeth' : T.vm.method? m = some meth := X.method'
  refine ⟨T.setFrames fs, ?_, .inl (some (.int v)), h, locs, hq, by rw [show (T.setFrames fs).heap = T.heap from rfl, hT]; exact hr, by rw [show (T.setFrames fs).heap = T.heap from rfl, hT]; exact hz, hrun, hended, hW, hframe, ho, h1, h2⟩
  jvm_step X.here [X.here.top, hF.1, hF.2.1, hd, hmeth', hrt, hr0, hn]
  (try refine ⟨rfl, ?_⟩); (try refine ⟨rfl, ?_⟩)
  first | (intro acts; rw [hret _ acts rfl rfl rfl]) | rw [hret _ _ rfl rfl rfl]
  exact Steps.refl _
theorem x_lreturn {v : Int64} (hd : decode M.2.1 pc = .ok (.lreturn, 1)) (hr0 : M.2.2.2.1 = some .long) (hq : Q (.inl (some (.long v))) h) : EX G M d pc lv [.long v] h Q := by
  intro p e R s m args below meth c n0 ls H locs hF hl hr hz ho h1 h2 T hT X
  have hlocks : meth.locks = false := hF.2.2.2.2.1
  have hrt := hF.2.2.2.1
  obtain ⟨fs, hret, hrun, hended, hW, hframe⟩ := X.leave (v := (some (.long v))) (fun h => by rw [hrt, hr0] at h; cases h)
  have hmeth' : T.vm.method? m = some meth := X.method'
  refine ⟨T.setFrames fs, ?_, .inl (some (.long v)), h, locs, hq, by rw [show (T.setFrames fs).heap = T.heap from rfl, hT]; exact hr, by rw [show (T.setFrames fs).heap = T.heap from rfl, hT]; exact hz, hrun, hended, hW, hframe, ho, h1, h2⟩
  jvm_step X.here [X.here.top, hF.1, hF.2.1, hd, hmeth', hrt, hr0, narrow]
  (try refine ⟨rfl, ?_⟩); (try refine ⟨rfl, ?_⟩)
  first | (intro acts; rw [hret _ acts rfl rfl rfl]) | rw [hret _ _ rfl rfl rfl]
  exact Steps.refl _
theorem x_return  (hd : decode M.2.1 pc = .ok (.return_, 1)) (hr0 : M.2.2.2.1 = none) (hq : Q (.inl none) h) : EX G M d pc lv [] h Q := by
  intro p e R s m args below meth c n0 ls H locs hF hl hr hz ho h1 h2 T hT X
  have hlocks : meth.locks = false := hF.2.2.2.2.1
  have hrt := hF.2.2.2.1
  obtain ⟨fs, hret, hrun, hended, hW, hframe⟩ := X.leave (v := none) (fun _ => rfl)
  have hmeth' : T.vm.method? m = some meth := X.method'
  refine ⟨T.setFrames fs, ?_, .inl none, h, locs, hq, by rw [show (T.setFrames fs).heap = T.heap from rfl, hT]; exact hr, by rw [show (T.setFrames fs).heap = T.heap from rfl, hT]; exact hz, hrun, hended, hW, hframe, ho, h1, h2⟩
  jvm_step X.here [X.here.top, hF.1, hF.2.1, hd, hmeth', hrt, hr0]
  (try refine ⟨rfl, ?_⟩); (try refine ⟨rfl, ?_⟩)
  first | (intro acts; rw [hret _ acts rfl rfl rfl]) | rw [hret _ _ rfl rfl rfl]
  exact Steps.refl _
theorem x_areturn {a : Nat} {n : String} (hd : decode M.2.1 pc = .ok (.areturn, 1)) (hr0 : M.2.2.2.1 = some (.object n)) (hq : Q (.inl (some (.ref a))) h) : EX G M d pc lv [.ref a] h Q := by
  intro p e R s m args below meth c n0 ls H locs hF hl hr hz ho h1 h2 T hT X
  have hlocks : meth.locks = false := hF.2.2.2.2.1
  have hrt := hF.2.2.2.1
  obtain ⟨fs, hret, hrun, hended, hW, hframe⟩ := X.leave (v := (some (.ref a))) (fun h => by rw [hrt, hr0] at h; cases h)
  have hmeth' : T.vm.method? m = some meth := X.method'
  refine ⟨T.setFrames fs, ?_, .inl (some (.ref a)), h, locs, hq, by rw [show (T.setFrames fs).heap = T.heap from rfl, hT]; exact hr, by rw [show (T.setFrames fs).heap = T.heap from rfl, hT]; exact hz, hrun, hended, hW, hframe, ho, h1, h2⟩
  (jvm_step X.here [X.here.top, hF.1, hF.2.1, hd, hmeth', hrt, hr0]
   (try refine ⟨rfl, ?_⟩); (try refine ⟨rfl, ?_⟩)
   first | (intro acts; rw [hret _ acts rfl rfl rfl]) | rw [hret _ _ rfl rfl rfl]
   exact Steps.refl _)
theorem x_areturnN {n : String} (hd : decode M.2.1 pc = .ok (.areturn, 1)) (hr0 : M.2.2.2.1 = some (.object n)) (hq : Q (.inl (some .null)) h) : EX G M d pc lv [.null] h Q := by
  intro p e R s m args below meth c n0 ls H locs hF hl hr hz ho h1 h2 T hT X
  have hlocks : meth.locks = false := hF.2.2.2.2.1
  have hrt := hF.2.2.2.1
  obtain ⟨fs, hret, hrun, hended, hW, hframe⟩ := X.leave (v := (some .null)) (fun h => by rw [hrt, hr0] at h; cases h)
  have hmeth' : T.vm.method? m = some meth := X.method'
  refine ⟨T.setFrames fs, ?_, .inl (some .null), h, locs, hq, by rw [show (T.setFrames fs).heap = T.heap from rfl, hT]; exact hr, by rw [show (T.setFrames fs).heap = T.heap from rfl, hT]; exact hz, hrun, hended, hW, hframe, ho, h1, h2⟩
  (jvm_step X.here [X.here.top, hF.1, hF.2.1, hd, hmeth', hrt, hr0]
   (try refine ⟨rfl, ?_⟩); (try refine ⟨rfl, ?_⟩)
   first | (intro acts; rw [hret _ acts rfl rfl rfl]) | rw [hret _ _ rfl rfl rfl]
   exact Steps.refl _)
end XR
