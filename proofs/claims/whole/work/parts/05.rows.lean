section VR
variable {M N : MI} {l : Launch} {G : Gd} {d mc ms : Nat} {X : Cx} {ce sl pc : Nat} {ls : List (Nat × Value)} {st : List Value} {σ σ1 : St}
theorem V_iconst {n : Int} (v : Int32) (pc1 : Nat) (dg : decode M.2.1 pc = .ok (.iconst n, 1)) (hp : pc + 1 = pc1) (hv : Int32.ofInt n = v) (k : V M l G d mc ms X ce sl pc1 ls (.int v :: st) σ) : V M l G d mc ms X ce sl pc ls (st) σ := by
  subst hp
  obtain ⟨p, e, R, s, m, args, below, meth, c, Q⟩ := X
  intro hO h1 h2 H locs arr z hP hS hl
  exact lv_iconst hO.1 hO.2.1 dg hv (k hO h1 h2 H locs arr z hP hS hl)
theorem V_bipush {n : Int} (v : Int32) (pc1 : Nat) (dg : decode M.2.1 pc = .ok (.bipush n, 2)) (hp : pc + 2 = pc1) (hv : (Int8.ofInt n).toInt32 = v) (k : V M l G d mc ms X ce sl pc1 ls (.int v :: st) σ) : V M l G d mc ms X ce sl pc ls (st) σ := by
  subst hp
  obtain ⟨p, e, R, s, m, args, below, meth, c, Q⟩ := X
  intro hO h1 h2 H locs arr z hP hS hl
  exact lv_bipush hO.1 hO.2.1 dg hv (k hO h1 h2 H locs arr z hP hS hl)
theorem V_sipush {n : Int} (v : Int32) (pc1 : Nat) (dg : decode M.2.1 pc = .ok (.sipush n, 3)) (hp : pc + 3 = pc1) (hv : (Int16.ofInt n).toInt32 = v) (k : V M l G d mc ms X ce sl pc1 ls (.int v :: st) σ) : V M l G d mc ms X ce sl pc ls (st) σ := by
  subst hp
  obtain ⟨p, e, R, s, m, args, below, meth, c, Q⟩ := X
  intro hO h1 h2 H locs arr z hP hS hl
  exact lv_sipush hO.1 hO.2.1 dg hv (k hO h1 h2 H locs arr z hP hS hl)
theorem V_lconst {n : Fin 2} (v : Int64) (pc1 : Nat) (dg : decode M.2.1 pc = .ok (.lconst n, 1)) (hp : pc + 1 = pc1) (hv : Int64.ofNat (n : Nat) = v) (k : V M l G d mc ms X ce sl pc1 ls (.long v :: st) σ) : V M l G d mc ms X ce sl pc ls (st) σ := by
  subst hp
  obtain ⟨p, e, R, s, m, args, below, meth, c, Q⟩ := X
  intro hO h1 h2 H locs arr z hP hS hl
  exact lv_lconst hO.1 hO.2.1 dg hv (k hO h1 h2 H locs arr z hP hS hl)
theorem V_aconst_null  (pc1 : Nat) (dg : decode M.2.1 pc = .ok (.aconst_null, 1)) (hp : pc + 1 = pc1)  (k : V M l G d mc ms X ce sl pc1 ls (.null :: st) σ) : V M l G d mc ms X ce sl pc ls (st) σ := by
  subst hp
  obtain ⟨p, e, R, s, m, args, below, meth, c, Q⟩ := X
  intro hO h1 h2 H locs arr z hP hS hl
  exact lv_null hO.1 hO.2.1 dg (k hO h1 h2 H locs arr z hP hS hl)
theorem V_iadd {x y : Int32} (pc1 : Nat) (dg : decode M.2.1 pc = .ok (.iadd, 1)) (hp : pc + 1 = pc1)  (k : V M l G d mc ms X ce sl pc1 ls (.int (x + y) :: st) σ) : V M l G d mc ms X ce sl pc ls (.int y :: .int x :: st) σ := by
  subst hp
  obtain ⟨p, e, R, s, m, args, below, meth, c, Q⟩ := X
  intro hO h1 h2 H locs arr z hP hS hl
  exact lv_iadd hO.1 hO.2.1 dg (k hO h1 h2 H locs arr z hP hS hl)
theorem V_isub {x y : Int32} (pc1 : Nat) (dg : decode M.2.1 pc = .ok (.isub, 1)) (hp : pc + 1 = pc1)  (k : V M l G d mc ms X ce sl pc1 ls (.int (x - y) :: st) σ) : V M l G d mc ms X ce sl pc ls (.int y :: .int x :: st) σ := by
  subst hp
  obtain ⟨p, e, R, s, m, args, below, meth, c, Q⟩ := X
  intro hO h1 h2 H locs arr z hP hS hl
  exact lv_isub hO.1 hO.2.1 dg (k hO h1 h2 H locs arr z hP hS hl)
theorem V_imul {x y : Int32} (pc1 : Nat) (dg : decode M.2.1 pc = .ok (.imul, 1)) (hp : pc + 1 = pc1)  (k : V M l G d mc ms X ce sl pc1 ls (.int (x * y) :: st) σ) : V M l G d mc ms X ce sl pc ls (.int y :: .int x :: st) σ := by
  subst hp
  obtain ⟨p, e, R, s, m, args, below, meth, c, Q⟩ := X
  intro hO h1 h2 H locs arr z hP hS hl
  exact lv_imul hO.1 hO.2.1 dg (k hO h1 h2 H locs arr z hP hS hl)
theorem V_iand {x y : Int32} (pc1 : Nat) (dg : decode M.2.1 pc = .ok (.iand, 1)) (hp : pc + 1 = pc1)  (k : V M l G d mc ms X ce sl pc1 ls (.int (x &&& y) :: st) σ) : V M l G d mc ms X ce sl pc ls (.int y :: .int x :: st) σ := by
  subst hp
  obtain ⟨p, e, R, s, m, args, below, meth, c, Q⟩ := X
  intro hO h1 h2 H locs arr z hP hS hl
  exact lv_iand hO.1 hO.2.1 dg (k hO h1 h2 H locs arr z hP hS hl)
theorem V_ior {x y : Int32} (pc1 : Nat) (dg : decode M.2.1 pc = .ok (.ior, 1)) (hp : pc + 1 = pc1)  (k : V M l G d mc ms X ce sl pc1 ls (.int (x ||| y) :: st) σ) : V M l G d mc ms X ce sl pc ls (.int y :: .int x :: st) σ := by
  subst hp
  obtain ⟨p, e, R, s, m, args, below, meth, c, Q⟩ := X
  intro hO h1 h2 H locs arr z hP hS hl
  exact lv_ior hO.1 hO.2.1 dg (k hO h1 h2 H locs arr z hP hS hl)
theorem V_ixor {x y : Int32} (pc1 : Nat) (dg : decode M.2.1 pc = .ok (.ixor, 1)) (hp : pc + 1 = pc1)  (k : V M l G d mc ms X ce sl pc1 ls (.int (x ^^^ y) :: st) σ) : V M l G d mc ms X ce sl pc ls (.int y :: .int x :: st) σ := by
  subst hp
  obtain ⟨p, e, R, s, m, args, below, meth, c, Q⟩ := X
  intro hO h1 h2 H locs arr z hP hS hl
  exact lv_ixor hO.1 hO.2.1 dg (k hO h1 h2 H locs arr z hP hS hl)
theorem V_ishl {x y : Int32} (pc1 : Nat) (dg : decode M.2.1 pc = .ok (.ishl, 1)) (hp : pc + 1 = pc1)  (k : V M l G d mc ms X ce sl pc1 ls (.int (x <<< (y &&& 31)) :: st) σ) : V M l G d mc ms X ce sl pc ls (.int y :: .int x :: st) σ := by
  subst hp
  obtain ⟨p, e, R, s, m, args, below, meth, c, Q⟩ := X
  intro hO h1 h2 H locs arr z hP hS hl
  exact lv_ishl hO.1 hO.2.1 dg (k hO h1 h2 H locs arr z hP hS hl)
theorem V_ishr {x y : Int32} (pc1 : Nat) (dg : decode M.2.1 pc = .ok (.ishr, 1)) (hp : pc + 1 = pc1)  (k : V M l G d mc ms X ce sl pc1 ls (.int (x >>> (y &&& 31)) :: st) σ) : V M l G d mc ms X ce sl pc ls (.int y :: .int x :: st) σ := by
  subst hp
  obtain ⟨p, e, R, s, m, args, below, meth, c, Q⟩ := X
  intro hO h1 h2 H locs arr z hP hS hl
  exact lv_ishr hO.1 hO.2.1 dg (k hO h1 h2 H locs arr z hP hS hl)
theorem V_idiv {x y : Int32} (pc1 : Nat) (dg : decode M.2.1 pc = .ok (.idiv, 1)) (hp : pc + 1 = pc1) (hn : ¬ y = 0) (k : V M l G d mc ms X ce sl pc1 ls (.int (x / y) :: st) σ) : V M l G d mc ms X ce sl pc ls (.int y :: .int x :: st) σ := by
  subst hp
  obtain ⟨p, e, R, s, m, args, below, meth, c, Q⟩ := X
  intro hO h1 h2 H locs arr z hP hS hl
  exact lv_idiv hO.1 hO.2.1 dg hn (k hO h1 h2 H locs arr z hP hS hl)
theorem V_irem {x y : Int32} (pc1 : Nat) (dg : decode M.2.1 pc = .ok (.irem, 1)) (hp : pc + 1 = pc1) (hn : ¬ y = 0) (k : V M l G d mc ms X ce sl pc1 ls (.int (irm x y) :: st) σ) : V M l G d mc ms X ce sl pc ls (.int y :: .int x :: st) σ := by
  subst hp
  obtain ⟨p, e, R, s, m, args, below, meth, c, Q⟩ := X
  intro hO h1 h2 H locs arr z hP hS hl
  exact lv_irem hO.1 hO.2.1 dg hn (k hO h1 h2 H locs arr z hP hS hl)
theorem V_ineg {x : Int32} (pc1 : Nat) (dg : decode M.2.1 pc = .ok (.ineg, 1)) (hp : pc + 1 = pc1)  (k : V M l G d mc ms X ce sl pc1 ls (.int (-x) :: st) σ) : V M l G d mc ms X ce sl pc ls (.int x :: st) σ := by
  subst hp
  obtain ⟨p, e, R, s, m, args, below, meth, c, Q⟩ := X
  intro hO h1 h2 H locs arr z hP hS hl
  exact lv_ineg hO.1 hO.2.1 dg (k hO h1 h2 H locs arr z hP hS hl)
theorem V_iushr {x y : Int32} (pc1 : Nat) (dg : decode M.2.1 pc = .ok (.iushr, 1)) (hp : pc + 1 = pc1)  (k : V M l G d mc ms X ce sl pc1 ls (.int (ush x y) :: st) σ) : V M l G d mc ms X ce sl pc ls (.int y :: .int x :: st) σ := by
  subst hp
  obtain ⟨p, e, R, s, m, args, below, meth, c, Q⟩ := X
  intro hO h1 h2 H locs arr z hP hS hl
  exact lv_iushr hO.1 hO.2.1 dg rfl (k hO h1 h2 H locs arr z hP hS hl)
theorem V_ladd {x y : Int64} (pc1 : Nat) (dg : decode M.2.1 pc = .ok (.ladd, 1)) (hp : pc + 1 = pc1)  (k : V M l G d mc ms X ce sl pc1 ls (.long (x + y) :: st) σ) : V M l G d mc ms X ce sl pc ls (.long y :: .long x :: st) σ := by
  subst hp
  obtain ⟨p, e, R, s, m, args, below, meth, c, Q⟩ := X
  intro hO h1 h2 H locs arr z hP hS hl
  exact lv_ladd hO.1 hO.2.1 dg (k hO h1 h2 H locs arr z hP hS hl)
theorem V_lsub {x y : Int64} (pc1 : Nat) (dg : decode M.2.1 pc = .ok (.lsub, 1)) (hp : pc + 1 = pc1)  (k : V M l G d mc ms X ce sl pc1 ls (.long (x - y) :: st) σ) : V M l G d mc ms X ce sl pc ls (.long y :: .long x :: st) σ := by
  subst hp
  obtain ⟨p, e, R, s, m, args, below, meth, c, Q⟩ := X
  intro hO h1 h2 H locs arr z hP hS hl
  exact lv_lsub hO.1 hO.2.1 dg (k hO h1 h2 H locs arr z hP hS hl)
theorem V_lmul {x y : Int64} (pc1 : Nat) (dg : decode M.2.1 pc = .ok (.lmul, 1)) (hp : pc + 1 = pc1)  (k : V M l G d mc ms X ce sl pc1 ls (.long (x * y) :: st) σ) : V M l G d mc ms X ce sl pc ls (.long y :: .long x :: st) σ := by
  subst hp
  obtain ⟨p, e, R, s, m, args, below, meth, c, Q⟩ := X
  intro hO h1 h2 H locs arr z hP hS hl
  exact lv_lmul hO.1 hO.2.1 dg (k hO h1 h2 H locs arr z hP hS hl)
theorem V_land {x y : Int64} (pc1 : Nat) (dg : decode M.2.1 pc = .ok (.land, 1)) (hp : pc + 1 = pc1)  (k : V M l G d mc ms X ce sl pc1 ls (.long (x &&& y) :: st) σ) : V M l G d mc ms X ce sl pc ls (.long y :: .long x :: st) σ := by
  subst hp
  obtain ⟨p, e, R, s, m, args, below, meth, c, Q⟩ := X
  intro hO h1 h2 H locs arr z hP hS hl
  exact lv_land hO.1 hO.2.1 dg (k hO h1 h2 H locs arr z hP hS hl)
theorem V_lor {x y : Int64} (pc1 : Nat) (dg : decode M.2.1 pc = .ok (.lor, 1)) (hp : pc + 1 = pc1)  (k : V M l G d mc ms X ce sl pc1 ls (.long (x ||| y) :: st) σ) : V M l G d mc ms X ce sl pc ls (.long y :: .long x :: st) σ := by
  subst hp
  obtain ⟨p, e, R, s, m, args, below, meth, c, Q⟩ := X
  intro hO h1 h2 H locs arr z hP hS hl
  exact lv_lor hO.1 hO.2.1 dg (k hO h1 h2 H locs arr z hP hS hl)
theorem V_lrem {x y : Int64} (pc1 : Nat) (dg : decode M.2.1 pc = .ok (.lrem, 1)) (hp : pc + 1 = pc1) (hn : ¬ y = 0) (k : V M l G d mc ms X ce sl pc1 ls (.long (lrm x y) :: st) σ) : V M l G d mc ms X ce sl pc ls (.long y :: .long x :: st) σ := by
  subst hp
  obtain ⟨p, e, R, s, m, args, below, meth, c, Q⟩ := X
  intro hO h1 h2 H locs arr z hP hS hl
  exact lv_lrem hO.1 hO.2.1 dg hn (k hO h1 h2 H locs arr z hP hS hl)
theorem V_lneg {x : Int64} (pc1 : Nat) (dg : decode M.2.1 pc = .ok (.lneg, 1)) (hp : pc + 1 = pc1)  (k : V M l G d mc ms X ce sl pc1 ls (.long (-x) :: st) σ) : V M l G d mc ms X ce sl pc ls (.long x :: st) σ := by
  subst hp
  obtain ⟨p, e, R, s, m, args, below, meth, c, Q⟩ := X
  intro hO h1 h2 H locs arr z hP hS hl
  exact lv_lneg hO.1 hO.2.1 dg (k hO h1 h2 H locs arr z hP hS hl)
theorem V_lshl {x : Int64} {y : Int32} (pc1 : Nat) (dg : decode M.2.1 pc = .ok (.lshl, 1)) (hp : pc + 1 = pc1)  (k : V M l G d mc ms X ce sl pc1 ls (.long (x <<< (y.toInt64 &&& 63)) :: st) σ) : V M l G d mc ms X ce sl pc ls (.int y :: .long x :: st) σ := by
  subst hp
  obtain ⟨p, e, R, s, m, args, below, meth, c, Q⟩ := X
  intro hO h1 h2 H locs arr z hP hS hl
  exact lv_lshl hO.1 hO.2.1 dg rfl (k hO h1 h2 H locs arr z hP hS hl)
theorem V_lshr {x : Int64} {y : Int32} (pc1 : Nat) (dg : decode M.2.1 pc = .ok (.lshr, 1)) (hp : pc + 1 = pc1)  (k : V M l G d mc ms X ce sl pc1 ls (.long (x >>> (y.toInt64 &&& 63)) :: st) σ) : V M l G d mc ms X ce sl pc ls (.int y :: .long x :: st) σ := by
  subst hp
  obtain ⟨p, e, R, s, m, args, below, meth, c, Q⟩ := X
  intro hO h1 h2 H locs arr z hP hS hl
  exact lv_lshr hO.1 hO.2.1 dg rfl (k hO h1 h2 H locs arr z hP hS hl)
theorem V_lcmp {x y : Int64} (pc1 : Nat) (dg : decode M.2.1 pc = .ok (.lcmp, 1)) (hp : pc + 1 = pc1)  (k : V M l G d mc ms X ce sl pc1 ls (.int (lg_cmp x y) :: st) σ) : V M l G d mc ms X ce sl pc ls (.long y :: .long x :: st) σ := by
  subst hp
  obtain ⟨p, e, R, s, m, args, below, meth, c, Q⟩ := X
  intro hO h1 h2 H locs arr z hP hS hl
  exact W.lcmp hO.1 hO.2.1 dg (k hO h1 h2 H locs arr z hP hS hl)
theorem V_i2l {x : Int32} (pc1 : Nat) (dg : decode M.2.1 pc = .ok (.i2l, 1)) (hp : pc + 1 = pc1)  (k : V M l G d mc ms X ce sl pc1 ls (.long x.toInt64 :: st) σ) : V M l G d mc ms X ce sl pc ls (.int x :: st) σ := by
  subst hp
  obtain ⟨p, e, R, s, m, args, below, meth, c, Q⟩ := X
  intro hO h1 h2 H locs arr z hP hS hl
  exact lv_i2l hO.1 hO.2.1 dg rfl (k hO h1 h2 H locs arr z hP hS hl)
theorem V_l2i {x : Int64} (pc1 : Nat) (dg : decode M.2.1 pc = .ok (.l2i, 1)) (hp : pc + 1 = pc1)  (k : V M l G d mc ms X ce sl pc1 ls (.int x.toInt32 :: st) σ) : V M l G d mc ms X ce sl pc ls (.long x :: st) σ := by
  subst hp
  obtain ⟨p, e, R, s, m, args, below, meth, c, Q⟩ := X
  intro hO h1 h2 H locs arr z hP hS hl
  exact lv_l2i hO.1 hO.2.1 dg rfl (k hO h1 h2 H locs arr z hP hS hl)
theorem V_i2b {x : Int32} (pc1 : Nat) (dg : decode M.2.1 pc = .ok (.i2b, 1)) (hp : pc + 1 = pc1)  (k : V M l G d mc ms X ce sl pc1 ls (.int x.toInt8.toInt32 :: st) σ) : V M l G d mc ms X ce sl pc ls (.int x :: st) σ := by
  subst hp
  obtain ⟨p, e, R, s, m, args, below, meth, c, Q⟩ := X
  intro hO h1 h2 H locs arr z hP hS hl
  exact lv_i2b hO.1 hO.2.1 dg rfl (k hO h1 h2 H locs arr z hP hS hl)
theorem V_i2s {x : Int32} (pc1 : Nat) (dg : decode M.2.1 pc = .ok (.i2s, 1)) (hp : pc + 1 = pc1)  (k : V M l G d mc ms X ce sl pc1 ls (.int x.toInt16.toInt32 :: st) σ) : V M l G d mc ms X ce sl pc ls (.int x :: st) σ := by
  subst hp
  obtain ⟨p, e, R, s, m, args, below, meth, c, Q⟩ := X
  intro hO h1 h2 H locs arr z hP hS hl
  exact lv_i2s hO.1 hO.2.1 dg rfl (k hO h1 h2 H locs arr z hP hS hl)
theorem V_i2c {x : Int32} (pc1 : Nat) (dg : decode M.2.1 pc = .ok (.i2c, 1)) (hp : pc + 1 = pc1)  (k : V M l G d mc ms X ce sl pc1 ls (.int ((x.toUInt32 % 65536).toInt32) :: st) σ) : V M l G d mc ms X ce sl pc ls (.int x :: st) σ := by
  subst hp
  obtain ⟨p, e, R, s, m, args, below, meth, c, Q⟩ := X
  intro hO h1 h2 H locs arr z hP hS hl
  exact lv_i2c hO.1 hO.2.1 dg rfl (k hO h1 h2 H locs arr z hP hS hl)
theorem V_dup {v : Value} (pc1 : Nat) (dg : decode M.2.1 pc = .ok (.dup, 1)) (hp : pc + 1 = pc1) (hc : v.category = 1) (k : V M l G d mc ms X ce sl pc1 ls (v :: v :: st) σ) : V M l G d mc ms X ce sl pc ls (v :: st) σ := by
  subst hp
  obtain ⟨p, e, R, s, m, args, below, meth, c, Q⟩ := X
  intro hO h1 h2 H locs arr z hP hS hl
  exact lv_dup hO.1 hO.2.1 dg (by rw [vv_cat]; exact hc) (k hO h1 h2 H locs arr z hP hS hl)
theorem V_pop {v : Value} (pc1 : Nat) (dg : decode M.2.1 pc = .ok (.pop, 1)) (hp : pc + 1 = pc1) (hc : v.category = 1) (k : V M l G d mc ms X ce sl pc1 ls (st) σ) : V M l G d mc ms X ce sl pc ls (v :: st) σ := by
  subst hp
  obtain ⟨p, e, R, s, m, args, below, meth, c, Q⟩ := X
  intro hO h1 h2 H locs arr z hP hS hl
  exact lv_pop hO.1 hO.2.1 dg (by rw [vv_cat]; exact hc) (k hO h1 h2 H locs arr z hP hS hl)
theorem V_dup2 {u v : Value} (pc1 : Nat) (dg : decode M.2.1 pc = .ok (.dup2, 1)) (hp : pc + 1 = pc1) (hc : u.category = 1) (hc2 : v.category = 1) (k : V M l G d mc ms X ce sl pc1 ls (u :: v :: u :: v :: st) σ) : V M l G d mc ms X ce sl pc ls (u :: v :: st) σ := by
  subst hp
  obtain ⟨p, e, R, s, m, args, below, meth, c, Q⟩ := X
  intro hO h1 h2 H locs arr z hP hS hl
  exact lv_dup2_11 hO.1 hO.2.1 dg (by rw [vv_cat]; exact hc) (by rw [vv_cat]; exact hc2) (k hO h1 h2 H locs arr z hP hS hl)
theorem V_ldc {ix : Nat} (v : Int32) (pc1 : Nat) (dg : decode M.2.1 pc = .ok (.ldc ix, 2)) (hp : pc + 2 = pc1) (hw : Cond.constant M.1.cls ix v ∈ tb) (k : V M l G d mc ms X ce sl pc1 ls (.int v :: st) σ) : V M l G d mc ms X ce sl pc ls (st) σ := by
  subst hp
  obtain ⟨p, e, R, s, m, args, below, meth, c, Q⟩ := X
  intro hO h1 h2 H locs arr z hP hS hl
  exact lv_ldc hO.1 hO.2.1 hO.2.2.2.2.1 (hO.2.2.2.2.2.1 _ hw) dg (k hO h1 h2 H locs arr z hP hS hl)
theorem V_ldc_w {ix : Nat} (v : Int32) (pc1 : Nat) (dg : decode M.2.1 pc = .ok (.ldc_w ix, 3)) (hp : pc + 3 = pc1) (hw : Cond.constant M.1.cls ix v ∈ tb) (k : V M l G d mc ms X ce sl pc1 ls (.int v :: st) σ) : V M l G d mc ms X ce sl pc ls st σ := by
  subst hp
  obtain ⟨p, e, R, s, m, args, below, meth, c, Q⟩ := X
  intro hO h1 h2 H locs arr z hP hS hl
  exact lv_ldcw hO.1 hO.2.1 hO.2.2.2.2.1 (hO.2.2.2.2.2.1 _ hw) dg (k hO h1 h2 H locs arr z hP hS hl)
theorem V_ldc2 {ix : Nat} (v : Int64) (pc1 : Nat) (dg : decode M.2.1 pc = .ok (.ldc2_w ix, 3)) (hp : pc + 3 = pc1) (hw : Cond.constantLong M.1.cls ix v ∈ tb) (k : V M l G d mc ms X ce sl pc1 ls (.long v :: st) σ) : V M l G d mc ms X ce sl pc ls (st) σ := by
  subst hp
  obtain ⟨p, e, R, s, m, args, below, meth, c, Q⟩ := X
  intro hO h1 h2 H locs arr z hP hS hl
  exact lv_ldc2 hO.1 hO.2.1 hO.2.2.2.2.1 (hO.2.2.2.2.2.1 _ hw) dg (k hO h1 h2 H locs arr z hP hS hl)
theorem lsG_at {j i : Nat} {v : Value} (h : ls[j]? = some (i, v)) : (lsG G ls)[j]? = some (i, vv G v) := by
  unfold lsG
  rw [List.getElem?_map, h]
  rfl
theorem V_iload {i : Nat} {x : Int32} (j pc1 : Nat) (hj : ls[j]? = some (i, .int x)) (dg : decode M.2.1 pc = .ok (.iload i, 2)) (hp : pc + 2 = pc1) (k : V M l G d mc ms X ce sl pc1 ls (.int x :: st) σ) : V M l G d mc ms X ce sl pc ls st σ := by
  subst hp
  obtain ⟨p, e, R, s, m, args, below, meth, c, Q⟩ := X
  intro hO h1 h2 H locs arr z hP hS hl
  exact lv_iload hO.1 hO.2.1 dg (lv_at hl j (lsG_at hj)) (k hO h1 h2 H locs arr z hP hS hl)
theorem V_iload_n {i : Nat} {f : Fin 4} {x : Int32} (j pc1 : Nat) (hj : ls[j]? = some (i, .int x)) (dg : decode M.2.1 pc = .ok (.iload_n f, 1)) (hf : (f : Nat) = i) (hp : pc + 1 = pc1) (k : V M l G d mc ms X ce sl pc1 ls (.int x :: st) σ) : V M l G d mc ms X ce sl pc ls st σ := by
  subst hp
  obtain ⟨p, e, R, s, m, args, below, meth, c, Q⟩ := X
  intro hO h1 h2 H locs arr z hP hS hl
  exact lv_iload_n hO.1 hO.2.1 dg hf (lv_at hl j (lsG_at hj)) (k hO h1 h2 H locs arr z hP hS hl)
theorem V_lload {i : Nat} {x : Int64} (j pc1 : Nat) (hj : ls[j]? = some (i, .long x)) (dg : decode M.2.1 pc = .ok (.lload i, 2)) (hp : pc + 2 = pc1) (k : V M l G d mc ms X ce sl pc1 ls (.long x :: st) σ) : V M l G d mc ms X ce sl pc ls st σ := by
  subst hp
  obtain ⟨p, e, R, s, m, args, below, meth, c, Q⟩ := X
  intro hO h1 h2 H locs arr z hP hS hl
  exact lv_lload hO.1 hO.2.1 dg (lv_at hl j (lsG_at hj)) (k hO h1 h2 H locs arr z hP hS hl)
theorem V_lload_n {i : Nat} {f : Fin 4} {x : Int64} (j pc1 : Nat) (hj : ls[j]? = some (i, .long x)) (dg : decode M.2.1 pc = .ok (.lload_n f, 1)) (hf : (f : Nat) = i) (hp : pc + 1 = pc1) (k : V M l G d mc ms X ce sl pc1 ls (.long x :: st) σ) : V M l G d mc ms X ce sl pc ls st σ := by
  subst hp
  obtain ⟨p, e, R, s, m, args, below, meth, c, Q⟩ := X
  intro hO h1 h2 H locs arr z hP hS hl
  exact lv_lload_n hO.1 hO.2.1 dg hf (lv_at hl j (lsG_at hj)) (k hO h1 h2 H locs arr z hP hS hl)
theorem V_aload {i : Nat} {x : Nat} (j pc1 : Nat) (hj : ls[j]? = some (i, .ref x)) (dg : decode M.2.1 pc = .ok (.aload i, 2)) (hp : pc + 2 = pc1) (k : V M l G d mc ms X ce sl pc1 ls (.ref x :: st) σ) : V M l G d mc ms X ce sl pc ls st σ := by
  subst hp
  obtain ⟨p, e, R, s, m, args, below, meth, c, Q⟩ := X
  intro hO h1 h2 H locs arr z hP hS hl
  exact lv_aload hO.1 hO.2.1 dg (lv_at hl j (lsG_at hj)) (k hO h1 h2 H locs arr z hP hS hl)
theorem V_aload_n {i : Nat} {f : Fin 4} {x : Nat} (j pc1 : Nat) (hj : ls[j]? = some (i, .ref x)) (dg : decode M.2.1 pc = .ok (.aload_n f, 1)) (hf : (f : Nat) = i) (hp : pc + 1 = pc1) (k : V M l G d mc ms X ce sl pc1 ls (.ref x :: st) σ) : V M l G d mc ms X ce sl pc ls st σ := by
  subst hp
  obtain ⟨p, e, R, s, m, args, below, meth, c, Q⟩ := X
  intro hO h1 h2 H locs arr z hP hS hl
  exact lv_aload_n hO.1 hO.2.1 dg hf (lv_at hl j (lsG_at hj)) (k hO h1 h2 H locs arr z hP hS hl)
abbrev lset1 (ls : List (Nat × Value)) (i : Nat) (v : Value) : List (Nat × Value) := (i, v) :: ls.filter (fun q => !(q.1 == i) && !(q.1 + 1 == i && q.2.category == 2))
abbrev lset2 (ls : List (Nat × Value)) (i : Nat) (v : Value) : List (Nat × Value) := (i, v) :: ls.filter (fun q => !(q.1 == i) && (!(q.1 == i + 1) && !(q.1 + 1 == i && q.2.category == 2)))
theorem lsG_set1 (i : Nat) (v : Value) : lset1 (lsG G ls) i (vv G v) = lsG G (lset1 ls i v) := by
  unfold lset1 lsG
  rw [List.map_cons, List.filter_map]
  congr 2
  apply List.filter_congr
  intro q _
  simp [Function.comp, vv_cat]
theorem lsG_set2 (i : Nat) (v : Value) : lset2 (lsG G ls) i (vv G v) = lsG G (lset2 ls i v) := by
  unfold lset2 lsG
  rw [List.map_cons, List.filter_map]
  congr 2
  apply List.filter_congr
  intro q _
  simp [Function.comp, vv_cat]
theorem V_istore {i : Nat} {x : Int32} (ls1 : List (Nat × Value)) (pc1 : Nat) (dg : decode M.2.1 pc = .ok (.istore i, 2)) (hn : i < M.2.2.1) (he : lset1 ls i (.int x) = ls1) (hp : pc + 2 = pc1) (k : V M l G d mc ms X ce sl pc1 ls1 st σ) : V M l G d mc ms X ce sl pc ls (.int x :: st) σ := by
  subst hp
  subst he
  obtain ⟨p, e, R, s, m, args, below, meth, c, Q⟩ := X
  intro hO h1 h2 H locs arr z hP hS hl
  exact lv_istore hO.1 hO.2.1 dg hl hn (lsG_set1 (G := G) i (.int x)) (fun arr hl => k hO h1 h2 H locs arr z hP hS hl)
theorem V_istore_n {i : Nat} {f : Fin 4} {x : Int32} (ls1 : List (Nat × Value)) (pc1 : Nat) (dg : decode M.2.1 pc = .ok (.istore_n f, 1)) (hf : (f : Nat) = i) (hn : i < M.2.2.1) (he : lset1 ls i (.int x) = ls1) (hp : pc + 1 = pc1) (k : V M l G d mc ms X ce sl pc1 ls1 st σ) : V M l G d mc ms X ce sl pc ls (.int x :: st) σ := by
  subst hp
  subst he
  obtain ⟨p, e, R, s, m, args, below, meth, c, Q⟩ := X
  intro hO h1 h2 H locs arr z hP hS hl
  exact lv_istore_n hO.1 hO.2.1 dg hf hl hn (lsG_set1 (G := G) i (.int x)) (fun arr hl => k hO h1 h2 H locs arr z hP hS hl)
theorem V_lstore {i : Nat} {x : Int64} (ls1 : List (Nat × Value)) (pc1 : Nat) (dg : decode M.2.1 pc = .ok (.lstore i, 2)) (hn : i + 1 < M.2.2.1) (he : lset2 ls i (.long x) = ls1) (hp : pc + 2 = pc1) (k : V M l G d mc ms X ce sl pc1 ls1 st σ) : V M l G d mc ms X ce sl pc ls (.long x :: st) σ := by
  subst hp
  subst he
  obtain ⟨p, e, R, s, m, args, below, meth, c, Q⟩ := X
  intro hO h1 h2 H locs arr z hP hS hl
  exact lv_lstore hO.1 hO.2.1 dg hl hn (lsG_set2 (G := G) i (.long x)) (fun arr hl => k hO h1 h2 H locs arr z hP hS hl)
theorem V_lstore_n {i : Nat} {f : Fin 4} {x : Int64} (ls1 : List (Nat × Value)) (pc1 : Nat) (dg : decode M.2.1 pc = .ok (.lstore_n f, 1)) (hf : (f : Nat) = i) (hn : i + 1 < M.2.2.1) (he : lset2 ls i (.long x) = ls1) (hp : pc + 1 = pc1) (k : V M l G d mc ms X ce sl pc1 ls1 st σ) : V M l G d mc ms X ce sl pc ls (.long x :: st) σ := by
  subst hp
  subst he
  obtain ⟨p, e, R, s, m, args, below, meth, c, Q⟩ := X
  intro hO h1 h2 H locs arr z hP hS hl
  exact lv_lstore_n hO.1 hO.2.1 dg hf hl hn (lsG_set2 (G := G) i (.long x)) (fun arr hl => k hO h1 h2 H locs arr z hP hS hl)
theorem V_astore {i : Nat} {x : Nat} (ls1 : List (Nat × Value)) (pc1 : Nat) (dg : decode M.2.1 pc = .ok (.astore i, 2)) (hn : i < M.2.2.1) (he : lset1 ls i (.ref x) = ls1) (hp : pc + 2 = pc1) (k : V M l G d mc ms X ce sl pc1 ls1 st σ) : V M l G d mc ms X ce sl pc ls (.ref x :: st) σ := by
  subst hp
  subst he
  obtain ⟨p, e, R, s, m, args, below, meth, c, Q⟩ := X
  intro hO h1 h2 H locs arr z hP hS hl
  exact lv_astore hO.1 hO.2.1 dg hl hn (lsG_set1 (G := G) i (.ref x)) (fun arr hl => k hO h1 h2 H locs arr z hP hS hl)
theorem V_astore_n {i : Nat} {f : Fin 4} {x : Nat} (ls1 : List (Nat × Value)) (pc1 : Nat) (dg : decode M.2.1 pc = .ok (.astore_n f, 1)) (hf : (f : Nat) = i) (hn : i < M.2.2.1) (he : lset1 ls i (.ref x) = ls1) (hp : pc + 1 = pc1) (k : V M l G d mc ms X ce sl pc1 ls1 st σ) : V M l G d mc ms X ce sl pc ls (.ref x :: st) σ := by
  subst hp
  subst he
  obtain ⟨p, e, R, s, m, args, below, meth, c, Q⟩ := X
  intro hO h1 h2 H locs arr z hP hS hl
  exact lv_astore_n hO.1 hO.2.1 dg hf hl hn (lsG_set1 (G := G) i (.ref x)) (fun arr hl => k hO h1 h2 H locs arr z hP hS hl)
theorem V_iinc {i : Nat} {n : Int} {x : Int32} (v : Int32) (j : Nat) (ls1 : List (Nat × Value)) (pc1 : Nat) (dg : decode M.2.1 pc = .ok (.iinc i n, 3)) (hj : ls[j]? = some (i, .int x)) (hv : x + Int32.ofInt n = v) (hn : i < M.2.2.1) (he : lset1 ls i (.int v) = ls1) (hp : pc + 3 = pc1) (k : V M l G d mc ms X ce sl pc1 ls1 st σ) : V M l G d mc ms X ce sl pc ls st σ := by
  subst hp
  subst he
  obtain ⟨p, e, R, s, m, args, below, meth, c, Q⟩ := X
  intro hO h1 h2 H locs arr z hP hS hl
  exact lv_iinc hO.1 hO.2.1 dg hl (lsG_at hj) hv hn (lsG_set1 (G := G) i (.int v)) (fun arr hl => k hO h1 h2 H locs arr z hP hS hl)
theorem V_ls (ls1 : List (Nat × Value)) (ks : List Nat) (he : lv_pick ls ks = ls1) (k : V M l G d mc ms X ce sl pc ls1 st σ) : V M l G d mc ms X ce sl pc ls st σ := by
  subst he
  obtain ⟨p, e, R, s, m, args, below, meth, c, Q⟩ := X
  intro hO h1 h2 H locs arr z hP hS hl
  refine k hO h1 h2 H locs arr z hP hS (lv_sub hl ks ?_)
  unfold lv_pick lsG
  simp only [List.getElem?_map]
  rw [List.map_filterMap]
theorem V_if_eq {x : Int32} {off : Int} (tgt pc1 : Nat) (dg : decode M.2.1 pc = .ok (.ifCond .eq off, 3)) (ht : (pc : Int) + off = (tgt : Int)) (hp : pc + 3 = pc1) (kt : x = 0 → V M l G d mc ms X ce sl tgt ls st σ) (kf : ¬ x = 0 → V M l G d mc ms X ce sl pc1 ls st σ) : V M l G d mc ms X ce sl pc ls (.int x :: st) σ := by
  subst hp
  obtain ⟨p, e, R, s, m, args, below, meth, c, Q⟩ := X
  intro hO h1 h2 H locs arr z hP hS hl
  exact lv_if_eq hO.1 hO.2.1 dg ht (fun q => kt q hO h1 h2 H locs arr z hP hS hl) (fun q => kf q hO h1 h2 H locs arr z hP hS hl)
theorem V_icmp_eq {x y : Int32} {off : Int} (tgt pc1 : Nat) (dg : decode M.2.1 pc = .ok (.if_icmp .eq off, 3)) (ht : (pc : Int) + off = (tgt : Int)) (hp : pc + 3 = pc1) (kt : x = y → V M l G d mc ms X ce sl tgt ls st σ) (kf : ¬ x = y → V M l G d mc ms X ce sl pc1 ls st σ) : V M l G d mc ms X ce sl pc ls (.int y :: .int x :: st) σ := by
  subst hp
  obtain ⟨p, e, R, s, m, args, below, meth, c, Q⟩ := X
  intro hO h1 h2 H locs arr z hP hS hl
  exact lv_icmp_eq hO.1 hO.2.1 dg ht (fun q => kt q hO h1 h2 H locs arr z hP hS hl) (fun q => kf q hO h1 h2 H locs arr z hP hS hl)
theorem V_if_ne {x : Int32} {off : Int} (tgt pc1 : Nat) (dg : decode M.2.1 pc = .ok (.ifCond .ne off, 3)) (ht : (pc : Int) + off = (tgt : Int)) (hp : pc + 3 = pc1) (kt : ¬ x = 0 → V M l G d mc ms X ce sl tgt ls st σ) (kf : x = 0 → V M l G d mc ms X ce sl pc1 ls st σ) : V M l G d mc ms X ce sl pc ls (.int x :: st) σ := by
  subst hp
  obtain ⟨p, e, R, s, m, args, below, meth, c, Q⟩ := X
  intro hO h1 h2 H locs arr z hP hS hl
  exact lv_if_ne hO.1 hO.2.1 dg ht (fun q => kt q hO h1 h2 H locs arr z hP hS hl) (fun q => kf q hO h1 h2 H locs arr z hP hS hl)
theorem V_icmp_ne {x y : Int32} {off : Int} (tgt pc1 : Nat) (dg : decode M.2.1 pc = .ok (.if_icmp .ne off, 3)) (ht : (pc : Int) + off = (tgt : Int)) (hp : pc + 3 = pc1) (kt : ¬ x = y → V M l G d mc ms X ce sl tgt ls st σ) (kf : x = y → V M l G d mc ms X ce sl pc1 ls st σ) : V M l G d mc ms X ce sl pc ls (.int y :: .int x :: st) σ := by
  subst hp
  obtain ⟨p, e, R, s, m, args, below, meth, c, Q⟩ := X
  intro hO h1 h2 H locs arr z hP hS hl
  exact lv_icmp_ne hO.1 hO.2.1 dg ht (fun q => kt q hO h1 h2 H locs arr z hP hS hl) (fun q => kf q hO h1 h2 H locs arr z hP hS hl)
theorem V_if_lt {x : Int32} {off : Int} (tgt pc1 : Nat) (dg : decode M.2.1 pc = .ok (.ifCond .lt off, 3)) (ht : (pc : Int) + off = (tgt : Int)) (hp : pc + 3 = pc1) (kt : x < 0 → V M l G d mc ms X ce sl tgt ls st σ) (kf : ¬ x < 0 → V M l G d mc ms X ce sl pc1 ls st σ) : V M l G d mc ms X ce sl pc ls (.int x :: st) σ := by
  subst hp
  obtain ⟨p, e, R, s, m, args, below, meth, c, Q⟩ := X
  intro hO h1 h2 H locs arr z hP hS hl
  exact lv_if_lt hO.1 hO.2.1 dg ht (fun q => kt q hO h1 h2 H locs arr z hP hS hl) (fun q => kf q hO h1 h2 H locs arr z hP hS hl)
theorem V_icmp_lt {x y : Int32} {off : Int} (tgt pc1 : Nat) (dg : decode M.2.1 pc = .ok (.if_icmp .lt off, 3)) (ht : (pc : Int) + off = (tgt : Int)) (hp : pc + 3 = pc1) (kt : x < y → V M l G d mc ms X ce sl tgt ls st σ) (kf : ¬ x < y → V M l G d mc ms X ce sl pc1 ls st σ) : V M l G d mc ms X ce sl pc ls (.int y :: .int x :: st) σ := by
  subst hp
  obtain ⟨p, e, R, s, m, args, below, meth, c, Q⟩ := X
  intro hO h1 h2 H locs arr z hP hS hl
  exact lv_icmp_lt hO.1 hO.2.1 dg ht (fun q => kt q hO h1 h2 H locs arr z hP hS hl) (fun q => kf q hO h1 h2 H locs arr z hP hS hl)
theorem V_if_ge {x : Int32} {off : Int} (tgt pc1 : Nat) (dg : decode M.2.1 pc = .ok (.ifCond .ge off, 3)) (ht : (pc : Int) + off = (tgt : Int)) (hp : pc + 3 = pc1) (kt : 0 ≤ x → V M l G d mc ms X ce sl tgt ls st σ) (kf : ¬ 0 ≤ x → V M l G d mc ms X ce sl pc1 ls st σ) : V M l G d mc ms X ce sl pc ls (.int x :: st) σ := by
  subst hp
  obtain ⟨p, e, R, s, m, args, below, meth, c, Q⟩ := X
  intro hO h1 h2 H locs arr z hP hS hl
  exact lv_if_ge hO.1 hO.2.1 dg ht (fun q => kt q hO h1 h2 H locs arr z hP hS hl) (fun q => kf q hO h1 h2 H locs arr z hP hS hl)
theorem V_icmp_ge {x y : Int32} {off : Int} (tgt pc1 : Nat) (dg : decode M.2.1 pc = .ok (.if_icmp .ge off, 3)) (ht : (pc : Int) + off = (tgt : Int)) (hp : pc + 3 = pc1) (kt : y ≤ x → V M l G d mc ms X ce sl tgt ls st σ) (kf : ¬ y ≤ x → V M l G d mc ms X ce sl pc1 ls st σ) : V M l G d mc ms X ce sl pc ls (.int y :: .int x :: st) σ := by
  subst hp
  obtain ⟨p, e, R, s, m, args, below, meth, c, Q⟩ := X
  intro hO h1 h2 H locs arr z hP hS hl
  exact lv_icmp_ge hO.1 hO.2.1 dg ht (fun q => kt q hO h1 h2 H locs arr z hP hS hl) (fun q => kf q hO h1 h2 H locs arr z hP hS hl)
theorem V_if_gt {x : Int32} {off : Int} (tgt pc1 : Nat) (dg : decode M.2.1 pc = .ok (.ifCond .gt off, 3)) (ht : (pc : Int) + off = (tgt : Int)) (hp : pc + 3 = pc1) (kt : 0 < x → V M l G d mc ms X ce sl tgt ls st σ) (kf : ¬ 0 < x → V M l G d mc ms X ce sl pc1 ls st σ) : V M l G d mc ms X ce sl pc ls (.int x :: st) σ := by
  subst hp
  obtain ⟨p, e, R, s, m, args, below, meth, c, Q⟩ := X
  intro hO h1 h2 H locs arr z hP hS hl
  exact lv_if_gt hO.1 hO.2.1 dg ht (fun q => kt q hO h1 h2 H locs arr z hP hS hl) (fun q => kf q hO h1 h2 H locs arr z hP hS hl)
theorem V_icmp_gt {x y : Int32} {off : Int} (tgt pc1 : Nat) (dg : decode M.2.1 pc = .ok (.if_icmp .gt off, 3)) (ht : (pc : Int) + off = (tgt : Int)) (hp : pc + 3 = pc1) (kt : y < x → V M l G d mc ms X ce sl tgt ls st σ) (kf : ¬ y < x → V M l G d mc ms X ce sl pc1 ls st σ) : V M l G d mc ms X ce sl pc ls (.int y :: .int x :: st) σ := by
  subst hp
  obtain ⟨p, e, R, s, m, args, below, meth, c, Q⟩ := X
  intro hO h1 h2 H locs arr z hP hS hl
  exact lv_icmp_gt hO.1 hO.2.1 dg ht (fun q => kt q hO h1 h2 H locs arr z hP hS hl) (fun q => kf q hO h1 h2 H locs arr z hP hS hl)
theorem V_if_le {x : Int32} {off : Int} (tgt pc1 : Nat) (dg : decode M.2.1 pc = .ok (.ifCond .le off, 3)) (ht : (pc : Int) + off = (tgt : Int)) (hp : pc + 3 = pc1) (kt : x ≤ 0 → V M l G d mc ms X ce sl tgt ls st σ) (kf : ¬ x ≤ 0 → V M l G d mc ms X ce sl pc1 ls st σ) : V M l G d mc ms X ce sl pc ls (.int x :: st) σ := by
  subst hp
  obtain ⟨p, e, R, s, m, args, below, meth, c, Q⟩ := X
  intro hO h1 h2 H locs arr z hP hS hl
  exact lv_if_le hO.1 hO.2.1 dg ht (fun q => kt q hO h1 h2 H locs arr z hP hS hl) (fun q => kf q hO h1 h2 H locs arr z hP hS hl)
theorem V_icmp_le {x y : Int32} {off : Int} (tgt pc1 : Nat) (dg : decode M.2.1 pc = .ok (.if_icmp .le off, 3)) (ht : (pc : Int) + off = (tgt : Int)) (hp : pc + 3 = pc1) (kt : x ≤ y → V M l G d mc ms X ce sl tgt ls st σ) (kf : ¬ x ≤ y → V M l G d mc ms X ce sl pc1 ls st σ) : V M l G d mc ms X ce sl pc ls (.int y :: .int x :: st) σ := by
  subst hp
  obtain ⟨p, e, R, s, m, args, below, meth, c, Q⟩ := X
  intro hO h1 h2 H locs arr z hP hS hl
  exact lv_icmp_le hO.1 hO.2.1 dg ht (fun q => kt q hO h1 h2 H locs arr z hP hS hl) (fun q => kf q hO h1 h2 H locs arr z hP hS hl)
theorem V_goto {off : Int} (tgt : Nat) (dg : decode M.2.1 pc = .ok (.goto off, 3)) (ht : (pc : Int) + off = (tgt : Int)) (k : V M l G d mc ms X ce sl tgt ls st σ) : V M l G d mc ms X ce sl pc ls st σ := by
  obtain ⟨p, e, R, s, m, args, below, meth, c, Q⟩ := X
  intro hO h1 h2 H locs arr z hP hS hl
  exact lv_goto hO.1 hO.2.1 dg ht (k hO h1 h2 H locs arr z hP hS hl)
theorem V_ifnonnull {o : Option Nat} {off : Int} (tgt pc1 : Nat) (dg : decode M.2.1 pc = .ok (.ifnonnull off, 3)) (ht : (pc : Int) + off = (tgt : Int)) (hp : pc + 3 = pc1) (kt : ∀ q, o = some q → V M l G d mc ms X ce sl tgt ls st σ) (kf : o = none → V M l G d mc ms X ce sl pc1 ls st σ) : V M l G d mc ms X ce sl pc ls (va_rf o :: st) σ := by
  subst hp
  obtain ⟨p, e, R, s, m, args, below, meth, c, Q⟩ := X
  intro hO h1 h2 H locs arr z hP hS hl
  cases o with
  | none => exact lv_ifnonnullN hO.1 hO.2.1 dg (kf rfl hO h1 h2 H locs arr z hP hS hl)
  | some q => exact lv_ifnonnull hO.1 hO.2.1 dg ht (kt q rfl hO h1 h2 H locs arr z hP hS hl)
theorem V_ifnull {o : Option Nat} {off : Int} (tgt pc1 : Nat) (dg : decode M.2.1 pc = .ok (.ifnull off, 3)) (ht : (pc : Int) + off = (tgt : Int)) (hp : pc + 3 = pc1) (kt : o = none → V M l G d mc ms X ce sl tgt ls st σ) (kf : ∀ q, o = some q → V M l G d mc ms X ce sl pc1 ls st σ) : V M l G d mc ms X ce sl pc ls (va_rf o :: st) σ := by
  subst hp
  obtain ⟨p, e, R, s, m, args, below, meth, c, Q⟩ := X
  intro hO h1 h2 H locs arr z hP hS hl
  cases o with
  | none => exact lv_ifnullN hO.1 hO.2.1 dg ht (kt rfl hO h1 h2 H locs arr z hP hS hl)
  | some q => exact lv_ifnull hO.1 hO.2.1 dg (kf q rfl hO h1 h2 H locs arr z hP hS hl)
theorem V_lsw {x : Int32} {dflt : Int} {ps : Array (Int × Int)} {len : Nat} (cv : Int32) (off : Int) (tgt : Nat) (dg : decode M.2.1 pc = .ok (.lookupswitch dflt ps, len)) (hc : x = cv) (hp : (ps.toList.zip (ps.toList.drop 1)).all (fun (a, next) => a.1 < next.1) = true) (ho : Op.lookupswitch.offset ps.toList dflt cv.toInt = off) (ht : (pc : Int) + off = (tgt : Int)) (k : V M l G d mc ms X ce sl tgt ls st σ) : V M l G d mc ms X ce sl pc ls (.int x :: st) σ := by
  subst hc
  obtain ⟨p, e, R, s, m, args, below, meth, c, Q⟩ := X
  intro hO h1 h2 H locs arr z hP hS hl
  exact lv_lookup hO.1 hO.2.1 dg hp ho ht (k hO h1 h2 H locs arr z hP hS hl)
theorem lsw_none {dflt z : Int} : ∀ (ps : List (Int × Int)), (∀ q ∈ ps, q.1 ≠ z) → Op.lookupswitch.offset ps dflt z = dflt
  | [], _ => rfl
  | (a, o) :: r, h => by
    rw [Op.lookupswitch.offset_cons, if_neg (h (a, o) List.mem_cons_self)]
    exact lsw_none r (fun q hq => h q (List.mem_cons_of_mem _ hq))
theorem V_lswD {x : Int32} {dflt : Int} {ps : Array (Int × Int)} {len : Nat} (cs : List Int32) (tgt : Nat) (dg : decode M.2.1 pc = .ok (.lookupswitch dflt ps, len)) (hall : ∀ q ∈ cs, ¬ x = q) (hp : (ps.toList.zip (ps.toList.drop 1)).all (fun (a, next) => a.1 < next.1) = true) (hcs : ps.toList.map (·.1) = cs.map Int32.toInt) (ht : (pc : Int) + dflt = (tgt : Int)) (k : V M l G d mc ms X ce sl tgt ls st σ) : V M l G d mc ms X ce sl pc ls (.int x :: st) σ := by
  obtain ⟨p, e, R, s, m, args, below, meth, c, Q⟩ := X
  intro hO h1 h2 H locs arr z hP hS hl
  refine lv_lookup hO.1 hO.2.1 dg hp (lsw_none _ fun q hq he => ?_) ht (k hO h1 h2 H locs arr z hP hS hl)
  have h3 : q.1 ∈ cs.map Int32.toInt := by rw [← hcs]; exact List.mem_map_of_mem hq
  obtain ⟨y, hy, hyq⟩ := List.mem_map.mp h3
  exact hall y hy (Int32.toInt_inj.mp (by rw [hyq, he]))
theorem V_tsw {x : Int32} {dflt lo hi : Int} {offs : Array Int} {len : Nat} (cv : Int32) (off : Int) (tgt : Nat) (dg : decode M.2.1 pc = .ok (.tableswitch dflt lo hi offs, len)) (hc : x = cv) (hlo : ¬ cv.toInt < lo) (hhi : ¬ hi < cv.toInt) (ho : offs[(cv.toInt - lo).toNat]? = some off) (ht : (pc : Int) + off = (tgt : Int)) (k : V M l G d mc ms X ce sl tgt ls st σ) : V M l G d mc ms X ce sl pc ls (.int x :: st) σ := by
  subst hc
  obtain ⟨p, e, R, s, m, args, below, meth, c, Q⟩ := X
  intro hO h1 h2 H locs arr z hP hS hl
  exact lv_tableIn hO.1 hO.2.1 dg hlo hhi ho ht (k hO h1 h2 H locs arr z hP hS hl)
theorem V_tswD {x : Int32} {dflt lo hi : Int} {offs : Array Int} {len : Nat} (cs : List Int32) (tgt : Nat) (dg : decode M.2.1 pc = .ok (.tableswitch dflt lo hi offs, len)) (hall : ∀ q ∈ cs, ¬ x = q) (hsz : hi - lo + 1 = offs.size) (hcs : ∀ i, i < offs.size → offs[i]? = some dflt ∨ ∃ q ∈ cs, q.toInt = lo + i) (ht : (pc : Int) + dflt = (tgt : Int)) (k : V M l G d mc ms X ce sl tgt ls st σ) : V M l G d mc ms X ce sl pc ls (.int x :: st) σ := by
  obtain ⟨p, e, R, s, m, args, below, meth, c, Q⟩ := X
  intro hO h1 h2 H locs arr z hP hS hl
  by_cases ha : x.toInt < lo ∨ hi < x.toInt
  · exact lv_tableOut hO.1 hO.2.1 dg ha ht (k hO h1 h2 H locs arr z hP hS hl)
  · have ha1 : ¬ x.toInt < lo := fun q => ha (Or.inl q)
    have ha2 : ¬ hi < x.toInt := fun q => ha (Or.inr q)
    rcases hcs (x.toInt - lo).toNat (by omega) with h3 | ⟨q, hq, hqe⟩
    · exact lv_tableIn hO.1 hO.2.1 dg ha1 ha2 h3 ht (k hO h1 h2 H locs arr z hP hS hl)
    · exact absurd (Int32.toInt_inj.mp (by rw [hqe]; omega)) (hall q hq)
end VR
