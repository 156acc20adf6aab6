section ZR
variable {l : zL} {M : zMd} {N S pc : Nat} {L st : List Value} {h : zH} {Q : Option Value → zH → Prop}
theorem z_iconst {n : Int} (v : Int32) (hd : decode M.2.1 pc = .ok (.iconst n, 1)) (hv : Int32.ofInt n = v) (k : zW l M N S (pc + 1) L (.int v :: st) h Q) : zW l M N S pc L st h Q := by
  intro p e s m args below meth c E n0 z0 H locs cells slots ls R Z C A hl hR K
  exact lv_iconst C.1 C.2.1 hd hv (k p e s m args below meth c E n0 z0 H locs cells slots ls R Z C A hl hR K)
theorem z_bipush {n : Int} (v : Int32) (hd : decode M.2.1 pc = .ok (.bipush n, 2)) (hv : (Int8.ofInt n).toInt32 = v) (k : zW l M N S (pc + 2) L (.int v :: st) h Q) : zW l M N S pc L st h Q := by
  intro p e s m args below meth c E n0 z0 H locs cells slots ls R Z C A hl hR K
  exact lv_bipush C.1 C.2.1 hd hv (k p e s m args below meth c E n0 z0 H locs cells slots ls R Z C A hl hR K)
theorem z_sipush {n : Int} (v : Int32) (hd : decode M.2.1 pc = .ok (.sipush n, 3)) (hv : (Int16.ofInt n).toInt32 = v) (k : zW l M N S (pc + 3) L (.int v :: st) h Q) : zW l M N S pc L st h Q := by
  intro p e s m args below meth c E n0 z0 H locs cells slots ls R Z C A hl hR K
  exact lv_sipush C.1 C.2.1 hd hv (k p e s m args below meth c E n0 z0 H locs cells slots ls R Z C A hl hR K)
theorem z_lconst {n : Fin 2} (v : Int64) (hd : decode M.2.1 pc = .ok (.lconst n, 1)) (hv : Int64.ofNat (n : Nat) = v) (k : zW l M N S (pc + 1) L (.long v :: st) h Q) : zW l M N S pc L st h Q := by
  intro p e s m args below meth c E n0 z0 H locs cells slots ls R Z C A hl hR K
  exact lv_lconst C.1 C.2.1 hd hv (k p e s m args below meth c E n0 z0 H locs cells slots ls R Z C A hl hR K)
theorem z_ldc {i : Nat} {v : Int32} (hd : decode M.2.1 pc = .ok (.ldc i, 2)) (hw : Cond.constant M.1.cls i v ∈ zTs) (k : zW l M N S (pc + 2) L (.int v :: st) h Q) : zW l M N S pc L st h Q := by
  intro p e s m args below meth c E n0 z0 H locs cells slots ls R Z C A hl hR K
  exact lv_ldc C.1 C.2.1 C.2.2.2.2.2.1 (zTb_arg C.2.2.2.2.2.2.1 args _ hw) hd (k p e s m args below meth c E n0 z0 H locs cells slots ls R Z C A hl hR K)
theorem z_ldc2 {i : Nat} {v : Int64} (hd : decode M.2.1 pc = .ok (.ldc2_w i, 3)) (hw : Cond.constantLong M.1.cls i v ∈ zTs) (k : zW l M N S (pc + 3) L (.long v :: st) h Q) : zW l M N S pc L st h Q := by
  intro p e s m args below meth c E n0 z0 H locs cells slots ls R Z C A hl hR K
  exact lv_ldc2 C.1 C.2.1 C.2.2.2.2.2.1 (zTb_arg C.2.2.2.2.2.2.1 args _ hw) hd (k p e s m args below meth c E n0 z0 H locs cells slots ls R Z C A hl hR K)
theorem z_ldcw {i : Nat} {v : Int32} (hd : decode M.2.1 pc = .ok (.ldc_w i, 3)) (hw : Cond.constant M.1.cls i v ∈ zTs) (k : zW l M N S (pc + 3) L (.int v :: st) h Q) : zW l M N S pc L st h Q := by
  intro p e s m args below meth c E n0 z0 H locs cells slots ls R Z C A hl hR K
  exact lv_ldcw C.1 C.2.1 C.2.2.2.2.2.1 (zTb_arg C.2.2.2.2.2.2.1 args _ hw) hd (k p e s m args below meth c E n0 z0 H locs cells slots ls R Z C A hl hR K)
theorem z_iadd {x y : Int32} (hd : decode M.2.1 pc = .ok (.iadd, 1)) (k : zW l M N S (pc + 1) L (.int (x + y) :: st) h Q) : zW l M N S pc L (.int y :: .int x :: st) h Q := by
  intro p e s m args below meth c E n0 z0 H locs cells slots ls R Z C A hl hR K
  exact lv_iadd C.1 C.2.1 hd (k p e s m args below meth c E n0 z0 H locs cells slots ls R Z C A hl hR K)
theorem z_isub {x y : Int32} (hd : decode M.2.1 pc = .ok (.isub, 1)) (k : zW l M N S (pc + 1) L (.int (x - y) :: st) h Q) : zW l M N S pc L (.int y :: .int x :: st) h Q := by
  intro p e s m args below meth c E n0 z0 H locs cells slots ls R Z C A hl hR K
  exact lv_isub C.1 C.2.1 hd (k p e s m args below meth c E n0 z0 H locs cells slots ls R Z C A hl hR K)
theorem z_imul {x y : Int32} (hd : decode M.2.1 pc = .ok (.imul, 1)) (k : zW l M N S (pc + 1) L (.int (x * y) :: st) h Q) : zW l M N S pc L (.int y :: .int x :: st) h Q := by
  intro p e s m args below meth c E n0 z0 H locs cells slots ls R Z C A hl hR K
  exact lv_imul C.1 C.2.1 hd (k p e s m args below meth c E n0 z0 H locs cells slots ls R Z C A hl hR K)
theorem z_iand {x y : Int32} (hd : decode M.2.1 pc = .ok (.iand, 1)) (k : zW l M N S (pc + 1) L (.int (x &&& y) :: st) h Q) : zW l M N S pc L (.int y :: .int x :: st) h Q := by
  intro p e s m args below meth c E n0 z0 H locs cells slots ls R Z C A hl hR K
  exact lv_iand C.1 C.2.1 hd (k p e s m args below meth c E n0 z0 H locs cells slots ls R Z C A hl hR K)
theorem z_ior {x y : Int32} (hd : decode M.2.1 pc = .ok (.ior, 1)) (k : zW l M N S (pc + 1) L (.int (x ||| y) :: st) h Q) : zW l M N S pc L (.int y :: .int x :: st) h Q := by
  intro p e s m args below meth c E n0 z0 H locs cells slots ls R Z C A hl hR K
  exact lv_ior C.1 C.2.1 hd (k p e s m args below meth c E n0 z0 H locs cells slots ls R Z C A hl hR K)
theorem z_ixor {x y : Int32} (hd : decode M.2.1 pc = .ok (.ixor, 1)) (k : zW l M N S (pc + 1) L (.int (x ^^^ y) :: st) h Q) : zW l M N S pc L (.int y :: .int x :: st) h Q := by
  intro p e s m args below meth c E n0 z0 H locs cells slots ls R Z C A hl hR K
  exact lv_ixor C.1 C.2.1 hd (k p e s m args below meth c E n0 z0 H locs cells slots ls R Z C A hl hR K)
theorem z_ladd {x y : Int64} (hd : decode M.2.1 pc = .ok (.ladd, 1)) (k : zW l M N S (pc + 1) L (.long (x + y) :: st) h Q) : zW l M N S pc L (.long y :: .long x :: st) h Q := by
  intro p e s m args below meth c E n0 z0 H locs cells slots ls R Z C A hl hR K
  exact lv_ladd C.1 C.2.1 hd (k p e s m args below meth c E n0 z0 H locs cells slots ls R Z C A hl hR K)
theorem z_lmul {x y : Int64} (hd : decode M.2.1 pc = .ok (.lmul, 1)) (k : zW l M N S (pc + 1) L (.long (x * y) :: st) h Q) : zW l M N S pc L (.long y :: .long x :: st) h Q := by
  intro p e s m args below meth c E n0 z0 H locs cells slots ls R Z C A hl hR K
  exact lv_lmul C.1 C.2.1 hd (k p e s m args below meth c E n0 z0 H locs cells slots ls R Z C A hl hR K)
theorem z_idiv {x y : Int32} (hne : ¬ y = 0) (hd : decode M.2.1 pc = .ok (.idiv, 1)) (k : zW l M N S (pc + 1) L (.int (x / y) :: st) h Q) : zW l M N S pc L (.int y :: .int x :: st) h Q := by
  intro p e s m args below meth c E n0 z0 H locs cells slots ls R Z C A hl hR K
  exact lv_idiv C.1 C.2.1 hd hne (k p e s m args below meth c E n0 z0 H locs cells slots ls R Z C A hl hR K)
theorem z_irem {x y : Int32} (hne : ¬ y = 0) (hd : decode M.2.1 pc = .ok (.irem, 1)) (k : zW l M N S (pc + 1) L (.int (x - x / y * y) :: st) h Q) : zW l M N S pc L (.int y :: .int x :: st) h Q := by
  intro p e s m args below meth c E n0 z0 H locs cells slots ls R Z C A hl hR K
  exact lv_irem C.1 C.2.1 hd hne (k p e s m args below meth c E n0 z0 H locs cells slots ls R Z C A hl hR K)
theorem z_ineg {x : Int32} (hd : decode M.2.1 pc = .ok (.ineg, 1)) (k : zW l M N S (pc + 1) L (.int (-x) :: st) h Q) : zW l M N S pc L (.int x :: st) h Q := by
  intro p e s m args below meth c E n0 z0 H locs cells slots ls R Z C A hl hR K
  exact lv_ineg C.1 C.2.1 hd (k p e s m args below meth c E n0 z0 H locs cells slots ls R Z C A hl hR K)
theorem z_ldiv {x y : Int64} (hne : ¬ y = 0) (hd : decode M.2.1 pc = .ok (.ldiv, 1)) (k : zW l M N S (pc + 1) L (.long (x / y) :: st) h Q) : zW l M N S pc L (.long y :: .long x :: st) h Q := by
  intro p e s m args below meth c E n0 z0 H locs cells slots ls R Z C A hl hR K
  exact lv_ldiv C.1 C.2.1 hd hne (k p e s m args below meth c E n0 z0 H locs cells slots ls R Z C A hl hR K)
theorem z_lrem {x y : Int64} (hne : ¬ y = 0) (hd : decode M.2.1 pc = .ok (.lrem, 1)) (k : zW l M N S (pc + 1) L (.long (x - x / y * y) :: st) h Q) : zW l M N S pc L (.long y :: .long x :: st) h Q := by
  intro p e s m args below meth c E n0 z0 H locs cells slots ls R Z C A hl hR K
  exact lv_lrem C.1 C.2.1 hd hne (k p e s m args below meth c E n0 z0 H locs cells slots ls R Z C A hl hR K)
theorem z_ishl {x y : Int32} (hd : decode M.2.1 pc = .ok (.ishl, 1)) (k : zW l M N S (pc + 1) L (.int (x <<< (y &&& 31)) :: st) h Q) : zW l M N S pc L (.int y :: .int x :: st) h Q := by
  intro p e s m args below meth c E n0 z0 H locs cells slots ls R Z C A hl hR K
  exact lv_ishl C.1 C.2.1 hd (k p e s m args below meth c E n0 z0 H locs cells slots ls R Z C A hl hR K)
theorem z_ishr {x y : Int32} (hd : decode M.2.1 pc = .ok (.ishr, 1)) (k : zW l M N S (pc + 1) L (.int (x >>> (y &&& 31)) :: st) h Q) : zW l M N S pc L (.int y :: .int x :: st) h Q := by
  intro p e s m args below meth c E n0 z0 H locs cells slots ls R Z C A hl hR K
  exact lv_ishr C.1 C.2.1 hd (k p e s m args below meth c E n0 z0 H locs cells slots ls R Z C A hl hR K)
theorem z_iushr {x y : Int32} (hd : decode M.2.1 pc = .ok (.iushr, 1)) (k : zW l M N S (pc + 1) L (.int ((x.toUInt32 >>> (y.toUInt32 &&& Int32.toUInt32 31)).toInt32) :: st) h Q) : zW l M N S pc L (.int y :: .int x :: st) h Q := by
  intro p e s m args below meth c E n0 z0 H locs cells slots ls R Z C A hl hR K
  exact lv_iushr C.1 C.2.1 hd rfl (k p e s m args below meth c E n0 z0 H locs cells slots ls R Z C A hl hR K)
theorem z_i2l {x : Int32} (hd : decode M.2.1 pc = .ok (.i2l, 1)) (k : zW l M N S (pc + 1) L (.long x.toInt64 :: st) h Q) : zW l M N S pc L (.int x :: st) h Q := by
  intro p e s m args below meth c E n0 z0 H locs cells slots ls R Z C A hl hR K
  exact lv_i2l C.1 C.2.1 hd rfl (k p e s m args below meth c E n0 z0 H locs cells slots ls R Z C A hl hR K)
theorem z_l2i {x : Int64} (hd : decode M.2.1 pc = .ok (.l2i, 1)) (k : zW l M N S (pc + 1) L (.int x.toInt32 :: st) h Q) : zW l M N S pc L (.long x :: st) h Q := by
  intro p e s m args below meth c E n0 z0 H locs cells slots ls R Z C A hl hR K
  exact lv_l2i C.1 C.2.1 hd rfl (k p e s m args below meth c E n0 z0 H locs cells slots ls R Z C A hl hR K)
theorem z_i2b {x : Int32} (hd : decode M.2.1 pc = .ok (.i2b, 1)) (k : zW l M N S (pc + 1) L (.int x.toInt8.toInt32 :: st) h Q) : zW l M N S pc L (.int x :: st) h Q := by
  intro p e s m args below meth c E n0 z0 H locs cells slots ls R Z C A hl hR K
  exact lv_i2b C.1 C.2.1 hd rfl (k p e s m args below meth c E n0 z0 H locs cells slots ls R Z C A hl hR K)
theorem z_i2s {x : Int32} (hd : decode M.2.1 pc = .ok (.i2s, 1)) (k : zW l M N S (pc + 1) L (.int x.toInt16.toInt32 :: st) h Q) : zW l M N S pc L (.int x :: st) h Q := by
  intro p e s m args below meth c E n0 z0 H locs cells slots ls R Z C A hl hR K
  exact lv_i2s C.1 C.2.1 hd rfl (k p e s m args below meth c E n0 z0 H locs cells slots ls R Z C A hl hR K)
theorem z_lcmp {x y : Int64} (hd : decode M.2.1 pc = .ok (.lcmp, 1)) (k : zW l M N S (pc + 1) L (.int (lg_cmp x y) :: st) h Q) : zW l M N S pc L (.long y :: .long x :: st) h Q := by
  intro p e s m args below meth c E n0 z0 H locs cells slots ls R Z C A hl hR K
  exact W.lcmp C.1 C.2.1 hd (k p e s m args below meth c E n0 z0 H locs cells slots ls R Z C A hl hR K)
theorem zcat (E : zEn) (v : Value) : (ze E v).category = v.category := by cases v <;> rfl
theorem z_dup {v : Value} (hv : v.category = 1) (hd : decode M.2.1 pc = .ok (.dup, 1)) (k : zW l M N S (pc + 1) L (v :: v :: st) h Q) : zW l M N S pc L (v :: st) h Q := by
  intro p e s m args below meth c E n0 z0 H locs cells slots ls R Z C A hl hR K
  exact lv_dup C.1 C.2.1 hd ((zcat E v).trans hv) (k p e s m args below meth c E n0 z0 H locs cells slots ls R Z C A hl hR K)
theorem z_pop {v : Value} (hv : v.category = 1) (hd : decode M.2.1 pc = .ok (.pop, 1)) (k : zW l M N S (pc + 1) L st h Q) : zW l M N S pc L (v :: st) h Q := by
  intro p e s m args below meth c E n0 z0 H locs cells slots ls R Z C A hl hR K
  exact lv_pop C.1 C.2.1 hd ((zcat E v).trans hv) (k p e s m args below meth c E n0 z0 H locs cells slots ls R Z C A hl hR K)
theorem z_dup2 {v w : Value} (hv : v.category = 1) (hw : w.category = 1) (hd : decode M.2.1 pc = .ok (.dup2, 1)) (k : zW l M N S (pc + 1) L (v :: w :: v :: w :: st) h Q) : zW l M N S pc L (v :: w :: st) h Q := by
  intro p e s m args below meth c E n0 z0 H locs cells slots ls R Z C A hl hR K
  exact lv_dup2_11 C.1 C.2.1 hd ((zcat E v).trans hv) ((zcat E w).trans hw) (k p e s m args below meth c E n0 z0 H locs cells slots ls R Z C A hl hR K)
theorem z_dup2L {v : Value} (hv : v.category = 2) (hd : decode M.2.1 pc = .ok (.dup2, 1)) (k : zW l M N S (pc + 1) L (v :: v :: st) h Q) : zW l M N S pc L (v :: st) h Q := by
  intro p e s m args below meth c E n0 z0 H locs cells slots ls R Z C A hl hR K
  exact lv_dup2_2 C.1 C.2.1 hd ((zcat E v).trans hv) (k p e s m args below meth c E n0 z0 H locs cells slots ls R Z C A hl hR K)
theorem z_if_eq {x : Int32} {off : Int} {tgt : Nat} (hd : decode M.2.1 pc = .ok (.ifCond .eq off, 3)) (ht : (pc : Int) + off = (tgt : Int)) (kt : x = 0 → zW l M N S tgt L st h Q) (kf : ¬ x = 0 → zW l M N S (pc + 3) L st h Q) : zW l M N S pc L (.int x :: st) h Q := by
  intro p e s m args below meth c E n0 z0 H locs cells slots ls R Z C A hl hR K
  exact lv_if_eq C.1 C.2.1 hd ht (fun q => kt q p e s m args below meth c E n0 z0 H locs cells slots ls R Z C A hl hR K) (fun q => kf q p e s m args below meth c E n0 z0 H locs cells slots ls R Z C A hl hR K)
theorem z_if_ne {x : Int32} {off : Int} {tgt : Nat} (hd : decode M.2.1 pc = .ok (.ifCond .ne off, 3)) (ht : (pc : Int) + off = (tgt : Int)) (kt : ¬ x = 0 → zW l M N S tgt L st h Q) (kf : x = 0 → zW l M N S (pc + 3) L st h Q) : zW l M N S pc L (.int x :: st) h Q := by
  intro p e s m args below meth c E n0 z0 H locs cells slots ls R Z C A hl hR K
  exact lv_if_ne C.1 C.2.1 hd ht (fun q => kt q p e s m args below meth c E n0 z0 H locs cells slots ls R Z C A hl hR K) (fun q => kf q p e s m args below meth c E n0 z0 H locs cells slots ls R Z C A hl hR K)
theorem z_if_lt {x : Int32} {off : Int} {tgt : Nat} (hd : decode M.2.1 pc = .ok (.ifCond .lt off, 3)) (ht : (pc : Int) + off = (tgt : Int)) (kt : x < 0 → zW l M N S tgt L st h Q) (kf : ¬ x < 0 → zW l M N S (pc + 3) L st h Q) : zW l M N S pc L (.int x :: st) h Q := by
  intro p e s m args below meth c E n0 z0 H locs cells slots ls R Z C A hl hR K
  exact lv_if_lt C.1 C.2.1 hd ht (fun q => kt q p e s m args below meth c E n0 z0 H locs cells slots ls R Z C A hl hR K) (fun q => kf q p e s m args below meth c E n0 z0 H locs cells slots ls R Z C A hl hR K)
theorem z_if_ge {x : Int32} {off : Int} {tgt : Nat} (hd : decode M.2.1 pc = .ok (.ifCond .ge off, 3)) (ht : (pc : Int) + off = (tgt : Int)) (kt : 0 ≤ x → zW l M N S tgt L st h Q) (kf : ¬ 0 ≤ x → zW l M N S (pc + 3) L st h Q) : zW l M N S pc L (.int x :: st) h Q := by
  intro p e s m args below meth c E n0 z0 H locs cells slots ls R Z C A hl hR K
  exact lv_if_ge C.1 C.2.1 hd ht (fun q => kt q p e s m args below meth c E n0 z0 H locs cells slots ls R Z C A hl hR K) (fun q => kf q p e s m args below meth c E n0 z0 H locs cells slots ls R Z C A hl hR K)
theorem z_if_gt {x : Int32} {off : Int} {tgt : Nat} (hd : decode M.2.1 pc = .ok (.ifCond .gt off, 3)) (ht : (pc : Int) + off = (tgt : Int)) (kt : 0 < x → zW l M N S tgt L st h Q) (kf : ¬ 0 < x → zW l M N S (pc + 3) L st h Q) : zW l M N S pc L (.int x :: st) h Q := by
  intro p e s m args below meth c E n0 z0 H locs cells slots ls R Z C A hl hR K
  exact lv_if_gt C.1 C.2.1 hd ht (fun q => kt q p e s m args below meth c E n0 z0 H locs cells slots ls R Z C A hl hR K) (fun q => kf q p e s m args below meth c E n0 z0 H locs cells slots ls R Z C A hl hR K)
theorem z_if_le {x : Int32} {off : Int} {tgt : Nat} (hd : decode M.2.1 pc = .ok (.ifCond .le off, 3)) (ht : (pc : Int) + off = (tgt : Int)) (kt : x ≤ 0 → zW l M N S tgt L st h Q) (kf : ¬ x ≤ 0 → zW l M N S (pc + 3) L st h Q) : zW l M N S pc L (.int x :: st) h Q := by
  intro p e s m args below meth c E n0 z0 H locs cells slots ls R Z C A hl hR K
  exact lv_if_le C.1 C.2.1 hd ht (fun q => kt q p e s m args below meth c E n0 z0 H locs cells slots ls R Z C A hl hR K) (fun q => kf q p e s m args below meth c E n0 z0 H locs cells slots ls R Z C A hl hR K)
theorem z_icmp_eq {x y : Int32} {off : Int} {tgt : Nat} (hd : decode M.2.1 pc = .ok (.if_icmp .eq off, 3)) (ht : (pc : Int) + off = (tgt : Int)) (kt : x = y → zW l M N S tgt L st h Q) (kf : ¬ x = y → zW l M N S (pc + 3) L st h Q) : zW l M N S pc L (.int y :: .int x :: st) h Q := by
  intro p e s m args below meth c E n0 z0 H locs cells slots ls R Z C A hl hR K
  exact lv_icmp_eq C.1 C.2.1 hd ht (fun q => kt q p e s m args below meth c E n0 z0 H locs cells slots ls R Z C A hl hR K) (fun q => kf q p e s m args below meth c E n0 z0 H locs cells slots ls R Z C A hl hR K)
theorem z_icmp_ne {x y : Int32} {off : Int} {tgt : Nat} (hd : decode M.2.1 pc = .ok (.if_icmp .ne off, 3)) (ht : (pc : Int) + off = (tgt : Int)) (kt : ¬ x = y → zW l M N S tgt L st h Q) (kf : x = y → zW l M N S (pc + 3) L st h Q) : zW l M N S pc L (.int y :: .int x :: st) h Q := by
  intro p e s m args below meth c E n0 z0 H locs cells slots ls R Z C A hl hR K
  exact lv_icmp_ne C.1 C.2.1 hd ht (fun q => kt q p e s m args below meth c E n0 z0 H locs cells slots ls R Z C A hl hR K) (fun q => kf q p e s m args below meth c E n0 z0 H locs cells slots ls R Z C A hl hR K)
theorem z_icmp_lt {x y : Int32} {off : Int} {tgt : Nat} (hd : decode M.2.1 pc = .ok (.if_icmp .lt off, 3)) (ht : (pc : Int) + off = (tgt : Int)) (kt : x < y → zW l M N S tgt L st h Q) (kf : ¬ x < y → zW l M N S (pc + 3) L st h Q) : zW l M N S pc L (.int y :: .int x :: st) h Q := by
  intro p e s m args below meth c E n0 z0 H locs cells slots ls R Z C A hl hR K
  exact lv_icmp_lt C.1 C.2.1 hd ht (fun q => kt q p e s m args below meth c E n0 z0 H locs cells slots ls R Z C A hl hR K) (fun q => kf q p e s m args below meth c E n0 z0 H locs cells slots ls R Z C A hl hR K)
theorem z_icmp_ge {x y : Int32} {off : Int} {tgt : Nat} (hd : decode M.2.1 pc = .ok (.if_icmp .ge off, 3)) (ht : (pc : Int) + off = (tgt : Int)) (kt : y ≤ x → zW l M N S tgt L st h Q) (kf : ¬ y ≤ x → zW l M N S (pc + 3) L st h Q) : zW l M N S pc L (.int y :: .int x :: st) h Q := by
  intro p e s m args below meth c E n0 z0 H locs cells slots ls R Z C A hl hR K
  exact lv_icmp_ge C.1 C.2.1 hd ht (fun q => kt q p e s m args below meth c E n0 z0 H locs cells slots ls R Z C A hl hR K) (fun q => kf q p e s m args below meth c E n0 z0 H locs cells slots ls R Z C A hl hR K)
theorem z_icmp_gt {x y : Int32} {off : Int} {tgt : Nat} (hd : decode M.2.1 pc = .ok (.if_icmp .gt off, 3)) (ht : (pc : Int) + off = (tgt : Int)) (kt : y < x → zW l M N S tgt L st h Q) (kf : ¬ y < x → zW l M N S (pc + 3) L st h Q) : zW l M N S pc L (.int y :: .int x :: st) h Q := by
  intro p e s m args below meth c E n0 z0 H locs cells slots ls R Z C A hl hR K
  exact lv_icmp_gt C.1 C.2.1 hd ht (fun q => kt q p e s m args below meth c E n0 z0 H locs cells slots ls R Z C A hl hR K) (fun q => kf q p e s m args below meth c E n0 z0 H locs cells slots ls R Z C A hl hR K)
theorem z_icmp_le {x y : Int32} {off : Int} {tgt : Nat} (hd : decode M.2.1 pc = .ok (.if_icmp .le off, 3)) (ht : (pc : Int) + off = (tgt : Int)) (kt : x ≤ y → zW l M N S tgt L st h Q) (kf : ¬ x ≤ y → zW l M N S (pc + 3) L st h Q) : zW l M N S pc L (.int y :: .int x :: st) h Q := by
  intro p e s m args below meth c E n0 z0 H locs cells slots ls R Z C A hl hR K
  exact lv_icmp_le C.1 C.2.1 hd ht (fun q => kt q p e s m args below meth c E n0 z0 H locs cells slots ls R Z C A hl hR K) (fun q => kf q p e s m args below meth c E n0 z0 H locs cells slots ls R Z C A hl hR K)
theorem z_goto {off : Int} {tgt : Nat} (hd : decode M.2.1 pc = .ok (.goto off, 3)) (ht : (pc : Int) + off = (tgt : Int)) (k : zW l M N S tgt L st h Q) : zW l M N S pc L st h Q := by
  intro p e s m args below meth c E n0 z0 H locs cells slots ls R Z C A hl hR K
  exact lv_goto C.1 C.2.1 hd ht (k p e s m args below meth c E n0 z0 H locs cells slots ls R Z C A hl hR K)
theorem z_lookup {dflt : Int} {ps : Array (Int × Int)} {len : Nat} {x : Int32} {off : Int} {tgt : Nat} (hd : decode M.2.1 pc = .ok (.lookupswitch dflt ps, len)) (hp : (ps.toList.zip (ps.toList.drop 1)).all (fun (a, next) => a.1 < next.1) = true) (ho : Op.lookupswitch.offset ps.toList dflt x.toInt = off) (ht : (pc : Int) + off = (tgt : Int)) (k : zW l M N S tgt L st h Q) : zW l M N S pc L (.int x :: st) h Q := by
  intro p e s m args below meth c E n0 z0 H locs cells slots ls R Z C A hl hR K
  exact lv_lookup C.1 C.2.1 hd hp ho ht (k p e s m args below meth c E n0 z0 H locs cells slots ls R Z C A hl hR K)
theorem z_tableOut {dflt lo hi : Int} {offs : Array Int} {len : Nat} {x : Int32} {tgt : Nat} (hd : decode M.2.1 pc = .ok (.tableswitch dflt lo hi offs, len)) (hx : x.toInt < lo ∨ hi < x.toInt) (ht : (pc : Int) + dflt = (tgt : Int)) (k : zW l M N S tgt L st h Q) : zW l M N S pc L (.int x :: st) h Q := by
  intro p e s m args below meth c E n0 z0 H locs cells slots ls R Z C A hl hR K
  exact lv_tableOut C.1 C.2.1 hd hx ht (k p e s m args below meth c E n0 z0 H locs cells slots ls R Z C A hl hR K)
theorem z_tableIn {dflt lo hi : Int} {offs : Array Int} {len : Nat} {x : Int32} {off : Int} {tgt : Nat} (hd : decode M.2.1 pc = .ok (.tableswitch dflt lo hi offs, len)) (h1 : ¬ x.toInt < lo) (h2 : ¬ hi < x.toInt) (ho : offs[(x.toInt - lo).toNat]? = some off) (ht : (pc : Int) + off = (tgt : Int)) (k : zW l M N S tgt L st h Q) : zW l M N S pc L (.int x :: st) h Q := by
  intro p e s m args below meth c E n0 z0 H locs cells slots ls R Z C A hl hR K
  exact lv_tableIn C.1 C.2.1 hd h1 h2 ho ht (k p e s m args below meth c E n0 z0 H locs cells slots ls R Z C A hl hR K)
/-- the listed locals as the kit lists them -/
def zll (E : zEn) (L : List Value) : List (Nat × Value) := (List.range L.length).filterMap (fun i => match L[i]? with | some v => if v = zno then none else some (i, ze E v) | none => none)
theorem zll_mem {E : zEn} {L : List Value} {i : Nat} {w : Value} : (i, w) ∈ zll E L ↔ ∃ v, L[i]? = some v ∧ v ≠ zno ∧ w = ze E v := by
  unfold zll
  rw [List.mem_filterMap]
  constructor
  · rintro ⟨j, hj, h⟩
    cases hv : L[j]? with
    | none => rw [hv] at h; cases h
    | some v =>
      rw [hv] at h
      dsimp only at h
      by_cases hz : v = zno
      · rw [if_pos hz] at h; cases h
      · rw [if_neg hz] at h
        cases h
        exact ⟨v, hv, hz, rfl⟩
  · rintro ⟨v, hv, hz, rfl⟩
    refine ⟨i, List.mem_range.mpr (List.getElem?_eq_some_iff.mp hv).1, ?_⟩
    rw [hv]
    simp [hz]
theorem zlv_has {E : zEn} {ls : Array Slot} {nL : Nat} {L : List Value} (h : zlv E ls nL L) : lv_has ls nL (zll E L) := by
  refine ⟨h.1, h.2.1, fun q hq => ?_⟩
  obtain ⟨i, w⟩ := q
  obtain ⟨v, h1, h2, rfl⟩ := zll_mem.mp hq
  exact h.2.2 i v h1 h2
theorem zlv_store1 {E : zEn} {ls' : Array Slot} {nL i : Nat} {L L' : List Value} {v : Value} (h : lv_has ls' nL ((i, ze E v) :: (zll E L).filter (fun q => !(q.1 == i) && !(q.1 + 1 == i && q.2.category == 2))))
    (hL : ∀ (j : Nat) (w : Value), L'[j]? = some w → w ≠ zno → (j = i ∧ w = v) ∨ (L[j]? = some w ∧ j ≠ i ∧ (j + 1 = i → w.category = 1))) : zlv E ls' nL L' := by
  refine ⟨h.1, h.2.1, fun j w hj hw => ?_⟩
  rcases hL j w hj hw with ⟨rfl, rfl⟩ | ⟨h1, h2, h3⟩
  · exact h.2.2 _ List.mem_cons_self
  · refine h.2.2 (j, ze E w) (List.mem_cons_of_mem _ (List.mem_filter.mpr ⟨zll_mem.mpr ⟨w, h1, hw, rfl⟩, ?_⟩))
    simp only [Bool.and_eq_true, Bool.not_eq_true', beq_eq_false_iff_ne, ne_eq, Bool.and_eq_false_iff, zcat]
    refine ⟨h2, ?_⟩
    by_cases hji : j + 1 = i
    · right; rw [h3 hji]; decide
    · left; exact hji
theorem zlv_store2 {E : zEn} {ls' : Array Slot} {nL i : Nat} {L L' : List Value} {v : Value} (h : lv_has ls' nL ((i, ze E v) :: (zll E L).filter (fun q => !(q.1 == i) && (!(q.1 == i + 1) && !(q.1 + 1 == i && q.2.category == 2)))))
    (hL : ∀ (j : Nat) (w : Value), L'[j]? = some w → w ≠ zno → (j = i ∧ w = v) ∨ (L[j]? = some w ∧ j ≠ i ∧ j ≠ i + 1 ∧ (j + 1 = i → w.category = 1))) : zlv E ls' nL L' := by
  refine ⟨h.1, h.2.1, fun j w hj hw => ?_⟩
  rcases hL j w hj hw with ⟨rfl, rfl⟩ | ⟨h1, h2, h2', h3⟩
  · exact h.2.2 _ List.mem_cons_self
  · refine h.2.2 (j, ze E w) (List.mem_cons_of_mem _ (List.mem_filter.mpr ⟨zll_mem.mpr ⟨w, h1, hw, rfl⟩, ?_⟩))
    simp only [Bool.and_eq_true, Bool.not_eq_true', beq_eq_false_iff_ne, ne_eq, Bool.and_eq_false_iff, zcat]
    refine ⟨h2, h2', ?_⟩
    by_cases hji : j + 1 = i
    · right; rw [h3 hji]; decide
    · left; exact hji
theorem z_iload_0 {t : List Value} {x : Int32} (hd : decode M.2.1 pc = .ok (.iload_n 0, 1)) (k : zW l M N S (pc + 1) (.int x :: t) (.int x :: st) h Q) : zW l M N S pc (.int x :: t) st h Q := by
  intro p e s m args below meth c E n0 z0 H locs cells slots ls R Z C A hl hR K
  exact lv_iload_n C.1 C.2.1 hd rfl (hl.2.2 0 (.int x) rfl (fun q => Value.noConfusion q)) (k p e s m args below meth c E n0 z0 H locs cells slots ls R Z C A hl hR K)
theorem z_lload_0 {t : List Value} {x : Int64} (hd : decode M.2.1 pc = .ok (.lload_n 0, 1)) (k : zW l M N S (pc + 1) (.long x :: t) (.long x :: st) h Q) : zW l M N S pc (.long x :: t) st h Q := by
  intro p e s m args below meth c E n0 z0 H locs cells slots ls R Z C A hl hR K
  exact lv_lload_n C.1 C.2.1 hd rfl (hl.2.2 0 (.long x) rfl (fun q => Value.noConfusion q)) (k p e s m args below meth c E n0 z0 H locs cells slots ls R Z C A hl hR K)
theorem z_aload_0 {t : List Value} {x : Nat} (hd : decode M.2.1 pc = .ok (.aload_n 0, 1)) (k : zW l M N S (pc + 1) (.ref x :: t) (.ref x :: st) h Q) : zW l M N S pc (.ref x :: t) st h Q := by
  intro p e s m args below meth c E n0 z0 H locs cells slots ls R Z C A hl hR K
  exact lv_aload_n C.1 C.2.1 hd rfl (hl.2.2 0 (.ref x) rfl (fun q => Value.noConfusion q)) (k p e s m args below meth c E n0 z0 H locs cells slots ls R Z C A hl hR K)
theorem z_istore_0 {y : Value} {t : List Value} {x : Int32} (hd : decode M.2.1 pc = .ok (.istore_n 0, 1)) (hn : 0 < M.2.2.1) (k : zW l M N S (pc + 1) (.int x :: t) st h Q) : zW l M N S pc (y :: t) (.int x :: st) h Q := by
  intro p e s m args below meth c E n0 z0 H locs cells slots ls R Z C A hl hR K
  refine lv_istore_n C.1 C.2.1 hd rfl (zlv_has hl) hn rfl (fun ls2 hl2 => ?_)
  refine k p e s m args below meth c E n0 z0 H locs cells slots ls2 R Z C A (zlv_store1 (v := .int x) hl2 ?_) hR K
  intro j w hj hw
  cases j with
  | zero => exact Or.inl ⟨rfl, (Option.some.inj hj).symm⟩
  | succ j =>
    exact Or.inr ⟨hj, by omega, fun q => by omega⟩
theorem z_astore_0 {y : Value} {t : List Value} {x : Nat} (hd : decode M.2.1 pc = .ok (.astore_n 0, 1)) (hn : 0 < M.2.2.1) (k : zW l M N S (pc + 1) (.ref x :: t) st h Q) : zW l M N S pc (y :: t) (.ref x :: st) h Q := by
  intro p e s m args below meth c E n0 z0 H locs cells slots ls R Z C A hl hR K
  refine lv_astore_n C.1 C.2.1 hd rfl (zlv_has hl) hn rfl (fun ls2 hl2 => ?_)
  refine k p e s m args below meth c E n0 z0 H locs cells slots ls2 R Z C A (zlv_store1 (v := .ref x) hl2 ?_) hR K
  intro j w hj hw
  cases j with
  | zero => exact Or.inl ⟨rfl, (Option.some.inj hj).symm⟩
  | succ j =>
    exact Or.inr ⟨hj, by omega, fun q => by omega⟩
theorem z_lstore_0 {y y2 : Value} {t : List Value} {x : Int64} (hd : decode M.2.1 pc = .ok (.lstore_n 0, 1)) (hn : 1 < M.2.2.1) (k : zW l M N S (pc + 1) (.long x :: zno :: t) st h Q) : zW l M N S pc (y :: y2 :: t) (.long x :: st) h Q := by
  intro p e s m args below meth c E n0 z0 H locs cells slots ls R Z C A hl hR K
  refine lv_lstore_n C.1 C.2.1 hd rfl (zlv_has hl) hn rfl (fun ls2 hl2 => ?_)
  refine k p e s m args below meth c E n0 z0 H locs cells slots ls2 R Z C A (zlv_store2 (v := .long x) hl2 ?_) hR K
  intro j w hj hw
  cases j with
  | zero => exact Or.inl ⟨rfl, (Option.some.inj hj).symm⟩
  | succ j =>
    cases j with
    | zero => exact absurd (Option.some.inj hj).symm hw
    | succ j => exact Or.inr ⟨hj, by omega, by omega, fun q => by omega⟩
theorem z_iinc_0 {t : List Value} {x : Int32} {n : Int} (v : Int32) (hd : decode M.2.1 pc = .ok (.iinc 0 n, 3)) (hv : Int32.ofInt n = v) (hn : 0 < M.2.2.1) (k : zW l M N S (pc + 3) (.int (x + v) :: t) st h Q) : zW l M N S pc (.int x :: t) st h Q := by
  subst hv
  intro p e s m args below meth c E n0 z0 H locs cells slots ls R Z C A hl hR K
  obtain ⟨k0, hk0⟩ := List.getElem?_of_mem (zll_mem.mpr ⟨.int x, (rfl : (.int x :: t)[0]? = _), (fun q => Value.noConfusion q), rfl⟩ : (0, ze E (.int x)) ∈ zll E (.int x :: t))
  refine lv_iinc C.1 C.2.1 hd (zlv_has hl) hk0 rfl hn rfl (fun ls2 hl2 => ?_)
  refine k p e s m args below meth c E n0 z0 H locs cells slots ls2 R Z C A (zlv_store1 (v := .int (x + Int32.ofInt n)) hl2 ?_) hR K
  intro j w hj hw
  cases j with
  | zero => exact Or.inl ⟨rfl, (Option.some.inj hj).symm⟩
  | succ j => exact Or.inr ⟨hj, by omega, fun q => by omega⟩
theorem z_iload_1 {x0 : Value} {t : List Value} {x : Int32} (hd : decode M.2.1 pc = .ok (.iload_n 1, 1)) (k : zW l M N S (pc + 1) (x0 :: .int x :: t) (.int x :: st) h Q) : zW l M N S pc (x0 :: .int x :: t) st h Q := by
  intro p e s m args below meth c E n0 z0 H locs cells slots ls R Z C A hl hR K
  exact lv_iload_n C.1 C.2.1 hd rfl (hl.2.2 1 (.int x) rfl (fun q => Value.noConfusion q)) (k p e s m args below meth c E n0 z0 H locs cells slots ls R Z C A hl hR K)
theorem z_lload_1 {x0 : Value} {t : List Value} {x : Int64} (hd : decode M.2.1 pc = .ok (.lload_n 1, 1)) (k : zW l M N S (pc + 1) (x0 :: .long x :: t) (.long x :: st) h Q) : zW l M N S pc (x0 :: .long x :: t) st h Q := by
  intro p e s m args below meth c E n0 z0 H locs cells slots ls R Z C A hl hR K
  exact lv_lload_n C.1 C.2.1 hd rfl (hl.2.2 1 (.long x) rfl (fun q => Value.noConfusion q)) (k p e s m args below meth c E n0 z0 H locs cells slots ls R Z C A hl hR K)
theorem z_aload_1 {x0 : Value} {t : List Value} {x : Nat} (hd : decode M.2.1 pc = .ok (.aload_n 1, 1)) (k : zW l M N S (pc + 1) (x0 :: .ref x :: t) (.ref x :: st) h Q) : zW l M N S pc (x0 :: .ref x :: t) st h Q := by
  intro p e s m args below meth c E n0 z0 H locs cells slots ls R Z C A hl hR K
  exact lv_aload_n C.1 C.2.1 hd rfl (hl.2.2 1 (.ref x) rfl (fun q => Value.noConfusion q)) (k p e s m args below meth c E n0 z0 H locs cells slots ls R Z C A hl hR K)
theorem z_istore_1 {x0 : Value} {y : Value} {t : List Value} {x : Int32} (hd : decode M.2.1 pc = .ok (.istore_n 1, 1)) (hn : 1 < M.2.2.1) (hc : x0.category = 1) (k : zW l M N S (pc + 1) (x0 :: .int x :: t) st h Q) : zW l M N S pc (x0 :: y :: t) (.int x :: st) h Q := by
  intro p e s m args below meth c E n0 z0 H locs cells slots ls R Z C A hl hR K
  refine lv_istore_n C.1 C.2.1 hd rfl (zlv_has hl) hn rfl (fun ls2 hl2 => ?_)
  refine k p e s m args below meth c E n0 z0 H locs cells slots ls2 R Z C A (zlv_store1 (v := .int x) hl2 ?_) hR K
  intro j w hj hw
  cases j with
  | zero => exact Or.inr ⟨hj, by omega, fun _ => (Option.some.inj hj) ▸ hc⟩
  | succ j =>
    cases j with
    | zero => exact Or.inl ⟨rfl, (Option.some.inj hj).symm⟩
    | succ j =>
      exact Or.inr ⟨hj, by omega, fun q => by omega⟩
theorem z_istoreK_1 {x0 : Value} {y : Value} {t : List Value} {x : Int32} (hd : decode M.2.1 pc = .ok (.istore_n 1, 1)) (hn : 1 < M.2.2.1) (k : zW l M N S (pc + 1) (zno :: .int x :: t) st h Q) : zW l M N S pc (x0 :: y :: t) (.int x :: st) h Q := by
  intro p e s m args below meth c E n0 z0 H locs cells slots ls R Z C A hl hR K
  refine lv_istore_n C.1 C.2.1 hd rfl (zlv_has hl) hn rfl (fun ls2 hl2 => ?_)
  refine k p e s m args below meth c E n0 z0 H locs cells slots ls2 R Z C A (zlv_store1 (v := .int x) hl2 ?_) hR K
  intro j w hj hw
  cases j with
  | zero => exact absurd (Option.some.inj hj).symm hw
  | succ j =>
    cases j with
    | zero => exact Or.inl ⟨rfl, (Option.some.inj hj).symm⟩
    | succ j =>
      exact Or.inr ⟨hj, by omega, fun q => by omega⟩
theorem z_astore_1 {x0 : Value} {y : Value} {t : List Value} {x : Nat} (hd : decode M.2.1 pc = .ok (.astore_n 1, 1)) (hn : 1 < M.2.2.1) (hc : x0.category = 1) (k : zW l M N S (pc + 1) (x0 :: .ref x :: t) st h Q) : zW l M N S pc (x0 :: y :: t) (.ref x :: st) h Q := by
  intro p e s m args below meth c E n0 z0 H locs cells slots ls R Z C A hl hR K
  refine lv_astore_n C.1 C.2.1 hd rfl (zlv_has hl) hn rfl (fun ls2 hl2 => ?_)
  refine k p e s m args below meth c E n0 z0 H locs cells slots ls2 R Z C A (zlv_store1 (v := .ref x) hl2 ?_) hR K
  intro j w hj hw
  cases j with
  | zero => exact Or.inr ⟨hj, by omega, fun _ => (Option.some.inj hj) ▸ hc⟩
  | succ j =>
    cases j with
    | zero => exact Or.inl ⟨rfl, (Option.some.inj hj).symm⟩
    | succ j =>
      exact Or.inr ⟨hj, by omega, fun q => by omega⟩
theorem z_astoreK_1 {x0 : Value} {y : Value} {t : List Value} {x : Nat} (hd : decode M.2.1 pc = .ok (.astore_n 1, 1)) (hn : 1 < M.2.2.1) (k : zW l M N S (pc + 1) (zno :: .ref x :: t) st h Q) : zW l M N S pc (x0 :: y :: t) (.ref x :: st) h Q := by
  intro p e s m args below meth c E n0 z0 H locs cells slots ls R Z C A hl hR K
  refine lv_astore_n C.1 C.2.1 hd rfl (zlv_has hl) hn rfl (fun ls2 hl2 => ?_)
  refine k p e s m args below meth c E n0 z0 H locs cells slots ls2 R Z C A (zlv_store1 (v := .ref x) hl2 ?_) hR K
  intro j w hj hw
  cases j with
  | zero => exact absurd (Option.some.inj hj).symm hw
  | succ j =>
    cases j with
    | zero => exact Or.inl ⟨rfl, (Option.some.inj hj).symm⟩
    | succ j =>
      exact Or.inr ⟨hj, by omega, fun q => by omega⟩
theorem z_lstore_1 {x0 : Value} {y y2 : Value} {t : List Value} {x : Int64} (hd : decode M.2.1 pc = .ok (.lstore_n 1, 1)) (hn : 2 < M.2.2.1) (hc : x0.category = 1) (k : zW l M N S (pc + 1) (x0 :: .long x :: zno :: t) st h Q) : zW l M N S pc (x0 :: y :: y2 :: t) (.long x :: st) h Q := by
  intro p e s m args below meth c E n0 z0 H locs cells slots ls R Z C A hl hR K
  refine lv_lstore_n C.1 C.2.1 hd rfl (zlv_has hl) hn rfl (fun ls2 hl2 => ?_)
  refine k p e s m args below meth c E n0 z0 H locs cells slots ls2 R Z C A (zlv_store2 (v := .long x) hl2 ?_) hR K
  intro j w hj hw
  cases j with
  | zero => exact Or.inr ⟨hj, by omega, by omega, fun _ => (Option.some.inj hj) ▸ hc⟩
  | succ j =>
    cases j with
    | zero => exact Or.inl ⟨rfl, (Option.some.inj hj).symm⟩
    | succ j =>
      cases j with
      | zero => exact absurd (Option.some.inj hj).symm hw
      | succ j => exact Or.inr ⟨hj, by omega, by omega, fun q => by omega⟩
theorem z_lstoreK_1 {x0 : Value} {y y2 : Value} {t : List Value} {x : Int64} (hd : decode M.2.1 pc = .ok (.lstore_n 1, 1)) (hn : 2 < M.2.2.1) (k : zW l M N S (pc + 1) (zno :: .long x :: zno :: t) st h Q) : zW l M N S pc (x0 :: y :: y2 :: t) (.long x :: st) h Q := by
  intro p e s m args below meth c E n0 z0 H locs cells slots ls R Z C A hl hR K
  refine lv_lstore_n C.1 C.2.1 hd rfl (zlv_has hl) hn rfl (fun ls2 hl2 => ?_)
  refine k p e s m args below meth c E n0 z0 H locs cells slots ls2 R Z C A (zlv_store2 (v := .long x) hl2 ?_) hR K
  intro j w hj hw
  cases j with
  | zero => exact absurd (Option.some.inj hj).symm hw
  | succ j =>
    cases j with
    | zero => exact Or.inl ⟨rfl, (Option.some.inj hj).symm⟩
    | succ j =>
      cases j with
      | zero => exact absurd (Option.some.inj hj).symm hw
      | succ j => exact Or.inr ⟨hj, by omega, by omega, fun q => by omega⟩
theorem z_iinc_1 {x0 : Value} {t : List Value} {x : Int32} {n : Int} (v : Int32) (hd : decode M.2.1 pc = .ok (.iinc 1 n, 3)) (hv : Int32.ofInt n = v) (hn : 1 < M.2.2.1) (hc : x0.category = 1) (k : zW l M N S (pc + 3) (x0 :: .int (x + v) :: t) st h Q) : zW l M N S pc (x0 :: .int x :: t) st h Q := by
  subst hv
  intro p e s m args below meth c E n0 z0 H locs cells slots ls R Z C A hl hR K
  obtain ⟨k0, hk0⟩ := List.getElem?_of_mem (zll_mem.mpr ⟨.int x, (rfl : (x0 :: .int x :: t)[1]? = _), (fun q => Value.noConfusion q), rfl⟩ : (1, ze E (.int x)) ∈ zll E (x0 :: .int x :: t))
  refine lv_iinc C.1 C.2.1 hd (zlv_has hl) hk0 rfl hn rfl (fun ls2 hl2 => ?_)
  refine k p e s m args below meth c E n0 z0 H locs cells slots ls2 R Z C A (zlv_store1 (v := .int (x + Int32.ofInt n)) hl2 ?_) hR K
  intro j w hj hw
  cases j with
  | zero => exact Or.inr ⟨hj, by omega, fun _ => (Option.some.inj hj) ▸ hc⟩
  | succ j =>
    cases j with
    | zero => exact Or.inl ⟨rfl, (Option.some.inj hj).symm⟩
    | succ j => exact Or.inr ⟨hj, by omega, fun q => by omega⟩
theorem z_iload_2 {x0 x1 : Value} {t : List Value} {x : Int32} (hd : decode M.2.1 pc = .ok (.iload_n 2, 1)) (k : zW l M N S (pc + 1) (x0 :: x1 :: .int x :: t) (.int x :: st) h Q) : zW l M N S pc (x0 :: x1 :: .int x :: t) st h Q := by
  intro p e s m args below meth c E n0 z0 H locs cells slots ls R Z C A hl hR K
  exact lv_iload_n C.1 C.2.1 hd rfl (hl.2.2 2 (.int x) rfl (fun q => Value.noConfusion q)) (k p e s m args below meth c E n0 z0 H locs cells slots ls R Z C A hl hR K)
theorem z_lload_2 {x0 x1 : Value} {t : List Value} {x : Int64} (hd : decode M.2.1 pc = .ok (.lload_n 2, 1)) (k : zW l M N S (pc + 1) (x0 :: x1 :: .long x :: t) (.long x :: st) h Q) : zW l M N S pc (x0 :: x1 :: .long x :: t) st h Q := by
  intro p e s m args below meth c E n0 z0 H locs cells slots ls R Z C A hl hR K
  exact lv_lload_n C.1 C.2.1 hd rfl (hl.2.2 2 (.long x) rfl (fun q => Value.noConfusion q)) (k p e s m args below meth c E n0 z0 H locs cells slots ls R Z C A hl hR K)
theorem z_aload_2 {x0 x1 : Value} {t : List Value} {x : Nat} (hd : decode M.2.1 pc = .ok (.aload_n 2, 1)) (k : zW l M N S (pc + 1) (x0 :: x1 :: .ref x :: t) (.ref x :: st) h Q) : zW l M N S pc (x0 :: x1 :: .ref x :: t) st h Q := by
  intro p e s m args below meth c E n0 z0 H locs cells slots ls R Z C A hl hR K
  exact lv_aload_n C.1 C.2.1 hd rfl (hl.2.2 2 (.ref x) rfl (fun q => Value.noConfusion q)) (k p e s m args below meth c E n0 z0 H locs cells slots ls R Z C A hl hR K)
theorem z_istore_2 {x0 x1 : Value} {y : Value} {t : List Value} {x : Int32} (hd : decode M.2.1 pc = .ok (.istore_n 2, 1)) (hn : 2 < M.2.2.1) (hc : x1.category = 1) (k : zW l M N S (pc + 1) (x0 :: x1 :: .int x :: t) st h Q) : zW l M N S pc (x0 :: x1 :: y :: t) (.int x :: st) h Q := by
  intro p e s m args below meth c E n0 z0 H locs cells slots ls R Z C A hl hR K
  refine lv_istore_n C.1 C.2.1 hd rfl (zlv_has hl) hn rfl (fun ls2 hl2 => ?_)
  refine k p e s m args below meth c E n0 z0 H locs cells slots ls2 R Z C A (zlv_store1 (v := .int x) hl2 ?_) hR K
  intro j w hj hw
  cases j with
  | zero => exact Or.inr ⟨hj, by omega, fun q => by omega⟩
  | succ j =>
    cases j with
    | zero => exact Or.inr ⟨hj, by omega, fun _ => (Option.some.inj hj) ▸ hc⟩
    | succ j =>
      cases j with
      | zero => exact Or.inl ⟨rfl, (Option.some.inj hj).symm⟩
      | succ j =>
        exact Or.inr ⟨hj, by omega, fun q => by omega⟩
theorem z_istoreK_2 {x0 x1 : Value} {y : Value} {t : List Value} {x : Int32} (hd : decode M.2.1 pc = .ok (.istore_n 2, 1)) (hn : 2 < M.2.2.1) (k : zW l M N S (pc + 1) (x0 :: zno :: .int x :: t) st h Q) : zW l M N S pc (x0 :: x1 :: y :: t) (.int x :: st) h Q := by
  intro p e s m args below meth c E n0 z0 H locs cells slots ls R Z C A hl hR K
  refine lv_istore_n C.1 C.2.1 hd rfl (zlv_has hl) hn rfl (fun ls2 hl2 => ?_)
  refine k p e s m args below meth c E n0 z0 H locs cells slots ls2 R Z C A (zlv_store1 (v := .int x) hl2 ?_) hR K
  intro j w hj hw
  cases j with
  | zero => exact Or.inr ⟨hj, by omega, fun q => by omega⟩
  | succ j =>
    cases j with
    | zero => exact absurd (Option.some.inj hj).symm hw
    | succ j =>
      cases j with
      | zero => exact Or.inl ⟨rfl, (Option.some.inj hj).symm⟩
      | succ j =>
        exact Or.inr ⟨hj, by omega, fun q => by omega⟩
theorem z_astore_2 {x0 x1 : Value} {y : Value} {t : List Value} {x : Nat} (hd : decode M.2.1 pc = .ok (.astore_n 2, 1)) (hn : 2 < M.2.2.1) (hc : x1.category = 1) (k : zW l M N S (pc + 1) (x0 :: x1 :: .ref x :: t) st h Q) : zW l M N S pc (x0 :: x1 :: y :: t) (.ref x :: st) h Q := by
  intro p e s m args below meth c E n0 z0 H locs cells slots ls R Z C A hl hR K
  refine lv_astore_n C.1 C.2.1 hd rfl (zlv_has hl) hn rfl (fun ls2 hl2 => ?_)
  refine k p e s m args below meth c E n0 z0 H locs cells slots ls2 R Z C A (zlv_store1 (v := .ref x) hl2 ?_) hR K
  intro j w hj hw
  cases j with
  | zero => exact Or.inr ⟨hj, by omega, fun q => by omega⟩
  | succ j =>
    cases j with
    | zero => exact Or.inr ⟨hj, by omega, fun _ => (Option.some.inj hj) ▸ hc⟩
    | succ j =>
      cases j with
      | zero => exact Or.inl ⟨rfl, (Option.some.inj hj).symm⟩
      | succ j =>
        exact Or.inr ⟨hj, by omega, fun q => by omega⟩
theorem z_astoreK_2 {x0 x1 : Value} {y : Value} {t : List Value} {x : Nat} (hd : decode M.2.1 pc = .ok (.astore_n 2, 1)) (hn : 2 < M.2.2.1) (k : zW l M N S (pc + 1) (x0 :: zno :: .ref x :: t) st h Q) : zW l M N S pc (x0 :: x1 :: y :: t) (.ref x :: st) h Q := by
  intro p e s m args below meth c E n0 z0 H locs cells slots ls R Z C A hl hR K
  refine lv_astore_n C.1 C.2.1 hd rfl (zlv_has hl) hn rfl (fun ls2 hl2 => ?_)
  refine k p e s m args below meth c E n0 z0 H locs cells slots ls2 R Z C A (zlv_store1 (v := .ref x) hl2 ?_) hR K
  intro j w hj hw
  cases j with
  | zero => exact Or.inr ⟨hj, by omega, fun q => by omega⟩
  | succ j =>
    cases j with
    | zero => exact absurd (Option.some.inj hj).symm hw
    | succ j =>
      cases j with
      | zero => exact Or.inl ⟨rfl, (Option.some.inj hj).symm⟩
      | succ j =>
        exact Or.inr ⟨hj, by omega, fun q => by omega⟩
theorem z_lstore_2 {x0 x1 : Value} {y y2 : Value} {t : List Value} {x : Int64} (hd : decode M.2.1 pc = .ok (.lstore_n 2, 1)) (hn : 3 < M.2.2.1) (hc : x1.category = 1) (k : zW l M N S (pc + 1) (x0 :: x1 :: .long x :: zno :: t) st h Q) : zW l M N S pc (x0 :: x1 :: y :: y2 :: t) (.long x :: st) h Q := by
  intro p e s m args below meth c E n0 z0 H locs cells slots ls R Z C A hl hR K
  refine lv_lstore_n C.1 C.2.1 hd rfl (zlv_has hl) hn rfl (fun ls2 hl2 => ?_)
  refine k p e s m args below meth c E n0 z0 H locs cells slots ls2 R Z C A (zlv_store2 (v := .long x) hl2 ?_) hR K
  intro j w hj hw
  cases j with
  | zero => exact Or.inr ⟨hj, by omega, by omega, fun q => by omega⟩
  | succ j =>
    cases j with
    | zero => exact Or.inr ⟨hj, by omega, by omega, fun _ => (Option.some.inj hj) ▸ hc⟩
    | succ j =>
      cases j with
      | zero => exact Or.inl ⟨rfl, (Option.some.inj hj).symm⟩
      | succ j =>
        cases j with
        | zero => exact absurd (Option.some.inj hj).symm hw
        | succ j => exact Or.inr ⟨hj, by omega, by omega, fun q => by omega⟩
theorem z_lstoreK_2 {x0 x1 : Value} {y y2 : Value} {t : List Value} {x : Int64} (hd : decode M.2.1 pc = .ok (.lstore_n 2, 1)) (hn : 3 < M.2.2.1) (k : zW l M N S (pc + 1) (x0 :: zno :: .long x :: zno :: t) st h Q) : zW l M N S pc (x0 :: x1 :: y :: y2 :: t) (.long x :: st) h Q := by
  intro p e s m args below meth c E n0 z0 H locs cells slots ls R Z C A hl hR K
  refine lv_lstore_n C.1 C.2.1 hd rfl (zlv_has hl) hn rfl (fun ls2 hl2 => ?_)
  refine k p e s m args below meth c E n0 z0 H locs cells slots ls2 R Z C A (zlv_store2 (v := .long x) hl2 ?_) hR K
  intro j w hj hw
  cases j with
  | zero => exact Or.inr ⟨hj, by omega, by omega, fun q => by omega⟩
  | succ j =>
    cases j with
    | zero => exact absurd (Option.some.inj hj).symm hw
    | succ j =>
      cases j with
      | zero => exact Or.inl ⟨rfl, (Option.some.inj hj).symm⟩
      | succ j =>
        cases j with
        | zero => exact absurd (Option.some.inj hj).symm hw
        | succ j => exact Or.inr ⟨hj, by omega, by omega, fun q => by omega⟩
theorem z_iinc_2 {x0 x1 : Value} {t : List Value} {x : Int32} {n : Int} (v : Int32) (hd : decode M.2.1 pc = .ok (.iinc 2 n, 3)) (hv : Int32.ofInt n = v) (hn : 2 < M.2.2.1) (hc : x1.category = 1) (k : zW l M N S (pc + 3) (x0 :: x1 :: .int (x + v) :: t) st h Q) : zW l M N S pc (x0 :: x1 :: .int x :: t) st h Q := by
  subst hv
  intro p e s m args below meth c E n0 z0 H locs cells slots ls R Z C A hl hR K
  obtain ⟨k0, hk0⟩ := List.getElem?_of_mem (zll_mem.mpr ⟨.int x, (rfl : (x0 :: x1 :: .int x :: t)[2]? = _), (fun q => Value.noConfusion q), rfl⟩ : (2, ze E (.int x)) ∈ zll E (x0 :: x1 :: .int x :: t))
  refine lv_iinc C.1 C.2.1 hd (zlv_has hl) hk0 rfl hn rfl (fun ls2 hl2 => ?_)
  refine k p e s m args below meth c E n0 z0 H locs cells slots ls2 R Z C A (zlv_store1 (v := .int (x + Int32.ofInt n)) hl2 ?_) hR K
  intro j w hj hw
  cases j with
  | zero => exact Or.inr ⟨hj, by omega, fun q => by omega⟩
  | succ j =>
    cases j with
    | zero => exact Or.inr ⟨hj, by omega, fun _ => (Option.some.inj hj) ▸ hc⟩
    | succ j =>
      cases j with
      | zero => exact Or.inl ⟨rfl, (Option.some.inj hj).symm⟩
      | succ j => exact Or.inr ⟨hj, by omega, fun q => by omega⟩
theorem z_iload_3 {x0 x1 x2 : Value} {t : List Value} {x : Int32} (hd : decode M.2.1 pc = .ok (.iload_n 3, 1)) (k : zW l M N S (pc + 1) (x0 :: x1 :: x2 :: .int x :: t) (.int x :: st) h Q) : zW l M N S pc (x0 :: x1 :: x2 :: .int x :: t) st h Q := by
  intro p e s m args below meth c E n0 z0 H locs cells slots ls R Z C A hl hR K
  exact lv_iload_n C.1 C.2.1 hd rfl (hl.2.2 3 (.int x) rfl (fun q => Value.noConfusion q)) (k p e s m args below meth c E n0 z0 H locs cells slots ls R Z C A hl hR K)
theorem z_lload_3 {x0 x1 x2 : Value} {t : List Value} {x : Int64} (hd : decode M.2.1 pc = .ok (.lload_n 3, 1)) (k : zW l M N S (pc + 1) (x0 :: x1 :: x2 :: .long x :: t) (.long x :: st) h Q) : zW l M N S pc (x0 :: x1 :: x2 :: .long x :: t) st h Q := by
  intro p e s m args below meth c E n0 z0 H locs cells slots ls R Z C A hl hR K
  exact lv_lload_n C.1 C.2.1 hd rfl (hl.2.2 3 (.long x) rfl (fun q => Value.noConfusion q)) (k p e s m args below meth c E n0 z0 H locs cells slots ls R Z C A hl hR K)
theorem z_aload_3 {x0 x1 x2 : Value} {t : List Value} {x : Nat} (hd : decode M.2.1 pc = .ok (.aload_n 3, 1)) (k : zW l M N S (pc + 1) (x0 :: x1 :: x2 :: .ref x :: t) (.ref x :: st) h Q) : zW l M N S pc (x0 :: x1 :: x2 :: .ref x :: t) st h Q := by
  intro p e s m args below meth c E n0 z0 H locs cells slots ls R Z C A hl hR K
  exact lv_aload_n C.1 C.2.1 hd rfl (hl.2.2 3 (.ref x) rfl (fun q => Value.noConfusion q)) (k p e s m args below meth c E n0 z0 H locs cells slots ls R Z C A hl hR K)
theorem z_istore_3 {x0 x1 x2 : Value} {y : Value} {t : List Value} {x : Int32} (hd : decode M.2.1 pc = .ok (.istore_n 3, 1)) (hn : 3 < M.2.2.1) (hc : x2.category = 1) (k : zW l M N S (pc + 1) (x0 :: x1 :: x2 :: .int x :: t) st h Q) : zW l M N S pc (x0 :: x1 :: x2 :: y :: t) (.int x :: st) h Q := by
  intro p e s m args below meth c E n0 z0 H locs cells slots ls R Z C A hl hR K
  refine lv_istore_n C.1 C.2.1 hd rfl (zlv_has hl) hn rfl (fun ls2 hl2 => ?_)
  refine k p e s m args below meth c E n0 z0 H locs cells slots ls2 R Z C A (zlv_store1 (v := .int x) hl2 ?_) hR K
  intro j w hj hw
  cases j with
  | zero => exact Or.inr ⟨hj, by omega, fun q => by omega⟩
  | succ j =>
    cases j with
    | zero => exact Or.inr ⟨hj, by omega, fun q => by omega⟩
    | succ j =>
      cases j with
      | zero => exact Or.inr ⟨hj, by omega, fun _ => (Option.some.inj hj) ▸ hc⟩
      | succ j =>
        cases j with
        | zero => exact Or.inl ⟨rfl, (Option.some.inj hj).symm⟩
        | succ j =>
          exact Or.inr ⟨hj, by omega, fun q => by omega⟩
theorem z_istoreK_3 {x0 x1 x2 : Value} {y : Value} {t : List Value} {x : Int32} (hd : decode M.2.1 pc = .ok (.istore_n 3, 1)) (hn : 3 < M.2.2.1) (k : zW l M N S (pc + 1) (x0 :: x1 :: zno :: .int x :: t) st h Q) : zW l M N S pc (x0 :: x1 :: x2 :: y :: t) (.int x :: st) h Q := by
  intro p e s m args below meth c E n0 z0 H locs cells slots ls R Z C A hl hR K
  refine lv_istore_n C.1 C.2.1 hd rfl (zlv_has hl) hn rfl (fun ls2 hl2 => ?_)
  refine k p e s m args below meth c E n0 z0 H locs cells slots ls2 R Z C A (zlv_store1 (v := .int x) hl2 ?_) hR K
  intro j w hj hw
  cases j with
  | zero => exact Or.inr ⟨hj, by omega, fun q => by omega⟩
  | succ j =>
    cases j with
    | zero => exact Or.inr ⟨hj, by omega, fun q => by omega⟩
    | succ j =>
      cases j with
      | zero => exact absurd (Option.some.inj hj).symm hw
      | succ j =>
        cases j with
        | zero => exact Or.inl ⟨rfl, (Option.some.inj hj).symm⟩
        | succ j =>
          exact Or.inr ⟨hj, by omega, fun q => by omega⟩
theorem z_astore_3 {x0 x1 x2 : Value} {y : Value} {t : List Value} {x : Nat} (hd : decode M.2.1 pc = .ok (.astore_n 3, 1)) (hn : 3 < M.2.2.1) (hc : x2.category = 1) (k : zW l M N S (pc + 1) (x0 :: x1 :: x2 :: .ref x :: t) st h Q) : zW l M N S pc (x0 :: x1 :: x2 :: y :: t) (.ref x :: st) h Q := by
  intro p e s m args below meth c E n0 z0 H locs cells slots ls R Z C A hl hR K
  refine lv_astore_n C.1 C.2.1 hd rfl (zlv_has hl) hn rfl (fun ls2 hl2 => ?_)
  refine k p e s m args below meth c E n0 z0 H locs cells slots ls2 R Z C A (zlv_store1 (v := .ref x) hl2 ?_) hR K
  intro j w hj hw
  cases j with
  | zero => exact Or.inr ⟨hj, by omega, fun q => by omega⟩
  | succ j =>
    cases j with
    | zero => exact Or.inr ⟨hj, by omega, fun q => by omega⟩
    | succ j =>
      cases j with
      | zero => exact Or.inr ⟨hj, by omega, fun _ => (Option.some.inj hj) ▸ hc⟩
      | succ j =>
        cases j with
        | zero => exact Or.inl ⟨rfl, (Option.some.inj hj).symm⟩
        | succ j =>
          exact Or.inr ⟨hj, by omega, fun q => by omega⟩
theorem z_astoreK_3 {x0 x1 x2 : Value} {y : Value} {t : List Value} {x : Nat} (hd : decode M.2.1 pc = .ok (.astore_n 3, 1)) (hn : 3 < M.2.2.1) (k : zW l M N S (pc + 1) (x0 :: x1 :: zno :: .ref x :: t) st h Q) : zW l M N S pc (x0 :: x1 :: x2 :: y :: t) (.ref x :: st) h Q := by
  intro p e s m args below meth c E n0 z0 H locs cells slots ls R Z C A hl hR K
  refine lv_astore_n C.1 C.2.1 hd rfl (zlv_has hl) hn rfl (fun ls2 hl2 => ?_)
  refine k p e s m args below meth c E n0 z0 H locs cells slots ls2 R Z C A (zlv_store1 (v := .ref x) hl2 ?_) hR K
  intro j w hj hw
  cases j with
  | zero => exact Or.inr ⟨hj, by omega, fun q => by omega⟩
  | succ j =>
    cases j with
    | zero => exact Or.inr ⟨hj, by omega, fun q => by omega⟩
    | succ j =>
      cases j with
      | zero => exact absurd (Option.some.inj hj).symm hw
      | succ j =>
        cases j with
        | zero => exact Or.inl ⟨rfl, (Option.some.inj hj).symm⟩
        | succ j =>
          exact Or.inr ⟨hj, by omega, fun q => by omega⟩
theorem z_lstore_3 {x0 x1 x2 : Value} {y y2 : Value} {t : List Value} {x : Int64} (hd : decode M.2.1 pc = .ok (.lstore_n 3, 1)) (hn : 4 < M.2.2.1) (hc : x2.category = 1) (k : zW l M N S (pc + 1) (x0 :: x1 :: x2 :: .long x :: zno :: t) st h Q) : zW l M N S pc (x0 :: x1 :: x2 :: y :: y2 :: t) (.long x :: st) h Q := by
  intro p e s m args below meth c E n0 z0 H locs cells slots ls R Z C A hl hR K
  refine lv_lstore_n C.1 C.2.1 hd rfl (zlv_has hl) hn rfl (fun ls2 hl2 => ?_)
  refine k p e s m args below meth c E n0 z0 H locs cells slots ls2 R Z C A (zlv_store2 (v := .long x) hl2 ?_) hR K
  intro j w hj hw
  cases j with
  | zero => exact Or.inr ⟨hj, by omega, by omega, fun q => by omega⟩
  | succ j =>
    cases j with
    | zero => exact Or.inr ⟨hj, by omega, by omega, fun q => by omega⟩
    | succ j =>
      cases j with
      | zero => exact Or.inr ⟨hj, by omega, by omega, fun _ => (Option.some.inj hj) ▸ hc⟩
      | succ j =>
        cases j with
        | zero => exact Or.inl ⟨rfl, (Option.some.inj hj).symm⟩
        | succ j =>
          cases j with
          | zero => exact absurd (Option.some.inj hj).symm hw
          | succ j => exact Or.inr ⟨hj, by omega, by omega, fun q => by omega⟩
theorem z_lstoreK_3 {x0 x1 x2 : Value} {y y2 : Value} {t : List Value} {x : Int64} (hd : decode M.2.1 pc = .ok (.lstore_n 3, 1)) (hn : 4 < M.2.2.1) (k : zW l M N S (pc + 1) (x0 :: x1 :: zno :: .long x :: zno :: t) st h Q) : zW l M N S pc (x0 :: x1 :: x2 :: y :: y2 :: t) (.long x :: st) h Q := by
  intro p e s m args below meth c E n0 z0 H locs cells slots ls R Z C A hl hR K
  refine lv_lstore_n C.1 C.2.1 hd rfl (zlv_has hl) hn rfl (fun ls2 hl2 => ?_)
  refine k p e s m args below meth c E n0 z0 H locs cells slots ls2 R Z C A (zlv_store2 (v := .long x) hl2 ?_) hR K
  intro j w hj hw
  cases j with
  | zero => exact Or.inr ⟨hj, by omega, by omega, fun q => by omega⟩
  | succ j =>
    cases j with
    | zero => exact Or.inr ⟨hj, by omega, by omega, fun q => by omega⟩
    | succ j =>
      cases j with
      | zero => exact absurd (Option.some.inj hj).symm hw
      | succ j =>
        cases j with
        | zero => exact Or.inl ⟨rfl, (Option.some.inj hj).symm⟩
        | succ j =>
          cases j with
          | zero => exact absurd (Option.some.inj hj).symm hw
          | succ j => exact Or.inr ⟨hj, by omega, by omega, fun q => by omega⟩
theorem z_iinc_3 {x0 x1 x2 : Value} {t : List Value} {x : Int32} {n : Int} (v : Int32) (hd : decode M.2.1 pc = .ok (.iinc 3 n, 3)) (hv : Int32.ofInt n = v) (hn : 3 < M.2.2.1) (hc : x2.category = 1) (k : zW l M N S (pc + 3) (x0 :: x1 :: x2 :: .int (x + v) :: t) st h Q) : zW l M N S pc (x0 :: x1 :: x2 :: .int x :: t) st h Q := by
  subst hv
  intro p e s m args below meth c E n0 z0 H locs cells slots ls R Z C A hl hR K
  obtain ⟨k0, hk0⟩ := List.getElem?_of_mem (zll_mem.mpr ⟨.int x, (rfl : (x0 :: x1 :: x2 :: .int x :: t)[3]? = _), (fun q => Value.noConfusion q), rfl⟩ : (3, ze E (.int x)) ∈ zll E (x0 :: x1 :: x2 :: .int x :: t))
  refine lv_iinc C.1 C.2.1 hd (zlv_has hl) hk0 rfl hn rfl (fun ls2 hl2 => ?_)
  refine k p e s m args below meth c E n0 z0 H locs cells slots ls2 R Z C A (zlv_store1 (v := .int (x + Int32.ofInt n)) hl2 ?_) hR K
  intro j w hj hw
  cases j with
  | zero => exact Or.inr ⟨hj, by omega, fun q => by omega⟩
  | succ j =>
    cases j with
    | zero => exact Or.inr ⟨hj, by omega, fun q => by omega⟩
    | succ j =>
      cases j with
      | zero => exact Or.inr ⟨hj, by omega, fun _ => (Option.some.inj hj) ▸ hc⟩
      | succ j =>
        cases j with
        | zero => exact Or.inl ⟨rfl, (Option.some.inj hj).symm⟩
        | succ j => exact Or.inr ⟨hj, by omega, fun q => by omega⟩
theorem z_iload_4 {x0 x1 x2 x3 : Value} {t : List Value} {x : Int32} (hd : decode M.2.1 pc = .ok (.iload 4, 2)) (k : zW l M N S (pc + 2) (x0 :: x1 :: x2 :: x3 :: .int x :: t) (.int x :: st) h Q) : zW l M N S pc (x0 :: x1 :: x2 :: x3 :: .int x :: t) st h Q := by
  intro p e s m args below meth c E n0 z0 H locs cells slots ls R Z C A hl hR K
  exact lv_iload C.1 C.2.1 hd (hl.2.2 4 (.int x) rfl (fun q => Value.noConfusion q)) (k p e s m args below meth c E n0 z0 H locs cells slots ls R Z C A hl hR K)
theorem z_lload_4 {x0 x1 x2 x3 : Value} {t : List Value} {x : Int64} (hd : decode M.2.1 pc = .ok (.lload 4, 2)) (k : zW l M N S (pc + 2) (x0 :: x1 :: x2 :: x3 :: .long x :: t) (.long x :: st) h Q) : zW l M N S pc (x0 :: x1 :: x2 :: x3 :: .long x :: t) st h Q := by
  intro p e s m args below meth c E n0 z0 H locs cells slots ls R Z C A hl hR K
  exact lv_lload C.1 C.2.1 hd (hl.2.2 4 (.long x) rfl (fun q => Value.noConfusion q)) (k p e s m args below meth c E n0 z0 H locs cells slots ls R Z C A hl hR K)
theorem z_aload_4 {x0 x1 x2 x3 : Value} {t : List Value} {x : Nat} (hd : decode M.2.1 pc = .ok (.aload 4, 2)) (k : zW l M N S (pc + 2) (x0 :: x1 :: x2 :: x3 :: .ref x :: t) (.ref x :: st) h Q) : zW l M N S pc (x0 :: x1 :: x2 :: x3 :: .ref x :: t) st h Q := by
  intro p e s m args below meth c E n0 z0 H locs cells slots ls R Z C A hl hR K
  exact lv_aload C.1 C.2.1 hd (hl.2.2 4 (.ref x) rfl (fun q => Value.noConfusion q)) (k p e s m args below meth c E n0 z0 H locs cells slots ls R Z C A hl hR K)
theorem z_istore_4 {x0 x1 x2 x3 : Value} {y : Value} {t : List Value} {x : Int32} (hd : decode M.2.1 pc = .ok (.istore 4, 2)) (hn : 4 < M.2.2.1) (hc : x3.category = 1) (k : zW l M N S (pc + 2) (x0 :: x1 :: x2 :: x3 :: .int x :: t) st h Q) : zW l M N S pc (x0 :: x1 :: x2 :: x3 :: y :: t) (.int x :: st) h Q := by
  intro p e s m args below meth c E n0 z0 H locs cells slots ls R Z C A hl hR K
  refine lv_istore C.1 C.2.1 hd (zlv_has hl) hn rfl (fun ls2 hl2 => ?_)
  refine k p e s m args below meth c E n0 z0 H locs cells slots ls2 R Z C A (zlv_store1 (v := .int x) hl2 ?_) hR K
  intro j w hj hw
  cases j with
  | zero => exact Or.inr ⟨hj, by omega, fun q => by omega⟩
  | succ j =>
    cases j with
    | zero => exact Or.inr ⟨hj, by omega, fun q => by omega⟩
    | succ j =>
      cases j with
      | zero => exact Or.inr ⟨hj, by omega, fun q => by omega⟩
      | succ j =>
        cases j with
        | zero => exact Or.inr ⟨hj, by omega, fun _ => (Option.some.inj hj) ▸ hc⟩
        | succ j =>
          cases j with
          | zero => exact Or.inl ⟨rfl, (Option.some.inj hj).symm⟩
          | succ j =>
            exact Or.inr ⟨hj, by omega, fun q => by omega⟩
theorem z_istoreK_4 {x0 x1 x2 x3 : Value} {y : Value} {t : List Value} {x : Int32} (hd : decode M.2.1 pc = .ok (.istore 4, 2)) (hn : 4 < M.2.2.1) (k : zW l M N S (pc + 2) (x0 :: x1 :: x2 :: zno :: .int x :: t) st h Q) : zW l M N S pc (x0 :: x1 :: x2 :: x3 :: y :: t) (.int x :: st) h Q := by
  intro p e s m args below meth c E n0 z0 H locs cells slots ls R Z C A hl hR K
  refine lv_istore C.1 C.2.1 hd (zlv_has hl) hn rfl (fun ls2 hl2 => ?_)
  refine k p e s m args below meth c E n0 z0 H locs cells slots ls2 R Z C A (zlv_store1 (v := .int x) hl2 ?_) hR K
  intro j w hj hw
  cases j with
  | zero => exact Or.inr ⟨hj, by omega, fun q => by omega⟩
  | succ j =>
    cases j with
    | zero => exact Or.inr ⟨hj, by omega, fun q => by omega⟩
    | succ j =>
      cases j with
      | zero => exact Or.inr ⟨hj, by omega, fun q => by omega⟩
      | succ j =>
        cases j with
        | zero => exact absurd (Option.some.inj hj).symm hw
        | succ j =>
          cases j with
          | zero => exact Or.inl ⟨rfl, (Option.some.inj hj).symm⟩
          | succ j =>
            exact Or.inr ⟨hj, by omega, fun q => by omega⟩
theorem z_astore_4 {x0 x1 x2 x3 : Value} {y : Value} {t : List Value} {x : Nat} (hd : decode M.2.1 pc = .ok (.astore 4, 2)) (hn : 4 < M.2.2.1) (hc : x3.category = 1) (k : zW l M N S (pc + 2) (x0 :: x1 :: x2 :: x3 :: .ref x :: t) st h Q) : zW l M N S pc (x0 :: x1 :: x2 :: x3 :: y :: t) (.ref x :: st) h Q := by
  intro p e s m args below meth c E n0 z0 H locs cells slots ls R Z C A hl hR K
  refine lv_astore C.1 C.2.1 hd (zlv_has hl) hn rfl (fun ls2 hl2 => ?_)
  refine k p e s m args below meth c E n0 z0 H locs cells slots ls2 R Z C A (zlv_store1 (v := .ref x) hl2 ?_) hR K
  intro j w hj hw
  cases j with
  | zero => exact Or.inr ⟨hj, by omega, fun q => by omega⟩
  | succ j =>
    cases j with
    | zero => exact Or.inr ⟨hj, by omega, fun q => by omega⟩
    | succ j =>
      cases j with
      | zero => exact Or.inr ⟨hj, by omega, fun q => by omega⟩
      | succ j =>
        cases j with
        | zero => exact Or.inr ⟨hj, by omega, fun _ => (Option.some.inj hj) ▸ hc⟩
        | succ j =>
          cases j with
          | zero => exact Or.inl ⟨rfl, (Option.some.inj hj).symm⟩
          | succ j =>
            exact Or.inr ⟨hj, by omega, fun q => by omega⟩
theorem z_astoreK_4 {x0 x1 x2 x3 : Value} {y : Value} {t : List Value} {x : Nat} (hd : decode M.2.1 pc = .ok (.astore 4, 2)) (hn : 4 < M.2.2.1) (k : zW l M N S (pc + 2) (x0 :: x1 :: x2 :: zno :: .ref x :: t) st h Q) : zW l M N S pc (x0 :: x1 :: x2 :: x3 :: y :: t) (.ref x :: st) h Q := by
  intro p e s m args below meth c E n0 z0 H locs cells slots ls R Z C A hl hR K
  refine lv_astore C.1 C.2.1 hd (zlv_has hl) hn rfl (fun ls2 hl2 => ?_)
  refine k p e s m args below meth c E n0 z0 H locs cells slots ls2 R Z C A (zlv_store1 (v := .ref x) hl2 ?_) hR K
  intro j w hj hw
  cases j with
  | zero => exact Or.inr ⟨hj, by omega, fun q => by omega⟩
  | succ j =>
    cases j with
    | zero => exact Or.inr ⟨hj, by omega, fun q => by omega⟩
    | succ j =>
      cases j with
      | zero => exact Or.inr ⟨hj, by omega, fun q => by omega⟩
      | succ j =>
        cases j with
        | zero => exact absurd (Option.some.inj hj).symm hw
        | succ j =>
          cases j with
          | zero => exact Or.inl ⟨rfl, (Option.some.inj hj).symm⟩
          | succ j =>
            exact Or.inr ⟨hj, by omega, fun q => by omega⟩
theorem z_lstore_4 {x0 x1 x2 x3 : Value} {y y2 : Value} {t : List Value} {x : Int64} (hd : decode M.2.1 pc = .ok (.lstore 4, 2)) (hn : 5 < M.2.2.1) (hc : x3.category = 1) (k : zW l M N S (pc + 2) (x0 :: x1 :: x2 :: x3 :: .long x :: zno :: t) st h Q) : zW l M N S pc (x0 :: x1 :: x2 :: x3 :: y :: y2 :: t) (.long x :: st) h Q := by
  intro p e s m args below meth c E n0 z0 H locs cells slots ls R Z C A hl hR K
  refine lv_lstore C.1 C.2.1 hd (zlv_has hl) hn rfl (fun ls2 hl2 => ?_)
  refine k p e s m args below meth c E n0 z0 H locs cells slots ls2 R Z C A (zlv_store2 (v := .long x) hl2 ?_) hR K
  intro j w hj hw
  cases j with
  | zero => exact Or.inr ⟨hj, by omega, by omega, fun q => by omega⟩
  | succ j =>
    cases j with
    | zero => exact Or.inr ⟨hj, by omega, by omega, fun q => by omega⟩
    | succ j =>
      cases j with
      | zero => exact Or.inr ⟨hj, by omega, by omega, fun q => by omega⟩
      | succ j =>
        cases j with
        | zero => exact Or.inr ⟨hj, by omega, by omega, fun _ => (Option.some.inj hj) ▸ hc⟩
        | succ j =>
          cases j with
          | zero => exact Or.inl ⟨rfl, (Option.some.inj hj).symm⟩
          | succ j =>
            cases j with
            | zero => exact absurd (Option.some.inj hj).symm hw
            | succ j => exact Or.inr ⟨hj, by omega, by omega, fun q => by omega⟩
theorem z_lstoreK_4 {x0 x1 x2 x3 : Value} {y y2 : Value} {t : List Value} {x : Int64} (hd : decode M.2.1 pc = .ok (.lstore 4, 2)) (hn : 5 < M.2.2.1) (k : zW l M N S (pc + 2) (x0 :: x1 :: x2 :: zno :: .long x :: zno :: t) st h Q) : zW l M N S pc (x0 :: x1 :: x2 :: x3 :: y :: y2 :: t) (.long x :: st) h Q := by
  intro p e s m args below meth c E n0 z0 H locs cells slots ls R Z C A hl hR K
  refine lv_lstore C.1 C.2.1 hd (zlv_has hl) hn rfl (fun ls2 hl2 => ?_)
  refine k p e s m args below meth c E n0 z0 H locs cells slots ls2 R Z C A (zlv_store2 (v := .long x) hl2 ?_) hR K
  intro j w hj hw
  cases j with
  | zero => exact Or.inr ⟨hj, by omega, by omega, fun q => by omega⟩
  | succ j =>
    cases j with
    | zero => exact Or.inr ⟨hj, by omega, by omega, fun q => by omega⟩
    | succ j =>
      cases j with
      | zero => exact Or.inr ⟨hj, by omega, by omega, fun q => by omega⟩
      | succ j =>
        cases j with
        | zero => exact absurd (Option.some.inj hj).symm hw
        | succ j =>
          cases j with
          | zero => exact Or.inl ⟨rfl, (Option.some.inj hj).symm⟩
          | succ j =>
            cases j with
            | zero => exact absurd (Option.some.inj hj).symm hw
            | succ j => exact Or.inr ⟨hj, by omega, by omega, fun q => by omega⟩
theorem z_iinc_4 {x0 x1 x2 x3 : Value} {t : List Value} {x : Int32} {n : Int} (v : Int32) (hd : decode M.2.1 pc = .ok (.iinc 4 n, 3)) (hv : Int32.ofInt n = v) (hn : 4 < M.2.2.1) (hc : x3.category = 1) (k : zW l M N S (pc + 3) (x0 :: x1 :: x2 :: x3 :: .int (x + v) :: t) st h Q) : zW l M N S pc (x0 :: x1 :: x2 :: x3 :: .int x :: t) st h Q := by
  subst hv
  intro p e s m args below meth c E n0 z0 H locs cells slots ls R Z C A hl hR K
  obtain ⟨k0, hk0⟩ := List.getElem?_of_mem (zll_mem.mpr ⟨.int x, (rfl : (x0 :: x1 :: x2 :: x3 :: .int x :: t)[4]? = _), (fun q => Value.noConfusion q), rfl⟩ : (4, ze E (.int x)) ∈ zll E (x0 :: x1 :: x2 :: x3 :: .int x :: t))
  refine lv_iinc C.1 C.2.1 hd (zlv_has hl) hk0 rfl hn rfl (fun ls2 hl2 => ?_)
  refine k p e s m args below meth c E n0 z0 H locs cells slots ls2 R Z C A (zlv_store1 (v := .int (x + Int32.ofInt n)) hl2 ?_) hR K
  intro j w hj hw
  cases j with
  | zero => exact Or.inr ⟨hj, by omega, fun q => by omega⟩
  | succ j =>
    cases j with
    | zero => exact Or.inr ⟨hj, by omega, fun q => by omega⟩
    | succ j =>
      cases j with
      | zero => exact Or.inr ⟨hj, by omega, fun q => by omega⟩
      | succ j =>
        cases j with
        | zero => exact Or.inr ⟨hj, by omega, fun _ => (Option.some.inj hj) ▸ hc⟩
        | succ j =>
          cases j with
          | zero => exact Or.inl ⟨rfl, (Option.some.inj hj).symm⟩
          | succ j => exact Or.inr ⟨hj, by omega, fun q => by omega⟩
theorem z_iload_5 {x0 x1 x2 x3 x4 : Value} {t : List Value} {x : Int32} (hd : decode M.2.1 pc = .ok (.iload 5, 2)) (k : zW l M N S (pc + 2) (x0 :: x1 :: x2 :: x3 :: x4 :: .int x :: t) (.int x :: st) h Q) : zW l M N S pc (x0 :: x1 :: x2 :: x3 :: x4 :: .int x :: t) st h Q := by
  intro p e s m args below meth c E n0 z0 H locs cells slots ls R Z C A hl hR K
  exact lv_iload C.1 C.2.1 hd (hl.2.2 5 (.int x) rfl (fun q => Value.noConfusion q)) (k p e s m args below meth c E n0 z0 H locs cells slots ls R Z C A hl hR K)
theorem z_lload_5 {x0 x1 x2 x3 x4 : Value} {t : List Value} {x : Int64} (hd : decode M.2.1 pc = .ok (.lload 5, 2)) (k : zW l M N S (pc + 2) (x0 :: x1 :: x2 :: x3 :: x4 :: .long x :: t) (.long x :: st) h Q) : zW l M N S pc (x0 :: x1 :: x2 :: x3 :: x4 :: .long x :: t) st h Q := by
  intro p e s m args below meth c E n0 z0 H locs cells slots ls R Z C A hl hR K
  exact lv_lload C.1 C.2.1 hd (hl.2.2 5 (.long x) rfl (fun q => Value.noConfusion q)) (k p e s m args below meth c E n0 z0 H locs cells slots ls R Z C A hl hR K)
theorem z_aload_5 {x0 x1 x2 x3 x4 : Value} {t : List Value} {x : Nat} (hd : decode M.2.1 pc = .ok (.aload 5, 2)) (k : zW l M N S (pc + 2) (x0 :: x1 :: x2 :: x3 :: x4 :: .ref x :: t) (.ref x :: st) h Q) : zW l M N S pc (x0 :: x1 :: x2 :: x3 :: x4 :: .ref x :: t) st h Q := by
  intro p e s m args below meth c E n0 z0 H locs cells slots ls R Z C A hl hR K
  exact lv_aload C.1 C.2.1 hd (hl.2.2 5 (.ref x) rfl (fun q => Value.noConfusion q)) (k p e s m args below meth c E n0 z0 H locs cells slots ls R Z C A hl hR K)
theorem z_istore_5 {x0 x1 x2 x3 x4 : Value} {y : Value} {t : List Value} {x : Int32} (hd : decode M.2.1 pc = .ok (.istore 5, 2)) (hn : 5 < M.2.2.1) (hc : x4.category = 1) (k : zW l M N S (pc + 2) (x0 :: x1 :: x2 :: x3 :: x4 :: .int x :: t) st h Q) : zW l M N S pc (x0 :: x1 :: x2 :: x3 :: x4 :: y :: t) (.int x :: st) h Q := by
  intro p e s m args below meth c E n0 z0 H locs cells slots ls R Z C A hl hR K
  refine lv_istore C.1 C.2.1 hd (zlv_has hl) hn rfl (fun ls2 hl2 => ?_)
  refine k p e s m args below meth c E n0 z0 H locs cells slots ls2 R Z C A (zlv_store1 (v := .int x) hl2 ?_) hR K
  intro j w hj hw
  cases j with
  | zero => exact Or.inr ⟨hj, by omega, fun q => by omega⟩
  | succ j =>
    cases j with
    | zero => exact Or.inr ⟨hj, by omega, fun q => by omega⟩
    | succ j =>
      cases j with
      | zero => exact Or.inr ⟨hj, by omega, fun q => by omega⟩
      | succ j =>
        cases j with
        | zero => exact Or.inr ⟨hj, by omega, fun q => by omega⟩
        | succ j =>
          cases j with
          | zero => exact Or.inr ⟨hj, by omega, fun _ => (Option.some.inj hj) ▸ hc⟩
          | succ j =>
            cases j with
            | zero => exact Or.inl ⟨rfl, (Option.some.inj hj).symm⟩
            | succ j =>
              exact Or.inr ⟨hj, by omega, fun q => by omega⟩
theorem z_istoreK_5 {x0 x1 x2 x3 x4 : Value} {y : Value} {t : List Value} {x : Int32} (hd : decode M.2.1 pc = .ok (.istore 5, 2)) (hn : 5 < M.2.2.1) (k : zW l M N S (pc + 2) (x0 :: x1 :: x2 :: x3 :: zno :: .int x :: t) st h Q) : zW l M N S pc (x0 :: x1 :: x2 :: x3 :: x4 :: y :: t) (.int x :: st) h Q := by
  intro p e s m args below meth c E n0 z0 H locs cells slots ls R Z C A hl hR K
  refine lv_istore C.1 C.2.1 hd (zlv_has hl) hn rfl (fun ls2 hl2 => ?_)
  refine k p e s m args below meth c E n0 z0 H locs cells slots ls2 R Z C A (zlv_store1 (v := .int x) hl2 ?_) hR K
  intro j w hj hw
  cases j with
  | zero => exact Or.inr ⟨hj, by omega, fun q => by omega⟩
  | succ j =>
    cases j with
    | zero => exact Or.inr ⟨hj, by omega, fun q => by omega⟩
    | succ j =>
      cases j with
      | zero => exact Or.inr ⟨hj, by omega, fun q => by omega⟩
      | succ j =>
        cases j with
        | zero => exact Or.inr ⟨hj, by omega, fun q => by omega⟩
        | succ j =>
          cases j with
          | zero => exact absurd (Option.some.inj hj).symm hw
          | succ j =>
            cases j with
            | zero => exact Or.inl ⟨rfl, (Option.some.inj hj).symm⟩
            | succ j =>
              exact Or.inr ⟨hj, by omega, fun q => by omega⟩
theorem z_astore_5 {x0 x1 x2 x3 x4 : Value} {y : Value} {t : List Value} {x : Nat} (hd : decode M.2.1 pc = .ok (.astore 5, 2)) (hn : 5 < M.2.2.1) (hc : x4.category = 1) (k : zW l M N S (pc + 2) (x0 :: x1 :: x2 :: x3 :: x4 :: .ref x :: t) st h Q) : zW l M N S pc (x0 :: x1 :: x2 :: x3 :: x4 :: y :: t) (.ref x :: st) h Q := by
  intro p e s m args below meth c E n0 z0 H locs cells slots ls R Z C A hl hR K
  refine lv_astore C.1 C.2.1 hd (zlv_has hl) hn rfl (fun ls2 hl2 => ?_)
  refine k p e s m args below meth c E n0 z0 H locs cells slots ls2 R Z C A (zlv_store1 (v := .ref x) hl2 ?_) hR K
  intro j w hj hw
  cases j with
  | zero => exact Or.inr ⟨hj, by omega, fun q => by omega⟩
  | succ j =>
    cases j with
    | zero => exact Or.inr ⟨hj, by omega, fun q => by omega⟩
    | succ j =>
      cases j with
      | zero => exact Or.inr ⟨hj, by omega, fun q => by omega⟩
      | succ j =>
        cases j with
        | zero => exact Or.inr ⟨hj, by omega, fun q => by omega⟩
        | succ j =>
          cases j with
          | zero => exact Or.inr ⟨hj, by omega, fun _ => (Option.some.inj hj) ▸ hc⟩
          | succ j =>
            cases j with
            | zero => exact Or.inl ⟨rfl, (Option.some.inj hj).symm⟩
            | succ j =>
              exact Or.inr ⟨hj, by omega, fun q => by omega⟩
theorem z_astoreK_5 {x0 x1 x2 x3 x4 : Value} {y : Value} {t : List Value} {x : Nat} (hd : decode M.2.1 pc = .ok (.astore 5, 2)) (hn : 5 < M.2.2.1) (k : zW l M N S (pc + 2) (x0 :: x1 :: x2 :: x3 :: zno :: .ref x :: t) st h Q) : zW l M N S pc (x0 :: x1 :: x2 :: x3 :: x4 :: y :: t) (.ref x :: st) h Q := by
  intro p e s m args below meth c E n0 z0 H locs cells slots ls R Z C A hl hR K
  refine lv_astore C.1 C.2.1 hd (zlv_has hl) hn rfl (fun ls2 hl2 => ?_)
  refine k p e s m args below meth c E n0 z0 H locs cells slots ls2 R Z C A (zlv_store1 (v := .ref x) hl2 ?_) hR K
  intro j w hj hw
  cases j with
  | zero => exact Or.inr ⟨hj, by omega, fun q => by omega⟩
  | succ j =>
    cases j with
    | zero => exact Or.inr ⟨hj, by omega, fun q => by omega⟩
    | succ j =>
      cases j with
      | zero => exact Or.inr ⟨hj, by omega, fun q => by omega⟩
      | succ j =>
        cases j with
        | zero => exact Or.inr ⟨hj, by omega, fun q => by omega⟩
        | succ j =>
          cases j with
          | zero => exact absurd (Option.some.inj hj).symm hw
          | succ j =>
            cases j with
            | zero => exact Or.inl ⟨rfl, (Option.some.inj hj).symm⟩
            | succ j =>
              exact Or.inr ⟨hj, by omega, fun q => by omega⟩
theorem z_lstore_5 {x0 x1 x2 x3 x4 : Value} {y y2 : Value} {t : List Value} {x : Int64} (hd : decode M.2.1 pc = .ok (.lstore 5, 2)) (hn : 6 < M.2.2.1) (hc : x4.category = 1) (k : zW l M N S (pc + 2) (x0 :: x1 :: x2 :: x3 :: x4 :: .long x :: zno :: t) st h Q) : zW l M N S pc (x0 :: x1 :: x2 :: x3 :: x4 :: y :: y2 :: t) (.long x :: st) h Q := by
  intro p e s m args below meth c E n0 z0 H locs cells slots ls R Z C A hl hR K
  refine lv_lstore C.1 C.2.1 hd (zlv_has hl) hn rfl (fun ls2 hl2 => ?_)
  refine k p e s m args below meth c E n0 z0 H locs cells slots ls2 R Z C A (zlv_store2 (v := .long x) hl2 ?_) hR K
  intro j w hj hw
  cases j with
  | zero => exact Or.inr ⟨hj, by omega, by omega, fun q => by omega⟩
  | succ j =>
    cases j with
    | zero => exact Or.inr ⟨hj, by omega, by omega, fun q => by omega⟩
    | succ j =>
      cases j with
      | zero => exact Or.inr ⟨hj, by omega, by omega, fun q => by omega⟩
      | succ j =>
        cases j with
        | zero => exact Or.inr ⟨hj, by omega, by omega, fun q => by omega⟩
        | succ j =>
          cases j with
          | zero => exact Or.inr ⟨hj, by omega, by omega, fun _ => (Option.some.inj hj) ▸ hc⟩
          | succ j =>
            cases j with
            | zero => exact Or.inl ⟨rfl, (Option.some.inj hj).symm⟩
            | succ j =>
              cases j with
              | zero => exact absurd (Option.some.inj hj).symm hw
              | succ j => exact Or.inr ⟨hj, by omega, by omega, fun q => by omega⟩
theorem z_lstoreK_5 {x0 x1 x2 x3 x4 : Value} {y y2 : Value} {t : List Value} {x : Int64} (hd : decode M.2.1 pc = .ok (.lstore 5, 2)) (hn : 6 < M.2.2.1) (k : zW l M N S (pc + 2) (x0 :: x1 :: x2 :: x3 :: zno :: .long x :: zno :: t) st h Q) : zW l M N S pc (x0 :: x1 :: x2 :: x3 :: x4 :: y :: y2 :: t) (.long x :: st) h Q := by
  intro p e s m args below meth c E n0 z0 H locs cells slots ls R Z C A hl hR K
  refine lv_lstore C.1 C.2.1 hd (zlv_has hl) hn rfl (fun ls2 hl2 => ?_)
  refine k p e s m args below meth c E n0 z0 H locs cells slots ls2 R Z C A (zlv_store2 (v := .long x) hl2 ?_) hR K
  intro j w hj hw
  cases j with
  | zero => exact Or.inr ⟨hj, by omega, by omega, fun q => by omega⟩
  | succ j =>
    cases j with
    | zero => exact Or.inr ⟨hj, by omega, by omega, fun q => by omega⟩
    | succ j =>
      cases j with
      | zero => exact Or.inr ⟨hj, by omega, by omega, fun q => by omega⟩
      | succ j =>
        cases j with
        | zero => exact Or.inr ⟨hj, by omega, by omega, fun q => by omega⟩
        | succ j =>
          cases j with
          | zero => exact absurd (Option.some.inj hj).symm hw
          | succ j =>
            cases j with
            | zero => exact Or.inl ⟨rfl, (Option.some.inj hj).symm⟩
            | succ j =>
              cases j with
              | zero => exact absurd (Option.some.inj hj).symm hw
              | succ j => exact Or.inr ⟨hj, by omega, by omega, fun q => by omega⟩
theorem z_iinc_5 {x0 x1 x2 x3 x4 : Value} {t : List Value} {x : Int32} {n : Int} (v : Int32) (hd : decode M.2.1 pc = .ok (.iinc 5 n, 3)) (hv : Int32.ofInt n = v) (hn : 5 < M.2.2.1) (hc : x4.category = 1) (k : zW l M N S (pc + 3) (x0 :: x1 :: x2 :: x3 :: x4 :: .int (x + v) :: t) st h Q) : zW l M N S pc (x0 :: x1 :: x2 :: x3 :: x4 :: .int x :: t) st h Q := by
  subst hv
  intro p e s m args below meth c E n0 z0 H locs cells slots ls R Z C A hl hR K
  obtain ⟨k0, hk0⟩ := List.getElem?_of_mem (zll_mem.mpr ⟨.int x, (rfl : (x0 :: x1 :: x2 :: x3 :: x4 :: .int x :: t)[5]? = _), (fun q => Value.noConfusion q), rfl⟩ : (5, ze E (.int x)) ∈ zll E (x0 :: x1 :: x2 :: x3 :: x4 :: .int x :: t))
  refine lv_iinc C.1 C.2.1 hd (zlv_has hl) hk0 rfl hn rfl (fun ls2 hl2 => ?_)
  refine k p e s m args below meth c E n0 z0 H locs cells slots ls2 R Z C A (zlv_store1 (v := .int (x + Int32.ofInt n)) hl2 ?_) hR K
  intro j w hj hw
  cases j with
  | zero => exact Or.inr ⟨hj, by omega, fun q => by omega⟩
  | succ j =>
    cases j with
    | zero => exact Or.inr ⟨hj, by omega, fun q => by omega⟩
    | succ j =>
      cases j with
      | zero => exact Or.inr ⟨hj, by omega, fun q => by omega⟩
      | succ j =>
        cases j with
        | zero => exact Or.inr ⟨hj, by omega, fun q => by omega⟩
        | succ j =>
          cases j with
          | zero => exact Or.inr ⟨hj, by omega, fun _ => (Option.some.inj hj) ▸ hc⟩
          | succ j =>
            cases j with
            | zero => exact Or.inl ⟨rfl, (Option.some.inj hj).symm⟩
            | succ j => exact Or.inr ⟨hj, by omega, fun q => by omega⟩
theorem z_iload_6 {x0 x1 x2 x3 x4 x5 : Value} {t : List Value} {x : Int32} (hd : decode M.2.1 pc = .ok (.iload 6, 2)) (k : zW l M N S (pc + 2) (x0 :: x1 :: x2 :: x3 :: x4 :: x5 :: .int x :: t) (.int x :: st) h Q) : zW l M N S pc (x0 :: x1 :: x2 :: x3 :: x4 :: x5 :: .int x :: t) st h Q := by
  intro p e s m args below meth c E n0 z0 H locs cells slots ls R Z C A hl hR K
  exact lv_iload C.1 C.2.1 hd (hl.2.2 6 (.int x) rfl (fun q => Value.noConfusion q)) (k p e s m args below meth c E n0 z0 H locs cells slots ls R Z C A hl hR K)
theorem z_lload_6 {x0 x1 x2 x3 x4 x5 : Value} {t : List Value} {x : Int64} (hd : decode M.2.1 pc = .ok (.lload 6, 2)) (k : zW l M N S (pc + 2) (x0 :: x1 :: x2 :: x3 :: x4 :: x5 :: .long x :: t) (.long x :: st) h Q) : zW l M N S pc (x0 :: x1 :: x2 :: x3 :: x4 :: x5 :: .long x :: t) st h Q := by
  intro p e s m args below meth c E n0 z0 H locs cells slots ls R Z C A hl hR K
  exact lv_lload C.1 C.2.1 hd (hl.2.2 6 (.long x) rfl (fun q => Value.noConfusion q)) (k p e s m args below meth c E n0 z0 H locs cells slots ls R Z C A hl hR K)
theorem z_aload_6 {x0 x1 x2 x3 x4 x5 : Value} {t : List Value} {x : Nat} (hd : decode M.2.1 pc = .ok (.aload 6, 2)) (k : zW l M N S (pc + 2) (x0 :: x1 :: x2 :: x3 :: x4 :: x5 :: .ref x :: t) (.ref x :: st) h Q) : zW l M N S pc (x0 :: x1 :: x2 :: x3 :: x4 :: x5 :: .ref x :: t) st h Q := by
  intro p e s m args below meth c E n0 z0 H locs cells slots ls R Z C A hl hR K
  exact lv_aload C.1 C.2.1 hd (hl.2.2 6 (.ref x) rfl (fun q => Value.noConfusion q)) (k p e s m args below meth c E n0 z0 H locs cells slots ls R Z C A hl hR K)
theorem z_istore_6 {x0 x1 x2 x3 x4 x5 : Value} {y : Value} {t : List Value} {x : Int32} (hd : decode M.2.1 pc = .ok (.istore 6, 2)) (hn : 6 < M.2.2.1) (hc : x5.category = 1) (k : zW l M N S (pc + 2) (x0 :: x1 :: x2 :: x3 :: x4 :: x5 :: .int x :: t) st h Q) : zW l M N S pc (x0 :: x1 :: x2 :: x3 :: x4 :: x5 :: y :: t) (.int x :: st) h Q := by
  intro p e s m args below meth c E n0 z0 H locs cells slots ls R Z C A hl hR K
  refine lv_istore C.1 C.2.1 hd (zlv_has hl) hn rfl (fun ls2 hl2 => ?_)
  refine k p e s m args below meth c E n0 z0 H locs cells slots ls2 R Z C A (zlv_store1 (v := .int x) hl2 ?_) hR K
  intro j w hj hw
  cases j with
  | zero => exact Or.inr ⟨hj, by omega, fun q => by omega⟩
  | succ j =>
    cases j with
    | zero => exact Or.inr ⟨hj, by omega, fun q => by omega⟩
    | succ j =>
      cases j with
      | zero => exact Or.inr ⟨hj, by omega, fun q => by omega⟩
      | succ j =>
        cases j with
        | zero => exact Or.inr ⟨hj, by omega, fun q => by omega⟩
        | succ j =>
          cases j with
          | zero => exact Or.inr ⟨hj, by omega, fun q => by omega⟩
          | succ j =>
            cases j with
            | zero => exact Or.inr ⟨hj, by omega, fun _ => (Option.some.inj hj) ▸ hc⟩
            | succ j =>
              cases j with
              | zero => exact Or.inl ⟨rfl, (Option.some.inj hj).symm⟩
              | succ j =>
                exact Or.inr ⟨hj, by omega, fun q => by omega⟩
theorem z_istoreK_6 {x0 x1 x2 x3 x4 x5 : Value} {y : Value} {t : List Value} {x : Int32} (hd : decode M.2.1 pc = .ok (.istore 6, 2)) (hn : 6 < M.2.2.1) (k : zW l M N S (pc + 2) (x0 :: x1 :: x2 :: x3 :: x4 :: zno :: .int x :: t) st h Q) : zW l M N S pc (x0 :: x1 :: x2 :: x3 :: x4 :: x5 :: y :: t) (.int x :: st) h Q := by
  intro p e s m args below meth c E n0 z0 H locs cells slots ls R Z C A hl hR K
  refine lv_istore C.1 C.2.1 hd (zlv_has hl) hn rfl (fun ls2 hl2 => ?_)
  refine k p e s m args below meth c E n0 z0 H locs cells slots ls2 R Z C A (zlv_store1 (v := .int x) hl2 ?_) hR K
  intro j w hj hw
  cases j with
  | zero => exact Or.inr ⟨hj, by omega, fun q => by omega⟩
  | succ j =>
    cases j with
    | zero => exact Or.inr ⟨hj, by omega, fun q => by omega⟩
    | succ j =>
      cases j with
      | zero => exact Or.inr ⟨hj, by omega, fun q => by omega⟩
      | succ j =>
        cases j with
        | zero => exact Or.inr ⟨hj, by omega, fun q => by omega⟩
        | succ j =>
          cases j with
          | zero => exact Or.inr ⟨hj, by omega, fun q => by omega⟩
          | succ j =>
            cases j with
            | zero => exact absurd (Option.some.inj hj).symm hw
            | succ j =>
              cases j with
              | zero => exact Or.inl ⟨rfl, (Option.some.inj hj).symm⟩
              | succ j =>
                exact Or.inr ⟨hj, by omega, fun q => by omega⟩
theorem z_astore_6 {x0 x1 x2 x3 x4 x5 : Value} {y : Value} {t : List Value} {x : Nat} (hd : decode M.2.1 pc = .ok (.astore 6, 2)) (hn : 6 < M.2.2.1) (hc : x5.category = 1) (k : zW l M N S (pc + 2) (x0 :: x1 :: x2 :: x3 :: x4 :: x5 :: .ref x :: t) st h Q) : zW l M N S pc (x0 :: x1 :: x2 :: x3 :: x4 :: x5 :: y :: t) (.ref x :: st) h Q := by
  intro p e s m args below meth c E n0 z0 H locs cells slots ls R Z C A hl hR K
  refine lv_astore C.1 C.2.1 hd (zlv_has hl) hn rfl (fun ls2 hl2 => ?_)
  refine k p e s m args below meth c E n0 z0 H locs cells slots ls2 R Z C A (zlv_store1 (v := .ref x) hl2 ?_) hR K
  intro j w hj hw
  cases j with
  | zero => exact Or.inr ⟨hj, by omega, fun q => by omega⟩
  | succ j =>
    cases j with
    | zero => exact Or.inr ⟨hj, by omega, fun q => by omega⟩
    | succ j =>
      cases j with
      | zero => exact Or.inr ⟨hj, by omega, fun q => by omega⟩
      | succ j =>
        cases j with
        | zero => exact Or.inr ⟨hj, by omega, fun q => by omega⟩
        | succ j =>
          cases j with
          | zero => exact Or.inr ⟨hj, by omega, fun q => by omega⟩
          | succ j =>
            cases j with
            | zero => exact Or.inr ⟨hj, by omega, fun _ => (Option.some.inj hj) ▸ hc⟩
            | succ j =>
              cases j with
              | zero => exact Or.inl ⟨rfl, (Option.some.inj hj).symm⟩
              | succ j =>
                exact Or.inr ⟨hj, by omega, fun q => by omega⟩
theorem z_astoreK_6 {x0 x1 x2 x3 x4 x5 : Value} {y : Value} {t : List Value} {x : Nat} (hd : decode M.2.1 pc = .ok (.astore 6, 2)) (hn : 6 < M.2.2.1) (k : zW l M N S (pc + 2) (x0 :: x1 :: x2 :: x3 :: x4 :: zno :: .ref x :: t) st h Q) : zW l M N S pc (x0 :: x1 :: x2 :: x3 :: x4 :: x5 :: y :: t) (.ref x :: st) h Q := by
  intro p e s m args below meth c E n0 z0 H locs cells slots ls R Z C A hl hR K
  refine lv_astore C.1 C.2.1 hd (zlv_has hl) hn rfl (fun ls2 hl2 => ?_)
  refine k p e s m args below meth c E n0 z0 H locs cells slots ls2 R Z C A (zlv_store1 (v := .ref x) hl2 ?_) hR K
  intro j w hj hw
  cases j with
  | zero => exact Or.inr ⟨hj, by omega, fun q => by omega⟩
  | succ j =>
    cases j with
    | zero => exact Or.inr ⟨hj, by omega, fun q => by omega⟩
    | succ j =>
      cases j with
      | zero => exact Or.inr ⟨hj, by omega, fun q => by omega⟩
      | succ j =>
        cases j with
        | zero => exact Or.inr ⟨hj, by omega, fun q => by omega⟩
        | succ j =>
          cases j with
          | zero => exact Or.inr ⟨hj, by omega, fun q => by omega⟩
          | succ j =>
            cases j with
            | zero => exact absurd (Option.some.inj hj).symm hw
            | succ j =>
              cases j with
              | zero => exact Or.inl ⟨rfl, (Option.some.inj hj).symm⟩
              | succ j =>
                exact Or.inr ⟨hj, by omega, fun q => by omega⟩
theorem z_lstore_6 {x0 x1 x2 x3 x4 x5 : Value} {y y2 : Value} {t : List Value} {x : Int64} (hd : decode M.2.1 pc = .ok (.lstore 6, 2)) (hn : 7 < M.2.2.1) (hc : x5.category = 1) (k : zW l M N S (pc + 2) (x0 :: x1 :: x2 :: x3 :: x4 :: x5 :: .long x :: zno :: t) st h Q) : zW l M N S pc (x0 :: x1 :: x2 :: x3 :: x4 :: x5 :: y :: y2 :: t) (.long x :: st) h Q := by
  intro p e s m args below meth c E n0 z0 H locs cells slots ls R Z C A hl hR K
  refine lv_lstore C.1 C.2.1 hd (zlv_has hl) hn rfl (fun ls2 hl2 => ?_)
  refine k p e s m args below meth c E n0 z0 H locs cells slots ls2 R Z C A (zlv_store2 (v := .long x) hl2 ?_) hR K
  intro j w hj hw
  cases j with
  | zero => exact Or.inr ⟨hj, by omega, by omega, fun q => by omega⟩
  | succ j =>
    cases j with
    | zero => exact Or.inr ⟨hj, by omega, by omega, fun q => by omega⟩
    | succ j =>
      cases j with
      | zero => exact Or.inr ⟨hj, by omega, by omega, fun q => by omega⟩
      | succ j =>
        cases j with
        | zero => exact Or.inr ⟨hj, by omega, by omega, fun q => by omega⟩
        | succ j =>
          cases j with
          | zero => exact Or.inr ⟨hj, by omega, by omega, fun q => by omega⟩
          | succ j =>
            cases j with
            | zero => exact Or.inr ⟨hj, by omega, by omega, fun _ => (Option.some.inj hj) ▸ hc⟩
            | succ j =>
              cases j with
              | zero => exact Or.inl ⟨rfl, (Option.some.inj hj).symm⟩
              | succ j =>
                cases j with
                | zero => exact absurd (Option.some.inj hj).symm hw
                | succ j => exact Or.inr ⟨hj, by omega, by omega, fun q => by omega⟩
theorem z_lstoreK_6 {x0 x1 x2 x3 x4 x5 : Value} {y y2 : Value} {t : List Value} {x : Int64} (hd : decode M.2.1 pc = .ok (.lstore 6, 2)) (hn : 7 < M.2.2.1) (k : zW l M N S (pc + 2) (x0 :: x1 :: x2 :: x3 :: x4 :: zno :: .long x :: zno :: t) st h Q) : zW l M N S pc (x0 :: x1 :: x2 :: x3 :: x4 :: x5 :: y :: y2 :: t) (.long x :: st) h Q := by
  intro p e s m args below meth c E n0 z0 H locs cells slots ls R Z C A hl hR K
  refine lv_lstore C.1 C.2.1 hd (zlv_has hl) hn rfl (fun ls2 hl2 => ?_)
  refine k p e s m args below meth c E n0 z0 H locs cells slots ls2 R Z C A (zlv_store2 (v := .long x) hl2 ?_) hR K
  intro j w hj hw
  cases j with
  | zero => exact Or.inr ⟨hj, by omega, by omega, fun q => by omega⟩
  | succ j =>
    cases j with
    | zero => exact Or.inr ⟨hj, by omega, by omega, fun q => by omega⟩
    | succ j =>
      cases j with
      | zero => exact Or.inr ⟨hj, by omega, by omega, fun q => by omega⟩
      | succ j =>
        cases j with
        | zero => exact Or.inr ⟨hj, by omega, by omega, fun q => by omega⟩
        | succ j =>
          cases j with
          | zero => exact Or.inr ⟨hj, by omega, by omega, fun q => by omega⟩
          | succ j =>
            cases j with
            | zero => exact absurd (Option.some.inj hj).symm hw
            | succ j =>
              cases j with
              | zero => exact Or.inl ⟨rfl, (Option.some.inj hj).symm⟩
              | succ j =>
                cases j with
                | zero => exact absurd (Option.some.inj hj).symm hw
                | succ j => exact Or.inr ⟨hj, by omega, by omega, fun q => by omega⟩
theorem z_iinc_6 {x0 x1 x2 x3 x4 x5 : Value} {t : List Value} {x : Int32} {n : Int} (v : Int32) (hd : decode M.2.1 pc = .ok (.iinc 6 n, 3)) (hv : Int32.ofInt n = v) (hn : 6 < M.2.2.1) (hc : x5.category = 1) (k : zW l M N S (pc + 3) (x0 :: x1 :: x2 :: x3 :: x4 :: x5 :: .int (x + v) :: t) st h Q) : zW l M N S pc (x0 :: x1 :: x2 :: x3 :: x4 :: x5 :: .int x :: t) st h Q := by
  subst hv
  intro p e s m args below meth c E n0 z0 H locs cells slots ls R Z C A hl hR K
  obtain ⟨k0, hk0⟩ := List.getElem?_of_mem (zll_mem.mpr ⟨.int x, (rfl : (x0 :: x1 :: x2 :: x3 :: x4 :: x5 :: .int x :: t)[6]? = _), (fun q => Value.noConfusion q), rfl⟩ : (6, ze E (.int x)) ∈ zll E (x0 :: x1 :: x2 :: x3 :: x4 :: x5 :: .int x :: t))
  refine lv_iinc C.1 C.2.1 hd (zlv_has hl) hk0 rfl hn rfl (fun ls2 hl2 => ?_)
  refine k p e s m args below meth c E n0 z0 H locs cells slots ls2 R Z C A (zlv_store1 (v := .int (x + Int32.ofInt n)) hl2 ?_) hR K
  intro j w hj hw
  cases j with
  | zero => exact Or.inr ⟨hj, by omega, fun q => by omega⟩
  | succ j =>
    cases j with
    | zero => exact Or.inr ⟨hj, by omega, fun q => by omega⟩
    | succ j =>
      cases j with
      | zero => exact Or.inr ⟨hj, by omega, fun q => by omega⟩
      | succ j =>
        cases j with
        | zero => exact Or.inr ⟨hj, by omega, fun q => by omega⟩
        | succ j =>
          cases j with
          | zero => exact Or.inr ⟨hj, by omega, fun q => by omega⟩
          | succ j =>
            cases j with
            | zero => exact Or.inr ⟨hj, by omega, fun _ => (Option.some.inj hj) ▸ hc⟩
            | succ j =>
              cases j with
              | zero => exact Or.inl ⟨rfl, (Option.some.inj hj).symm⟩
              | succ j => exact Or.inr ⟨hj, by omega, fun q => by omega⟩
theorem z_iload_7 {x0 x1 x2 x3 x4 x5 x6 : Value} {t : List Value} {x : Int32} (hd : decode M.2.1 pc = .ok (.iload 7, 2)) (k : zW l M N S (pc + 2) (x0 :: x1 :: x2 :: x3 :: x4 :: x5 :: x6 :: .int x :: t) (.int x :: st) h Q) : zW l M N S pc (x0 :: x1 :: x2 :: x3 :: x4 :: x5 :: x6 :: .int x :: t) st h Q := by
  intro p e s m args below meth c E n0 z0 H locs cells slots ls R Z C A hl hR K
  exact lv_iload C.1 C.2.1 hd (hl.2.2 7 (.int x) rfl (fun q => Value.noConfusion q)) (k p e s m args below meth c E n0 z0 H locs cells slots ls R Z C A hl hR K)
theorem z_lload_7 {x0 x1 x2 x3 x4 x5 x6 : Value} {t : List Value} {x : Int64} (hd : decode M.2.1 pc = .ok (.lload 7, 2)) (k : zW l M N S (pc + 2) (x0 :: x1 :: x2 :: x3 :: x4 :: x5 :: x6 :: .long x :: t) (.long x :: st) h Q) : zW l M N S pc (x0 :: x1 :: x2 :: x3 :: x4 :: x5 :: x6 :: .long x :: t) st h Q := by
  intro p e s m args below meth c E n0 z0 H locs cells slots ls R Z C A hl hR K
  exact lv_lload C.1 C.2.1 hd (hl.2.2 7 (.long x) rfl (fun q => Value.noConfusion q)) (k p e s m args below meth c E n0 z0 H locs cells slots ls R Z C A hl hR K)
theorem z_aload_7 {x0 x1 x2 x3 x4 x5 x6 : Value} {t : List Value} {x : Nat} (hd : decode M.2.1 pc = .ok (.aload 7, 2)) (k : zW l M N S (pc + 2) (x0 :: x1 :: x2 :: x3 :: x4 :: x5 :: x6 :: .ref x :: t) (.ref x :: st) h Q) : zW l M N S pc (x0 :: x1 :: x2 :: x3 :: x4 :: x5 :: x6 :: .ref x :: t) st h Q := by
  intro p e s m args below meth c E n0 z0 H locs cells slots ls R Z C A hl hR K
  exact lv_aload C.1 C.2.1 hd (hl.2.2 7 (.ref x) rfl (fun q => Value.noConfusion q)) (k p e s m args below meth c E n0 z0 H locs cells slots ls R Z C A hl hR K)
theorem z_istore_7 {x0 x1 x2 x3 x4 x5 x6 : Value} {y : Value} {t : List Value} {x : Int32} (hd : decode M.2.1 pc = .ok (.istore 7, 2)) (hn : 7 < M.2.2.1) (hc : x6.category = 1) (k : zW l M N S (pc + 2) (x0 :: x1 :: x2 :: x3 :: x4 :: x5 :: x6 :: .int x :: t) st h Q) : zW l M N S pc (x0 :: x1 :: x2 :: x3 :: x4 :: x5 :: x6 :: y :: t) (.int x :: st) h Q := by
  intro p e s m args below meth c E n0 z0 H locs cells slots ls R Z C A hl hR K
  refine lv_istore C.1 C.2.1 hd (zlv_has hl) hn rfl (fun ls2 hl2 => ?_)
  refine k p e s m args below meth c E n0 z0 H locs cells slots ls2 R Z C A (zlv_store1 (v := .int x) hl2 ?_) hR K
  intro j w hj hw
  cases j with
  | zero => exact Or.inr ⟨hj, by omega, fun q => by omega⟩
  | succ j =>
    cases j with
    | zero => exact Or.inr ⟨hj, by omega, fun q => by omega⟩
    | succ j =>
      cases j with
      | zero => exact Or.inr ⟨hj, by omega, fun q => by omega⟩
      | succ j =>
        cases j with
        | zero => exact Or.inr ⟨hj, by omega, fun q => by omega⟩
        | succ j =>
          cases j with
          | zero => exact Or.inr ⟨hj, by omega, fun q => by omega⟩
          | succ j =>
            cases j with
            | zero => exact Or.inr ⟨hj, by omega, fun q => by omega⟩
            | succ j =>
              cases j with
              | zero => exact Or.inr ⟨hj, by omega, fun _ => (Option.some.inj hj) ▸ hc⟩
              | succ j =>
                cases j with
                | zero => exact Or.inl ⟨rfl, (Option.some.inj hj).symm⟩
                | succ j =>
                  exact Or.inr ⟨hj, by omega, fun q => by omega⟩
theorem z_istoreK_7 {x0 x1 x2 x3 x4 x5 x6 : Value} {y : Value} {t : List Value} {x : Int32} (hd : decode M.2.1 pc = .ok (.istore 7, 2)) (hn : 7 < M.2.2.1) (k : zW l M N S (pc + 2) (x0 :: x1 :: x2 :: x3 :: x4 :: x5 :: zno :: .int x :: t) st h Q) : zW l M N S pc (x0 :: x1 :: x2 :: x3 :: x4 :: x5 :: x6 :: y :: t) (.int x :: st) h Q := by
  intro p e s m args below meth c E n0 z0 H locs cells slots ls R Z C A hl hR K
  refine lv_istore C.1 C.2.1 hd (zlv_has hl) hn rfl (fun ls2 hl2 => ?_)
  refine k p e s m args below meth c E n0 z0 H locs cells slots ls2 R Z C A (zlv_store1 (v := .int x) hl2 ?_) hR K
  intro j w hj hw
  cases j with
  | zero => exact Or.inr ⟨hj, by omega, fun q => by omega⟩
  | succ j =>
    cases j with
    | zero => exact Or.inr ⟨hj, by omega, fun q => by omega⟩
    | succ j =>
      cases j with
      | zero => exact Or.inr ⟨hj, by omega, fun q => by omega⟩
      | succ j =>
        cases j with
        | zero => exact Or.inr ⟨hj, by omega, fun q => by omega⟩
        | succ j =>
          cases j with
          | zero => exact Or.inr ⟨hj, by omega, fun q => by omega⟩
          | succ j =>
            cases j with
            | zero => exact Or.inr ⟨hj, by omega, fun q => by omega⟩
            | succ j =>
              cases j with
              | zero => exact absurd (Option.some.inj hj).symm hw
              | succ j =>
                cases j with
                | zero => exact Or.inl ⟨rfl, (Option.some.inj hj).symm⟩
                | succ j =>
                  exact Or.inr ⟨hj, by omega, fun q => by omega⟩
theorem z_astore_7 {x0 x1 x2 x3 x4 x5 x6 : Value} {y : Value} {t : List Value} {x : Nat} (hd : decode M.2.1 pc = .ok (.astore 7, 2)) (hn : 7 < M.2.2.1) (hc : x6.category = 1) (k : zW l M N S (pc + 2) (x0 :: x1 :: x2 :: x3 :: x4 :: x5 :: x6 :: .ref x :: t) st h Q) : zW l M N S pc (x0 :: x1 :: x2 :: x3 :: x4 :: x5 :: x6 :: y :: t) (.ref x :: st) h Q := by
  intro p e s m args below meth c E n0 z0 H locs cells slots ls R Z C A hl hR K
  refine lv_astore C.1 C.2.1 hd (zlv_has hl) hn rfl (fun ls2 hl2 => ?_)
  refine k p e s m args below meth c E n0 z0 H locs cells slots ls2 R Z C A (zlv_store1 (v := .ref x) hl2 ?_) hR K
  intro j w hj hw
  cases j with
  | zero => exact Or.inr ⟨hj, by omega, fun q => by omega⟩
  | succ j =>
    cases j with
    | zero => exact Or.inr ⟨hj, by omega, fun q => by omega⟩
    | succ j =>
      cases j with
      | zero => exact Or.inr ⟨hj, by omega, fun q => by omega⟩
      | succ j =>
        cases j with
        | zero => exact Or.inr ⟨hj, by omega, fun q => by omega⟩
        | succ j =>
          cases j with
          | zero => exact Or.inr ⟨hj, by omega, fun q => by omega⟩
          | succ j =>
            cases j with
            | zero => exact Or.inr ⟨hj, by omega, fun q => by omega⟩
            | succ j =>
              cases j with
              | zero => exact Or.inr ⟨hj, by omega, fun _ => (Option.some.inj hj) ▸ hc⟩
              | succ j =>
                cases j with
                | zero => exact Or.inl ⟨rfl, (Option.some.inj hj).symm⟩
                | succ j =>
                  exact Or.inr ⟨hj, by omega, fun q => by omega⟩
theorem z_astoreK_7 {x0 x1 x2 x3 x4 x5 x6 : Value} {y : Value} {t : List Value} {x : Nat} (hd : decode M.2.1 pc = .ok (.astore 7, 2)) (hn : 7 < M.2.2.1) (k : zW l M N S (pc + 2) (x0 :: x1 :: x2 :: x3 :: x4 :: x5 :: zno :: .ref x :: t) st h Q) : zW l M N S pc (x0 :: x1 :: x2 :: x3 :: x4 :: x5 :: x6 :: y :: t) (.ref x :: st) h Q := by
  intro p e s m args below meth c E n0 z0 H locs cells slots ls R Z C A hl hR K
  refine lv_astore C.1 C.2.1 hd (zlv_has hl) hn rfl (fun ls2 hl2 => ?_)
  refine k p e s m args below meth c E n0 z0 H locs cells slots ls2 R Z C A (zlv_store1 (v := .ref x) hl2 ?_) hR K
  intro j w hj hw
  cases j with
  | zero => exact Or.inr ⟨hj, by omega, fun q => by omega⟩
  | succ j =>
    cases j with
    | zero => exact Or.inr ⟨hj, by omega, fun q => by omega⟩
    | succ j =>
      cases j with
      | zero => exact Or.inr ⟨hj, by omega, fun q => by omega⟩
      | succ j =>
        cases j with
        | zero => exact Or.inr ⟨hj, by omega, fun q => by omega⟩
        | succ j =>
          cases j with
          | zero => exact Or.inr ⟨hj, by omega, fun q => by omega⟩
          | succ j =>
            cases j with
            | zero => exact Or.inr ⟨hj, by omega, fun q => by omega⟩
            | succ j =>
              cases j with
              | zero => exact absurd (Option.some.inj hj).symm hw
              | succ j =>
                cases j with
                | zero => exact Or.inl ⟨rfl, (Option.some.inj hj).symm⟩
                | succ j =>
                  exact Or.inr ⟨hj, by omega, fun q => by omega⟩
theorem z_lstore_7 {x0 x1 x2 x3 x4 x5 x6 : Value} {y y2 : Value} {t : List Value} {x : Int64} (hd : decode M.2.1 pc = .ok (.lstore 7, 2)) (hn : 8 < M.2.2.1) (hc : x6.category = 1) (k : zW l M N S (pc + 2) (x0 :: x1 :: x2 :: x3 :: x4 :: x5 :: x6 :: .long x :: zno :: t) st h Q) : zW l M N S pc (x0 :: x1 :: x2 :: x3 :: x4 :: x5 :: x6 :: y :: y2 :: t) (.long x :: st) h Q := by
  intro p e s m args below meth c E n0 z0 H locs cells slots ls R Z C A hl hR K
  refine lv_lstore C.1 C.2.1 hd (zlv_has hl) hn rfl (fun ls2 hl2 => ?_)
  refine k p e s m args below meth c E n0 z0 H locs cells slots ls2 R Z C A (zlv_store2 (v := .long x) hl2 ?_) hR K
  intro j w hj hw
  cases j with
  | zero => exact Or.inr ⟨hj, by omega, by omega, fun q => by omega⟩
  | succ j =>
    cases j with
    | zero => exact Or.inr ⟨hj, by omega, by omega, fun q => by omega⟩
    | succ j =>
      cases j with
      | zero => exact Or.inr ⟨hj, by omega, by omega, fun q => by omega⟩
      | succ j =>
        cases j with
        | zero => exact Or.inr ⟨hj, by omega, by omega, fun q => by omega⟩
        | succ j =>
          cases j with
          | zero => exact Or.inr ⟨hj, by omega, by omega, fun q => by omega⟩
          | succ j =>
            cases j with
            | zero => exact Or.inr ⟨hj, by omega, by omega, fun q => by omega⟩
            | succ j =>
              cases j with
              | zero => exact Or.inr ⟨hj, by omega, by omega, fun _ => (Option.some.inj hj) ▸ hc⟩
              | succ j =>
                cases j with
                | zero => exact Or.inl ⟨rfl, (Option.some.inj hj).symm⟩
                | succ j =>
                  cases j with
                  | zero => exact absurd (Option.some.inj hj).symm hw
                  | succ j => exact Or.inr ⟨hj, by omega, by omega, fun q => by omega⟩
theorem z_lstoreK_7 {x0 x1 x2 x3 x4 x5 x6 : Value} {y y2 : Value} {t : List Value} {x : Int64} (hd : decode M.2.1 pc = .ok (.lstore 7, 2)) (hn : 8 < M.2.2.1) (k : zW l M N S (pc + 2) (x0 :: x1 :: x2 :: x3 :: x4 :: x5 :: zno :: .long x :: zno :: t) st h Q) : zW l M N S pc (x0 :: x1 :: x2 :: x3 :: x4 :: x5 :: x6 :: y :: y2 :: t) (.long x :: st) h Q := by
  intro p e s m args below meth c E n0 z0 H locs cells slots ls R Z C A hl hR K
  refine lv_lstore C.1 C.2.1 hd (zlv_has hl) hn rfl (fun ls2 hl2 => ?_)
  refine k p e s m args below meth c E n0 z0 H locs cells slots ls2 R Z C A (zlv_store2 (v := .long x) hl2 ?_) hR K
  intro j w hj hw
  cases j with
  | zero => exact Or.inr ⟨hj, by omega, by omega, fun q => by omega⟩
  | succ j =>
    cases j with
    | zero => exact Or.inr ⟨hj, by omega, by omega, fun q => by omega⟩
    | succ j =>
      cases j with
      | zero => exact Or.inr ⟨hj, by omega, by omega, fun q => by omega⟩
      | succ j =>
        cases j with
        | zero => exact Or.inr ⟨hj, by omega, by omega, fun q => by omega⟩
        | succ j =>
          cases j with
          | zero => exact Or.inr ⟨hj, by omega, by omega, fun q => by omega⟩
          | succ j =>
            cases j with
            | zero => exact Or.inr ⟨hj, by omega, by omega, fun q => by omega⟩
            | succ j =>
              cases j with
              | zero => exact absurd (Option.some.inj hj).symm hw
              | succ j =>
                cases j with
                | zero => exact Or.inl ⟨rfl, (Option.some.inj hj).symm⟩
                | succ j =>
                  cases j with
                  | zero => exact absurd (Option.some.inj hj).symm hw
                  | succ j => exact Or.inr ⟨hj, by omega, by omega, fun q => by omega⟩
theorem z_iinc_7 {x0 x1 x2 x3 x4 x5 x6 : Value} {t : List Value} {x : Int32} {n : Int} (v : Int32) (hd : decode M.2.1 pc = .ok (.iinc 7 n, 3)) (hv : Int32.ofInt n = v) (hn : 7 < M.2.2.1) (hc : x6.category = 1) (k : zW l M N S (pc + 3) (x0 :: x1 :: x2 :: x3 :: x4 :: x5 :: x6 :: .int (x + v) :: t) st h Q) : zW l M N S pc (x0 :: x1 :: x2 :: x3 :: x4 :: x5 :: x6 :: .int x :: t) st h Q := by
  subst hv
  intro p e s m args below meth c E n0 z0 H locs cells slots ls R Z C A hl hR K
  obtain ⟨k0, hk0⟩ := List.getElem?_of_mem (zll_mem.mpr ⟨.int x, (rfl : (x0 :: x1 :: x2 :: x3 :: x4 :: x5 :: x6 :: .int x :: t)[7]? = _), (fun q => Value.noConfusion q), rfl⟩ : (7, ze E (.int x)) ∈ zll E (x0 :: x1 :: x2 :: x3 :: x4 :: x5 :: x6 :: .int x :: t))
  refine lv_iinc C.1 C.2.1 hd (zlv_has hl) hk0 rfl hn rfl (fun ls2 hl2 => ?_)
  refine k p e s m args below meth c E n0 z0 H locs cells slots ls2 R Z C A (zlv_store1 (v := .int (x + Int32.ofInt n)) hl2 ?_) hR K
  intro j w hj hw
  cases j with
  | zero => exact Or.inr ⟨hj, by omega, fun q => by omega⟩
  | succ j =>
    cases j with
    | zero => exact Or.inr ⟨hj, by omega, fun q => by omega⟩
    | succ j =>
      cases j with
      | zero => exact Or.inr ⟨hj, by omega, fun q => by omega⟩
      | succ j =>
        cases j with
        | zero => exact Or.inr ⟨hj, by omega, fun q => by omega⟩
        | succ j =>
          cases j with
          | zero => exact Or.inr ⟨hj, by omega, fun q => by omega⟩
          | succ j =>
            cases j with
            | zero => exact Or.inr ⟨hj, by omega, fun q => by omega⟩
            | succ j =>
              cases j with
              | zero => exact Or.inr ⟨hj, by omega, fun _ => (Option.some.inj hj) ▸ hc⟩
              | succ j =>
                cases j with
                | zero => exact Or.inl ⟨rfl, (Option.some.inj hj).symm⟩
                | succ j => exact Or.inr ⟨hj, by omega, fun q => by omega⟩
theorem z_iload_8 {x0 x1 x2 x3 x4 x5 x6 x7 : Value} {t : List Value} {x : Int32} (hd : decode M.2.1 pc = .ok (.iload 8, 2)) (k : zW l M N S (pc + 2) (x0 :: x1 :: x2 :: x3 :: x4 :: x5 :: x6 :: x7 :: .int x :: t) (.int x :: st) h Q) : zW l M N S pc (x0 :: x1 :: x2 :: x3 :: x4 :: x5 :: x6 :: x7 :: .int x :: t) st h Q := by
  intro p e s m args below meth c E n0 z0 H locs cells slots ls R Z C A hl hR K
  exact lv_iload C.1 C.2.1 hd (hl.2.2 8 (.int x) rfl (fun q => Value.noConfusion q)) (k p e s m args below meth c E n0 z0 H locs cells slots ls R Z C A hl hR K)
theorem z_lload_8 {x0 x1 x2 x3 x4 x5 x6 x7 : Value} {t : List Value} {x : Int64} (hd : decode M.2.1 pc = .ok (.lload 8, 2)) (k : zW l M N S (pc + 2) (x0 :: x1 :: x2 :: x3 :: x4 :: x5 :: x6 :: x7 :: .long x :: t) (.long x :: st) h Q) : zW l M N S pc (x0 :: x1 :: x2 :: x3 :: x4 :: x5 :: x6 :: x7 :: .long x :: t) st h Q := by
  intro p e s m args below meth c E n0 z0 H locs cells slots ls R Z C A hl hR K
  exact lv_lload C.1 C.2.1 hd (hl.2.2 8 (.long x) rfl (fun q => Value.noConfusion q)) (k p e s m args below meth c E n0 z0 H locs cells slots ls R Z C A hl hR K)
theorem z_aload_8 {x0 x1 x2 x3 x4 x5 x6 x7 : Value} {t : List Value} {x : Nat} (hd : decode M.2.1 pc = .ok (.aload 8, 2)) (k : zW l M N S (pc + 2) (x0 :: x1 :: x2 :: x3 :: x4 :: x5 :: x6 :: x7 :: .ref x :: t) (.ref x :: st) h Q) : zW l M N S pc (x0 :: x1 :: x2 :: x3 :: x4 :: x5 :: x6 :: x7 :: .ref x :: t) st h Q := by
  intro p e s m args below meth c E n0 z0 H locs cells slots ls R Z C A hl hR K
  exact lv_aload C.1 C.2.1 hd (hl.2.2 8 (.ref x) rfl (fun q => Value.noConfusion q)) (k p e s m args below meth c E n0 z0 H locs cells slots ls R Z C A hl hR K)
theorem z_istore_8 {x0 x1 x2 x3 x4 x5 x6 x7 : Value} {y : Value} {t : List Value} {x : Int32} (hd : decode M.2.1 pc = .ok (.istore 8, 2)) (hn : 8 < M.2.2.1) (hc : x7.category = 1) (k : zW l M N S (pc + 2) (x0 :: x1 :: x2 :: x3 :: x4 :: x5 :: x6 :: x7 :: .int x :: t) st h Q) : zW l M N S pc (x0 :: x1 :: x2 :: x3 :: x4 :: x5 :: x6 :: x7 :: y :: t) (.int x :: st) h Q := by
  intro p e s m args below meth c E n0 z0 H locs cells slots ls R Z C A hl hR K
  refine lv_istore C.1 C.2.1 hd (zlv_has hl) hn rfl (fun ls2 hl2 => ?_)
  refine k p e s m args below meth c E n0 z0 H locs cells slots ls2 R Z C A (zlv_store1 (v := .int x) hl2 ?_) hR K
  intro j w hj hw
  cases j with
  | zero => exact Or.inr ⟨hj, by omega, fun q => by omega⟩
  | succ j =>
    cases j with
    | zero => exact Or.inr ⟨hj, by omega, fun q => by omega⟩
    | succ j =>
      cases j with
      | zero => exact Or.inr ⟨hj, by omega, fun q => by omega⟩
      | succ j =>
        cases j with
        | zero => exact Or.inr ⟨hj, by omega, fun q => by omega⟩
        | succ j =>
          cases j with
          | zero => exact Or.inr ⟨hj, by omega, fun q => by omega⟩
          | succ j =>
            cases j with
            | zero => exact Or.inr ⟨hj, by omega, fun q => by omega⟩
            | succ j =>
              cases j with
              | zero => exact Or.inr ⟨hj, by omega, fun q => by omega⟩
              | succ j =>
                cases j with
                | zero => exact Or.inr ⟨hj, by omega, fun _ => (Option.some.inj hj) ▸ hc⟩
                | succ j =>
                  cases j with
                  | zero => exact Or.inl ⟨rfl, (Option.some.inj hj).symm⟩
                  | succ j =>
                    exact Or.inr ⟨hj, by omega, fun q => by omega⟩
theorem z_istoreK_8 {x0 x1 x2 x3 x4 x5 x6 x7 : Value} {y : Value} {t : List Value} {x : Int32} (hd : decode M.2.1 pc = .ok (.istore 8, 2)) (hn : 8 < M.2.2.1) (k : zW l M N S (pc + 2) (x0 :: x1 :: x2 :: x3 :: x4 :: x5 :: x6 :: zno :: .int x :: t) st h Q) : zW l M N S pc (x0 :: x1 :: x2 :: x3 :: x4 :: x5 :: x6 :: x7 :: y :: t) (.int x :: st) h Q := by
  intro p e s m args below meth c E n0 z0 H locs cells slots ls R Z C A hl hR K
  refine lv_istore C.1 C.2.1 hd (zlv_has hl) hn rfl (fun ls2 hl2 => ?_)
  refine k p e s m args below meth c E n0 z0 H locs cells slots ls2 R Z C A (zlv_store1 (v := .int x) hl2 ?_) hR K
  intro j w hj hw
  cases j with
  | zero => exact Or.inr ⟨hj, by omega, fun q => by omega⟩
  | succ j =>
    cases j with
    | zero => exact Or.inr ⟨hj, by omega, fun q => by omega⟩
    | succ j =>
      cases j with
      | zero => exact Or.inr ⟨hj, by omega, fun q => by omega⟩
      | succ j =>
        cases j with
        | zero => exact Or.inr ⟨hj, by omega, fun q => by omega⟩
        | succ j =>
          cases j with
          | zero => exact Or.inr ⟨hj, by omega, fun q => by omega⟩
          | succ j =>
            cases j with
            | zero => exact Or.inr ⟨hj, by omega, fun q => by omega⟩
            | succ j =>
              cases j with
              | zero => exact Or.inr ⟨hj, by omega, fun q => by omega⟩
              | succ j =>
                cases j with
                | zero => exact absurd (Option.some.inj hj).symm hw
                | succ j =>
                  cases j with
                  | zero => exact Or.inl ⟨rfl, (Option.some.inj hj).symm⟩
                  | succ j =>
                    exact Or.inr ⟨hj, by omega, fun q => by omega⟩
theorem z_astore_8 {x0 x1 x2 x3 x4 x5 x6 x7 : Value} {y : Value} {t : List Value} {x : Nat} (hd : decode M.2.1 pc = .ok (.astore 8, 2)) (hn : 8 < M.2.2.1) (hc : x7.category = 1) (k : zW l M N S (pc + 2) (x0 :: x1 :: x2 :: x3 :: x4 :: x5 :: x6 :: x7 :: .ref x :: t) st h Q) : zW l M N S pc (x0 :: x1 :: x2 :: x3 :: x4 :: x5 :: x6 :: x7 :: y :: t) (.ref x :: st) h Q := by
  intro p e s m args below meth c E n0 z0 H locs cells slots ls R Z C A hl hR K
  refine lv_astore C.1 C.2.1 hd (zlv_has hl) hn rfl (fun ls2 hl2 => ?_)
  refine k p e s m args below meth c E n0 z0 H locs cells slots ls2 R Z C A (zlv_store1 (v := .ref x) hl2 ?_) hR K
  intro j w hj hw
  cases j with
  | zero => exact Or.inr ⟨hj, by omega, fun q => by omega⟩
  | succ j =>
    cases j with
    | zero => exact Or.inr ⟨hj, by omega, fun q => by omega⟩
    | succ j =>
      cases j with
      | zero => exact Or.inr ⟨hj, by omega, fun q => by omega⟩
      | succ j =>
        cases j with
        | zero => exact Or.inr ⟨hj, by omega, fun q => by omega⟩
        | succ j =>
          cases j with
          | zero => exact Or.inr ⟨hj, by omega, fun q => by omega⟩
          | succ j =>
            cases j with
            | zero => exact Or.inr ⟨hj, by omega, fun q => by omega⟩
            | succ j =>
              cases j with
              | zero => exact Or.inr ⟨hj, by omega, fun q => by omega⟩
              | succ j =>
                cases j with
                | zero => exact Or.inr ⟨hj, by omega, fun _ => (Option.some.inj hj) ▸ hc⟩
                | succ j =>
                  cases j with
                  | zero => exact Or.inl ⟨rfl, (Option.some.inj hj).symm⟩
                  | succ j =>
                    exact Or.inr ⟨hj, by omega, fun q => by omega⟩
theorem z_astoreK_8 {x0 x1 x2 x3 x4 x5 x6 x7 : Value} {y : Value} {t : List Value} {x : Nat} (hd : decode M.2.1 pc = .ok (.astore 8, 2)) (hn : 8 < M.2.2.1) (k : zW l M N S (pc + 2) (x0 :: x1 :: x2 :: x3 :: x4 :: x5 :: x6 :: zno :: .ref x :: t) st h Q) : zW l M N S pc (x0 :: x1 :: x2 :: x3 :: x4 :: x5 :: x6 :: x7 :: y :: t) (.ref x :: st) h Q := by
  intro p e s m args below meth c E n0 z0 H locs cells slots ls R Z C A hl hR K
  refine lv_astore C.1 C.2.1 hd (zlv_has hl) hn rfl (fun ls2 hl2 => ?_)
  refine k p e s m args below meth c E n0 z0 H locs cells slots ls2 R Z C A (zlv_store1 (v := .ref x) hl2 ?_) hR K
  intro j w hj hw
  cases j with
  | zero => exact Or.inr ⟨hj, by omega, fun q => by omega⟩
  | succ j =>
    cases j with
    | zero => exact Or.inr ⟨hj, by omega, fun q => by omega⟩
    | succ j =>
      cases j with
      | zero => exact Or.inr ⟨hj, by omega, fun q => by omega⟩
      | succ j =>
        cases j with
        | zero => exact Or.inr ⟨hj, by omega, fun q => by omega⟩
        | succ j =>
          cases j with
          | zero => exact Or.inr ⟨hj, by omega, fun q => by omega⟩
          | succ j =>
            cases j with
            | zero => exact Or.inr ⟨hj, by omega, fun q => by omega⟩
            | succ j =>
              cases j with
              | zero => exact Or.inr ⟨hj, by omega, fun q => by omega⟩
              | succ j =>
                cases j with
                | zero => exact absurd (Option.some.inj hj).symm hw
                | succ j =>
                  cases j with
                  | zero => exact Or.inl ⟨rfl, (Option.some.inj hj).symm⟩
                  | succ j =>
                    exact Or.inr ⟨hj, by omega, fun q => by omega⟩
theorem z_lstore_8 {x0 x1 x2 x3 x4 x5 x6 x7 : Value} {y y2 : Value} {t : List Value} {x : Int64} (hd : decode M.2.1 pc = .ok (.lstore 8, 2)) (hn : 9 < M.2.2.1) (hc : x7.category = 1) (k : zW l M N S (pc + 2) (x0 :: x1 :: x2 :: x3 :: x4 :: x5 :: x6 :: x7 :: .long x :: zno :: t) st h Q) : zW l M N S pc (x0 :: x1 :: x2 :: x3 :: x4 :: x5 :: x6 :: x7 :: y :: y2 :: t) (.long x :: st) h Q := by
  intro p e s m args below meth c E n0 z0 H locs cells slots ls R Z C A hl hR K
  refine lv_lstore C.1 C.2.1 hd (zlv_has hl) hn rfl (fun ls2 hl2 => ?_)
  refine k p e s m args below meth c E n0 z0 H locs cells slots ls2 R Z C A (zlv_store2 (v := .long x) hl2 ?_) hR K
  intro j w hj hw
  cases j with
  | zero => exact Or.inr ⟨hj, by omega, by omega, fun q => by omega⟩
  | succ j =>
    cases j with
    | zero => exact Or.inr ⟨hj, by omega, by omega, fun q => by omega⟩
    | succ j =>
      cases j with
      | zero => exact Or.inr ⟨hj, by omega, by omega, fun q => by omega⟩
      | succ j =>
        cases j with
        | zero => exact Or.inr ⟨hj, by omega, by omega, fun q => by omega⟩
        | succ j =>
          cases j with
          | zero => exact Or.inr ⟨hj, by omega, by omega, fun q => by omega⟩
          | succ j =>
            cases j with
            | zero => exact Or.inr ⟨hj, by omega, by omega, fun q => by omega⟩
            | succ j =>
              cases j with
              | zero => exact Or.inr ⟨hj, by omega, by omega, fun q => by omega⟩
              | succ j =>
                cases j with
                | zero => exact Or.inr ⟨hj, by omega, by omega, fun _ => (Option.some.inj hj) ▸ hc⟩
                | succ j =>
                  cases j with
                  | zero => exact Or.inl ⟨rfl, (Option.some.inj hj).symm⟩
                  | succ j =>
                    cases j with
                    | zero => exact absurd (Option.some.inj hj).symm hw
                    | succ j => exact Or.inr ⟨hj, by omega, by omega, fun q => by omega⟩
theorem z_lstoreK_8 {x0 x1 x2 x3 x4 x5 x6 x7 : Value} {y y2 : Value} {t : List Value} {x : Int64} (hd : decode M.2.1 pc = .ok (.lstore 8, 2)) (hn : 9 < M.2.2.1) (k : zW l M N S (pc + 2) (x0 :: x1 :: x2 :: x3 :: x4 :: x5 :: x6 :: zno :: .long x :: zno :: t) st h Q) : zW l M N S pc (x0 :: x1 :: x2 :: x3 :: x4 :: x5 :: x6 :: x7 :: y :: y2 :: t) (.long x :: st) h Q := by
  intro p e s m args below meth c E n0 z0 H locs cells slots ls R Z C A hl hR K
  refine lv_lstore C.1 C.2.1 hd (zlv_has hl) hn rfl (fun ls2 hl2 => ?_)
  refine k p e s m args below meth c E n0 z0 H locs cells slots ls2 R Z C A (zlv_store2 (v := .long x) hl2 ?_) hR K
  intro j w hj hw
  cases j with
  | zero => exact Or.inr ⟨hj, by omega, by omega, fun q => by omega⟩
  | succ j =>
    cases j with
    | zero => exact Or.inr ⟨hj, by omega, by omega, fun q => by omega⟩
    | succ j =>
      cases j with
      | zero => exact Or.inr ⟨hj, by omega, by omega, fun q => by omega⟩
      | succ j =>
        cases j with
        | zero => exact Or.inr ⟨hj, by omega, by omega, fun q => by omega⟩
        | succ j =>
          cases j with
          | zero => exact Or.inr ⟨hj, by omega, by omega, fun q => by omega⟩
          | succ j =>
            cases j with
            | zero => exact Or.inr ⟨hj, by omega, by omega, fun q => by omega⟩
            | succ j =>
              cases j with
              | zero => exact Or.inr ⟨hj, by omega, by omega, fun q => by omega⟩
              | succ j =>
                cases j with
                | zero => exact absurd (Option.some.inj hj).symm hw
                | succ j =>
                  cases j with
                  | zero => exact Or.inl ⟨rfl, (Option.some.inj hj).symm⟩
                  | succ j =>
                    cases j with
                    | zero => exact absurd (Option.some.inj hj).symm hw
                    | succ j => exact Or.inr ⟨hj, by omega, by omega, fun q => by omega⟩
theorem z_iinc_8 {x0 x1 x2 x3 x4 x5 x6 x7 : Value} {t : List Value} {x : Int32} {n : Int} (v : Int32) (hd : decode M.2.1 pc = .ok (.iinc 8 n, 3)) (hv : Int32.ofInt n = v) (hn : 8 < M.2.2.1) (hc : x7.category = 1) (k : zW l M N S (pc + 3) (x0 :: x1 :: x2 :: x3 :: x4 :: x5 :: x6 :: x7 :: .int (x + v) :: t) st h Q) : zW l M N S pc (x0 :: x1 :: x2 :: x3 :: x4 :: x5 :: x6 :: x7 :: .int x :: t) st h Q := by
  subst hv
  intro p e s m args below meth c E n0 z0 H locs cells slots ls R Z C A hl hR K
  obtain ⟨k0, hk0⟩ := List.getElem?_of_mem (zll_mem.mpr ⟨.int x, (rfl : (x0 :: x1 :: x2 :: x3 :: x4 :: x5 :: x6 :: x7 :: .int x :: t)[8]? = _), (fun q => Value.noConfusion q), rfl⟩ : (8, ze E (.int x)) ∈ zll E (x0 :: x1 :: x2 :: x3 :: x4 :: x5 :: x6 :: x7 :: .int x :: t))
  refine lv_iinc C.1 C.2.1 hd (zlv_has hl) hk0 rfl hn rfl (fun ls2 hl2 => ?_)
  refine k p e s m args below meth c E n0 z0 H locs cells slots ls2 R Z C A (zlv_store1 (v := .int (x + Int32.ofInt n)) hl2 ?_) hR K
  intro j w hj hw
  cases j with
  | zero => exact Or.inr ⟨hj, by omega, fun q => by omega⟩
  | succ j =>
    cases j with
    | zero => exact Or.inr ⟨hj, by omega, fun q => by omega⟩
    | succ j =>
      cases j with
      | zero => exact Or.inr ⟨hj, by omega, fun q => by omega⟩
      | succ j =>
        cases j with
        | zero => exact Or.inr ⟨hj, by omega, fun q => by omega⟩
        | succ j =>
          cases j with
          | zero => exact Or.inr ⟨hj, by omega, fun q => by omega⟩
          | succ j =>
            cases j with
            | zero => exact Or.inr ⟨hj, by omega, fun q => by omega⟩
            | succ j =>
              cases j with
              | zero => exact Or.inr ⟨hj, by omega, fun q => by omega⟩
              | succ j =>
                cases j with
                | zero => exact Or.inr ⟨hj, by omega, fun _ => (Option.some.inj hj) ▸ hc⟩
                | succ j =>
                  cases j with
                  | zero => exact Or.inl ⟨rfl, (Option.some.inj hj).symm⟩
                  | succ j => exact Or.inr ⟨hj, by omega, fun q => by omega⟩
theorem z_iload_9 {x0 x1 x2 x3 x4 x5 x6 x7 x8 : Value} {t : List Value} {x : Int32} (hd : decode M.2.1 pc = .ok (.iload 9, 2)) (k : zW l M N S (pc + 2) (x0 :: x1 :: x2 :: x3 :: x4 :: x5 :: x6 :: x7 :: x8 :: .int x :: t) (.int x :: st) h Q) : zW l M N S pc (x0 :: x1 :: x2 :: x3 :: x4 :: x5 :: x6 :: x7 :: x8 :: .int x :: t) st h Q := by
  intro p e s m args below meth c E n0 z0 H locs cells slots ls R Z C A hl hR K
  exact lv_iload C.1 C.2.1 hd (hl.2.2 9 (.int x) rfl (fun q => Value.noConfusion q)) (k p e s m args below meth c E n0 z0 H locs cells slots ls R Z C A hl hR K)
theorem z_lload_9 {x0 x1 x2 x3 x4 x5 x6 x7 x8 : Value} {t : List Value} {x : Int64} (hd : decode M.2.1 pc = .ok (.lload 9, 2)) (k : zW l M N S (pc + 2) (x0 :: x1 :: x2 :: x3 :: x4 :: x5 :: x6 :: x7 :: x8 :: .long x :: t) (.long x :: st) h Q) : zW l M N S pc (x0 :: x1 :: x2 :: x3 :: x4 :: x5 :: x6 :: x7 :: x8 :: .long x :: t) st h Q := by
  intro p e s m args below meth c E n0 z0 H locs cells slots ls R Z C A hl hR K
  exact lv_lload C.1 C.2.1 hd (hl.2.2 9 (.long x) rfl (fun q => Value.noConfusion q)) (k p e s m args below meth c E n0 z0 H locs cells slots ls R Z C A hl hR K)
theorem z_aload_9 {x0 x1 x2 x3 x4 x5 x6 x7 x8 : Value} {t : List Value} {x : Nat} (hd : decode M.2.1 pc = .ok (.aload 9, 2)) (k : zW l M N S (pc + 2) (x0 :: x1 :: x2 :: x3 :: x4 :: x5 :: x6 :: x7 :: x8 :: .ref x :: t) (.ref x :: st) h Q) : zW l M N S pc (x0 :: x1 :: x2 :: x3 :: x4 :: x5 :: x6 :: x7 :: x8 :: .ref x :: t) st h Q := by
  intro p e s m args below meth c E n0 z0 H locs cells slots ls R Z C A hl hR K
  exact lv_aload C.1 C.2.1 hd (hl.2.2 9 (.ref x) rfl (fun q => Value.noConfusion q)) (k p e s m args below meth c E n0 z0 H locs cells slots ls R Z C A hl hR K)
theorem z_istore_9 {x0 x1 x2 x3 x4 x5 x6 x7 x8 : Value} {y : Value} {t : List Value} {x : Int32} (hd : decode M.2.1 pc = .ok (.istore 9, 2)) (hn : 9 < M.2.2.1) (hc : x8.category = 1) (k : zW l M N S (pc + 2) (x0 :: x1 :: x2 :: x3 :: x4 :: x5 :: x6 :: x7 :: x8 :: .int x :: t) st h Q) : zW l M N S pc (x0 :: x1 :: x2 :: x3 :: x4 :: x5 :: x6 :: x7 :: x8 :: y :: t) (.int x :: st) h Q := by
  intro p e s m args below meth c E n0 z0 H locs cells slots ls R Z C A hl hR K
  refine lv_istore C.1 C.2.1 hd (zlv_has hl) hn rfl (fun ls2 hl2 => ?_)
  refine k p e s m args below meth c E n0 z0 H locs cells slots ls2 R Z C A (zlv_store1 (v := .int x) hl2 ?_) hR K
  intro j w hj hw
  cases j with
  | zero => exact Or.inr ⟨hj, by omega, fun q => by omega⟩
  | succ j =>
    cases j with
    | zero => exact Or.inr ⟨hj, by omega, fun q => by omega⟩
    | succ j =>
      cases j with
      | zero => exact Or.inr ⟨hj, by omega, fun q => by omega⟩
      | succ j =>
        cases j with
        | zero => exact Or.inr ⟨hj, by omega, fun q => by omega⟩
        | succ j =>
          cases j with
          | zero => exact Or.inr ⟨hj, by omega, fun q => by omega⟩
          | succ j =>
            cases j with
            | zero => exact Or.inr ⟨hj, by omega, fun q => by omega⟩
            | succ j =>
              cases j with
              | zero => exact Or.inr ⟨hj, by omega, fun q => by omega⟩
              | succ j =>
                cases j with
                | zero => exact Or.inr ⟨hj, by omega, fun q => by omega⟩
                | succ j =>
                  cases j with
                  | zero => exact Or.inr ⟨hj, by omega, fun _ => (Option.some.inj hj) ▸ hc⟩
                  | succ j =>
                    cases j with
                    | zero => exact Or.inl ⟨rfl, (Option.some.inj hj).symm⟩
                    | succ j =>
                      exact Or.inr ⟨hj, by omega, fun q => by omega⟩
theorem z_istoreK_9 {x0 x1 x2 x3 x4 x5 x6 x7 x8 : Value} {y : Value} {t : List Value} {x : Int32} (hd : decode M.2.1 pc = .ok (.istore 9, 2)) (hn : 9 < M.2.2.1) (k : zW l M N S (pc + 2) (x0 :: x1 :: x2 :: x3 :: x4 :: x5 :: x6 :: x7 :: zno :: .int x :: t) st h Q) : zW l M N S pc (x0 :: x1 :: x2 :: x3 :: x4 :: x5 :: x6 :: x7 :: x8 :: y :: t) (.int x :: st) h Q := by
  intro p e s m args below meth c E n0 z0 H locs cells slots ls R Z C A hl hR K
  refine lv_istore C.1 C.2.1 hd (zlv_has hl) hn rfl (fun ls2 hl2 => ?_)
  refine k p e s m args below meth c E n0 z0 H locs cells slots ls2 R Z C A (zlv_store1 (v := .int x) hl2 ?_) hR K
  intro j w hj hw
  cases j with
  | zero => exact Or.inr ⟨hj, by omega, fun q => by omega⟩
  | succ j =>
    cases j with
    | zero => exact Or.inr ⟨hj, by omega, fun q => by omega⟩
    | succ j =>
      cases j with
      | zero => exact Or.inr ⟨hj, by omega, fun q => by omega⟩
      | succ j =>
        cases j with
        | zero => exact Or.inr ⟨hj, by omega, fun q => by omega⟩
        | succ j =>
          cases j with
          | zero => exact Or.inr ⟨hj, by omega, fun q => by omega⟩
          | succ j =>
            cases j with
            | zero => exact Or.inr ⟨hj, by omega, fun q => by omega⟩
            | succ j =>
              cases j with
              | zero => exact Or.inr ⟨hj, by omega, fun q => by omega⟩
              | succ j =>
                cases j with
                | zero => exact Or.inr ⟨hj, by omega, fun q => by omega⟩
                | succ j =>
                  cases j with
                  | zero => exact absurd (Option.some.inj hj).symm hw
                  | succ j =>
                    cases j with
                    | zero => exact Or.inl ⟨rfl, (Option.some.inj hj).symm⟩
                    | succ j =>
                      exact Or.inr ⟨hj, by omega, fun q => by omega⟩
theorem z_astore_9 {x0 x1 x2 x3 x4 x5 x6 x7 x8 : Value} {y : Value} {t : List Value} {x : Nat} (hd : decode M.2.1 pc = .ok (.astore 9, 2)) (hn : 9 < M.2.2.1) (hc : x8.category = 1) (k : zW l M N S (pc + 2) (x0 :: x1 :: x2 :: x3 :: x4 :: x5 :: x6 :: x7 :: x8 :: .ref x :: t) st h Q) : zW l M N S pc (x0 :: x1 :: x2 :: x3 :: x4 :: x5 :: x6 :: x7 :: x8 :: y :: t) (.ref x :: st) h Q := by
  intro p e s m args below meth c E n0 z0 H locs cells slots ls R Z C A hl hR K
  refine lv_astore C.1 C.2.1 hd (zlv_has hl) hn rfl (fun ls2 hl2 => ?_)
  refine k p e s m args below meth c E n0 z0 H locs cells slots ls2 R Z C A (zlv_store1 (v := .ref x) hl2 ?_) hR K
  intro j w hj hw
  cases j with
  | zero => exact Or.inr ⟨hj, by omega, fun q => by omega⟩
  | succ j =>
    cases j with
    | zero => exact Or.inr ⟨hj, by omega, fun q => by omega⟩
    | succ j =>
      cases j with
      | zero => exact Or.inr ⟨hj, by omega, fun q => by omega⟩
      | succ j =>
        cases j with
        | zero => exact Or.inr ⟨hj, by omega, fun q => by omega⟩
        | succ j =>
          cases j with
          | zero => exact Or.inr ⟨hj, by omega, fun q => by omega⟩
          | succ j =>
            cases j with
            | zero => exact Or.inr ⟨hj, by omega, fun q => by omega⟩
            | succ j =>
              cases j with
              | zero => exact Or.inr ⟨hj, by omega, fun q => by omega⟩
              | succ j =>
                cases j with
                | zero => exact Or.inr ⟨hj, by omega, fun q => by omega⟩
                | succ j =>
                  cases j with
                  | zero => exact Or.inr ⟨hj, by omega, fun _ => (Option.some.inj hj) ▸ hc⟩
                  | succ j =>
                    cases j with
                    | zero => exact Or.inl ⟨rfl, (Option.some.inj hj).symm⟩
                    | succ j =>
                      exact Or.inr ⟨hj, by omega, fun q => by omega⟩
theorem z_astoreK_9 {x0 x1 x2 x3 x4 x5 x6 x7 x8 : Value} {y : Value} {t : List Value} {x : Nat} (hd : decode M.2.1 pc = .ok (.astore 9, 2)) (hn : 9 < M.2.2.1) (k : zW l M N S (pc + 2) (x0 :: x1 :: x2 :: x3 :: x4 :: x5 :: x6 :: x7 :: zno :: .ref x :: t) st h Q) : zW l M N S pc (x0 :: x1 :: x2 :: x3 :: x4 :: x5 :: x6 :: x7 :: x8 :: y :: t) (.ref x :: st) h Q := by
  intro p e s m args below meth c E n0 z0 H locs cells slots ls R Z C A hl hR K
  refine lv_astore C.1 C.2.1 hd (zlv_has hl) hn rfl (fun ls2 hl2 => ?_)
  refine k p e s m args below meth c E n0 z0 H locs cells slots ls2 R Z C A (zlv_store1 (v := .ref x) hl2 ?_) hR K
  intro j w hj hw
  cases j with
  | zero => exact Or.inr ⟨hj, by omega, fun q => by omega⟩
  | succ j =>
    cases j with
    | zero => exact Or.inr ⟨hj, by omega, fun q => by omega⟩
    | succ j =>
      cases j with
      | zero => exact Or.inr ⟨hj, by omega, fun q => by omega⟩
      | succ j =>
        cases j with
        | zero => exact Or.inr ⟨hj, by omega, fun q => by omega⟩
        | succ j =>
          cases j with
          | zero => exact Or.inr ⟨hj, by omega, fun q => by omega⟩
          | succ j =>
            cases j with
            | zero => exact Or.inr ⟨hj, by omega, fun q => by omega⟩
            | succ j =>
              cases j with
              | zero => exact Or.inr ⟨hj, by omega, fun q => by omega⟩
              | succ j =>
                cases j with
                | zero => exact Or.inr ⟨hj, by omega, fun q => by omega⟩
                | succ j =>
                  cases j with
                  | zero => exact absurd (Option.some.inj hj).symm hw
                  | succ j =>
                    cases j with
                    | zero => exact Or.inl ⟨rfl, (Option.some.inj hj).symm⟩
                    | succ j =>
                      exact Or.inr ⟨hj, by omega, fun q => by omega⟩
theorem z_lstore_9 {x0 x1 x2 x3 x4 x5 x6 x7 x8 : Value} {y y2 : Value} {t : List Value} {x : Int64} (hd : decode M.2.1 pc = .ok (.lstore 9, 2)) (hn : 10 < M.2.2.1) (hc : x8.category = 1) (k : zW l M N S (pc + 2) (x0 :: x1 :: x2 :: x3 :: x4 :: x5 :: x6 :: x7 :: x8 :: .long x :: zno :: t) st h Q) : zW l M N S pc (x0 :: x1 :: x2 :: x3 :: x4 :: x5 :: x6 :: x7 :: x8 :: y :: y2 :: t) (.long x :: st) h Q := by
  intro p e s m args below meth c E n0 z0 H locs cells slots ls R Z C A hl hR K
  refine lv_lstore C.1 C.2.1 hd (zlv_has hl) hn rfl (fun ls2 hl2 => ?_)
  refine k p e s m args below meth c E n0 z0 H locs cells slots ls2 R Z C A (zlv_store2 (v := .long x) hl2 ?_) hR K
  intro j w hj hw
  cases j with
  | zero => exact Or.inr ⟨hj, by omega, by omega, fun q => by omega⟩
  | succ j =>
    cases j with
    | zero => exact Or.inr ⟨hj, by omega, by omega, fun q => by omega⟩
    | succ j =>
      cases j with
      | zero => exact Or.inr ⟨hj, by omega, by omega, fun q => by omega⟩
      | succ j =>
        cases j with
        | zero => exact Or.inr ⟨hj, by omega, by omega, fun q => by omega⟩
        | succ j =>
          cases j with
          | zero => exact Or.inr ⟨hj, by omega, by omega, fun q => by omega⟩
          | succ j =>
            cases j with
            | zero => exact Or.inr ⟨hj, by omega, by omega, fun q => by omega⟩
            | succ j =>
              cases j with
              | zero => exact Or.inr ⟨hj, by omega, by omega, fun q => by omega⟩
              | succ j =>
                cases j with
                | zero => exact Or.inr ⟨hj, by omega, by omega, fun q => by omega⟩
                | succ j =>
                  cases j with
                  | zero => exact Or.inr ⟨hj, by omega, by omega, fun _ => (Option.some.inj hj) ▸ hc⟩
                  | succ j =>
                    cases j with
                    | zero => exact Or.inl ⟨rfl, (Option.some.inj hj).symm⟩
                    | succ j =>
                      cases j with
                      | zero => exact absurd (Option.some.inj hj).symm hw
                      | succ j => exact Or.inr ⟨hj, by omega, by omega, fun q => by omega⟩
theorem z_lstoreK_9 {x0 x1 x2 x3 x4 x5 x6 x7 x8 : Value} {y y2 : Value} {t : List Value} {x : Int64} (hd : decode M.2.1 pc = .ok (.lstore 9, 2)) (hn : 10 < M.2.2.1) (k : zW l M N S (pc + 2) (x0 :: x1 :: x2 :: x3 :: x4 :: x5 :: x6 :: x7 :: zno :: .long x :: zno :: t) st h Q) : zW l M N S pc (x0 :: x1 :: x2 :: x3 :: x4 :: x5 :: x6 :: x7 :: x8 :: y :: y2 :: t) (.long x :: st) h Q := by
  intro p e s m args below meth c E n0 z0 H locs cells slots ls R Z C A hl hR K
  refine lv_lstore C.1 C.2.1 hd (zlv_has hl) hn rfl (fun ls2 hl2 => ?_)
  refine k p e s m args below meth c E n0 z0 H locs cells slots ls2 R Z C A (zlv_store2 (v := .long x) hl2 ?_) hR K
  intro j w hj hw
  cases j with
  | zero => exact Or.inr ⟨hj, by omega, by omega, fun q => by omega⟩
  | succ j =>
    cases j with
    | zero => exact Or.inr ⟨hj, by omega, by omega, fun q => by omega⟩
    | succ j =>
      cases j with
      | zero => exact Or.inr ⟨hj, by omega, by omega, fun q => by omega⟩
      | succ j =>
        cases j with
        | zero => exact Or.inr ⟨hj, by omega, by omega, fun q => by omega⟩
        | succ j =>
          cases j with
          | zero => exact Or.inr ⟨hj, by omega, by omega, fun q => by omega⟩
          | succ j =>
            cases j with
            | zero => exact Or.inr ⟨hj, by omega, by omega, fun q => by omega⟩
            | succ j =>
              cases j with
              | zero => exact Or.inr ⟨hj, by omega, by omega, fun q => by omega⟩
              | succ j =>
                cases j with
                | zero => exact Or.inr ⟨hj, by omega, by omega, fun q => by omega⟩
                | succ j =>
                  cases j with
                  | zero => exact absurd (Option.some.inj hj).symm hw
                  | succ j =>
                    cases j with
                    | zero => exact Or.inl ⟨rfl, (Option.some.inj hj).symm⟩
                    | succ j =>
                      cases j with
                      | zero => exact absurd (Option.some.inj hj).symm hw
                      | succ j => exact Or.inr ⟨hj, by omega, by omega, fun q => by omega⟩
theorem z_iinc_9 {x0 x1 x2 x3 x4 x5 x6 x7 x8 : Value} {t : List Value} {x : Int32} {n : Int} (v : Int32) (hd : decode M.2.1 pc = .ok (.iinc 9 n, 3)) (hv : Int32.ofInt n = v) (hn : 9 < M.2.2.1) (hc : x8.category = 1) (k : zW l M N S (pc + 3) (x0 :: x1 :: x2 :: x3 :: x4 :: x5 :: x6 :: x7 :: x8 :: .int (x + v) :: t) st h Q) : zW l M N S pc (x0 :: x1 :: x2 :: x3 :: x4 :: x5 :: x6 :: x7 :: x8 :: .int x :: t) st h Q := by
  subst hv
  intro p e s m args below meth c E n0 z0 H locs cells slots ls R Z C A hl hR K
  obtain ⟨k0, hk0⟩ := List.getElem?_of_mem (zll_mem.mpr ⟨.int x, (rfl : (x0 :: x1 :: x2 :: x3 :: x4 :: x5 :: x6 :: x7 :: x8 :: .int x :: t)[9]? = _), (fun q => Value.noConfusion q), rfl⟩ : (9, ze E (.int x)) ∈ zll E (x0 :: x1 :: x2 :: x3 :: x4 :: x5 :: x6 :: x7 :: x8 :: .int x :: t))
  refine lv_iinc C.1 C.2.1 hd (zlv_has hl) hk0 rfl hn rfl (fun ls2 hl2 => ?_)
  refine k p e s m args below meth c E n0 z0 H locs cells slots ls2 R Z C A (zlv_store1 (v := .int (x + Int32.ofInt n)) hl2 ?_) hR K
  intro j w hj hw
  cases j with
  | zero => exact Or.inr ⟨hj, by omega, fun q => by omega⟩
  | succ j =>
    cases j with
    | zero => exact Or.inr ⟨hj, by omega, fun q => by omega⟩
    | succ j =>
      cases j with
      | zero => exact Or.inr ⟨hj, by omega, fun q => by omega⟩
      | succ j =>
        cases j with
        | zero => exact Or.inr ⟨hj, by omega, fun q => by omega⟩
        | succ j =>
          cases j with
          | zero => exact Or.inr ⟨hj, by omega, fun q => by omega⟩
          | succ j =>
            cases j with
            | zero => exact Or.inr ⟨hj, by omega, fun q => by omega⟩
            | succ j =>
              cases j with
              | zero => exact Or.inr ⟨hj, by omega, fun q => by omega⟩
              | succ j =>
                cases j with
                | zero => exact Or.inr ⟨hj, by omega, fun q => by omega⟩
                | succ j =>
                  cases j with
                  | zero => exact Or.inr ⟨hj, by omega, fun _ => (Option.some.inj hj) ▸ hc⟩
                  | succ j =>
                    cases j with
                    | zero => exact Or.inl ⟨rfl, (Option.some.inj hj).symm⟩
                    | succ j => exact Or.inr ⟨hj, by omega, fun q => by omega⟩
theorem z_iload_10 {x0 x1 x2 x3 x4 x5 x6 x7 x8 x9 : Value} {t : List Value} {x : Int32} (hd : decode M.2.1 pc = .ok (.iload 10, 2)) (k : zW l M N S (pc + 2) (x0 :: x1 :: x2 :: x3 :: x4 :: x5 :: x6 :: x7 :: x8 :: x9 :: .int x :: t) (.int x :: st) h Q) : zW l M N S pc (x0 :: x1 :: x2 :: x3 :: x4 :: x5 :: x6 :: x7 :: x8 :: x9 :: .int x :: t) st h Q := by
  intro p e s m args below meth c E n0 z0 H locs cells slots ls R Z C A hl hR K
  exact lv_iload C.1 C.2.1 hd (hl.2.2 10 (.int x) rfl (fun q => Value.noConfusion q)) (k p e s m args below meth c E n0 z0 H locs cells slots ls R Z C A hl hR K)
theorem z_lload_10 {x0 x1 x2 x3 x4 x5 x6 x7 x8 x9 : Value} {t : List Value} {x : Int64} (hd : decode M.2.1 pc = .ok (.lload 10, 2)) (k : zW l M N S (pc + 2) (x0 :: x1 :: x2 :: x3 :: x4 :: x5 :: x6 :: x7 :: x8 :: x9 :: .long x :: t) (.long x :: st) h Q) : zW l M N S pc (x0 :: x1 :: x2 :: x3 :: x4 :: x5 :: x6 :: x7 :: x8 :: x9 :: .long x :: t) st h Q := by
  intro p e s m args below meth c E n0 z0 H locs cells slots ls R Z C A hl hR K
  exact lv_lload C.1 C.2.1 hd (hl.2.2 10 (.long x) rfl (fun q => Value.noConfusion q)) (k p e s m args below meth c E n0 z0 H locs cells slots ls R Z C A hl hR K)
theorem z_aload_10 {x0 x1 x2 x3 x4 x5 x6 x7 x8 x9 : Value} {t : List Value} {x : Nat} (hd : decode M.2.1 pc = .ok (.aload 10, 2)) (k : zW l M N S (pc + 2) (x0 :: x1 :: x2 :: x3 :: x4 :: x5 :: x6 :: x7 :: x8 :: x9 :: .ref x :: t) (.ref x :: st) h Q) : zW l M N S pc (x0 :: x1 :: x2 :: x3 :: x4 :: x5 :: x6 :: x7 :: x8 :: x9 :: .ref x :: t) st h Q := by
  intro p e s m args below meth c E n0 z0 H locs cells slots ls R Z C A hl hR K
  exact lv_aload C.1 C.2.1 hd (hl.2.2 10 (.ref x) rfl (fun q => Value.noConfusion q)) (k p e s m args below meth c E n0 z0 H locs cells slots ls R Z C A hl hR K)
theorem z_istore_10 {x0 x1 x2 x3 x4 x5 x6 x7 x8 x9 : Value} {y : Value} {t : List Value} {x : Int32} (hd : decode M.2.1 pc = .ok (.istore 10, 2)) (hn : 10 < M.2.2.1) (hc : x9.category = 1) (k : zW l M N S (pc + 2) (x0 :: x1 :: x2 :: x3 :: x4 :: x5 :: x6 :: x7 :: x8 :: x9 :: .int x :: t) st h Q) : zW l M N S pc (x0 :: x1 :: x2 :: x3 :: x4 :: x5 :: x6 :: x7 :: x8 :: x9 :: y :: t) (.int x :: st) h Q := by
  intro p e s m args below meth c E n0 z0 H locs cells slots ls R Z C A hl hR K
  refine lv_istore C.1 C.2.1 hd (zlv_has hl) hn rfl (fun ls2 hl2 => ?_)
  refine k p e s m args below meth c E n0 z0 H locs cells slots ls2 R Z C A (zlv_store1 (v := .int x) hl2 ?_) hR K
  intro j w hj hw
  cases j with
  | zero => exact Or.inr ⟨hj, by omega, fun q => by omega⟩
  | succ j =>
    cases j with
    | zero => exact Or.inr ⟨hj, by omega, fun q => by omega⟩
    | succ j =>
      cases j with
      | zero => exact Or.inr ⟨hj, by omega, fun q => by omega⟩
      | succ j =>
        cases j with
        | zero => exact Or.inr ⟨hj, by omega, fun q => by omega⟩
        | succ j =>
          cases j with
          | zero => exact Or.inr ⟨hj, by omega, fun q => by omega⟩
          | succ j =>
            cases j with
            | zero => exact Or.inr ⟨hj, by omega, fun q => by omega⟩
            | succ j =>
              cases j with
              | zero => exact Or.inr ⟨hj, by omega, fun q => by omega⟩
              | succ j =>
                cases j with
                | zero => exact Or.inr ⟨hj, by omega, fun q => by omega⟩
                | succ j =>
                  cases j with
                  | zero => exact Or.inr ⟨hj, by omega, fun q => by omega⟩
                  | succ j =>
                    cases j with
                    | zero => exact Or.inr ⟨hj, by omega, fun _ => (Option.some.inj hj) ▸ hc⟩
                    | succ j =>
                      cases j with
                      | zero => exact Or.inl ⟨rfl, (Option.some.inj hj).symm⟩
                      | succ j =>
                        exact Or.inr ⟨hj, by omega, fun q => by omega⟩
theorem z_istoreK_10 {x0 x1 x2 x3 x4 x5 x6 x7 x8 x9 : Value} {y : Value} {t : List Value} {x : Int32} (hd : decode M.2.1 pc = .ok (.istore 10, 2)) (hn : 10 < M.2.2.1) (k : zW l M N S (pc + 2) (x0 :: x1 :: x2 :: x3 :: x4 :: x5 :: x6 :: x7 :: x8 :: zno :: .int x :: t) st h Q) : zW l M N S pc (x0 :: x1 :: x2 :: x3 :: x4 :: x5 :: x6 :: x7 :: x8 :: x9 :: y :: t) (.int x :: st) h Q := by
  intro p e s m args below meth c E n0 z0 H locs cells slots ls R Z C A hl hR K
  refine lv_istore C.1 C.2.1 hd (zlv_has hl) hn rfl (fun ls2 hl2 => ?_)
  refine k p e s m args below meth c E n0 z0 H locs cells slots ls2 R Z C A (zlv_store1 (v := .int x) hl2 ?_) hR K
  intro j w hj hw
  cases j with
  | zero => exact Or.inr ⟨hj, by omega, fun q => by omega⟩
  | succ j =>
    cases j with
    | zero => exact Or.inr ⟨hj, by omega, fun q => by omega⟩
    | succ j =>
      cases j with
      | zero => exact Or.inr ⟨hj, by omega, fun q => by omega⟩
      | succ j =>
        cases j with
        | zero => exact Or.inr ⟨hj, by omega, fun q => by omega⟩
        | succ j =>
          cases j with
          | zero => exact Or.inr ⟨hj, by omega, fun q => by omega⟩
          | succ j =>
            cases j with
            | zero => exact Or.inr ⟨hj, by omega, fun q => by omega⟩
            | succ j =>
              cases j with
              | zero => exact Or.inr ⟨hj, by omega, fun q => by omega⟩
              | succ j =>
                cases j with
                | zero => exact Or.inr ⟨hj, by omega, fun q => by omega⟩
                | succ j =>
                  cases j with
                  | zero => exact Or.inr ⟨hj, by omega, fun q => by omega⟩
                  | succ j =>
                    cases j with
                    | zero => exact absurd (Option.some.inj hj).symm hw
                    | succ j =>
                      cases j with
                      | zero => exact Or.inl ⟨rfl, (Option.some.inj hj).symm⟩
                      | succ j =>
                        exact Or.inr ⟨hj, by omega, fun q => by omega⟩
theorem z_astore_10 {x0 x1 x2 x3 x4 x5 x6 x7 x8 x9 : Value} {y : Value} {t : List Value} {x : Nat} (hd : decode M.2.1 pc = .ok (.astore 10, 2)) (hn : 10 < M.2.2.1) (hc : x9.category = 1) (k : zW l M N S (pc + 2) (x0 :: x1 :: x2 :: x3 :: x4 :: x5 :: x6 :: x7 :: x8 :: x9 :: .ref x :: t) st h Q) : zW l M N S pc (x0 :: x1 :: x2 :: x3 :: x4 :: x5 :: x6 :: x7 :: x8 :: x9 :: y :: t) (.ref x :: st) h Q := by
  intro p e s m args below meth c E n0 z0 H locs cells slots ls R Z C A hl hR K
  refine lv_astore C.1 C.2.1 hd (zlv_has hl) hn rfl (fun ls2 hl2 => ?_)
  refine k p e s m args below meth c E n0 z0 H locs cells slots ls2 R Z C A (zlv_store1 (v := .ref x) hl2 ?_) hR K
  intro j w hj hw
  cases j with
  | zero => exact Or.inr ⟨hj, by omega, fun q => by omega⟩
  | succ j =>
    cases j with
    | zero => exact Or.inr ⟨hj, by omega, fun q => by omega⟩
    | succ j =>
      cases j with
      | zero => exact Or.inr ⟨hj, by omega, fun q => by omega⟩
      | succ j =>
        cases j with
        | zero => exact Or.inr ⟨hj, by omega, fun q => by omega⟩
        | succ j =>
          cases j with
          | zero => exact Or.inr ⟨hj, by omega, fun q => by omega⟩
          | succ j =>
            cases j with
            | zero => exact Or.inr ⟨hj, by omega, fun q => by omega⟩
            | succ j =>
              cases j with
              | zero => exact Or.inr ⟨hj, by omega, fun q => by omega⟩
              | succ j =>
                cases j with
                | zero => exact Or.inr ⟨hj, by omega, fun q => by omega⟩
                | succ j =>
                  cases j with
                  | zero => exact Or.inr ⟨hj, by omega, fun q => by omega⟩
                  | succ j =>
                    cases j with
                    | zero => exact Or.inr ⟨hj, by omega, fun _ => (Option.some.inj hj) ▸ hc⟩
                    | succ j =>
                      cases j with
                      | zero => exact Or.inl ⟨rfl, (Option.some.inj hj).symm⟩
                      | succ j =>
                        exact Or.inr ⟨hj, by omega, fun q => by omega⟩
theorem z_astoreK_10 {x0 x1 x2 x3 x4 x5 x6 x7 x8 x9 : Value} {y : Value} {t : List Value} {x : Nat} (hd : decode M.2.1 pc = .ok (.astore 10, 2)) (hn : 10 < M.2.2.1) (k : zW l M N S (pc + 2) (x0 :: x1 :: x2 :: x3 :: x4 :: x5 :: x6 :: x7 :: x8 :: zno :: .ref x :: t) st h Q) : zW l M N S pc (x0 :: x1 :: x2 :: x3 :: x4 :: x5 :: x6 :: x7 :: x8 :: x9 :: y :: t) (.ref x :: st) h Q := by
  intro p e s m args below meth c E n0 z0 H locs cells slots ls R Z C A hl hR K
  refine lv_astore C.1 C.2.1 hd (zlv_has hl) hn rfl (fun ls2 hl2 => ?_)
  refine k p e s m args below meth c E n0 z0 H locs cells slots ls2 R Z C A (zlv_store1 (v := .ref x) hl2 ?_) hR K
  intro j w hj hw
  cases j with
  | zero => exact Or.inr ⟨hj, by omega, fun q => by omega⟩
  | succ j =>
    cases j with
    | zero => exact Or.inr ⟨hj, by omega, fun q => by omega⟩
    | succ j =>
      cases j with
      | zero => exact Or.inr ⟨hj, by omega, fun q => by omega⟩
      | succ j =>
        cases j with
        | zero => exact Or.inr ⟨hj, by omega, fun q => by omega⟩
        | succ j =>
          cases j with
          | zero => exact Or.inr ⟨hj, by omega, fun q => by omega⟩
          | succ j =>
            cases j with
            | zero => exact Or.inr ⟨hj, by omega, fun q => by omega⟩
            | succ j =>
              cases j with
              | zero => exact Or.inr ⟨hj, by omega, fun q => by omega⟩
              | succ j =>
                cases j with
                | zero => exact Or.inr ⟨hj, by omega, fun q => by omega⟩
                | succ j =>
                  cases j with
                  | zero => exact Or.inr ⟨hj, by omega, fun q => by omega⟩
                  | succ j =>
                    cases j with
                    | zero => exact absurd (Option.some.inj hj).symm hw
                    | succ j =>
                      cases j with
                      | zero => exact Or.inl ⟨rfl, (Option.some.inj hj).symm⟩
                      | succ j =>
                        exact Or.inr ⟨hj, by omega, fun q => by omega⟩
theorem z_lstore_10 {x0 x1 x2 x3 x4 x5 x6 x7 x8 x9 : Value} {y y2 : Value} {t : List Value} {x : Int64} (hd : decode M.2.1 pc = .ok (.lstore 10, 2)) (hn : 11 < M.2.2.1) (hc : x9.category = 1) (k : zW l M N S (pc + 2) (x0 :: x1 :: x2 :: x3 :: x4 :: x5 :: x6 :: x7 :: x8 :: x9 :: .long x :: zno :: t) st h Q) : zW l M N S pc (x0 :: x1 :: x2 :: x3 :: x4 :: x5 :: x6 :: x7 :: x8 :: x9 :: y :: y2 :: t) (.long x :: st) h Q := by
  intro p e s m args below meth c E n0 z0 H locs cells slots ls R Z C A hl hR K
  refine lv_lstore C.1 C.2.1 hd (zlv_has hl) hn rfl (fun ls2 hl2 => ?_)
  refine k p e s m args below meth c E n0 z0 H locs cells slots ls2 R Z C A (zlv_store2 (v := .long x) hl2 ?_) hR K
  intro j w hj hw
  cases j with
  | zero => exact Or.inr ⟨hj, by omega, by omega, fun q => by omega⟩
  | succ j =>
    cases j with
    | zero => exact Or.inr ⟨hj, by omega, by omega, fun q => by omega⟩
    | succ j =>
      cases j with
      | zero => exact Or.inr ⟨hj, by omega, by omega, fun q => by omega⟩
      | succ j =>
        cases j with
        | zero => exact Or.inr ⟨hj, by omega, by omega, fun q => by omega⟩
        | succ j =>
          cases j with
          | zero => exact Or.inr ⟨hj, by omega, by omega, fun q => by omega⟩
          | succ j =>
            cases j with
            | zero => exact Or.inr ⟨hj, by omega, by omega, fun q => by omega⟩
            | succ j =>
              cases j with
              | zero => exact Or.inr ⟨hj, by omega, by omega, fun q => by omega⟩
              | succ j =>
                cases j with
                | zero => exact Or.inr ⟨hj, by omega, by omega, fun q => by omega⟩
                | succ j =>
                  cases j with
                  | zero => exact Or.inr ⟨hj, by omega, by omega, fun q => by omega⟩
                  | succ j =>
                    cases j with
                    | zero => exact Or.inr ⟨hj, by omega, by omega, fun _ => (Option.some.inj hj) ▸ hc⟩
                    | succ j =>
                      cases j with
                      | zero => exact Or.inl ⟨rfl, (Option.some.inj hj).symm⟩
                      | succ j =>
                        cases j with
                        | zero => exact absurd (Option.some.inj hj).symm hw
                        | succ j => exact Or.inr ⟨hj, by omega, by omega, fun q => by omega⟩
theorem z_lstoreK_10 {x0 x1 x2 x3 x4 x5 x6 x7 x8 x9 : Value} {y y2 : Value} {t : List Value} {x : Int64} (hd : decode M.2.1 pc = .ok (.lstore 10, 2)) (hn : 11 < M.2.2.1) (k : zW l M N S (pc + 2) (x0 :: x1 :: x2 :: x3 :: x4 :: x5 :: x6 :: x7 :: x8 :: zno :: .long x :: zno :: t) st h Q) : zW l M N S pc (x0 :: x1 :: x2 :: x3 :: x4 :: x5 :: x6 :: x7 :: x8 :: x9 :: y :: y2 :: t) (.long x :: st) h Q := by
  intro p e s m args below meth c E n0 z0 H locs cells slots ls R Z C A hl hR K
  refine lv_lstore C.1 C.2.1 hd (zlv_has hl) hn rfl (fun ls2 hl2 => ?_)
  refine k p e s m args below meth c E n0 z0 H locs cells slots ls2 R Z C A (zlv_store2 (v := .long x) hl2 ?_) hR K
  intro j w hj hw
  cases j with
  | zero => exact Or.inr ⟨hj, by omega, by omega, fun q => by omega⟩
  | succ j =>
    cases j with
    | zero => exact Or.inr ⟨hj, by omega, by omega, fun q => by omega⟩
    | succ j =>
      cases j with
      | zero => exact Or.inr ⟨hj, by omega, by omega, fun q => by omega⟩
      | succ j =>
        cases j with
        | zero => exact Or.inr ⟨hj, by omega, by omega, fun q => by omega⟩
        | succ j =>
          cases j with
          | zero => exact Or.inr ⟨hj, by omega, by omega, fun q => by omega⟩
          | succ j =>
            cases j with
            | zero => exact Or.inr ⟨hj, by omega, by omega, fun q => by omega⟩
            | succ j =>
              cases j with
              | zero => exact Or.inr ⟨hj, by omega, by omega, fun q => by omega⟩
              | succ j =>
                cases j with
                | zero => exact Or.inr ⟨hj, by omega, by omega, fun q => by omega⟩
                | succ j =>
                  cases j with
                  | zero => exact Or.inr ⟨hj, by omega, by omega, fun q => by omega⟩
                  | succ j =>
                    cases j with
                    | zero => exact absurd (Option.some.inj hj).symm hw
                    | succ j =>
                      cases j with
                      | zero => exact Or.inl ⟨rfl, (Option.some.inj hj).symm⟩
                      | succ j =>
                        cases j with
                        | zero => exact absurd (Option.some.inj hj).symm hw
                        | succ j => exact Or.inr ⟨hj, by omega, by omega, fun q => by omega⟩
theorem z_iinc_10 {x0 x1 x2 x3 x4 x5 x6 x7 x8 x9 : Value} {t : List Value} {x : Int32} {n : Int} (v : Int32) (hd : decode M.2.1 pc = .ok (.iinc 10 n, 3)) (hv : Int32.ofInt n = v) (hn : 10 < M.2.2.1) (hc : x9.category = 1) (k : zW l M N S (pc + 3) (x0 :: x1 :: x2 :: x3 :: x4 :: x5 :: x6 :: x7 :: x8 :: x9 :: .int (x + v) :: t) st h Q) : zW l M N S pc (x0 :: x1 :: x2 :: x3 :: x4 :: x5 :: x6 :: x7 :: x8 :: x9 :: .int x :: t) st h Q := by
  subst hv
  intro p e s m args below meth c E n0 z0 H locs cells slots ls R Z C A hl hR K
  obtain ⟨k0, hk0⟩ := List.getElem?_of_mem (zll_mem.mpr ⟨.int x, (rfl : (x0 :: x1 :: x2 :: x3 :: x4 :: x5 :: x6 :: x7 :: x8 :: x9 :: .int x :: t)[10]? = _), (fun q => Value.noConfusion q), rfl⟩ : (10, ze E (.int x)) ∈ zll E (x0 :: x1 :: x2 :: x3 :: x4 :: x5 :: x6 :: x7 :: x8 :: x9 :: .int x :: t))
  refine lv_iinc C.1 C.2.1 hd (zlv_has hl) hk0 rfl hn rfl (fun ls2 hl2 => ?_)
  refine k p e s m args below meth c E n0 z0 H locs cells slots ls2 R Z C A (zlv_store1 (v := .int (x + Int32.ofInt n)) hl2 ?_) hR K
  intro j w hj hw
  cases j with
  | zero => exact Or.inr ⟨hj, by omega, fun q => by omega⟩
  | succ j =>
    cases j with
    | zero => exact Or.inr ⟨hj, by omega, fun q => by omega⟩
    | succ j =>
      cases j with
      | zero => exact Or.inr ⟨hj, by omega, fun q => by omega⟩
      | succ j =>
        cases j with
        | zero => exact Or.inr ⟨hj, by omega, fun q => by omega⟩
        | succ j =>
          cases j with
          | zero => exact Or.inr ⟨hj, by omega, fun q => by omega⟩
          | succ j =>
            cases j with
            | zero => exact Or.inr ⟨hj, by omega, fun q => by omega⟩
            | succ j =>
              cases j with
              | zero => exact Or.inr ⟨hj, by omega, fun q => by omega⟩
              | succ j =>
                cases j with
                | zero => exact Or.inr ⟨hj, by omega, fun q => by omega⟩
                | succ j =>
                  cases j with
                  | zero => exact Or.inr ⟨hj, by omega, fun q => by omega⟩
                  | succ j =>
                    cases j with
                    | zero => exact Or.inr ⟨hj, by omega, fun _ => (Option.some.inj hj) ▸ hc⟩
                    | succ j =>
                      cases j with
                      | zero => exact Or.inl ⟨rfl, (Option.some.inj hj).symm⟩
                      | succ j => exact Or.inr ⟨hj, by omega, fun q => by omega⟩
theorem z_iload_11 {x0 x1 x2 x3 x4 x5 x6 x7 x8 x9 x10 : Value} {t : List Value} {x : Int32} (hd : decode M.2.1 pc = .ok (.iload 11, 2)) (k : zW l M N S (pc + 2) (x0 :: x1 :: x2 :: x3 :: x4 :: x5 :: x6 :: x7 :: x8 :: x9 :: x10 :: .int x :: t) (.int x :: st) h Q) : zW l M N S pc (x0 :: x1 :: x2 :: x3 :: x4 :: x5 :: x6 :: x7 :: x8 :: x9 :: x10 :: .int x :: t) st h Q := by
  intro p e s m args below meth c E n0 z0 H locs cells slots ls R Z C A hl hR K
  exact lv_iload C.1 C.2.1 hd (hl.2.2 11 (.int x) rfl (fun q => Value.noConfusion q)) (k p e s m args below meth c E n0 z0 H locs cells slots ls R Z C A hl hR K)
theorem z_lload_11 {x0 x1 x2 x3 x4 x5 x6 x7 x8 x9 x10 : Value} {t : List Value} {x : Int64} (hd : decode M.2.1 pc = .ok (.lload 11, 2)) (k : zW l M N S (pc + 2) (x0 :: x1 :: x2 :: x3 :: x4 :: x5 :: x6 :: x7 :: x8 :: x9 :: x10 :: .long x :: t) (.long x :: st) h Q) : zW l M N S pc (x0 :: x1 :: x2 :: x3 :: x4 :: x5 :: x6 :: x7 :: x8 :: x9 :: x10 :: .long x :: t) st h Q := by
  intro p e s m args below meth c E n0 z0 H locs cells slots ls R Z C A hl hR K
  exact lv_lload C.1 C.2.1 hd (hl.2.2 11 (.long x) rfl (fun q => Value.noConfusion q)) (k p e s m args below meth c E n0 z0 H locs cells slots ls R Z C A hl hR K)
theorem z_aload_11 {x0 x1 x2 x3 x4 x5 x6 x7 x8 x9 x10 : Value} {t : List Value} {x : Nat} (hd : decode M.2.1 pc = .ok (.aload 11, 2)) (k : zW l M N S (pc + 2) (x0 :: x1 :: x2 :: x3 :: x4 :: x5 :: x6 :: x7 :: x8 :: x9 :: x10 :: .ref x :: t) (.ref x :: st) h Q) : zW l M N S pc (x0 :: x1 :: x2 :: x3 :: x4 :: x5 :: x6 :: x7 :: x8 :: x9 :: x10 :: .ref x :: t) st h Q := by
  intro p e s m args below meth c E n0 z0 H locs cells slots ls R Z C A hl hR K
  exact lv_aload C.1 C.2.1 hd (hl.2.2 11 (.ref x) rfl (fun q => Value.noConfusion q)) (k p e s m args below meth c E n0 z0 H locs cells slots ls R Z C A hl hR K)
theorem z_istore_11 {x0 x1 x2 x3 x4 x5 x6 x7 x8 x9 x10 : Value} {y : Value} {t : List Value} {x : Int32} (hd : decode M.2.1 pc = .ok (.istore 11, 2)) (hn : 11 < M.2.2.1) (hc : x10.category = 1) (k : zW l M N S (pc + 2) (x0 :: x1 :: x2 :: x3 :: x4 :: x5 :: x6 :: x7 :: x8 :: x9 :: x10 :: .int x :: t) st h Q) : zW l M N S pc (x0 :: x1 :: x2 :: x3 :: x4 :: x5 :: x6 :: x7 :: x8 :: x9 :: x10 :: y :: t) (.int x :: st) h Q := by
  intro p e s m args below meth c E n0 z0 H locs cells slots ls R Z C A hl hR K
  refine lv_istore C.1 C.2.1 hd (zlv_has hl) hn rfl (fun ls2 hl2 => ?_)
  refine k p e s m args below meth c E n0 z0 H locs cells slots ls2 R Z C A (zlv_store1 (v := .int x) hl2 ?_) hR K
  intro j w hj hw
  cases j with
  | zero => exact Or.inr ⟨hj, by omega, fun q => by omega⟩
  | succ j =>
    cases j with
    | zero => exact Or.inr ⟨hj, by omega, fun q => by omega⟩
    | succ j =>
      cases j with
      | zero => exact Or.inr ⟨hj, by omega, fun q => by omega⟩
      | succ j =>
        cases j with
        | zero => exact Or.inr ⟨hj, by omega, fun q => by omega⟩
        | succ j =>
          cases j with
          | zero => exact Or.inr ⟨hj, by omega, fun q => by omega⟩
          | succ j =>
            cases j with
            | zero => exact Or.inr ⟨hj, by omega, fun q => by omega⟩
            | succ j =>
              cases j with
              | zero => exact Or.inr ⟨hj, by omega, fun q => by omega⟩
              | succ j =>
                cases j with
                | zero => exact Or.inr ⟨hj, by omega, fun q => by omega⟩
                | succ j =>
                  cases j with
                  | zero => exact Or.inr ⟨hj, by omega, fun q => by omega⟩
                  | succ j =>
                    cases j with
                    | zero => exact Or.inr ⟨hj, by omega, fun q => by omega⟩
                    | succ j =>
                      cases j with
                      | zero => exact Or.inr ⟨hj, by omega, fun _ => (Option.some.inj hj) ▸ hc⟩
                      | succ j =>
                        cases j with
                        | zero => exact Or.inl ⟨rfl, (Option.some.inj hj).symm⟩
                        | succ j =>
                          exact Or.inr ⟨hj, by omega, fun q => by omega⟩
theorem z_istoreK_11 {x0 x1 x2 x3 x4 x5 x6 x7 x8 x9 x10 : Value} {y : Value} {t : List Value} {x : Int32} (hd : decode M.2.1 pc = .ok (.istore 11, 2)) (hn : 11 < M.2.2.1) (k : zW l M N S (pc + 2) (x0 :: x1 :: x2 :: x3 :: x4 :: x5 :: x6 :: x7 :: x8 :: x9 :: zno :: .int x :: t) st h Q) : zW l M N S pc (x0 :: x1 :: x2 :: x3 :: x4 :: x5 :: x6 :: x7 :: x8 :: x9 :: x10 :: y :: t) (.int x :: st) h Q := by
  intro p e s m args below meth c E n0 z0 H locs cells slots ls R Z C A hl hR K
  refine lv_istore C.1 C.2.1 hd (zlv_has hl) hn rfl (fun ls2 hl2 => ?_)
  refine k p e s m args below meth c E n0 z0 H locs cells slots ls2 R Z C A (zlv_store1 (v := .int x) hl2 ?_) hR K
  intro j w hj hw
  cases j with
  | zero => exact Or.inr ⟨hj, by omega, fun q => by omega⟩
  | succ j =>
    cases j with
    | zero => exact Or.inr ⟨hj, by omega, fun q => by omega⟩
    | succ j =>
      cases j with
      | zero => exact Or.inr ⟨hj, by omega, fun q => by omega⟩
      | succ j =>
        cases j with
        | zero => exact Or.inr ⟨hj, by omega, fun q => by omega⟩
        | succ j =>
          cases j with
          | zero => exact Or.inr ⟨hj, by omega, fun q => by omega⟩
          | succ j =>
            cases j with
            | zero => exact Or.inr ⟨hj, by omega, fun q => by omega⟩
            | succ j =>
              cases j with
              | zero => exact Or.inr ⟨hj, by omega, fun q => by omega⟩
              | succ j =>
                cases j with
                | zero => exact Or.inr ⟨hj, by omega, fun q => by omega⟩
                | succ j =>
                  cases j with
                  | zero => exact Or.inr ⟨hj, by omega, fun q => by omega⟩
                  | succ j =>
                    cases j with
                    | zero => exact Or.inr ⟨hj, by omega, fun q => by omega⟩
                    | succ j =>
                      cases j with
                      | zero => exact absurd (Option.some.inj hj).symm hw
                      | succ j =>
                        cases j with
                        | zero => exact Or.inl ⟨rfl, (Option.some.inj hj).symm⟩
                        | succ j =>
                          exact Or.inr ⟨hj, by omega, fun q => by omega⟩
theorem z_astore_11 {x0 x1 x2 x3 x4 x5 x6 x7 x8 x9 x10 : Value} {y : Value} {t : List Value} {x : Nat} (hd : decode M.2.1 pc = .ok (.astore 11, 2)) (hn : 11 < M.2.2.1) (hc : x10.category = 1) (k : zW l M N S (pc + 2) (x0 :: x1 :: x2 :: x3 :: x4 :: x5 :: x6 :: x7 :: x8 :: x9 :: x10 :: .ref x :: t) st h Q) : zW l M N S pc (x0 :: x1 :: x2 :: x3 :: x4 :: x5 :: x6 :: x7 :: x8 :: x9 :: x10 :: y :: t) (.ref x :: st) h Q := by
  intro p e s m args below meth c E n0 z0 H locs cells slots ls R Z C A hl hR K
  refine lv_astore C.1 C.2.1 hd (zlv_has hl) hn rfl (fun ls2 hl2 => ?_)
  refine k p e s m args below meth c E n0 z0 H locs cells slots ls2 R Z C A (zlv_store1 (v := .ref x) hl2 ?_) hR K
  intro j w hj hw
  cases j with
  | zero => exact Or.inr ⟨hj, by omega, fun q => by omega⟩
  | succ j =>
    cases j with
    | zero => exact Or.inr ⟨hj, by omega, fun q => by omega⟩
    | succ j =>
      cases j with
      | zero => exact Or.inr ⟨hj, by omega, fun q => by omega⟩
      | succ j =>
        cases j with
        | zero => exact Or.inr ⟨hj, by omega, fun q => by omega⟩
        | succ j =>
          cases j with
          | zero => exact Or.inr ⟨hj, by omega, fun q => by omega⟩
          | succ j =>
            cases j with
            | zero => exact Or.inr ⟨hj, by omega, fun q => by omega⟩
            | succ j =>
              cases j with
              | zero => exact Or.inr ⟨hj, by omega, fun q => by omega⟩
              | succ j =>
                cases j with
                | zero => exact Or.inr ⟨hj, by omega, fun q => by omega⟩
                | succ j =>
                  cases j with
                  | zero => exact Or.inr ⟨hj, by omega, fun q => by omega⟩
                  | succ j =>
                    cases j with
                    | zero => exact Or.inr ⟨hj, by omega, fun q => by omega⟩
                    | succ j =>
                      cases j with
                      | zero => exact Or.inr ⟨hj, by omega, fun _ => (Option.some.inj hj) ▸ hc⟩
                      | succ j =>
                        cases j with
                        | zero => exact Or.inl ⟨rfl, (Option.some.inj hj).symm⟩
                        | succ j =>
                          exact Or.inr ⟨hj, by omega, fun q => by omega⟩
theorem z_astoreK_11 {x0 x1 x2 x3 x4 x5 x6 x7 x8 x9 x10 : Value} {y : Value} {t : List Value} {x : Nat} (hd : decode M.2.1 pc = .ok (.astore 11, 2)) (hn : 11 < M.2.2.1) (k : zW l M N S (pc + 2) (x0 :: x1 :: x2 :: x3 :: x4 :: x5 :: x6 :: x7 :: x8 :: x9 :: zno :: .ref x :: t) st h Q) : zW l M N S pc (x0 :: x1 :: x2 :: x3 :: x4 :: x5 :: x6 :: x7 :: x8 :: x9 :: x10 :: y :: t) (.ref x :: st) h Q := by
  intro p e s m args below meth c E n0 z0 H locs cells slots ls R Z C A hl hR K
  refine lv_astore C.1 C.2.1 hd (zlv_has hl) hn rfl (fun ls2 hl2 => ?_)
  refine k p e s m args below meth c E n0 z0 H locs cells slots ls2 R Z C A (zlv_store1 (v := .ref x) hl2 ?_) hR K
  intro j w hj hw
  cases j with
  | zero => exact Or.inr ⟨hj, by omega, fun q => by omega⟩
  | succ j =>
    cases j with
    | zero => exact Or.inr ⟨hj, by omega, fun q => by omega⟩
    | succ j =>
      cases j with
      | zero => exact Or.inr ⟨hj, by omega, fun q => by omega⟩
      | succ j =>
        cases j with
        | zero => exact Or.inr ⟨hj, by omega, fun q => by omega⟩
        | succ j =>
          cases j with
          | zero => exact Or.inr ⟨hj, by omega, fun q => by omega⟩
          | succ j =>
            cases j with
            | zero => exact Or.inr ⟨hj, by omega, fun q => by omega⟩
            | succ j =>
              cases j with
              | zero => exact Or.inr ⟨hj, by omega, fun q => by omega⟩
              | succ j =>
                cases j with
                | zero => exact Or.inr ⟨hj, by omega, fun q => by omega⟩
                | succ j =>
                  cases j with
                  | zero => exact Or.inr ⟨hj, by omega, fun q => by omega⟩
                  | succ j =>
                    cases j with
                    | zero => exact Or.inr ⟨hj, by omega, fun q => by omega⟩
                    | succ j =>
                      cases j with
                      | zero => exact absurd (Option.some.inj hj).symm hw
                      | succ j =>
                        cases j with
                        | zero => exact Or.inl ⟨rfl, (Option.some.inj hj).symm⟩
                        | succ j =>
                          exact Or.inr ⟨hj, by omega, fun q => by omega⟩
theorem z_lstore_11 {x0 x1 x2 x3 x4 x5 x6 x7 x8 x9 x10 : Value} {y y2 : Value} {t : List Value} {x : Int64} (hd : decode M.2.1 pc = .ok (.lstore 11, 2)) (hn : 12 < M.2.2.1) (hc : x10.category = 1) (k : zW l M N S (pc + 2) (x0 :: x1 :: x2 :: x3 :: x4 :: x5 :: x6 :: x7 :: x8 :: x9 :: x10 :: .long x :: zno :: t) st h Q) : zW l M N S pc (x0 :: x1 :: x2 :: x3 :: x4 :: x5 :: x6 :: x7 :: x8 :: x9 :: x10 :: y :: y2 :: t) (.long x :: st) h Q := by
  intro p e s m args below meth c E n0 z0 H locs cells slots ls R Z C A hl hR K
  refine lv_lstore C.1 C.2.1 hd (zlv_has hl) hn rfl (fun ls2 hl2 => ?_)
  refine k p e s m args below meth c E n0 z0 H locs cells slots ls2 R Z C A (zlv_store2 (v := .long x) hl2 ?_) hR K
  intro j w hj hw
  cases j with
  | zero => exact Or.inr ⟨hj, by omega, by omega, fun q => by omega⟩
  | succ j =>
    cases j with
    | zero => exact Or.inr ⟨hj, by omega, by omega, fun q => by omega⟩
    | succ j =>
      cases j with
      | zero => exact Or.inr ⟨hj, by omega, by omega, fun q => by omega⟩
      | succ j =>
        cases j with
        | zero => exact Or.inr ⟨hj, by omega, by omega, fun q => by omega⟩
        | succ j =>
          cases j with
          | zero => exact Or.inr ⟨hj, by omega, by omega, fun q => by omega⟩
          | succ j =>
            cases j with
            | zero => exact Or.inr ⟨hj, by omega, by omega, fun q => by omega⟩
            | succ j =>
              cases j with
              | zero => exact Or.inr ⟨hj, by omega, by omega, fun q => by omega⟩
              | succ j =>
                cases j with
                | zero => exact Or.inr ⟨hj, by omega, by omega, fun q => by omega⟩
                | succ j =>
                  cases j with
                  | zero => exact Or.inr ⟨hj, by omega, by omega, fun q => by omega⟩
                  | succ j =>
                    cases j with
                    | zero => exact Or.inr ⟨hj, by omega, by omega, fun q => by omega⟩
                    | succ j =>
                      cases j with
                      | zero => exact Or.inr ⟨hj, by omega, by omega, fun _ => (Option.some.inj hj) ▸ hc⟩
                      | succ j =>
                        cases j with
                        | zero => exact Or.inl ⟨rfl, (Option.some.inj hj).symm⟩
                        | succ j =>
                          cases j with
                          | zero => exact absurd (Option.some.inj hj).symm hw
                          | succ j => exact Or.inr ⟨hj, by omega, by omega, fun q => by omega⟩
theorem z_lstoreK_11 {x0 x1 x2 x3 x4 x5 x6 x7 x8 x9 x10 : Value} {y y2 : Value} {t : List Value} {x : Int64} (hd : decode M.2.1 pc = .ok (.lstore 11, 2)) (hn : 12 < M.2.2.1) (k : zW l M N S (pc + 2) (x0 :: x1 :: x2 :: x3 :: x4 :: x5 :: x6 :: x7 :: x8 :: x9 :: zno :: .long x :: zno :: t) st h Q) : zW l M N S pc (x0 :: x1 :: x2 :: x3 :: x4 :: x5 :: x6 :: x7 :: x8 :: x9 :: x10 :: y :: y2 :: t) (.long x :: st) h Q := by
  intro p e s m args below meth c E n0 z0 H locs cells slots ls R Z C A hl hR K
  refine lv_lstore C.1 C.2.1 hd (zlv_has hl) hn rfl (fun ls2 hl2 => ?_)
  refine k p e s m args below meth c E n0 z0 H locs cells slots ls2 R Z C A (zlv_store2 (v := .long x) hl2 ?_) hR K
  intro j w hj hw
  cases j with
  | zero => exact Or.inr ⟨hj, by omega, by omega, fun q => by omega⟩
  | succ j =>
    cases j with
    | zero => exact Or.inr ⟨hj, by omega, by omega, fun q => by omega⟩
    | succ j =>
      cases j with
      | zero => exact Or.inr ⟨hj, by omega, by omega, fun q => by omega⟩
      | succ j =>
        cases j with
        | zero => exact Or.inr ⟨hj, by omega, by omega, fun q => by omega⟩
        | succ j =>
          cases j with
          | zero => exact Or.inr ⟨hj, by omega, by omega, fun q => by omega⟩
          | succ j =>
            cases j with
            | zero => exact Or.inr ⟨hj, by omega, by omega, fun q => by omega⟩
            | succ j =>
              cases j with
              | zero => exact Or.inr ⟨hj, by omega, by omega, fun q => by omega⟩
              | succ j =>
                cases j with
                | zero => exact Or.inr ⟨hj, by omega, by omega, fun q => by omega⟩
                | succ j =>
                  cases j with
                  | zero => exact Or.inr ⟨hj, by omega, by omega, fun q => by omega⟩
                  | succ j =>
                    cases j with
                    | zero => exact Or.inr ⟨hj, by omega, by omega, fun q => by omega⟩
                    | succ j =>
                      cases j with
                      | zero => exact absurd (Option.some.inj hj).symm hw
                      | succ j =>
                        cases j with
                        | zero => exact Or.inl ⟨rfl, (Option.some.inj hj).symm⟩
                        | succ j =>
                          cases j with
                          | zero => exact absurd (Option.some.inj hj).symm hw
                          | succ j => exact Or.inr ⟨hj, by omega, by omega, fun q => by omega⟩
theorem z_iinc_11 {x0 x1 x2 x3 x4 x5 x6 x7 x8 x9 x10 : Value} {t : List Value} {x : Int32} {n : Int} (v : Int32) (hd : decode M.2.1 pc = .ok (.iinc 11 n, 3)) (hv : Int32.ofInt n = v) (hn : 11 < M.2.2.1) (hc : x10.category = 1) (k : zW l M N S (pc + 3) (x0 :: x1 :: x2 :: x3 :: x4 :: x5 :: x6 :: x7 :: x8 :: x9 :: x10 :: .int (x + v) :: t) st h Q) : zW l M N S pc (x0 :: x1 :: x2 :: x3 :: x4 :: x5 :: x6 :: x7 :: x8 :: x9 :: x10 :: .int x :: t) st h Q := by
  subst hv
  intro p e s m args below meth c E n0 z0 H locs cells slots ls R Z C A hl hR K
  obtain ⟨k0, hk0⟩ := List.getElem?_of_mem (zll_mem.mpr ⟨.int x, (rfl : (x0 :: x1 :: x2 :: x3 :: x4 :: x5 :: x6 :: x7 :: x8 :: x9 :: x10 :: .int x :: t)[11]? = _), (fun q => Value.noConfusion q), rfl⟩ : (11, ze E (.int x)) ∈ zll E (x0 :: x1 :: x2 :: x3 :: x4 :: x5 :: x6 :: x7 :: x8 :: x9 :: x10 :: .int x :: t))
  refine lv_iinc C.1 C.2.1 hd (zlv_has hl) hk0 rfl hn rfl (fun ls2 hl2 => ?_)
  refine k p e s m args below meth c E n0 z0 H locs cells slots ls2 R Z C A (zlv_store1 (v := .int (x + Int32.ofInt n)) hl2 ?_) hR K
  intro j w hj hw
  cases j with
  | zero => exact Or.inr ⟨hj, by omega, fun q => by omega⟩
  | succ j =>
    cases j with
    | zero => exact Or.inr ⟨hj, by omega, fun q => by omega⟩
    | succ j =>
      cases j with
      | zero => exact Or.inr ⟨hj, by omega, fun q => by omega⟩
      | succ j =>
        cases j with
        | zero => exact Or.inr ⟨hj, by omega, fun q => by omega⟩
        | succ j =>
          cases j with
          | zero => exact Or.inr ⟨hj, by omega, fun q => by omega⟩
          | succ j =>
            cases j with
            | zero => exact Or.inr ⟨hj, by omega, fun q => by omega⟩
            | succ j =>
              cases j with
              | zero => exact Or.inr ⟨hj, by omega, fun q => by omega⟩
              | succ j =>
                cases j with
                | zero => exact Or.inr ⟨hj, by omega, fun q => by omega⟩
                | succ j =>
                  cases j with
                  | zero => exact Or.inr ⟨hj, by omega, fun q => by omega⟩
                  | succ j =>
                    cases j with
                    | zero => exact Or.inr ⟨hj, by omega, fun q => by omega⟩
                    | succ j =>
                      cases j with
                      | zero => exact Or.inr ⟨hj, by omega, fun _ => (Option.some.inj hj) ▸ hc⟩
                      | succ j =>
                        cases j with
                        | zero => exact Or.inl ⟨rfl, (Option.some.inj hj).symm⟩
                        | succ j => exact Or.inr ⟨hj, by omega, fun q => by omega⟩
theorem z_iload_12 {x0 x1 x2 x3 x4 x5 x6 x7 x8 x9 x10 x11 : Value} {t : List Value} {x : Int32} (hd : decode M.2.1 pc = .ok (.iload 12, 2)) (k : zW l M N S (pc + 2) (x0 :: x1 :: x2 :: x3 :: x4 :: x5 :: x6 :: x7 :: x8 :: x9 :: x10 :: x11 :: .int x :: t) (.int x :: st) h Q) : zW l M N S pc (x0 :: x1 :: x2 :: x3 :: x4 :: x5 :: x6 :: x7 :: x8 :: x9 :: x10 :: x11 :: .int x :: t) st h Q := by
  intro p e s m args below meth c E n0 z0 H locs cells slots ls R Z C A hl hR K
  exact lv_iload C.1 C.2.1 hd (hl.2.2 12 (.int x) rfl (fun q => Value.noConfusion q)) (k p e s m args below meth c E n0 z0 H locs cells slots ls R Z C A hl hR K)
theorem z_lload_12 {x0 x1 x2 x3 x4 x5 x6 x7 x8 x9 x10 x11 : Value} {t : List Value} {x : Int64} (hd : decode M.2.1 pc = .ok (.lload 12, 2)) (k : zW l M N S (pc + 2) (x0 :: x1 :: x2 :: x3 :: x4 :: x5 :: x6 :: x7 :: x8 :: x9 :: x10 :: x11 :: .long x :: t) (.long x :: st) h Q) : zW l M N S pc (x0 :: x1 :: x2 :: x3 :: x4 :: x5 :: x6 :: x7 :: x8 :: x9 :: x10 :: x11 :: .long x :: t) st h Q := by
  intro p e s m args below meth c E n0 z0 H locs cells slots ls R Z C A hl hR K
  exact lv_lload C.1 C.2.1 hd (hl.2.2 12 (.long x) rfl (fun q => Value.noConfusion q)) (k p e s m args below meth c E n0 z0 H locs cells slots ls R Z C A hl hR K)
theorem z_aload_12 {x0 x1 x2 x3 x4 x5 x6 x7 x8 x9 x10 x11 : Value} {t : List Value} {x : Nat} (hd : decode M.2.1 pc = .ok (.aload 12, 2)) (k : zW l M N S (pc + 2) (x0 :: x1 :: x2 :: x3 :: x4 :: x5 :: x6 :: x7 :: x8 :: x9 :: x10 :: x11 :: .ref x :: t) (.ref x :: st) h Q) : zW l M N S pc (x0 :: x1 :: x2 :: x3 :: x4 :: x5 :: x6 :: x7 :: x8 :: x9 :: x10 :: x11 :: .ref x :: t) st h Q := by
  intro p e s m args below meth c E n0 z0 H locs cells slots ls R Z C A hl hR K
  exact lv_aload C.1 C.2.1 hd (hl.2.2 12 (.ref x) rfl (fun q => Value.noConfusion q)) (k p e s m args below meth c E n0 z0 H locs cells slots ls R Z C A hl hR K)
theorem z_istore_12 {x0 x1 x2 x3 x4 x5 x6 x7 x8 x9 x10 x11 : Value} {y : Value} {t : List Value} {x : Int32} (hd : decode M.2.1 pc = .ok (.istore 12, 2)) (hn : 12 < M.2.2.1) (hc : x11.category = 1) (k : zW l M N S (pc + 2) (x0 :: x1 :: x2 :: x3 :: x4 :: x5 :: x6 :: x7 :: x8 :: x9 :: x10 :: x11 :: .int x :: t) st h Q) : zW l M N S pc (x0 :: x1 :: x2 :: x3 :: x4 :: x5 :: x6 :: x7 :: x8 :: x9 :: x10 :: x11 :: y :: t) (.int x :: st) h Q := by
  intro p e s m args below meth c E n0 z0 H locs cells slots ls R Z C A hl hR K
  refine lv_istore C.1 C.2.1 hd (zlv_has hl) hn rfl (fun ls2 hl2 => ?_)
  refine k p e s m args below meth c E n0 z0 H locs cells slots ls2 R Z C A (zlv_store1 (v := .int x) hl2 ?_) hR K
  intro j w hj hw
  cases j with
  | zero => exact Or.inr ⟨hj, by omega, fun q => by omega⟩
  | succ j =>
    cases j with
    | zero => exact Or.inr ⟨hj, by omega, fun q => by omega⟩
    | succ j =>
      cases j with
      | zero => exact Or.inr ⟨hj, by omega, fun q => by omega⟩
      | succ j =>
        cases j with
        | zero => exact Or.inr ⟨hj, by omega, fun q => by omega⟩
        | succ j =>
          cases j with
          | zero => exact Or.inr ⟨hj, by omega, fun q => by omega⟩
          | succ j =>
            cases j with
            | zero => exact Or.inr ⟨hj, by omega, fun q => by omega⟩
            | succ j =>
              cases j with
              | zero => exact Or.inr ⟨hj, by omega, fun q => by omega⟩
              | succ j =>
                cases j with
                | zero => exact Or.inr ⟨hj, by omega, fun q => by omega⟩
                | succ j =>
                  cases j with
                  | zero => exact Or.inr ⟨hj, by omega, fun q => by omega⟩
                  | succ j =>
                    cases j with
                    | zero => exact Or.inr ⟨hj, by omega, fun q => by omega⟩
                    | succ j =>
                      cases j with
                      | zero => exact Or.inr ⟨hj, by omega, fun q => by omega⟩
                      | succ j =>
                        cases j with
                        | zero => exact Or.inr ⟨hj, by omega, fun _ => (Option.some.inj hj) ▸ hc⟩
                        | succ j =>
                          cases j with
                          | zero => exact Or.inl ⟨rfl, (Option.some.inj hj).symm⟩
                          | succ j =>
                            exact Or.inr ⟨hj, by omega, fun q => by omega⟩
theorem z_istoreK_12 {x0 x1 x2 x3 x4 x5 x6 x7 x8 x9 x10 x11 : Value} {y : Value} {t : List Value} {x : Int32} (hd : decode M.2.1 pc = .ok (.istore 12, 2)) (hn : 12 < M.2.2.1) (k : zW l M N S (pc + 2) (x0 :: x1 :: x2 :: x3 :: x4 :: x5 :: x6 :: x7 :: x8 :: x9 :: x10 :: zno :: .int x :: t) st h Q) : zW l M N S pc (x0 :: x1 :: x2 :: x3 :: x4 :: x5 :: x6 :: x7 :: x8 :: x9 :: x10 :: x11 :: y :: t) (.int x :: st) h Q := by
  intro p e s m args below meth c E n0 z0 H locs cells slots ls R Z C A hl hR K
  refine lv_istore C.1 C.2.1 hd (zlv_has hl) hn rfl (fun ls2 hl2 => ?_)
  refine k p e s m args below meth c E n0 z0 H locs cells slots ls2 R Z C A (zlv_store1 (v := .int x) hl2 ?_) hR K
  intro j w hj hw
  cases j with
  | zero => exact Or.inr ⟨hj, by omega, fun q => by omega⟩
  | succ j =>
    cases j with
    | zero => exact Or.inr ⟨hj, by omega, fun q => by omega⟩
    | succ j =>
      cases j with
      | zero => exact Or.inr ⟨hj, by omega, fun q => by omega⟩
      | succ j =>
        cases j with
        | zero => exact Or.inr ⟨hj, by omega, fun q => by omega⟩
        | succ j =>
          cases j with
          | zero => exact Or.inr ⟨hj, by omega, fun q => by omega⟩
          | succ j =>
            cases j with
            | zero => exact Or.inr ⟨hj, by omega, fun q => by omega⟩
            | succ j =>
              cases j with
              | zero => exact Or.inr ⟨hj, by omega, fun q => by omega⟩
              | succ j =>
                cases j with
                | zero => exact Or.inr ⟨hj, by omega, fun q => by omega⟩
                | succ j =>
                  cases j with
                  | zero => exact Or.inr ⟨hj, by omega, fun q => by omega⟩
                  | succ j =>
                    cases j with
                    | zero => exact Or.inr ⟨hj, by omega, fun q => by omega⟩
                    | succ j =>
                      cases j with
                      | zero => exact Or.inr ⟨hj, by omega, fun q => by omega⟩
                      | succ j =>
                        cases j with
                        | zero => exact absurd (Option.some.inj hj).symm hw
                        | succ j =>
                          cases j with
                          | zero => exact Or.inl ⟨rfl, (Option.some.inj hj).symm⟩
                          | succ j =>
                            exact Or.inr ⟨hj, by omega, fun q => by omega⟩
theorem z_astore_12 {x0 x1 x2 x3 x4 x5 x6 x7 x8 x9 x10 x11 : Value} {y : Value} {t : List Value} {x : Nat} (hd : decode M.2.1 pc = .ok (.astore 12, 2)) (hn : 12 < M.2.2.1) (hc : x11.category = 1) (k : zW l M N S (pc + 2) (x0 :: x1 :: x2 :: x3 :: x4 :: x5 :: x6 :: x7 :: x8 :: x9 :: x10 :: x11 :: .ref x :: t) st h Q) : zW l M N S pc (x0 :: x1 :: x2 :: x3 :: x4 :: x5 :: x6 :: x7 :: x8 :: x9 :: x10 :: x11 :: y :: t) (.ref x :: st) h Q := by
  intro p e s m args below meth c E n0 z0 H locs cells slots ls R Z C A hl hR K
  refine lv_astore C.1 C.2.1 hd (zlv_has hl) hn rfl (fun ls2 hl2 => ?_)
  refine k p e s m args below meth c E n0 z0 H locs cells slots ls2 R Z C A (zlv_store1 (v := .ref x) hl2 ?_) hR K
  intro j w hj hw
  cases j with
  | zero => exact Or.inr ⟨hj, by omega, fun q => by omega⟩
  | succ j =>
    cases j with
    | zero => exact Or.inr ⟨hj, by omega, fun q => by omega⟩
    | succ j =>
      cases j with
      | zero => exact Or.inr ⟨hj, by omega, fun q => by omega⟩
      | succ j =>
        cases j with
        | zero => exact Or.inr ⟨hj, by omega, fun q => by omega⟩
        | succ j =>
          cases j with
          | zero => exact Or.inr ⟨hj, by omega, fun q => by omega⟩
          | succ j =>
            cases j with
            | zero => exact Or.inr ⟨hj, by omega, fun q => by omega⟩
            | succ j =>
              cases j with
              | zero => exact Or.inr ⟨hj, by omega, fun q => by omega⟩
              | succ j =>
                cases j with
                | zero => exact Or.inr ⟨hj, by omega, fun q => by omega⟩
                | succ j =>
                  cases j with
                  | zero => exact Or.inr ⟨hj, by omega, fun q => by omega⟩
                  | succ j =>
                    cases j with
                    | zero => exact Or.inr ⟨hj, by omega, fun q => by omega⟩
                    | succ j =>
                      cases j with
                      | zero => exact Or.inr ⟨hj, by omega, fun q => by omega⟩
                      | succ j =>
                        cases j with
                        | zero => exact Or.inr ⟨hj, by omega, fun _ => (Option.some.inj hj) ▸ hc⟩
                        | succ j =>
                          cases j with
                          | zero => exact Or.inl ⟨rfl, (Option.some.inj hj).symm⟩
                          | succ j =>
                            exact Or.inr ⟨hj, by omega, fun q => by omega⟩
theorem z_astoreK_12 {x0 x1 x2 x3 x4 x5 x6 x7 x8 x9 x10 x11 : Value} {y : Value} {t : List Value} {x : Nat} (hd : decode M.2.1 pc = .ok (.astore 12, 2)) (hn : 12 < M.2.2.1) (k : zW l M N S (pc + 2) (x0 :: x1 :: x2 :: x3 :: x4 :: x5 :: x6 :: x7 :: x8 :: x9 :: x10 :: zno :: .ref x :: t) st h Q) : zW l M N S pc (x0 :: x1 :: x2 :: x3 :: x4 :: x5 :: x6 :: x7 :: x8 :: x9 :: x10 :: x11 :: y :: t) (.ref x :: st) h Q := by
  intro p e s m args below meth c E n0 z0 H locs cells slots ls R Z C A hl hR K
  refine lv_astore C.1 C.2.1 hd (zlv_has hl) hn rfl (fun ls2 hl2 => ?_)
  refine k p e s m args below meth c E n0 z0 H locs cells slots ls2 R Z C A (zlv_store1 (v := .ref x) hl2 ?_) hR K
  intro j w hj hw
  cases j with
  | zero => exact Or.inr ⟨hj, by omega, fun q => by omega⟩
  | succ j =>
    cases j with
    | zero => exact Or.inr ⟨hj, by omega, fun q => by omega⟩
    | succ j =>
      cases j with
      | zero => exact Or.inr ⟨hj, by omega, fun q => by omega⟩
      | succ j =>
        cases j with
        | zero => exact Or.inr ⟨hj, by omega, fun q => by omega⟩
        | succ j =>
          cases j with
          | zero => exact Or.inr ⟨hj, by omega, fun q => by omega⟩
          | succ j =>
            cases j with
            | zero => exact Or.inr ⟨hj, by omega, fun q => by omega⟩
            | succ j =>
              cases j with
              | zero => exact Or.inr ⟨hj, by omega, fun q => by omega⟩
              | succ j =>
                cases j with
                | zero => exact Or.inr ⟨hj, by omega, fun q => by omega⟩
                | succ j =>
                  cases j with
                  | zero => exact Or.inr ⟨hj, by omega, fun q => by omega⟩
                  | succ j =>
                    cases j with
                    | zero => exact Or.inr ⟨hj, by omega, fun q => by omega⟩
                    | succ j =>
                      cases j with
                      | zero => exact Or.inr ⟨hj, by omega, fun q => by omega⟩
                      | succ j =>
                        cases j with
                        | zero => exact absurd (Option.some.inj hj).symm hw
                        | succ j =>
                          cases j with
                          | zero => exact Or.inl ⟨rfl, (Option.some.inj hj).symm⟩
                          | succ j =>
                            exact Or.inr ⟨hj, by omega, fun q => by omega⟩
theorem z_lstore_12 {x0 x1 x2 x3 x4 x5 x6 x7 x8 x9 x10 x11 : Value} {y y2 : Value} {t : List Value} {x : Int64} (hd : decode M.2.1 pc = .ok (.lstore 12, 2)) (hn : 13 < M.2.2.1) (hc : x11.category = 1) (k : zW l M N S (pc + 2) (x0 :: x1 :: x2 :: x3 :: x4 :: x5 :: x6 :: x7 :: x8 :: x9 :: x10 :: x11 :: .long x :: zno :: t) st h Q) : zW l M N S pc (x0 :: x1 :: x2 :: x3 :: x4 :: x5 :: x6 :: x7 :: x8 :: x9 :: x10 :: x11 :: y :: y2 :: t) (.long x :: st) h Q := by
  intro p e s m args below meth c E n0 z0 H locs cells slots ls R Z C A hl hR K
  refine lv_lstore C.1 C.2.1 hd (zlv_has hl) hn rfl (fun ls2 hl2 => ?_)
  refine k p e s m args below meth c E n0 z0 H locs cells slots ls2 R Z C A (zlv_store2 (v := .long x) hl2 ?_) hR K
  intro j w hj hw
  cases j with
  | zero => exact Or.inr ⟨hj, by omega, by omega, fun q => by omega⟩
  | succ j =>
    cases j with
    | zero => exact Or.inr ⟨hj, by omega, by omega, fun q => by omega⟩
    | succ j =>
      cases j with
      | zero => exact Or.inr ⟨hj, by omega, by omega, fun q => by omega⟩
      | succ j =>
        cases j with
        | zero => exact Or.inr ⟨hj, by omega, by omega, fun q => by omega⟩
        | succ j =>
          cases j with
          | zero => exact Or.inr ⟨hj, by omega, by omega, fun q => by omega⟩
          | succ j =>
            cases j with
            | zero => exact Or.inr ⟨hj, by omega, by omega, fun q => by omega⟩
            | succ j =>
              cases j with
              | zero => exact Or.inr ⟨hj, by omega, by omega, fun q => by omega⟩
              | succ j =>
                cases j with
                | zero => exact Or.inr ⟨hj, by omega, by omega, fun q => by omega⟩
                | succ j =>
                  cases j with
                  | zero => exact Or.inr ⟨hj, by omega, by omega, fun q => by omega⟩
                  | succ j =>
                    cases j with
                    | zero => exact Or.inr ⟨hj, by omega, by omega, fun q => by omega⟩
                    | succ j =>
                      cases j with
                      | zero => exact Or.inr ⟨hj, by omega, by omega, fun q => by omega⟩
                      | succ j =>
                        cases j with
                        | zero => exact Or.inr ⟨hj, by omega, by omega, fun _ => (Option.some.inj hj) ▸ hc⟩
                        | succ j =>
                          cases j with
                          | zero => exact Or.inl ⟨rfl, (Option.some.inj hj).symm⟩
                          | succ j =>
                            cases j with
                            | zero => exact absurd (Option.some.inj hj).symm hw
                            | succ j => exact Or.inr ⟨hj, by omega, by omega, fun q => by omega⟩
theorem z_lstoreK_12 {x0 x1 x2 x3 x4 x5 x6 x7 x8 x9 x10 x11 : Value} {y y2 : Value} {t : List Value} {x : Int64} (hd : decode M.2.1 pc = .ok (.lstore 12, 2)) (hn : 13 < M.2.2.1) (k : zW l M N S (pc + 2) (x0 :: x1 :: x2 :: x3 :: x4 :: x5 :: x6 :: x7 :: x8 :: x9 :: x10 :: zno :: .long x :: zno :: t) st h Q) : zW l M N S pc (x0 :: x1 :: x2 :: x3 :: x4 :: x5 :: x6 :: x7 :: x8 :: x9 :: x10 :: x11 :: y :: y2 :: t) (.long x :: st) h Q := by
  intro p e s m args below meth c E n0 z0 H locs cells slots ls R Z C A hl hR K
  refine lv_lstore C.1 C.2.1 hd (zlv_has hl) hn rfl (fun ls2 hl2 => ?_)
  refine k p e s m args below meth c E n0 z0 H locs cells slots ls2 R Z C A (zlv_store2 (v := .long x) hl2 ?_) hR K
  intro j w hj hw
  cases j with
  | zero => exact Or.inr ⟨hj, by omega, by omega, fun q => by omega⟩
  | succ j =>
    cases j with
    | zero => exact Or.inr ⟨hj, by omega, by omega, fun q => by omega⟩
    | succ j =>
      cases j with
      | zero => exact Or.inr ⟨hj, by omega, by omega, fun q => by omega⟩
      | succ j =>
        cases j with
        | zero => exact Or.inr ⟨hj, by omega, by omega, fun q => by omega⟩
        | succ j =>
          cases j with
          | zero => exact Or.inr ⟨hj, by omega, by omega, fun q => by omega⟩
          | succ j =>
            cases j with
            | zero => exact Or.inr ⟨hj, by omega, by omega, fun q => by omega⟩
            | succ j =>
              cases j with
              | zero => exact Or.inr ⟨hj, by omega, by omega, fun q => by omega⟩
              | succ j =>
                cases j with
                | zero => exact Or.inr ⟨hj, by omega, by omega, fun q => by omega⟩
                | succ j =>
                  cases j with
                  | zero => exact Or.inr ⟨hj, by omega, by omega, fun q => by omega⟩
                  | succ j =>
                    cases j with
                    | zero => exact Or.inr ⟨hj, by omega, by omega, fun q => by omega⟩
                    | succ j =>
                      cases j with
                      | zero => exact Or.inr ⟨hj, by omega, by omega, fun q => by omega⟩
                      | succ j =>
                        cases j with
                        | zero => exact absurd (Option.some.inj hj).symm hw
                        | succ j =>
                          cases j with
                          | zero => exact Or.inl ⟨rfl, (Option.some.inj hj).symm⟩
                          | succ j =>
                            cases j with
                            | zero => exact absurd (Option.some.inj hj).symm hw
                            | succ j => exact Or.inr ⟨hj, by omega, by omega, fun q => by omega⟩
theorem z_iinc_12 {x0 x1 x2 x3 x4 x5 x6 x7 x8 x9 x10 x11 : Value} {t : List Value} {x : Int32} {n : Int} (v : Int32) (hd : decode M.2.1 pc = .ok (.iinc 12 n, 3)) (hv : Int32.ofInt n = v) (hn : 12 < M.2.2.1) (hc : x11.category = 1) (k : zW l M N S (pc + 3) (x0 :: x1 :: x2 :: x3 :: x4 :: x5 :: x6 :: x7 :: x8 :: x9 :: x10 :: x11 :: .int (x + v) :: t) st h Q) : zW l M N S pc (x0 :: x1 :: x2 :: x3 :: x4 :: x5 :: x6 :: x7 :: x8 :: x9 :: x10 :: x11 :: .int x :: t) st h Q := by
  subst hv
  intro p e s m args below meth c E n0 z0 H locs cells slots ls R Z C A hl hR K
  obtain ⟨k0, hk0⟩ := List.getElem?_of_mem (zll_mem.mpr ⟨.int x, (rfl : (x0 :: x1 :: x2 :: x3 :: x4 :: x5 :: x6 :: x7 :: x8 :: x9 :: x10 :: x11 :: .int x :: t)[12]? = _), (fun q => Value.noConfusion q), rfl⟩ : (12, ze E (.int x)) ∈ zll E (x0 :: x1 :: x2 :: x3 :: x4 :: x5 :: x6 :: x7 :: x8 :: x9 :: x10 :: x11 :: .int x :: t))
  refine lv_iinc C.1 C.2.1 hd (zlv_has hl) hk0 rfl hn rfl (fun ls2 hl2 => ?_)
  refine k p e s m args below meth c E n0 z0 H locs cells slots ls2 R Z C A (zlv_store1 (v := .int (x + Int32.ofInt n)) hl2 ?_) hR K
  intro j w hj hw
  cases j with
  | zero => exact Or.inr ⟨hj, by omega, fun q => by omega⟩
  | succ j =>
    cases j with
    | zero => exact Or.inr ⟨hj, by omega, fun q => by omega⟩
    | succ j =>
      cases j with
      | zero => exact Or.inr ⟨hj, by omega, fun q => by omega⟩
      | succ j =>
        cases j with
        | zero => exact Or.inr ⟨hj, by omega, fun q => by omega⟩
        | succ j =>
          cases j with
          | zero => exact Or.inr ⟨hj, by omega, fun q => by omega⟩
          | succ j =>
            cases j with
            | zero => exact Or.inr ⟨hj, by omega, fun q => by omega⟩
            | succ j =>
              cases j with
              | zero => exact Or.inr ⟨hj, by omega, fun q => by omega⟩
              | succ j =>
                cases j with
                | zero => exact Or.inr ⟨hj, by omega, fun q => by omega⟩
                | succ j =>
                  cases j with
                  | zero => exact Or.inr ⟨hj, by omega, fun q => by omega⟩
                  | succ j =>
                    cases j with
                    | zero => exact Or.inr ⟨hj, by omega, fun q => by omega⟩
                    | succ j =>
                      cases j with
                      | zero => exact Or.inr ⟨hj, by omega, fun q => by omega⟩
                      | succ j =>
                        cases j with
                        | zero => exact Or.inr ⟨hj, by omega, fun _ => (Option.some.inj hj) ▸ hc⟩
                        | succ j =>
                          cases j with
                          | zero => exact Or.inl ⟨rfl, (Option.some.inj hj).symm⟩
                          | succ j => exact Or.inr ⟨hj, by omega, fun q => by omega⟩
theorem z_iload_13 {x0 x1 x2 x3 x4 x5 x6 x7 x8 x9 x10 x11 x12 : Value} {t : List Value} {x : Int32} (hd : decode M.2.1 pc = .ok (.iload 13, 2)) (k : zW l M N S (pc + 2) (x0 :: x1 :: x2 :: x3 :: x4 :: x5 :: x6 :: x7 :: x8 :: x9 :: x10 :: x11 :: x12 :: .int x :: t) (.int x :: st) h Q) : zW l M N S pc (x0 :: x1 :: x2 :: x3 :: x4 :: x5 :: x6 :: x7 :: x8 :: x9 :: x10 :: x11 :: x12 :: .int x :: t) st h Q := by
  intro p e s m args below meth c E n0 z0 H locs cells slots ls R Z C A hl hR K
  exact lv_iload C.1 C.2.1 hd (hl.2.2 13 (.int x) rfl (fun q => Value.noConfusion q)) (k p e s m args below meth c E n0 z0 H locs cells slots ls R Z C A hl hR K)
theorem z_lload_13 {x0 x1 x2 x3 x4 x5 x6 x7 x8 x9 x10 x11 x12 : Value} {t : List Value} {x : Int64} (hd : decode M.2.1 pc = .ok (.lload 13, 2)) (k : zW l M N S (pc + 2) (x0 :: x1 :: x2 :: x3 :: x4 :: x5 :: x6 :: x7 :: x8 :: x9 :: x10 :: x11 :: x12 :: .long x :: t) (.long x :: st) h Q) : zW l M N S pc (x0 :: x1 :: x2 :: x3 :: x4 :: x5 :: x6 :: x7 :: x8 :: x9 :: x10 :: x11 :: x12 :: .long x :: t) st h Q := by
  intro p e s m args below meth c E n0 z0 H locs cells slots ls R Z C A hl hR K
  exact lv_lload C.1 C.2.1 hd (hl.2.2 13 (.long x) rfl (fun q => Value.noConfusion q)) (k p e s m args below meth c E n0 z0 H locs cells slots ls R Z C A hl hR K)
theorem z_aload_13 {x0 x1 x2 x3 x4 x5 x6 x7 x8 x9 x10 x11 x12 : Value} {t : List Value} {x : Nat} (hd : decode M.2.1 pc = .ok (.aload 13, 2)) (k : zW l M N S (pc + 2) (x0 :: x1 :: x2 :: x3 :: x4 :: x5 :: x6 :: x7 :: x8 :: x9 :: x10 :: x11 :: x12 :: .ref x :: t) (.ref x :: st) h Q) : zW l M N S pc (x0 :: x1 :: x2 :: x3 :: x4 :: x5 :: x6 :: x7 :: x8 :: x9 :: x10 :: x11 :: x12 :: .ref x :: t) st h Q := by
  intro p e s m args below meth c E n0 z0 H locs cells slots ls R Z C A hl hR K
  exact lv_aload C.1 C.2.1 hd (hl.2.2 13 (.ref x) rfl (fun q => Value.noConfusion q)) (k p e s m args below meth c E n0 z0 H locs cells slots ls R Z C A hl hR K)
theorem z_istore_13 {x0 x1 x2 x3 x4 x5 x6 x7 x8 x9 x10 x11 x12 : Value} {y : Value} {t : List Value} {x : Int32} (hd : decode M.2.1 pc = .ok (.istore 13, 2)) (hn : 13 < M.2.2.1) (hc : x12.category = 1) (k : zW l M N S (pc + 2) (x0 :: x1 :: x2 :: x3 :: x4 :: x5 :: x6 :: x7 :: x8 :: x9 :: x10 :: x11 :: x12 :: .int x :: t) st h Q) : zW l M N S pc (x0 :: x1 :: x2 :: x3 :: x4 :: x5 :: x6 :: x7 :: x8 :: x9 :: x10 :: x11 :: x12 :: y :: t) (.int x :: st) h Q := by
  intro p e s m args below meth c E n0 z0 H locs cells slots ls R Z C A hl hR K
  refine lv_istore C.1 C.2.1 hd (zlv_has hl) hn rfl (fun ls2 hl2 => ?_)
  refine k p e s m args below meth c E n0 z0 H locs cells slots ls2 R Z C A (zlv_store1 (v := .int x) hl2 ?_) hR K
  intro j w hj hw
  cases j with
  | zero => exact Or.inr ⟨hj, by omega, fun q => by omega⟩
  | succ j =>
    cases j with
    | zero => exact Or.inr ⟨hj, by omega, fun q => by omega⟩
    | succ j =>
      cases j with
      | zero => exact Or.inr ⟨hj, by omega, fun q => by omega⟩
      | succ j =>
        cases j with
        | zero => exact Or.inr ⟨hj, by omega, fun q => by omega⟩
        | succ j =>
          cases j with
          | zero => exact Or.inr ⟨hj, by omega, fun q => by omega⟩
          | succ j =>
            cases j with
            | zero => exact Or.inr ⟨hj, by omega, fun q => by omega⟩
            | succ j =>
              cases j with
              | zero => exact Or.inr ⟨hj, by omega, fun q => by omega⟩
              | succ j =>
                cases j with
                | zero => exact Or.inr ⟨hj, by omega, fun q => by omega⟩
                | succ j =>
                  cases j with
                  | zero => exact Or.inr ⟨hj, by omega, fun q => by omega⟩
                  | succ j =>
                    cases j with
                    | zero => exact Or.inr ⟨hj, by omega, fun q => by omega⟩
                    | succ j =>
                      cases j with
                      | zero => exact Or.inr ⟨hj, by omega, fun q => by omega⟩
                      | succ j =>
                        cases j with
                        | zero => exact Or.inr ⟨hj, by omega, fun q => by omega⟩
                        | succ j =>
                          cases j with
                          | zero => exact Or.inr ⟨hj, by omega, fun _ => (Option.some.inj hj) ▸ hc⟩
                          | succ j =>
                            cases j with
                            | zero => exact Or.inl ⟨rfl, (Option.some.inj hj).symm⟩
                            | succ j =>
                              exact Or.inr ⟨hj, by omega, fun q => by omega⟩
theorem z_istoreK_13 {x0 x1 x2 x3 x4 x5 x6 x7 x8 x9 x10 x11 x12 : Value} {y : Value} {t : List Value} {x : Int32} (hd : decode M.2.1 pc = .ok (.istore 13, 2)) (hn : 13 < M.2.2.1) (k : zW l M N S (pc + 2) (x0 :: x1 :: x2 :: x3 :: x4 :: x5 :: x6 :: x7 :: x8 :: x9 :: x10 :: x11 :: zno :: .int x :: t) st h Q) : zW l M N S pc (x0 :: x1 :: x2 :: x3 :: x4 :: x5 :: x6 :: x7 :: x8 :: x9 :: x10 :: x11 :: x12 :: y :: t) (.int x :: st) h Q := by
  intro p e s m args below meth c E n0 z0 H locs cells slots ls R Z C A hl hR K
  refine lv_istore C.1 C.2.1 hd (zlv_has hl) hn rfl (fun ls2 hl2 => ?_)
  refine k p e s m args below meth c E n0 z0 H locs cells slots ls2 R Z C A (zlv_store1 (v := .int x) hl2 ?_) hR K
  intro j w hj hw
  cases j with
  | zero => exact Or.inr ⟨hj, by omega, fun q => by omega⟩
  | succ j =>
    cases j with
    | zero => exact Or.inr ⟨hj, by omega, fun q => by omega⟩
    | succ j =>
      cases j with
      | zero => exact Or.inr ⟨hj, by omega, fun q => by omega⟩
      | succ j =>
        cases j with
        | zero => exact Or.inr ⟨hj, by omega, fun q => by omega⟩
        | succ j =>
          cases j with
          | zero => exact Or.inr ⟨hj, by omega, fun q => by omega⟩
          | succ j =>
            cases j with
            | zero => exact Or.inr ⟨hj, by omega, fun q => by omega⟩
            | succ j =>
              cases j with
              | zero => exact Or.inr ⟨hj, by omega, fun q => by omega⟩
              | succ j =>
                cases j with
                | zero => exact Or.inr ⟨hj, by omega, fun q => by omega⟩
                | succ j =>
                  cases j with
                  | zero => exact Or.inr ⟨hj, by omega, fun q => by omega⟩
                  | succ j =>
                    cases j with
                    | zero => exact Or.inr ⟨hj, by omega, fun q => by omega⟩
                    | succ j =>
                      cases j with
                      | zero => exact Or.inr ⟨hj, by omega, fun q => by omega⟩
                      | succ j =>
                        cases j with
                        | zero => exact Or.inr ⟨hj, by omega, fun q => by omega⟩
                        | succ j =>
                          cases j with
                          | zero => exact absurd (Option.some.inj hj).symm hw
                          | succ j =>
                            cases j with
                            | zero => exact Or.inl ⟨rfl, (Option.some.inj hj).symm⟩
                            | succ j =>
                              exact Or.inr ⟨hj, by omega, fun q => by omega⟩
theorem z_astore_13 {x0 x1 x2 x3 x4 x5 x6 x7 x8 x9 x10 x11 x12 : Value} {y : Value} {t : List Value} {x : Nat} (hd : decode M.2.1 pc = .ok (.astore 13, 2)) (hn : 13 < M.2.2.1) (hc : x12.category = 1) (k : zW l M N S (pc + 2) (x0 :: x1 :: x2 :: x3 :: x4 :: x5 :: x6 :: x7 :: x8 :: x9 :: x10 :: x11 :: x12 :: .ref x :: t) st h Q) : zW l M N S pc (x0 :: x1 :: x2 :: x3 :: x4 :: x5 :: x6 :: x7 :: x8 :: x9 :: x10 :: x11 :: x12 :: y :: t) (.ref x :: st) h Q := by
  intro p e s m args below meth c E n0 z0 H locs cells slots ls R Z C A hl hR K
  refine lv_astore C.1 C.2.1 hd (zlv_has hl) hn rfl (fun ls2 hl2 => ?_)
  refine k p e s m args below meth c E n0 z0 H locs cells slots ls2 R Z C A (zlv_store1 (v := .ref x) hl2 ?_) hR K
  intro j w hj hw
  cases j with
  | zero => exact Or.inr ⟨hj, by omega, fun q => by omega⟩
  | succ j =>
    cases j with
    | zero => exact Or.inr ⟨hj, by omega, fun q => by omega⟩
    | succ j =>
      cases j with
      | zero => exact Or.inr ⟨hj, by omega, fun q => by omega⟩
      | succ j =>
        cases j with
        | zero => exact Or.inr ⟨hj, by omega, fun q => by omega⟩
        | succ j =>
          cases j with
          | zero => exact Or.inr ⟨hj, by omega, fun q => by omega⟩
          | succ j =>
            cases j with
            | zero => exact Or.inr ⟨hj, by omega, fun q => by omega⟩
            | succ j =>
              cases j with
              | zero => exact Or.inr ⟨hj, by omega, fun q => by omega⟩
              | succ j =>
                cases j with
                | zero => exact Or.inr ⟨hj, by omega, fun q => by omega⟩
                | succ j =>
                  cases j with
                  | zero => exact Or.inr ⟨hj, by omega, fun q => by omega⟩
                  | succ j =>
                    cases j with
                    | zero => exact Or.inr ⟨hj, by omega, fun q => by omega⟩
                    | succ j =>
                      cases j with
                      | zero => exact Or.inr ⟨hj, by omega, fun q => by omega⟩
                      | succ j =>
                        cases j with
                        | zero => exact Or.inr ⟨hj, by omega, fun q => by omega⟩
                        | succ j =>
                          cases j with
                          | zero => exact Or.inr ⟨hj, by omega, fun _ => (Option.some.inj hj) ▸ hc⟩
                          | succ j =>
                            cases j with
                            | zero => exact Or.inl ⟨rfl, (Option.some.inj hj).symm⟩
                            | succ j =>
                              exact Or.inr ⟨hj, by omega, fun q => by omega⟩
theorem z_astoreK_13 {x0 x1 x2 x3 x4 x5 x6 x7 x8 x9 x10 x11 x12 : Value} {y : Value} {t : List Value} {x : Nat} (hd : decode M.2.1 pc = .ok (.astore 13, 2)) (hn : 13 < M.2.2.1) (k : zW l M N S (pc + 2) (x0 :: x1 :: x2 :: x3 :: x4 :: x5 :: x6 :: x7 :: x8 :: x9 :: x10 :: x11 :: zno :: .ref x :: t) st h Q) : zW l M N S pc (x0 :: x1 :: x2 :: x3 :: x4 :: x5 :: x6 :: x7 :: x8 :: x9 :: x10 :: x11 :: x12 :: y :: t) (.ref x :: st) h Q := by
  intro p e s m args below meth c E n0 z0 H locs cells slots ls R Z C A hl hR K
  refine lv_astore C.1 C.2.1 hd (zlv_has hl) hn rfl (fun ls2 hl2 => ?_)
  refine k p e s m args below meth c E n0 z0 H locs cells slots ls2 R Z C A (zlv_store1 (v := .ref x) hl2 ?_) hR K
  intro j w hj hw
  cases j with
  | zero => exact Or.inr ⟨hj, by omega, fun q => by omega⟩
  | succ j =>
    cases j with
    | zero => exact Or.inr ⟨hj, by omega, fun q => by omega⟩
    | succ j =>
      cases j with
      | zero => exact Or.inr ⟨hj, by omega, fun q => by omega⟩
      | succ j =>
        cases j with
        | zero => exact Or.inr ⟨hj, by omega, fun q => by omega⟩
        | succ j =>
          cases j with
          | zero => exact Or.inr ⟨hj, by omega, fun q => by omega⟩
          | succ j =>
            cases j with
            | zero => exact Or.inr ⟨hj, by omega, fun q => by omega⟩
            | succ j =>
              cases j with
              | zero => exact Or.inr ⟨hj, by omega, fun q => by omega⟩
              | succ j =>
                cases j with
                | zero => exact Or.inr ⟨hj, by omega, fun q => by omega⟩
                | succ j =>
                  cases j with
                  | zero => exact Or.inr ⟨hj, by omega, fun q => by omega⟩
                  | succ j =>
                    cases j with
                    | zero => exact Or.inr ⟨hj, by omega, fun q => by omega⟩
                    | succ j =>
                      cases j with
                      | zero => exact Or.inr ⟨hj, by omega, fun q => by omega⟩
                      | succ j =>
                        cases j with
                        | zero => exact Or.inr ⟨hj, by omega, fun q => by omega⟩
                        | succ j =>
                          cases j with
                          | zero => exact absurd (Option.some.inj hj).symm hw
                          | succ j =>
                            cases j with
                            | zero => exact Or.inl ⟨rfl, (Option.some.inj hj).symm⟩
                            | succ j =>
                              exact Or.inr ⟨hj, by omega, fun q => by omega⟩
theorem z_lstore_13 {x0 x1 x2 x3 x4 x5 x6 x7 x8 x9 x10 x11 x12 : Value} {y y2 : Value} {t : List Value} {x : Int64} (hd : decode M.2.1 pc = .ok (.lstore 13, 2)) (hn : 14 < M.2.2.1) (hc : x12.category = 1) (k : zW l M N S (pc + 2) (x0 :: x1 :: x2 :: x3 :: x4 :: x5 :: x6 :: x7 :: x8 :: x9 :: x10 :: x11 :: x12 :: .long x :: zno :: t) st h Q) : zW l M N S pc (x0 :: x1 :: x2 :: x3 :: x4 :: x5 :: x6 :: x7 :: x8 :: x9 :: x10 :: x11 :: x12 :: y :: y2 :: t) (.long x :: st) h Q := by
  intro p e s m args below meth c E n0 z0 H locs cells slots ls R Z C A hl hR K
  refine lv_lstore C.1 C.2.1 hd (zlv_has hl) hn rfl (fun ls2 hl2 => ?_)
  refine k p e s m args below meth c E n0 z0 H locs cells slots ls2 R Z C A (zlv_store2 (v := .long x) hl2 ?_) hR K
  intro j w hj hw
  cases j with
  | zero => exact Or.inr ⟨hj, by omega, by omega, fun q => by omega⟩
  | succ j =>
    cases j with
    | zero => exact Or.inr ⟨hj, by omega, by omega, fun q => by omega⟩
    | succ j =>
      cases j with
      | zero => exact Or.inr ⟨hj, by omega, by omega, fun q => by omega⟩
      | succ j =>
        cases j with
        | zero => exact Or.inr ⟨hj, by omega, by omega, fun q => by omega⟩
        | succ j =>
          cases j with
          | zero => exact Or.inr ⟨hj, by omega, by omega, fun q => by omega⟩
          | succ j =>
            cases j with
            | zero => exact Or.inr ⟨hj, by omega, by omega, fun q => by omega⟩
            | succ j =>
              cases j with
              | zero => exact Or.inr ⟨hj, by omega, by omega, fun q => by omega⟩
              | succ j =>
                cases j with
                | zero => exact Or.inr ⟨hj, by omega, by omega, fun q => by omega⟩
                | succ j =>
                  cases j with
                  | zero => exact Or.inr ⟨hj, by omega, by omega, fun q => by omega⟩
                  | succ j =>
                    cases j with
                    | zero => exact Or.inr ⟨hj, by omega, by omega, fun q => by omega⟩
                    | succ j =>
                      cases j with
                      | zero => exact Or.inr ⟨hj, by omega, by omega, fun q => by omega⟩
                      | succ j =>
                        cases j with
                        | zero => exact Or.inr ⟨hj, by omega, by omega, fun q => by omega⟩
                        | succ j =>
                          cases j with
                          | zero => exact Or.inr ⟨hj, by omega, by omega, fun _ => (Option.some.inj hj) ▸ hc⟩
                          | succ j =>
                            cases j with
                            | zero => exact Or.inl ⟨rfl, (Option.some.inj hj).symm⟩
                            | succ j =>
                              cases j with
                              | zero => exact absurd (Option.some.inj hj).symm hw
                              | succ j => exact Or.inr ⟨hj, by omega, by omega, fun q => by omega⟩
theorem z_lstoreK_13 {x0 x1 x2 x3 x4 x5 x6 x7 x8 x9 x10 x11 x12 : Value} {y y2 : Value} {t : List Value} {x : Int64} (hd : decode M.2.1 pc = .ok (.lstore 13, 2)) (hn : 14 < M.2.2.1) (k : zW l M N S (pc + 2) (x0 :: x1 :: x2 :: x3 :: x4 :: x5 :: x6 :: x7 :: x8 :: x9 :: x10 :: x11 :: zno :: .long x :: zno :: t) st h Q) : zW l M N S pc (x0 :: x1 :: x2 :: x3 :: x4 :: x5 :: x6 :: x7 :: x8 :: x9 :: x10 :: x11 :: x12 :: y :: y2 :: t) (.long x :: st) h Q := by
  intro p e s m args below meth c E n0 z0 H locs cells slots ls R Z C A hl hR K
  refine lv_lstore C.1 C.2.1 hd (zlv_has hl) hn rfl (fun ls2 hl2 => ?_)
  refine k p e s m args below meth c E n0 z0 H locs cells slots ls2 R Z C A (zlv_store2 (v := .long x) hl2 ?_) hR K
  intro j w hj hw
  cases j with
  | zero => exact Or.inr ⟨hj, by omega, by omega, fun q => by omega⟩
  | succ j =>
    cases j with
    | zero => exact Or.inr ⟨hj, by omega, by omega, fun q => by omega⟩
    | succ j =>
      cases j with
      | zero => exact Or.inr ⟨hj, by omega, by omega, fun q => by omega⟩
      | succ j =>
        cases j with
        | zero => exact Or.inr ⟨hj, by omega, by omega, fun q => by omega⟩
        | succ j =>
          cases j with
          | zero => exact Or.inr ⟨hj, by omega, by omega, fun q => by omega⟩
          | succ j =>
            cases j with
            | zero => exact Or.inr ⟨hj, by omega, by omega, fun q => by omega⟩
            | succ j =>
              cases j with
              | zero => exact Or.inr ⟨hj, by omega, by omega, fun q => by omega⟩
              | succ j =>
                cases j with
                | zero => exact Or.inr ⟨hj, by omega, by omega, fun q => by omega⟩
                | succ j =>
                  cases j with
                  | zero => exact Or.inr ⟨hj, by omega, by omega, fun q => by omega⟩
                  | succ j =>
                    cases j with
                    | zero => exact Or.inr ⟨hj, by omega, by omega, fun q => by omega⟩
                    | succ j =>
                      cases j with
                      | zero => exact Or.inr ⟨hj, by omega, by omega, fun q => by omega⟩
                      | succ j =>
                        cases j with
                        | zero => exact Or.inr ⟨hj, by omega, by omega, fun q => by omega⟩
                        | succ j =>
                          cases j with
                          | zero => exact absurd (Option.some.inj hj).symm hw
                          | succ j =>
                            cases j with
                            | zero => exact Or.inl ⟨rfl, (Option.some.inj hj).symm⟩
                            | succ j =>
                              cases j with
                              | zero => exact absurd (Option.some.inj hj).symm hw
                              | succ j => exact Or.inr ⟨hj, by omega, by omega, fun q => by omega⟩
theorem z_iinc_13 {x0 x1 x2 x3 x4 x5 x6 x7 x8 x9 x10 x11 x12 : Value} {t : List Value} {x : Int32} {n : Int} (v : Int32) (hd : decode M.2.1 pc = .ok (.iinc 13 n, 3)) (hv : Int32.ofInt n = v) (hn : 13 < M.2.2.1) (hc : x12.category = 1) (k : zW l M N S (pc + 3) (x0 :: x1 :: x2 :: x3 :: x4 :: x5 :: x6 :: x7 :: x8 :: x9 :: x10 :: x11 :: x12 :: .int (x + v) :: t) st h Q) : zW l M N S pc (x0 :: x1 :: x2 :: x3 :: x4 :: x5 :: x6 :: x7 :: x8 :: x9 :: x10 :: x11 :: x12 :: .int x :: t) st h Q := by
  subst hv
  intro p e s m args below meth c E n0 z0 H locs cells slots ls R Z C A hl hR K
  obtain ⟨k0, hk0⟩ := List.getElem?_of_mem (zll_mem.mpr ⟨.int x, (rfl : (x0 :: x1 :: x2 :: x3 :: x4 :: x5 :: x6 :: x7 :: x8 :: x9 :: x10 :: x11 :: x12 :: .int x :: t)[13]? = _), (fun q => Value.noConfusion q), rfl⟩ : (13, ze E (.int x)) ∈ zll E (x0 :: x1 :: x2 :: x3 :: x4 :: x5 :: x6 :: x7 :: x8 :: x9 :: x10 :: x11 :: x12 :: .int x :: t))
  refine lv_iinc C.1 C.2.1 hd (zlv_has hl) hk0 rfl hn rfl (fun ls2 hl2 => ?_)
  refine k p e s m args below meth c E n0 z0 H locs cells slots ls2 R Z C A (zlv_store1 (v := .int (x + Int32.ofInt n)) hl2 ?_) hR K
  intro j w hj hw
  cases j with
  | zero => exact Or.inr ⟨hj, by omega, fun q => by omega⟩
  | succ j =>
    cases j with
    | zero => exact Or.inr ⟨hj, by omega, fun q => by omega⟩
    | succ j =>
      cases j with
      | zero => exact Or.inr ⟨hj, by omega, fun q => by omega⟩
      | succ j =>
        cases j with
        | zero => exact Or.inr ⟨hj, by omega, fun q => by omega⟩
        | succ j =>
          cases j with
          | zero => exact Or.inr ⟨hj, by omega, fun q => by omega⟩
          | succ j =>
            cases j with
            | zero => exact Or.inr ⟨hj, by omega, fun q => by omega⟩
            | succ j =>
              cases j with
              | zero => exact Or.inr ⟨hj, by omega, fun q => by omega⟩
              | succ j =>
                cases j with
                | zero => exact Or.inr ⟨hj, by omega, fun q => by omega⟩
                | succ j =>
                  cases j with
                  | zero => exact Or.inr ⟨hj, by omega, fun q => by omega⟩
                  | succ j =>
                    cases j with
                    | zero => exact Or.inr ⟨hj, by omega, fun q => by omega⟩
                    | succ j =>
                      cases j with
                      | zero => exact Or.inr ⟨hj, by omega, fun q => by omega⟩
                      | succ j =>
                        cases j with
                        | zero => exact Or.inr ⟨hj, by omega, fun q => by omega⟩
                        | succ j =>
                          cases j with
                          | zero => exact Or.inr ⟨hj, by omega, fun _ => (Option.some.inj hj) ▸ hc⟩
                          | succ j =>
                            cases j with
                            | zero => exact Or.inl ⟨rfl, (Option.some.inj hj).symm⟩
                            | succ j => exact Or.inr ⟨hj, by omega, fun q => by omega⟩
end ZR
