theorem Wp.icon {M : zm_I} {Q : Option Value → zh → Prop} {pc pc2 : Nat} {L st : List Value} {h : zh} {n : Int} (d : decode (zm_c M) pc = .ok (.iconst n, 1)) (hp : pc + 1 = pc2) (v : Int32) (hv : Int32.ofInt n = v) (k : Wp M Q pc2 L (.int v :: st) h) : Wp M Q pc L (st) h := by
  subst hp
  intro p l e s m args below meth c D ad ca A H locs ls C Hh hl
  exact lv_iconst C.1 C.2.1 d hv (k p l e s m args below meth c D ad ca A H locs ls C Hh hl)
theorem Wp.bipush {M : zm_I} {Q : Option Value → zh → Prop} {pc pc2 : Nat} {L st : List Value} {h : zh} {n : Int} (d : decode (zm_c M) pc = .ok (.bipush n, 2)) (hp : pc + 2 = pc2) (v : Int32) (hv : (Int8.ofInt n).toInt32 = v) (k : Wp M Q pc2 L (.int v :: st) h) : Wp M Q pc L (st) h := by
  subst hp
  intro p l e s m args below meth c D ad ca A H locs ls C Hh hl
  exact lv_bipush C.1 C.2.1 d hv (k p l e s m args below meth c D ad ca A H locs ls C Hh hl)
theorem Wp.sipush {M : zm_I} {Q : Option Value → zh → Prop} {pc pc2 : Nat} {L st : List Value} {h : zh} {n : Int} (d : decode (zm_c M) pc = .ok (.sipush n, 3)) (hp : pc + 3 = pc2) (v : Int32) (hv : (Int16.ofInt n).toInt32 = v) (k : Wp M Q pc2 L (.int v :: st) h) : Wp M Q pc L (st) h := by
  subst hp
  intro p l e s m args below meth c D ad ca A H locs ls C Hh hl
  exact lv_sipush C.1 C.2.1 d hv (k p l e s m args below meth c D ad ca A H locs ls C Hh hl)
theorem Wp.ldc {M : zm_I} {Q : Option Value → zh → Prop} {pc pc2 : Nat} {L st : List Value} {h : zh} {idx : Nat} (d : decode (zm_c M) pc = .ok (.ldc idx, 2)) (hp : pc + 2 = pc2) (v : Int32) (hw : Cond.constant (zm_y M).cls idx v ∈ zT) (k : Wp M Q pc2 L (.int v :: st) h) : Wp M Q pc L st h := by
  subst hp
  intro p l e s m args below meth c D ad ca A H locs ls C Hh hl
  exact lv_ldc C.1 C.2.1 C.2.2.2.2.1 (C.2.2.2.2.2.2.1 _ hw) d (k p l e s m args below meth c D ad ca A H locs ls C Hh hl)
theorem Wp.iload_n {M : zm_I} {Q : Option Value → zh → Prop} {pc pc2 : Nat} {L st : List Value} {h : zh} {k0 : Fin 4} {x : Int32} (d : decode (zm_c M) pc = .ok (.iload_n k0, 1)) (hp : pc + 1 = pc2) (hL : L[(k0 : Nat)]? = some (.int x)) (k : Wp M Q pc2 L (.int x :: st) h) : Wp M Q pc L st h := by
  subst hp
  intro p l e s m args below meth c D ad ca A H locs ls C Hh hl
  exact lv_iload_n C.1 C.2.1 d rfl (zl_at hl hL (fun z => by cases z)) (k p l e s m args below meth c D ad ca A H locs ls C Hh hl)
theorem Wp.iload {M : zm_I} {Q : Option Value → zh → Prop} {pc pc2 : Nat} {L st : List Value} {h : zh} {i : Nat} {x : Int32} (d : decode (zm_c M) pc = .ok (.iload i, 2)) (hp : pc + 2 = pc2) (hL : L[i]? = some (.int x)) (k : Wp M Q pc2 L (.int x :: st) h) : Wp M Q pc L st h := by
  subst hp
  intro p l e s m args below meth c D ad ca A H locs ls C Hh hl
  exact lv_iload C.1 C.2.1 d (zl_at hl hL (fun z => by cases z)) (k p l e s m args below meth c D ad ca A H locs ls C Hh hl)
theorem Wp.lload_n {M : zm_I} {Q : Option Value → zh → Prop} {pc pc2 : Nat} {L st : List Value} {h : zh} {k0 : Fin 4} {x : Int64} (d : decode (zm_c M) pc = .ok (.lload_n k0, 1)) (hp : pc + 1 = pc2) (hL : L[(k0 : Nat)]? = some (.long x)) (k : Wp M Q pc2 L (.long x :: st) h) : Wp M Q pc L st h := by
  subst hp
  intro p l e s m args below meth c D ad ca A H locs ls C Hh hl
  exact lv_lload_n C.1 C.2.1 d rfl (zl_at hl hL (fun z => by cases z)) (k p l e s m args below meth c D ad ca A H locs ls C Hh hl)
theorem Wp.lload {M : zm_I} {Q : Option Value → zh → Prop} {pc pc2 : Nat} {L st : List Value} {h : zh} {i : Nat} {x : Int64} (d : decode (zm_c M) pc = .ok (.lload i, 2)) (hp : pc + 2 = pc2) (hL : L[i]? = some (.long x)) (k : Wp M Q pc2 L (.long x :: st) h) : Wp M Q pc L st h := by
  subst hp
  intro p l e s m args below meth c D ad ca A H locs ls C Hh hl
  exact lv_lload C.1 C.2.1 d (zl_at hl hL (fun z => by cases z)) (k p l e s m args below meth c D ad ca A H locs ls C Hh hl)
theorem Wp.aload_n {M : zm_I} {Q : Option Value → zh → Prop} {pc pc2 : Nat} {L st : List Value} {h : zh} {k0 : Fin 4} {x : Nat} (d : decode (zm_c M) pc = .ok (.aload_n k0, 1)) (hp : pc + 1 = pc2) (hL : L[(k0 : Nat)]? = some (.ref x)) (k : Wp M Q pc2 L (.ref x :: st) h) : Wp M Q pc L st h := by
  subst hp
  intro p l e s m args below meth c D ad ca A H locs ls C Hh hl
  exact lv_aload_n C.1 C.2.1 d rfl (zl_at hl hL (fun z => by cases z)) (k p l e s m args below meth c D ad ca A H locs ls C Hh hl)
theorem Wp.aload {M : zm_I} {Q : Option Value → zh → Prop} {pc pc2 : Nat} {L st : List Value} {h : zh} {i : Nat} {x : Nat} (d : decode (zm_c M) pc = .ok (.aload i, 2)) (hp : pc + 2 = pc2) (hL : L[i]? = some (.ref x)) (k : Wp M Q pc2 L (.ref x :: st) h) : Wp M Q pc L st h := by
  subst hp
  intro p l e s m args below meth c D ad ca A H locs ls C Hh hl
  exact lv_aload C.1 C.2.1 d (zl_at hl hL (fun z => by cases z)) (k p l e s m args below meth c D ad ca A H locs ls C Hh hl)
theorem Wp.istore_n {M : zm_I} {Q : Option Value → zh → Prop} {pc pc2 : Nat} {L st : List Value} {h : zh} {k0 : Fin 4} {x : Int32} (d : decode (zm_c M) pc = .ok (.istore_n k0, 1)) (hp : pc + 1 = pc2) (hn : (k0 : Nat) < zm_n M) (hc : (L.getD ((k0 : Nat) - 1) .null).category = 1) (k : Wp M Q pc2 (L.set (k0 : Nat) (.int x)) st h) : Wp M Q pc L (.int x :: st) h := by
  subst hp
  intro p l e s m args below meth c D ad ca A H locs ls C Hh hl
  exact lv_istore_n C.1 C.2.1 d rfl (zl_has hl) hn rfl (fun ls' hl' => k p l e s m args below meth c D ad ca A H locs ls' C Hh (zl_put (v := .int x) hc hl'))
theorem Wp.istore {M : zm_I} {Q : Option Value → zh → Prop} {pc pc2 : Nat} {L st : List Value} {h : zh} {i : Nat} {x : Int32} (d : decode (zm_c M) pc = .ok (.istore i, 2)) (hp : pc + 2 = pc2) (hn : i < zm_n M) (hc : (L.getD (i - 1) .null).category = 1) (k : Wp M Q pc2 (L.set i (.int x)) st h) : Wp M Q pc L (.int x :: st) h := by
  subst hp
  intro p l e s m args below meth c D ad ca A H locs ls C Hh hl
  exact lv_istore C.1 C.2.1 d (zl_has hl) hn rfl (fun ls' hl' => k p l e s m args below meth c D ad ca A H locs ls' C Hh (zl_put (v := .int x) hc hl'))
theorem Wp.astore_n {M : zm_I} {Q : Option Value → zh → Prop} {pc pc2 : Nat} {L st : List Value} {h : zh} {k0 : Fin 4} {x : Nat} (d : decode (zm_c M) pc = .ok (.astore_n k0, 1)) (hp : pc + 1 = pc2) (hn : (k0 : Nat) < zm_n M) (hc : (L.getD ((k0 : Nat) - 1) .null).category = 1) (k : Wp M Q pc2 (L.set (k0 : Nat) (.ref x)) st h) : Wp M Q pc L (.ref x :: st) h := by
  subst hp
  intro p l e s m args below meth c D ad ca A H locs ls C Hh hl
  exact lv_astore_n C.1 C.2.1 d rfl (zl_has hl) hn rfl (fun ls' hl' => k p l e s m args below meth c D ad ca A H locs ls' C Hh (zl_put (v := .ref x) hc hl'))
theorem Wp.astore {M : zm_I} {Q : Option Value → zh → Prop} {pc pc2 : Nat} {L st : List Value} {h : zh} {i : Nat} {x : Nat} (d : decode (zm_c M) pc = .ok (.astore i, 2)) (hp : pc + 2 = pc2) (hn : i < zm_n M) (hc : (L.getD (i - 1) .null).category = 1) (k : Wp M Q pc2 (L.set i (.ref x)) st h) : Wp M Q pc L (.ref x :: st) h := by
  subst hp
  intro p l e s m args below meth c D ad ca A H locs ls C Hh hl
  exact lv_astore C.1 C.2.1 d (zl_has hl) hn rfl (fun ls' hl' => k p l e s m args below meth c D ad ca A H locs ls' C Hh (zl_put (v := .ref x) hc hl'))
theorem Wp.lstore_n {M : zm_I} {Q : Option Value → zh → Prop} {pc pc2 : Nat} {L st : List Value} {h : zh} {k0 : Fin 4} {x : Int64} (d : decode (zm_c M) pc = .ok (.lstore_n k0, 1)) (hp : pc + 1 = pc2) (hn : (k0 : Nat) + 1 < zm_n M) (hc : (L.getD ((k0 : Nat) - 1) .null).category = 1) (k : Wp M Q pc2 ((L.set (k0 : Nat) (.long x)).set ((k0 : Nat) + 1) .null) st h) : Wp M Q pc L (.long x :: st) h := by
  subst hp
  intro p l e s m args below meth c D ad ca A H locs ls C Hh hl
  exact lv_lstore_n C.1 C.2.1 d rfl (zl_has hl) hn rfl (fun ls' hl' => k p l e s m args below meth c D ad ca A H locs ls' C Hh (zl_put2 (v := .long x) hc hl'))
theorem Wp.lstore {M : zm_I} {Q : Option Value → zh → Prop} {pc pc2 : Nat} {L st : List Value} {h : zh} {i : Nat} {x : Int64} (d : decode (zm_c M) pc = .ok (.lstore i, 2)) (hp : pc + 2 = pc2) (hn : i + 1 < zm_n M) (hc : (L.getD (i - 1) .null).category = 1) (k : Wp M Q pc2 ((L.set i (.long x)).set (i + 1) .null) st h) : Wp M Q pc L (.long x :: st) h := by
  subst hp
  intro p l e s m args below meth c D ad ca A H locs ls C Hh hl
  exact lv_lstore C.1 C.2.1 d (zl_has hl) hn rfl (fun ls' hl' => k p l e s m args below meth c D ad ca A H locs ls' C Hh (zl_put2 (v := .long x) hc hl'))
theorem Wp.iinc {M : zm_I} {Q : Option Value → zh → Prop} {pc pc2 : Nat} {L st : List Value} {h : zh} {i : Nat} {n : Int} {x : Int32} (d : decode (zm_c M) pc = .ok (.iinc i n, 3)) (hp : pc + 3 = pc2) (hL : L[i]? = some (.int x)) (v : Int32) (hv : x + Int32.ofInt n = v) (hn : i < zm_n M) (hc : (L.getD (i - 1) .null).category = 1) (k : Wp M Q pc2 (L.set i (.int v)) st h) : Wp M Q pc L st h := by
  subst hp
  intro p l e s m args below meth c D ad ca A H locs ls C Hh hl
  obtain ⟨kk, hkk⟩ := List.getElem?_of_mem (zls_mem (ad := ad) hL (fun z => by cases z))
  exact lv_iinc (v := v) C.1 C.2.1 d (zl_has hl) hkk hv hn rfl (fun ls' hl' => k p l e s m args below meth c D ad ca A H locs ls' C Hh (zl_put (v := .int v) hc hl'))
theorem Wp.iadd {M : zm_I} {Q : Option Value → zh → Prop} {pc pc2 : Nat} {L st : List Value} {h : zh} {x y : Int32} (d : decode (zm_c M) pc = .ok (.iadd, 1)) (hp : pc + 1 = pc2)  (k : Wp M Q pc2 L (.int (x + y) :: st) h) : Wp M Q pc L (.int y :: .int x :: st) h := by
  subst hp
  intro p l e s m args below meth c D ad ca A H locs ls C Hh hl
  exact lv_iadd C.1 C.2.1 d  (k p l e s m args below meth c D ad ca A H locs ls C Hh hl)
theorem Wp.isub {M : zm_I} {Q : Option Value → zh → Prop} {pc pc2 : Nat} {L st : List Value} {h : zh} {x y : Int32} (d : decode (zm_c M) pc = .ok (.isub, 1)) (hp : pc + 1 = pc2)  (k : Wp M Q pc2 L (.int (x - y) :: st) h) : Wp M Q pc L (.int y :: .int x :: st) h := by
  subst hp
  intro p l e s m args below meth c D ad ca A H locs ls C Hh hl
  exact lv_isub C.1 C.2.1 d  (k p l e s m args below meth c D ad ca A H locs ls C Hh hl)
theorem Wp.imul {M : zm_I} {Q : Option Value → zh → Prop} {pc pc2 : Nat} {L st : List Value} {h : zh} {x y : Int32} (d : decode (zm_c M) pc = .ok (.imul, 1)) (hp : pc + 1 = pc2)  (k : Wp M Q pc2 L (.int (x * y) :: st) h) : Wp M Q pc L (.int y :: .int x :: st) h := by
  subst hp
  intro p l e s m args below meth c D ad ca A H locs ls C Hh hl
  exact lv_imul C.1 C.2.1 d  (k p l e s m args below meth c D ad ca A H locs ls C Hh hl)
theorem Wp.iand {M : zm_I} {Q : Option Value → zh → Prop} {pc pc2 : Nat} {L st : List Value} {h : zh} {x y : Int32} (d : decode (zm_c M) pc = .ok (.iand, 1)) (hp : pc + 1 = pc2)  (k : Wp M Q pc2 L (.int (x &&& y) :: st) h) : Wp M Q pc L (.int y :: .int x :: st) h := by
  subst hp
  intro p l e s m args below meth c D ad ca A H locs ls C Hh hl
  exact lv_iand C.1 C.2.1 d  (k p l e s m args below meth c D ad ca A H locs ls C Hh hl)
theorem Wp.ior {M : zm_I} {Q : Option Value → zh → Prop} {pc pc2 : Nat} {L st : List Value} {h : zh} {x y : Int32} (d : decode (zm_c M) pc = .ok (.ior, 1)) (hp : pc + 1 = pc2)  (k : Wp M Q pc2 L (.int (x ||| y) :: st) h) : Wp M Q pc L (.int y :: .int x :: st) h := by
  subst hp
  intro p l e s m args below meth c D ad ca A H locs ls C Hh hl
  exact lv_ior C.1 C.2.1 d  (k p l e s m args below meth c D ad ca A H locs ls C Hh hl)
theorem Wp.ishl {M : zm_I} {Q : Option Value → zh → Prop} {pc pc2 : Nat} {L st : List Value} {h : zh} {x y : Int32} (d : decode (zm_c M) pc = .ok (.ishl, 1)) (hp : pc + 1 = pc2)  (k : Wp M Q pc2 L (.int (x <<< (y &&& 31)) :: st) h) : Wp M Q pc L (.int y :: .int x :: st) h := by
  subst hp
  intro p l e s m args below meth c D ad ca A H locs ls C Hh hl
  exact lv_ishl C.1 C.2.1 d  (k p l e s m args below meth c D ad ca A H locs ls C Hh hl)
theorem Wp.ishr {M : zm_I} {Q : Option Value → zh → Prop} {pc pc2 : Nat} {L st : List Value} {h : zh} {x y : Int32} (d : decode (zm_c M) pc = .ok (.ishr, 1)) (hp : pc + 1 = pc2)  (k : Wp M Q pc2 L (.int (x >>> (y &&& 31)) :: st) h) : Wp M Q pc L (.int y :: .int x :: st) h := by
  subst hp
  intro p l e s m args below meth c D ad ca A H locs ls C Hh hl
  exact lv_ishr C.1 C.2.1 d  (k p l e s m args below meth c D ad ca A H locs ls C Hh hl)
theorem Wp.idiv {M : zm_I} {Q : Option Value → zh → Prop} {pc pc2 : Nat} {L st : List Value} {h : zh} {x y : Int32} (d : decode (zm_c M) pc = .ok (.idiv, 1)) (hp : pc + 1 = pc2) (hne : ¬ y = 0) (k : Wp M Q pc2 L (.int (x / y) :: st) h) : Wp M Q pc L (.int y :: .int x :: st) h := by
  subst hp
  intro p l e s m args below meth c D ad ca A H locs ls C Hh hl
  exact lv_idiv C.1 C.2.1 d hne (k p l e s m args below meth c D ad ca A H locs ls C Hh hl)
theorem Wp.irem {M : zm_I} {Q : Option Value → zh → Prop} {pc pc2 : Nat} {L st : List Value} {h : zh} {x y : Int32} (d : decode (zm_c M) pc = .ok (.irem, 1)) (hp : pc + 1 = pc2) (hne : ¬ y = 0) (k : Wp M Q pc2 L (.int (x - x / y * y) :: st) h) : Wp M Q pc L (.int y :: .int x :: st) h := by
  subst hp
  intro p l e s m args below meth c D ad ca A H locs ls C Hh hl
  exact lv_irem C.1 C.2.1 d hne (k p l e s m args below meth c D ad ca A H locs ls C Hh hl)
theorem Wp.lmul {M : zm_I} {Q : Option Value → zh → Prop} {pc pc2 : Nat} {L st : List Value} {h : zh} {x y : Int64} (d : decode (zm_c M) pc = .ok (.lmul, 1)) (hp : pc + 1 = pc2)  (k : Wp M Q pc2 L (.long (x * y) :: st) h) : Wp M Q pc L (.long y :: .long x :: st) h := by
  subst hp
  intro p l e s m args below meth c D ad ca A H locs ls C Hh hl
  exact lv_lmul C.1 C.2.1 d  (k p l e s m args below meth c D ad ca A H locs ls C Hh hl)
theorem Wp.i2l {M : zm_I} {Q : Option Value → zh → Prop} {pc pc2 : Nat} {L st : List Value} {h : zh} {x : Int32} (d : decode (zm_c M) pc = .ok (.i2l, 1)) (hp : pc + 1 = pc2) (v : Int64) (hv : x.toInt64 = v) (k : Wp M Q pc2 L (.long v :: st) h) : Wp M Q pc L (.int x :: st) h := by
  subst hp
  intro p l e s m args below meth c D ad ca A H locs ls C Hh hl
  exact lv_i2l C.1 C.2.1 d hv (k p l e s m args below meth c D ad ca A H locs ls C Hh hl)
theorem Wp.lcmp {M : zm_I} {Q : Option Value → zh → Prop} {pc pc2 : Nat} {L st : List Value} {h : zh} {x y : Int64} (d : decode (zm_c M) pc = .ok (.lcmp, 1)) (hp : pc + 1 = pc2)  (k : Wp M Q pc2 L (.int (lg_cmp x y) :: st) h) : Wp M Q pc L (.long y :: .long x :: st) h := by
  subst hp
  intro p l e s m args below meth c D ad ca A H locs ls C Hh hl
  exact W.lcmp C.1 C.2.1 d  (k p l e s m args below meth c D ad ca A H locs ls C Hh hl)
theorem Wp.dup {M : zm_I} {Q : Option Value → zh → Prop} {pc pc2 : Nat} {L st : List Value} {h : zh} {v : Value} (d : decode (zm_c M) pc = .ok (.dup, 1)) (hp : pc + 1 = pc2) (hv : v.category = 1) (k : Wp M Q pc2 L (v :: v :: st) h) : Wp M Q pc L (v :: st) h := by
  subst hp
  intro p l e s m args below meth c D ad ca A H locs ls C Hh hl
  exact lv_dup C.1 C.2.1 d ((zv_cat ad v).trans hv) (k p l e s m args below meth c D ad ca A H locs ls C Hh hl)
theorem Wp.pop {M : zm_I} {Q : Option Value → zh → Prop} {pc pc2 : Nat} {L st : List Value} {h : zh} {v : Value} (d : decode (zm_c M) pc = .ok (.pop, 1)) (hp : pc + 1 = pc2) (hv : v.category = 1) (k : Wp M Q pc2 L st h) : Wp M Q pc L (v :: st) h := by
  subst hp
  intro p l e s m args below meth c D ad ca A H locs ls C Hh hl
  exact lv_pop C.1 C.2.1 d ((zv_cat ad v).trans hv) (k p l e s m args below meth c D ad ca A H locs ls C Hh hl)
theorem Wp.dup2 {M : zm_I} {Q : Option Value → zh → Prop} {pc pc2 : Nat} {L st : List Value} {h : zh} {v w : Value} (d : decode (zm_c M) pc = .ok (.dup2, 1)) (hp : pc + 1 = pc2) (hv : v.category = 1) (hw : w.category = 1) (k : Wp M Q pc2 L (v :: w :: v :: w :: st) h) : Wp M Q pc L (v :: w :: st) h := by
  subst hp
  intro p l e s m args below meth c D ad ca A H locs ls C Hh hl
  exact lv_dup2_11 C.1 C.2.1 d ((zv_cat ad v).trans hv) ((zv_cat ad w).trans hw) (k p l e s m args below meth c D ad ca A H locs ls C Hh hl)
theorem Wp.icmp_eq {M : zm_I} {Q : Option Value → zh → Prop} {pc pc2 : Nat} {L st : List Value} {h : zh} {x y : Int32} {off : Int} (tgt : Nat) (d : decode (zm_c M) pc = .ok (.if_icmp .eq off, 3)) (hp : pc + 3 = pc2) (ht : (pc : Int) + off = (tgt : Int)) (kt : x = y → Wp M Q tgt L st h) (kf : ¬ x = y → Wp M Q pc2 L st h) : Wp M Q pc L (.int y :: .int x :: st) h := by
  subst hp
  intro p l e s m args below meth c D ad ca A H locs ls C Hh hl
  exact lv_icmp_eq C.1 C.2.1 d ht (fun z => kt z p l e s m args below meth c D ad ca A H locs ls C Hh hl) (fun z => kf z p l e s m args below meth c D ad ca A H locs ls C Hh hl)
theorem Wp.if_eq {M : zm_I} {Q : Option Value → zh → Prop} {pc pc2 : Nat} {L st : List Value} {h : zh} {x : Int32} {off : Int} (tgt : Nat) (d : decode (zm_c M) pc = .ok (.ifCond .eq off, 3)) (hp : pc + 3 = pc2) (ht : (pc : Int) + off = (tgt : Int)) (kt : x = 0 → Wp M Q tgt L st h) (kf : ¬ x = 0 → Wp M Q pc2 L st h) : Wp M Q pc L (.int x :: st) h := by
  subst hp
  intro p l e s m args below meth c D ad ca A H locs ls C Hh hl
  exact lv_if_eq C.1 C.2.1 d ht (fun z => kt z p l e s m args below meth c D ad ca A H locs ls C Hh hl) (fun z => kf z p l e s m args below meth c D ad ca A H locs ls C Hh hl)
theorem Wp.icmp_ne {M : zm_I} {Q : Option Value → zh → Prop} {pc pc2 : Nat} {L st : List Value} {h : zh} {x y : Int32} {off : Int} (tgt : Nat) (d : decode (zm_c M) pc = .ok (.if_icmp .ne off, 3)) (hp : pc + 3 = pc2) (ht : (pc : Int) + off = (tgt : Int)) (kt : ¬ x = y → Wp M Q tgt L st h) (kf : x = y → Wp M Q pc2 L st h) : Wp M Q pc L (.int y :: .int x :: st) h := by
  subst hp
  intro p l e s m args below meth c D ad ca A H locs ls C Hh hl
  exact lv_icmp_ne C.1 C.2.1 d ht (fun z => kt z p l e s m args below meth c D ad ca A H locs ls C Hh hl) (fun z => kf z p l e s m args below meth c D ad ca A H locs ls C Hh hl)
theorem Wp.if_ne {M : zm_I} {Q : Option Value → zh → Prop} {pc pc2 : Nat} {L st : List Value} {h : zh} {x : Int32} {off : Int} (tgt : Nat) (d : decode (zm_c M) pc = .ok (.ifCond .ne off, 3)) (hp : pc + 3 = pc2) (ht : (pc : Int) + off = (tgt : Int)) (kt : ¬ x = 0 → Wp M Q tgt L st h) (kf : x = 0 → Wp M Q pc2 L st h) : Wp M Q pc L (.int x :: st) h := by
  subst hp
  intro p l e s m args below meth c D ad ca A H locs ls C Hh hl
  exact lv_if_ne C.1 C.2.1 d ht (fun z => kt z p l e s m args below meth c D ad ca A H locs ls C Hh hl) (fun z => kf z p l e s m args below meth c D ad ca A H locs ls C Hh hl)
theorem Wp.icmp_lt {M : zm_I} {Q : Option Value → zh → Prop} {pc pc2 : Nat} {L st : List Value} {h : zh} {x y : Int32} {off : Int} (tgt : Nat) (d : decode (zm_c M) pc = .ok (.if_icmp .lt off, 3)) (hp : pc + 3 = pc2) (ht : (pc : Int) + off = (tgt : Int)) (kt : x < y → Wp M Q tgt L st h) (kf : ¬ x < y → Wp M Q pc2 L st h) : Wp M Q pc L (.int y :: .int x :: st) h := by
  subst hp
  intro p l e s m args below meth c D ad ca A H locs ls C Hh hl
  exact lv_icmp_lt C.1 C.2.1 d ht (fun z => kt z p l e s m args below meth c D ad ca A H locs ls C Hh hl) (fun z => kf z p l e s m args below meth c D ad ca A H locs ls C Hh hl)
theorem Wp.if_lt {M : zm_I} {Q : Option Value → zh → Prop} {pc pc2 : Nat} {L st : List Value} {h : zh} {x : Int32} {off : Int} (tgt : Nat) (d : decode (zm_c M) pc = .ok (.ifCond .lt off, 3)) (hp : pc + 3 = pc2) (ht : (pc : Int) + off = (tgt : Int)) (kt : x < 0 → Wp M Q tgt L st h) (kf : ¬ x < 0 → Wp M Q pc2 L st h) : Wp M Q pc L (.int x :: st) h := by
  subst hp
  intro p l e s m args below meth c D ad ca A H locs ls C Hh hl
  exact lv_if_lt C.1 C.2.1 d ht (fun z => kt z p l e s m args below meth c D ad ca A H locs ls C Hh hl) (fun z => kf z p l e s m args below meth c D ad ca A H locs ls C Hh hl)
theorem Wp.icmp_ge {M : zm_I} {Q : Option Value → zh → Prop} {pc pc2 : Nat} {L st : List Value} {h : zh} {x y : Int32} {off : Int} (tgt : Nat) (d : decode (zm_c M) pc = .ok (.if_icmp .ge off, 3)) (hp : pc + 3 = pc2) (ht : (pc : Int) + off = (tgt : Int)) (kt : y ≤ x → Wp M Q tgt L st h) (kf : ¬ y ≤ x → Wp M Q pc2 L st h) : Wp M Q pc L (.int y :: .int x :: st) h := by
  subst hp
  intro p l e s m args below meth c D ad ca A H locs ls C Hh hl
  exact lv_icmp_ge C.1 C.2.1 d ht (fun z => kt z p l e s m args below meth c D ad ca A H locs ls C Hh hl) (fun z => kf z p l e s m args below meth c D ad ca A H locs ls C Hh hl)
theorem Wp.if_ge {M : zm_I} {Q : Option Value → zh → Prop} {pc pc2 : Nat} {L st : List Value} {h : zh} {x : Int32} {off : Int} (tgt : Nat) (d : decode (zm_c M) pc = .ok (.ifCond .ge off, 3)) (hp : pc + 3 = pc2) (ht : (pc : Int) + off = (tgt : Int)) (kt : 0 ≤ x → Wp M Q tgt L st h) (kf : ¬ 0 ≤ x → Wp M Q pc2 L st h) : Wp M Q pc L (.int x :: st) h := by
  subst hp
  intro p l e s m args below meth c D ad ca A H locs ls C Hh hl
  exact lv_if_ge C.1 C.2.1 d ht (fun z => kt z p l e s m args below meth c D ad ca A H locs ls C Hh hl) (fun z => kf z p l e s m args below meth c D ad ca A H locs ls C Hh hl)
theorem Wp.icmp_gt {M : zm_I} {Q : Option Value → zh → Prop} {pc pc2 : Nat} {L st : List Value} {h : zh} {x y : Int32} {off : Int} (tgt : Nat) (d : decode (zm_c M) pc = .ok (.if_icmp .gt off, 3)) (hp : pc + 3 = pc2) (ht : (pc : Int) + off = (tgt : Int)) (kt : y < x → Wp M Q tgt L st h) (kf : ¬ y < x → Wp M Q pc2 L st h) : Wp M Q pc L (.int y :: .int x :: st) h := by
  subst hp
  intro p l e s m args below meth c D ad ca A H locs ls C Hh hl
  exact lv_icmp_gt C.1 C.2.1 d ht (fun z => kt z p l e s m args below meth c D ad ca A H locs ls C Hh hl) (fun z => kf z p l e s m args below meth c D ad ca A H locs ls C Hh hl)
theorem Wp.if_gt {M : zm_I} {Q : Option Value → zh → Prop} {pc pc2 : Nat} {L st : List Value} {h : zh} {x : Int32} {off : Int} (tgt : Nat) (d : decode (zm_c M) pc = .ok (.ifCond .gt off, 3)) (hp : pc + 3 = pc2) (ht : (pc : Int) + off = (tgt : Int)) (kt : 0 < x → Wp M Q tgt L st h) (kf : ¬ 0 < x → Wp M Q pc2 L st h) : Wp M Q pc L (.int x :: st) h := by
  subst hp
  intro p l e s m args below meth c D ad ca A H locs ls C Hh hl
  exact lv_if_gt C.1 C.2.1 d ht (fun z => kt z p l e s m args below meth c D ad ca A H locs ls C Hh hl) (fun z => kf z p l e s m args below meth c D ad ca A H locs ls C Hh hl)
theorem Wp.icmp_le {M : zm_I} {Q : Option Value → zh → Prop} {pc pc2 : Nat} {L st : List Value} {h : zh} {x y : Int32} {off : Int} (tgt : Nat) (d : decode (zm_c M) pc = .ok (.if_icmp .le off, 3)) (hp : pc + 3 = pc2) (ht : (pc : Int) + off = (tgt : Int)) (kt : x ≤ y → Wp M Q tgt L st h) (kf : ¬ x ≤ y → Wp M Q pc2 L st h) : Wp M Q pc L (.int y :: .int x :: st) h := by
  subst hp
  intro p l e s m args below meth c D ad ca A H locs ls C Hh hl
  exact lv_icmp_le C.1 C.2.1 d ht (fun z => kt z p l e s m args below meth c D ad ca A H locs ls C Hh hl) (fun z => kf z p l e s m args below meth c D ad ca A H locs ls C Hh hl)
theorem Wp.if_le {M : zm_I} {Q : Option Value → zh → Prop} {pc pc2 : Nat} {L st : List Value} {h : zh} {x : Int32} {off : Int} (tgt : Nat) (d : decode (zm_c M) pc = .ok (.ifCond .le off, 3)) (hp : pc + 3 = pc2) (ht : (pc : Int) + off = (tgt : Int)) (kt : x ≤ 0 → Wp M Q tgt L st h) (kf : ¬ x ≤ 0 → Wp M Q pc2 L st h) : Wp M Q pc L (.int x :: st) h := by
  subst hp
  intro p l e s m args below meth c D ad ca A H locs ls C Hh hl
  exact lv_if_le C.1 C.2.1 d ht (fun z => kt z p l e s m args below meth c D ad ca A H locs ls C Hh hl) (fun z => kf z p l e s m args below meth c D ad ca A H locs ls C Hh hl)
theorem Wp.goto {M : zm_I} {Q : Option Value → zh → Prop} {pc pc2 : Nat} {L st : List Value} {h : zh} {off : Int} (d : decode (zm_c M) pc = .ok (.goto off, 3)) (ht : (pc : Int) + off = (pc2 : Int)) (k : Wp M Q pc2 L st h) : Wp M Q pc L st h := by
  intro p l e s m args below meth c D ad ca A H locs ls C Hh hl
  exact lv_goto C.1 C.2.1 d ht (k p l e s m args below meth c D ad ca A H locs ls C Hh hl)
theorem Wp.tableOut {M : zm_I} {Q : Option Value → zh → Prop} {pc pc2 : Nat} {L st : List Value} {h : zh} {dflt lo hi : Int} {offs : Array Int} {len : Nat} {x : Int32} (d : decode (zm_c M) pc = .ok (.tableswitch dflt lo hi offs, len)) (hx : x.toInt < lo ∨ hi < x.toInt) (ht : (pc : Int) + dflt = (pc2 : Int)) (k : Wp M Q pc2 L st h) : Wp M Q pc L (.int x :: st) h := by
  intro p l e s m args below meth c D ad ca A H locs ls C Hh hl
  exact lv_tableOut C.1 C.2.1 d hx ht (k p l e s m args below meth c D ad ca A H locs ls C Hh hl)
theorem Wp.tableIn {M : zm_I} {Q : Option Value → zh → Prop} {pc pc2 : Nat} {L st : List Value} {h : zh} {dflt lo hi off : Int} {offs : Array Int} {len : Nat} {x : Int32} (d : decode (zm_c M) pc = .ok (.tableswitch dflt lo hi offs, len)) (h1 : ¬ x.toInt < lo) (h2 : ¬ hi < x.toInt) (ho : offs[(x.toInt - lo).toNat]? = some off) (ht : (pc : Int) + off = (pc2 : Int)) (k : Wp M Q pc2 L st h) : Wp M Q pc L (.int x :: st) h := by
  intro p l e s m args below meth c D ad ca A H locs ls C Hh hl
  exact lv_tableIn C.1 C.2.1 d h1 h2 ho ht (k p l e s m args below meth c D ad ca A H locs ls C Hh hl)
theorem Wp.top {M : zm_I} {Q : Option Value → zh → Prop} {pc : Nat} {L st : List Value} {h : zh} {x : Int32} (y : Int32) (e : x = y) (k : Wp M Q pc L (.int y :: st) h) : Wp M Q pc L (.int x :: st) h := e ▸ k
def zF (own : String) (idx ci k : Nat) : Prop := ∃ (C : String) (T : u_T) (N : Nat), vwCl[ci]? = some (C, T, N) ∧ (∀ w ∈ u_ws C T N, w ∈ zT) ∧ k < N ∧ Cond.fieldLink own idx (T k).1 (T k).2.1 (T k).2.2.1 ∈ zT
def zG (own : String) (idx ci k : Nat) (ty : FieldType) : Prop := ∃ (C : String) (T : u_T) (N : Nat) (ty0 : Nat → FieldType), vwCl[ci]? = some (C, T, N) ∧ (∀ w ∈ u_ws C T N, w ∈ zT) ∧ (∀ k, k < N → parseFieldDescriptor (T k).2.2.1 = some (ty0 k)) ∧ (∀ a, a < N → ∀ b, b < N → a ≠ b → (T a).2.1 ≠ (T b).2.1) ∧ k < N ∧ Cond.fieldLink own idx (T k).1 (T k).2.1 (T k).2.2.1 ∈ zT ∧ (T k).2.2.2 = false ∧ parseFieldDescriptor (T k).2.2.1 = some ty
theorem Wp.getf {M : zm_I} {Q : Option Value → zh → Prop} {pc pc2 : Nat} {L st : List Value} {h : zh} {idx ci k0 a : Nat} {fs : List Value} {v : Value} (F : zF (zm_y M).cls idx ci k0) (d : decode (zm_c M) pc = .ok (.getfield idx, 3)) (hp : pc + 3 = pc2) (he : h[a]? = some (.inr (ci, fs))) (hv : fs[k0]? = some v) (k : Wp M Q pc2 L (v :: st) h) : Wp M Q pc L (.ref a :: st) h := by
  subst hp
  obtain ⟨Cn, Tn, N, f1, f2, f3, f4⟩ := F
  intro p l e s m args below meth c D ad ca A H locs ls C Hh hl
  exact va_get C.1 C.2.1 C.2.2.2.2.2.2.1 f2 C.2.2.2.2.1 C.2.2.2.2.2.2.2.2 Hh.1 a (zw_at he) f1 k0 f3 (C.2.2.2.2.2.2.1 _ f4) (fun _ h9 => h9) (v := zv ad v) (by rw [List.getElem?_map, hv]; rfl) d (k p l e s m args below meth c D ad ca A H locs ls C Hh hl)
theorem Wp.putf {M : zm_I} {Q : Option Value → zh → Prop} {pc pc2 : Nat} {L st : List Value} {h : zh} {idx ci k0 a : Nat} {fs : List Value} {x : Int32} {ty : FieldType} (F : zG (zm_y M).cls idx ci k0 ty) (d : decode (zm_c M) pc = .ok (.putfield idx, 3)) (hp : pc + 3 = pc2) (he : h[a]? = some (.inr (ci, fs))) (hk : k0 < fs.length) (hn : narrow ty (.int x) = .int x) (hf : fits ty (.int x) = true) (k : Wp M Q pc2 L st (h.set a (.inr (ci, fs.set k0 (.int x))))) : Wp M Q pc L (.int x :: .ref a :: st) h := by
  subst hp
  obtain ⟨Cn, Tn, N, ty0, f1, f2, f3, f4, f5, f6, f7, f8⟩ := F
  intro p l e s m args below meth c D ad ca A H locs ls C Hh hl
  refine va_put (v := .int x) C.1 C.2.1 C.2.2.2.2.2.2.1 f2 ty0 f3 f4 C.2.2.2.2.1 C.2.2.2.2.2.2.2.2 Hh.1 Hh.2.1 Hh.2.2 a (zw_at he) f1 k0 f5 (C.2.2.2.2.2.2.1 _ f6) (fun _ h9 => h9) f7 f8 hn hf (by rw [List.length_map]; exact hk) d (fun H1 locs1 hP hD hS => ?_)
  have e0 : (ad a, (Sum.inr (ci, (fs.map (zv ad)).set k0 (.int x)) : va_E)) = (ad a, ze ad ca (.inr (ci, fs.set k0 (.int x)))) := by
    show _ = (ad a, (Sum.inr (ci, (fs.set k0 (.int x)).map (zv ad)) : va_E))
    rw [List.map_set]; rfl
  rw [e0, zw_set] at hP hD
  exact k p l e s m args below meth c D ad ca A H1 locs1 ls C ⟨hP, hD, hS⟩ hl
theorem Wp.iald {M : zm_I} {Q : Option Value → zh → Prop} {pc pc2 : Nat} {L st : List Value} {h : zh} {a n : Nat} {f : Nat → Int32} {i : Int32} (d : decode (zm_c M) pc = .ok (.iaload, 1)) (hp : pc + 1 = pc2) (ha : h[a]? = some (.inl (0, n, .inl f))) (hin : vp_in i n) (k : Wp M Q pc2 L (.int (f i.toNatClampNeg) :: st) h) : Wp M Q pc L (.int i :: .ref a :: st) h := by
  subst hp
  intro p l e s m args below meth c D ad ca A H locs ls C Hh hl
  exact va_iald C.1 C.2.1 C.2.2.2.2.2.2.2.2 Hh.1 a 0 (zw_at ha) rfl hin d (k p l e s m args below meth c D ad ca A H locs ls C Hh hl)
theorem Wp.ialdN {M : zm_I} {Q : Option Value → zh → Prop} {pc pc2 : Nat} {L st : List Value} {h : zh} {a n j : Nat} {f : Nat → Int32} (d : decode (zm_c M) pc = .ok (.iaload, 1)) (hp : pc + 1 = pc2) (ha : h[a]? = some (.inl (0, n, .inl f))) (hj : j < n) (hn : n < 2 ^ 31) (k : Wp M Q pc2 L (.int (f j) :: st) h) : Wp M Q pc L (.int (nI j) :: .ref a :: st) h := by
  refine Wp.iald d hp ha (vp_in_nI hj hn) ?_
  rw [nI_clamp (by omega)]
  exact k
theorem Wp.zald {M : zm_I} {Q : Option Value → zh → Prop} {pc pc2 : Nat} {L st : List Value} {h : zh} {a n : Nat} {f : Nat → Int32} {i : Int32} (d : decode (zm_c M) pc = .ok (.baload, 1)) (hp : pc + 1 = pc2) (ha : h[a]? = some (.inl (1, n, .inl f))) (hin : vp_in i n) (k : Wp M Q pc2 L (.int (f i.toNatClampNeg) :: st) h) : Wp M Q pc L (.int i :: .ref a :: st) h := by
  subst hp
  intro p l e s m args below meth c D ad ca A H locs ls C Hh hl
  exact va_zald C.1 C.2.1 C.2.2.2.2.2.2.2.2 Hh.1 a 1 (zw_at ha) rfl hin d (k p l e s m args below meth c D ad ca A H locs ls C Hh hl)
theorem Wp.zaldN {M : zm_I} {Q : Option Value → zh → Prop} {pc pc2 : Nat} {L st : List Value} {h : zh} {a n j : Nat} {f : Nat → Int32} (d : decode (zm_c M) pc = .ok (.baload, 1)) (hp : pc + 1 = pc2) (ha : h[a]? = some (.inl (1, n, .inl f))) (hj : j < n) (hn : n < 2 ^ 31) (k : Wp M Q pc2 L (.int (f j) :: st) h) : Wp M Q pc L (.int (nI j) :: .ref a :: st) h := by
  refine Wp.zald d hp ha (vp_in_nI hj hn) ?_
  rw [nI_clamp (by omega)]
  exact k
theorem Wp.iast {M : zm_I} {Q : Option Value → zh → Prop} {pc pc2 : Nat} {L st : List Value} {h : zh} {a n : Nat} {f : Nat → Int32} {i x : Int32} (d : decode (zm_c M) pc = .ok (.iastore, 1)) (hp : pc + 1 = pc2) (ha : h[a]? = some (.inl (0, n, .inl f))) (hin : vp_in i n) (k : Wp M Q pc2 L st (h.set a (.inl (0, n, .inl (upd f i.toNatClampNeg x))))) : Wp M Q pc L (.int x :: .int i :: .ref a :: st) h := by
  subst hp
  intro p l e s m args below meth c D ad ca A H locs ls C Hh hl
  refine va_iast C.1 C.2.1 C.2.2.2.2.2.2.2.2 Hh.1 Hh.2.1 Hh.2.2 a 0 (zw_at ha) rfl hin d (fun H1 locs1 hP hD hS => ?_)
  have e0 := zw_set ad ca h a (.inl (0, n, .inl (upd f i.toNatClampNeg x)))
  exact k p l e s m args below meth c D ad ca A H1 locs1 ls C ⟨e0 ▸ hP, e0 ▸ hD, hS⟩ hl
theorem Wp.iastN {M : zm_I} {Q : Option Value → zh → Prop} {pc pc2 : Nat} {L st : List Value} {h : zh} {a n j : Nat} {f : Nat → Int32} {x : Int32} (d : decode (zm_c M) pc = .ok (.iastore, 1)) (hp : pc + 1 = pc2) (ha : h[a]? = some (.inl (0, n, .inl f))) (hj : j < n) (hn : n < 2 ^ 31) (k : Wp M Q pc2 L st (h.set a (.inl (0, n, .inl (upd f j x))))) : Wp M Q pc L (.int x :: .int (nI j) :: .ref a :: st) h := by
  refine Wp.iast d hp ha (vp_in_nI hj hn) ?_
  rw [nI_clamp (by omega)]
  exact k
theorem Wp.zast {M : zm_I} {Q : Option Value → zh → Prop} {pc pc2 : Nat} {L st : List Value} {h : zh} {a n : Nat} {f : Nat → Int32} {i x : Int32} (d : decode (zm_c M) pc = .ok (.bastore, 1)) (hp : pc + 1 = pc2) (ha : h[a]? = some (.inl (1, n, .inl f))) (hin : vp_in i n) (hx : vp_nar .boolean x = x) (k : Wp M Q pc2 L st (h.set a (.inl (1, n, .inl (upd f i.toNatClampNeg x))))) : Wp M Q pc L (.int x :: .int i :: .ref a :: st) h := by
  subst hp
  intro p l e s m args below meth c D ad ca A H locs ls C Hh hl
  refine va_zast C.1 C.2.1 C.2.2.2.2.2.2.2.2 Hh.1 Hh.2.1 Hh.2.2 a 1 (zw_at ha) rfl hin d (fun H1 locs1 hP hD hS => ?_)
  rw [hx] at hP hD
  have e0 := zw_set ad ca h a (.inl (1, n, .inl (upd f i.toNatClampNeg x)))
  exact k p l e s m args below meth c D ad ca A H1 locs1 ls C ⟨e0 ▸ hP, e0 ▸ hD, hS⟩ hl
theorem Wp.zastN {M : zm_I} {Q : Option Value → zh → Prop} {pc pc2 : Nat} {L st : List Value} {h : zh} {a n j : Nat} {f : Nat → Int32} {x : Int32} (d : decode (zm_c M) pc = .ok (.bastore, 1)) (hp : pc + 1 = pc2) (ha : h[a]? = some (.inl (1, n, .inl f))) (hj : j < n) (hn : n < 2 ^ 31) (hx : vp_nar .boolean x = x) (k : Wp M Q pc2 L st (h.set a (.inl (1, n, .inl (upd f j x))))) : Wp M Q pc L (.int x :: .int (nI j) :: .ref a :: st) h := by
  refine Wp.zast d hp ha (vp_in_nI hj hn) hx ?_
  rw [nI_clamp (by omega)]
  exact k
theorem Wp.alen {M : zm_I} {Q : Option Value → zh → Prop} {pc pc2 : Nat} {L st : List Value} {h : zh} {a n t0 : Nat} {f : Nat → Int32} (d : decode (zm_c M) pc = .ok (.arraylength, 1)) (hp : pc + 1 = pc2) (ha : h[a]? = some (.inl (t0, n, .inl f))) (ht : t0 < 2) (k : Wp M Q pc2 L (.int (nI n) :: st) h) : Wp M Q pc L (.ref a :: st) h := by
  subst hp
  intro p l e s m args below meth c D ad ca A H locs ls C Hh hl
  rcases (show t0 = 0 ∨ t0 = 1 by omega) with rfl | rfl
  · exact va_alen C.1 C.2.1 C.2.2.2.2.2.2.2.2 Hh.1 a 0 (zw_at ha) rfl rfl d (k p l e s m args below meth c D ad ca A H locs ls C Hh hl)
  · exact va_alen C.1 C.2.1 C.2.2.2.2.2.2.2.2 Hh.1 a 1 (zw_at ha) rfl rfl d (k p l e s m args below meth c D ad ca A H locs ls C Hh hl)
theorem Wp.aald {M : zm_I} {Q : Option Value → zh → Prop} {pc pc2 : Nat} {L st : List Value} {h : zh} {a n t0 j b : Nat} {f : Nat → Option Nat} (d : decode (zm_c M) pc = .ok (.aaload, 1)) (hp : pc + 1 = pc2) (ha : h[a]? = some (.inl (t0, n, .inr (.inr (.inr (.inr f)))))) (ht : t0 = 2 ∨ t0 = 3) (hj : j < n) (hn : n < 2 ^ 31) (hf : f j = some b) (k : Wp M Q pc2 L (.ref b :: st) h) : Wp M Q pc L (.int (nI j) :: .ref a :: st) h := by
  subst hp
  intro p l e s m args below meth c D ad ca A H locs ls C Hh hl
  have hw : va_rf ((f (nI j).toNatClampNeg).map ad) = .ref (ad b) := by rw [nI_clamp (by omega), hf]; rfl
  rcases ht with rfl | rfl
  · refine va_aldq C.1 C.2.1 C.2.2.2.2.2.2.2.2 Hh.1 a 2 (zw_at ha) rfl (vp_in_nI hj hn) d ?_
    rw [hw]
    exact k p l e s m args below meth c D ad ca A H locs ls C Hh hl
  · refine va_aldq C.1 C.2.1 C.2.2.2.2.2.2.2.2 Hh.1 a 3 (zw_at ha) rfl (vp_in_nI hj hn) d ?_
    rw [hw]
    exact k p l e s m args below meth c D ad ca A H locs ls C Hh hl
theorem Wp.ret {M : zm_I} {Q : Option Value → zh → Prop} {pc : Nat} {L : List Value} {h : zh} {x : Int32} {ty : FieldType} (d : decode (zm_c M) pc = .ok (.ireturn, 1)) (hr : zm_r M = some ty) (hn : narrow ty (.int x) = .int x) (q : Q (some (.int x)) h) : Wp M Q pc L [.int x] h := by
  intro p l e s m args below meth c D ad ca A H locs ls C Hh hl
  refine W.zret (v := x) (ty := ty) C.1 C.2.1 (C.2.2.1.trans hr) hn (fun t ht hW => ?_) Hh.2.2.2.2 d C.2.2.2.2.2.1
  exact ⟨⟨some (.int x), h, rfl, q, by rw [ht]; exact Hh.1, va_K.moved hW.alike C.2.2.2.2.2.2.2.2, Hh.2.1⟩, Hh.2.2.F ht⟩
theorem Wp.retv {M : zm_I} {Q : Option Value → zh → Prop} {pc : Nat} {L : List Value} {h : zh} (d : decode (zm_c M) pc = .ok (.return_, 1)) (hr : zm_r M = none) (q : Q none h) : Wp M Q pc L [] h := by
  intro p l e s m args below meth c D ad ca A H locs ls C Hh hl
  refine W.vret C.1 C.2.1 (C.2.2.1.trans hr) (fun t ht hW => ?_) Hh.2.2.2.2 d C.2.2.2.2.2.1
  exact ⟨⟨none, h, rfl, q, by rw [ht]; exact Hh.1, va_K.moved hW.alike C.2.2.2.2.2.2.2.2, Hh.2.1⟩, Hh.2.2.F ht⟩
/-- what a call needs of the tables: link, code, room -/
def zK (M M' : zm_I) (idx n : Nat) : Prop := (M'.2.2.2.2.1 + 1 ≤ M.2.2.2.2.1 ∧ 8 + (zm_n M' + 11) + M'.2.2.2.2.2 ≤ M.2.2.2.2.2) ∧ Cond.code (zm_y M') (zm_c M') (zm_n M') (zm_r M') ∈ zT ∧ Cond.methodLink (zm_y M).cls idx (zm_y M') ∈ zT ∧ Cond.initialized (zm_y M').cls ∈ zT ∧ ((zm_y M').cls ≠ "java/lang/invoke/MethodHandle" ∧ (zm_y M').cls ≠ "java/lang/invoke/VarHandle" ∧ (parseMethodDescriptor (zm_y M').desc).map (fun d => d.parameters.length) = some n)
def zKv (M' : zm_I) : Prop := Cond.instanceMethod (zm_y M') ∈ zT ∧ Cond.selects (zm_y M').cls (zm_y M') (zm_y M') ∈ zT
theorem zB {M M' : zm_I} {idx n : Nat} (K : zK M M' idx n) {s : State} {args : Array Value} (hts : ∀ w ∈ zT, w.before args s = true) : CallB (zm_R M) s args (zm_y M).cls idx (zm_y M') (zm_c M') (zm_n M') (zm_r M') (zm_w M') (zm_R M') 0 0 n := by
  obtain ⟨k1, k2, k3, k4, k5⟩ := K
  refine callB_of (Ts := zT) n hts ?_ rfl rfl rfl (hts _ k4) (hts _ k3) k5 k1
  intro w hw
  rcases List.mem_cons.mp hw with rfl | hw
  · exact ⟨k2, good_of_word (zgood k2)⟩
  · exact ⟨hw, good_of_word (zgood hw)⟩
theorem zblind (D : va_G) (ad : Nat → Nat) (ca : Nat → ClassId) (av : List Value) (h : zh) (sz : Nat) : FrameBlind (zP D ad ca av h sz) := by
  intro a U g mk q
  obtain ⟨q0, q1, qP, qK, qD⟩ := q
  exact ⟨q0, q1, qP, va_K.moved (u := U) (U := U.calling g mk a) (Vm.Alike.refl U.vm) qK, qD⟩
theorem zrest {m : MethodId} {pc : Nat} {ls : Array Slot} {st0 : List Value} {ad : Nat → Nat} {rest : List Value} (h : (rest.map fun v => v.category).sum ≤ 8) : 2 * (F0 m pc ls st0).monitorRoom + ((rest.map (zv ad)).map fun v => v.category).sum ≤ 8 := by
  refine lv_room ?_
  rw [List.map_map]
  have : ((fun v : Value => v.category) ∘ zv ad) = (fun v : Value => v.category) := funext fun v => zv_cat ad v
  rw [this]; exact h
theorem zafter {M : zm_I} {Q Qc : Option Value → zh → Prop} {pc : Nat} {L rest st0 : List Value} {h : zh} {a : Array Value}
    {p : Program} {l : Launch} {e : Env} {s : State} {m : MethodId} {args : Array Value} {below : List Frame} {meth : Method} {c : Code} {D : va_G} {ad : Nat → Nat} {ca : Nat → ClassId} {A : Nat → Prop} {H : Heap} {locs : List Loc} {ls : Array Slot}
    (C : zC M p s m args meth c D ca A) (Hh : zH s D ad ca A h H locs) (hl : zl ad ls (zm_n M) L)
    (hr : va_Run p l e (zm_R M) s m args below meth c H locs 0 0 0 0 (F0 m pc ls st0) (rest.map (zv ad)) (zQ D ad ca (va_A (zw ad ca h) H.size) Qc a) (va_A (zw ad ca h) H.size))
    (kk : ∀ (r : Option Value) (h' : zh), Qc r h' → Wp M Q (pc + 3) L (r.toList ++ rest) h') : W p l e (zm_R M) s m args below meth c H locs 0 0 (MQ below (zQ D ad ca A Q) args s 0 0 A) (F0 m pc ls st0) := by
  have hA : ∀ q, va_A (zw ad ca h) H.size q → A q := by
    intro q hq
    rcases hq with ⟨k, x, hk⟩ | hq
    · exact Hh.2.1.2 k _ hk
    · exact C.2.2.2.2.2.2.2.1 q (Nat.le_trans Hh.2.2.1 hq)
  intro T hT X
  obtain ⟨v, st₀, t, T', Lc, h0, X', hL, e1, e2, ⟨⟨r, h', hv, hq, hP, hK, hD⟩, hz, hk⟩, st⟩ := hr T hT X
  cases hv
  rw [h0] at hz hk
  have hS : va_S A s.heap T'.heap (locs ++ Lc) := ⟨Nat.le_trans Hh.2.2.1 (by rw [e1]; exact hz), fun q h1 h2 => by rw [e1, hk q (Nat.lt_of_lt_of_le h1 Hh.2.2.1) (fun z => h2 (hA q z))]; exact Hh.2.2.2.1 q h1 h2, fun q hq => by
      rcases List.mem_append.mp hq with h | h
      · exact Hh.2.2.2.2 q h
      · exact hA _ (hL q h)⟩
  have key := kk r h' hq p l e s m args below meth c D ad ca A T'.heap (locs ++ Lc) ls C ⟨by rw [e1]; exact hP, hD.weaken (fun k q _ h => hA q.1 h), hS⟩ hl
  rw [List.map_append] at key
  have er : (r.toList.map (zv ad)) = (r.map (zv ad)).toList := by cases r <;> rfl
  rw [er] at key
  obtain ⟨t2, a1, b1⟩ := key T' rfl X'
  exact ⟨t2, st t2 a1, b1⟩
theorem zpre {M : zm_I} {h : zh} {av : List Value} {p : Program} {s : State} {m : MethodId} {args : Array Value} {meth : Method} {c : Code} {D : va_G} {ad : Nat → Nat} {ca : Nat → ClassId} {A : Nat → Prop} {H : Heap} {locs : List Loc}
    (C : zC M p s m args meth c D ca A) (Hh : zH s D ad ca A h H locs) : ∀ U : State, U.heap = H → s.WarmedH U.vm → zP D ad ca av h H.size (av.map (zv ad)).toArray U := fun U hU hW =>
  ⟨rfl, by rw [hU], by rw [hU]; exact Hh.1, va_K.moved hW.alike C.2.2.2.2.2.2.2.2, Hh.2.1.weaken (fun _ _ _ _ => trivial)⟩
theorem Wp.callV {M : zm_I} {Q : Option Value → zh → Prop} {pc pc2 : Nat} {L : List Value} {h : zh} {M' : zm_I} {Qc : Option Value → zh → Prop} {idx n b ci : Nat} {As rest st0 : List Value} {fs : List Value} (K : zK M M' idx n) (Kv : zKv M') (hM : PM M' (.ref b :: As) h Qc) (d : decode (zm_c M) pc = .ok (.invokevirtual idx, 3)) (hp : pc + 3 = pc2) (he : h[b]? = some (.inr (ci, fs))) (hci : (vwCl[ci]?).map (fun q => q.1) = some (zm_y M').cls) (hn : As.length = n) (hst : st0 = As.reverse ++ .ref b :: rest) (hr : (rest.map fun v => v.category).sum ≤ 8)
    (kk : ∀ (r : Option Value) (h' : zh), Qc r h' → Wp M Q pc2 L (r.toList ++ rest) h') : Wp M Q pc L st0 h := by
  subst hp
  subst hst
  intro p l e s m args below meth c D ad ca A H locs ls C Hh hl
  obtain ⟨hx, hb, hret, hml, hown, hlk, hts, hA, hK⟩ := id C
  obtain ⟨q, hq, hq2⟩ := Option.map_eq_some_iff.mp hci
  have hrc : ∃ cell : Cell, H[ad b]? = some cell ∧ cell.vm.isStatics = false ∧ s.vm.findClass (zm_y M').cls = some cell.cls := by
    rw [← hq2]; exact va_recv hK Hh.1 hq (zw_at he)
  refine zafter (st0 := (As.reverse ++ .ref b :: rest).map (zv ad)) C Hh hl (va_runV (C := (zm_y M').cls) (b := ad b) (As := As.map (zv ad)) (g := F0 m pc ls ((As.reverse ++ .ref b :: rest).map (zv ad))) ⟨hx, hb, hml, hown, hts⟩ (hM l D ad ca H.size) ⟨zB K hts, hts _ Kv.1, hts _ Kv.2⟩ ⟨zblind _ _ _ _ _ _, hrc, zpre (av := .ref b :: As) C Hh⟩ rfl (by rw [List.length_map]; exact hn) hl.1 ?_ (zrest hr) d ⟨Nat.zero_le _, Nat.zero_le _⟩) kk
  simp [List.map_append, List.map_reverse, zv]
theorem Wp.callS {M : zm_I} {Q : Option Value → zh → Prop} {pc pc2 : Nat} {L : List Value} {h : zh} {M' : zm_I} {Qc : Option Value → zh → Prop} {idx n : Nat} {As rest st0 : List Value} (K : zK M M' idx n) (Ks : Cond.static (zm_y M') ∈ zT) (hM : PM M' As h Qc) (d : decode (zm_c M) pc = .ok (.invokestatic idx, 3)) (hp : pc + 3 = pc2) (hn : As.length = n) (hst : st0 = As.reverse ++ rest) (hr : (rest.map fun v => v.category).sum ≤ 8)
    (kk : ∀ (r : Option Value) (h' : zh), Qc r h' → Wp M Q pc2 L (r.toList ++ rest) h') : Wp M Q pc L st0 h := by
  subst hp
  subst hst
  intro p l e s m args below meth c D ad ca A H locs ls C Hh hl
  obtain ⟨hx, hb, hret, hml, hown, hlk, hts, hA, hK⟩ := id C
  refine zafter (st0 := (As.reverse ++ rest).map (zv ad)) C Hh hl (va_runS (As := As.map (zv ad)) (g := F0 m pc ls ((As.reverse ++ rest).map (zv ad))) ⟨hx, hb, hml, hown, hts⟩ (hM l D ad ca H.size) ⟨zB K hts, hts _ Ks⟩ ⟨zblind _ _ _ _ _ _, zpre (av := As) C Hh⟩ rfl (by rw [List.length_map]; exact hn) hl.1 ?_ (zrest hr) d ⟨Nat.zero_le _, Nat.zero_le _⟩) kk
  simp [List.map_append, List.map_reverse]
