/-- nothing but 0 -/
def z0 : Nat → Int32 := fun _ => 0
theorem cA_of {D : va_G} {cl : List vw_C} {tys tys' : List (ClassId × FieldType)} {s : State} {ty : FieldType} {c c' : ClassId} (h1 : va_K D cl tys s) (h2 : va_K D cl tys' s) (t0 k : Nat) (e1 : tys[t0]? = some (c, ty)) (e2 : tys'[k]? = some (c', ty)) : c' = c := by
  have a := (h1.2 t0 _ e1).2
  have b := (h2.2 k _ e2).2
  cases ty with
  | object C =>
    obtain ⟨_, _, _, _, _, a⟩ := a
    obtain ⟨_, _, _, _, _, b⟩ := b
    exact Option.some.inj (b.symm.trans a)
  | _ => exact Option.some.inj (Eq.trans (Eq.symm b) a)
theorem zgin {w : Cond} (h : w ∈ zT) : GoodIn zT (w :: zT) := by
  intro x hx
  rcases List.mem_cons.mp hx with rfl | hx
  · exact ⟨h, good_of_word (zgood h)⟩
  · exact ⟨hx, good_of_word (zgood hx)⟩
theorem aw0 : Cond.arrayClass .int ∈ zT := zT_t 51 (by decide +kernel) (by decide +kernel)
theorem aw1 : Cond.arrayClass .boolean ∈ zT := zT_t 148 (by decide +kernel) (by decide +kernel)
theorem oiI : Cond.instanceMethod Lib.objectInit ∈ zT := zT_t 15 (by decide +kernel) (by decide +kernel)
theorem oiC : Cond.code Lib.objectInit ⟨#[0xb1]⟩ 1 none ∈ zT := zT_t 16 (by decide +kernel) (by decide +kernel)
section CNA
variable {p : Program} {l : Launch} {e : Env} {R : Room} {s : State} {m : MethodId} {args : Array Value} {below : List Frame} {meth : Method} {c : Code} {H : Heap} {locs : List Loc} {cells slots : Nat} {Q : State → Prop}
variable {cc : ByteArray} {pc : Nat} {ls : Array Slot} {rest : List Value} {D : va_G} {A : Nat → Prop} {ws : va_W} {H0 : Heap}
theorem c_newi (hx : p.tables.exec = Jvm.exec) (hb : c.code = cc) (hts : ∀ w ∈ zT, w.before args s = true) {kA : Nat → ClassId} (hK : va_K D vwCl (zt kA) s) (hP : va_P D vwCl ws H) (hD : va_D A ws) (hS : va_S A H0 H locs) (hA : ∀ q, H0.size ≤ q → A q)
    {n : Int32} {N' : Nat} (hn : ¬ n < 0) (hN : n.toNatClampNeg = N') (hbytes : N' * componentBytes .int ≤ 536870912) (hcells : cells + 1 ≤ R.cells) (hslots : slots + N' ≤ R.slots) (hdg : decode cc pc = .ok (.newarray .int, 2))
    (kk : ∀ (q : Nat) (H1 : Heap), va_P D vwCl (ws ++ [(q, .inl (kA 0, N', .inl z0))]) H1 → va_D A (ws ++ [(q, .inl (kA 0, N', .inl z0))]) → va_S A H0 H1 locs → W p l e R s m args below meth c H1 locs (cells + 1) (slots + N') Q (F0 m (pc + 2) ls (.ref q :: rest))) : W p l e R s m args below meth c H locs cells slots Q (F0 m pc ls (.int n :: rest)) := by
  refine va_newa (atype := .int) (a0 := (N', .inl z0)) hx hb (hts _ aw0) rfl hK hP hD hS hA (fun _ => rfl) hn hN hbytes hcells hslots hdg (fun q cA H1 hK1 hP1 hD1 hS1 => ?_)
  have ec := cA_of hK hK1 0 4 rfl rfl
  subst ec
  exact kk q H1 hP1 hD1 hS1
theorem c_newz (hx : p.tables.exec = Jvm.exec) (hb : c.code = cc) (hts : ∀ w ∈ zT, w.before args s = true) {kA : Nat → ClassId} (hK : va_K D vwCl (zt kA) s) (hP : va_P D vwCl ws H) (hD : va_D A ws) (hS : va_S A H0 H locs) (hA : ∀ q, H0.size ≤ q → A q)
    {n : Int32} {N' : Nat} (hn : ¬ n < 0) (hN : n.toNatClampNeg = N') (hbytes : N' * componentBytes .boolean ≤ 536870912) (hcells : cells + 1 ≤ R.cells) (hslots : slots + N' ≤ R.slots) (hdg : decode cc pc = .ok (.newarray .boolean, 2))
    (kk : ∀ (q : Nat) (H1 : Heap), va_P D vwCl (ws ++ [(q, .inl (kA 1, N', .inl z0))]) H1 → va_D A (ws ++ [(q, .inl (kA 1, N', .inl z0))]) → va_S A H0 H1 locs → W p l e R s m args below meth c H1 locs (cells + 1) (slots + N') Q (F0 m (pc + 2) ls (.ref q :: rest))) : W p l e R s m args below meth c H locs cells slots Q (F0 m pc ls (.int n :: rest)) := by
  refine va_newa (atype := .boolean) (a0 := (N', .inl z0)) hx hb (hts _ aw1) rfl hK hP hD hS hA (fun _ => rfl) hn hN hbytes hcells hslots hdg (fun q cA H1 hK1 hP1 hD1 hS1 => ?_)
  have ec := cA_of hK hK1 1 4 rfl rfl
  subst ec
  exact kk q H1 hP1 hD1 hS1
theorem c_newq (hx : p.tables.exec = Jvm.exec) (hb : c.code = cc) {own C : String} {index : Nat} (hown : s.vm.findClass own = some m.cls) (hcl : (Cond.classLink own index C).before args s = true) (hover : va_AO C s) {kA : Nat → ClassId} (hK : va_K D vwCl (zt kA) s) (hP : va_P D vwCl ws H) (hD : va_D A ws) (hS : va_S A H0 H locs) (hA : ∀ q, H0.size ≤ q → A q)
    (t0 : Nat) (ht : (zt kA)[t0]? = some (kA t0, .object C)) {n : Int32} {N' : Nat} (hn : ¬ n < 0) (hN : n.toNatClampNeg = N') (hbytes : N' * 4 ≤ 536870912) (hcells : cells + 1 ≤ R.cells) (hslots : slots + N' ≤ R.slots) (hdg : decode cc pc = .ok (.anewarray index, 3))
    (kk : ∀ (q : Nat) (H1 : Heap), va_P D vwCl (ws ++ [(q, .inl (kA t0, N', .inr (.inr (.inr (.inr (fun _ => none))))))]) H1 → va_D A (ws ++ [(q, .inl (kA t0, N', .inr (.inr (.inr (.inr (fun _ => none))))))]) → va_S A H0 H1 locs → W p l e R s m args below meth c H1 locs (cells + 1) (slots + N') Q (F0 m (pc + 3) ls (.ref q :: rest))) : W p l e R s m args below meth c H locs cells slots Q (F0 m pc ls (.int n :: rest)) := by
  refine va_newq hx hb hown hcl hover hK hP hD hS hA hn hN hbytes hcells hslots hdg (fun q cA H1 hK1 hP1 hD1 hS1 => ?_)
  have ec := cA_of hK hK1 t0 4 ht rfl
  subst ec
  exact kk q H1 hP1 hD1 hS1
end CNA

theorem dfX0 : ∀ j, j < 4 → defaultValue (tyX0 j) = vp_V [.null, .int 0, .int 0, .int 0] j := by
  intro j hj
  match j, hj with
  | 0, _ => rfl
  | 1, _ => rfl
  | 2, _ => rfl
  | 3, _ => rfl
  | j + 4, h => omega
theorem cwX0 : Cond.code yX0_init cX0_init 1 none ∈ zT := zT_t 113 (by decide +kernel) (by decide +kernel)
theorem iwX0 : Cond.initialized RX0 ∈ zT := zT_t 4 (by decide +kernel) (by decide +kernel)
theorem nwX0 : Cond.instantiable RX0 4 ∈ zT := zT_t 110 (by decide +kernel) (by decide +kernel)
theorem mwX0 : Cond.instanceMethod yX0_init ∈ zT := zT_t 112 (by decide +kernel) (by decide +kernel)
theorem owX0 : Cond.methodLink RX0 3 Lib.objectInit ∈ zT := zT_t 114 (by decide +kernel) (by decide +kernel)
theorem pwX0_9 : Cond.fieldLink RX0 9 (TX0 0).1 (TX0 0).2.1 (TX0 0).2.2.1 ∈ zT := zT_t 115 (by decide +kernel) (by decide +kernel)
theorem pwX0_15 : Cond.fieldLink RX0 15 (TX0 1).1 (TX0 1).2.1 (TX0 1).2.2.1 ∈ zT := zT_t 116 (by decide +kernel) (by decide +kernel)
theorem dfX1 : ∀ j, j < 3 → defaultValue (tyX1 j) = vp_V [.null, .null, .int 0] j := by
  intro j hj
  match j, hj with
  | 0, _ => rfl
  | 1, _ => rfl
  | 2, _ => rfl
  | j + 3, h => omega
theorem cwX1 : Cond.code yX1_init cX1_init 1 none ∈ zT := zT_t 135 (by decide +kernel) (by decide +kernel)
theorem iwX1 : Cond.initialized RX1 ∈ zT := zT_t 5 (by decide +kernel) (by decide +kernel)
theorem nwX1 : Cond.instantiable RX1 3 ∈ zT := zT_t 132 (by decide +kernel) (by decide +kernel)
theorem mwX1 : Cond.instanceMethod yX1_init ∈ zT := zT_t 134 (by decide +kernel) (by decide +kernel)
theorem owX1 : Cond.methodLink RX1 3 Lib.objectInit ∈ zT := zT_t 136 (by decide +kernel) (by decide +kernel)
theorem pwX1_9 : Cond.fieldLink RX1 9 (TX1 0).1 (TX1 0).2.1 (TX1 0).2.2.1 ∈ zT := zT_t 137 (by decide +kernel) (by decide +kernel)
theorem pwX1_15 : Cond.fieldLink RX1 15 (TX1 1).1 (TX1 1).2.1 (TX1 1).2.2.1 ∈ zT := zT_t 138 (by decide +kernel) (by decide +kernel)
theorem dfX2 : ∀ j, j < 13 → defaultValue (tyX2 j) = vp_V [.null, .null, .null, .null, .null, .null, .null, .null, .int 0, .int 0, .int 0, .int 0, .int 0] j := by
  intro j hj
  match j, hj with
  | 0, _ => rfl
  | 1, _ => rfl
  | 2, _ => rfl
  | 3, _ => rfl
  | 4, _ => rfl
  | 5, _ => rfl
  | 6, _ => rfl
  | 7, _ => rfl
  | 8, _ => rfl
  | 9, _ => rfl
  | 10, _ => rfl
  | 11, _ => rfl
  | 12, _ => rfl
  | j + 13, h => omega
theorem cwX2 : Cond.code yX2_init cX2_init 2 none ∈ zT := zT_t 58 (by decide +kernel) (by decide +kernel)
theorem iwX2 : Cond.initialized RX2 ∈ zT := zT_t 3 (by decide +kernel) (by decide +kernel)
theorem nwX2 : Cond.instantiable RX2 13 ∈ zT := zT_t 55 (by decide +kernel) (by decide +kernel)
theorem mwX2 : Cond.instanceMethod yX2_init ∈ zT := zT_t 57 (by decide +kernel) (by decide +kernel)
theorem owX2 : Cond.methodLink RX2 3 Lib.objectInit ∈ zT := zT_t 59 (by decide +kernel) (by decide +kernel)
theorem pwX2_9 : Cond.fieldLink RX2 9 (TX2 1).1 (TX2 1).2.1 (TX2 1).2.2.1 ∈ zT := zT_t 61 (by decide +kernel) (by decide +kernel)
theorem pwX2_15 : Cond.fieldLink RX2 15 (TX2 2).1 (TX2 2).2.1 (TX2 2).2.2.1 ∈ zT := zT_t 63 (by decide +kernel) (by decide +kernel)
theorem pwX2_18 : Cond.fieldLink RX2 18 (TX2 3).1 (TX2 3).2.1 (TX2 3).2.2.1 ∈ zT := zT_t 65 (by decide +kernel) (by decide +kernel)
theorem pwX2_21 : Cond.fieldLink RX2 21 (TX2 4).1 (TX2 4).2.1 (TX2 4).2.2.1 ∈ zT := zT_t 67 (by decide +kernel) (by decide +kernel)
theorem pwX2_24 : Cond.fieldLink RX2 24 (TX2 5).1 (TX2 5).2.1 (TX2 5).2.2.1 ∈ zT := zT_t 69 (by decide +kernel) (by decide +kernel)
theorem pwX2_27 : Cond.fieldLink RX2 27 (TX2 6).1 (TX2 6).2.1 (TX2 6).2.2.1 ∈ zT := zT_t 70 (by decide +kernel) (by decide +kernel)
theorem pwX2_30 : Cond.fieldLink RX2 30 (TX2 7).1 (TX2 7).2.1 (TX2 7).2.2.1 ∈ zT := zT_t 71 (by decide +kernel) (by decide +kernel)
theorem pwX2_33 : Cond.fieldLink RX2 33 (TX2 0).1 (TX2 0).2.1 (TX2 0).2.2.1 ∈ zT := zT_t 60 (by decide +kernel) (by decide +kernel)
theorem dfX3 : ∀ j, j < 7 → defaultValue (tyX3 j) = vp_V [.null, .null, .null, .null, .null, .int 0, .int 0] j := by
  intro j hj
  match j, hj with
  | 0, _ => rfl
  | 1, _ => rfl
  | 2, _ => rfl
  | 3, _ => rfl
  | 4, _ => rfl
  | 5, _ => rfl
  | 6, _ => rfl
  | j + 7, h => omega
theorem cwX3 : Cond.code yX3_init cX3_init 1 none ∈ zT := zT_t 21 (by decide +kernel) (by decide +kernel)
theorem iwX3 : Cond.initialized RX3 ∈ zT := zT_t 2 (by decide +kernel) (by decide +kernel)
theorem nwX3 : Cond.instantiable RX3 7 ∈ zT := zT_t 18 (by decide +kernel) (by decide +kernel)
theorem mwX3 : Cond.instanceMethod yX3_init ∈ zT := zT_t 20 (by decide +kernel) (by decide +kernel)
theorem owX3 : Cond.methodLink RX3 3 Lib.objectInit ∈ zT := zT_t 22 (by decide +kernel) (by decide +kernel)
theorem pwX3_9 : Cond.fieldLink RX3 9 (TX3 0).1 (TX3 0).2.1 (TX3 0).2.2.1 ∈ zT := zT_t 23 (by decide +kernel) (by decide +kernel)
theorem pwX3_15 : Cond.fieldLink RX3 15 (TX3 1).1 (TX3 1).2.1 (TX3 1).2.2.1 ∈ zT := zT_t 24 (by decide +kernel) (by decide +kernel)
theorem pwX3_18 : Cond.fieldLink RX3 18 (TX3 2).1 (TX3 2).2.1 (TX3 2).2.2.1 ∈ zT := zT_t 25 (by decide +kernel) (by decide +kernel)
theorem pwX3_21 : Cond.fieldLink RX3 21 (TX3 3).1 (TX3 3).2.1 (TX3 3).2.2.1 ∈ zT := zT_t 26 (by decide +kernel) (by decide +kernel)
theorem pwX3_24 : Cond.fieldLink RX3 24 (TX3 4).1 (TX3 4).2.1 (TX3 4).2.2.1 ∈ zT := zT_t 27 (by decide +kernel) (by decide +kernel)
theorem dfX4 : ∀ j, j < 14 → defaultValue (tyX4 j) = vp_V [.null, .null, .null, .null, .null, .null, .int 0, .int 0, .int 0, .int 0, .int 0, .int 0, .int 0, .int 0] j := by
  intro j hj
  match j, hj with
  | 0, _ => rfl
  | 1, _ => rfl
  | 2, _ => rfl
  | 3, _ => rfl
  | 4, _ => rfl
  | 5, _ => rfl
  | 6, _ => rfl
  | 7, _ => rfl
  | 8, _ => rfl
  | 9, _ => rfl
  | 10, _ => rfl
  | 11, _ => rfl
  | 12, _ => rfl
  | 13, _ => rfl
  | j + 14, h => omega
theorem cwX4 : Cond.code yX4_init cX4_init 3 none ∈ zT := zT_t 13 (by decide +kernel) (by decide +kernel)
theorem iwX4 : Cond.initialized RX4 ∈ zT := zT_t 1 (by decide +kernel) (by decide +kernel)
theorem nwX4 : Cond.instantiable RX4 14 ∈ zT := zT_t 10 (by decide +kernel) (by decide +kernel)
theorem mwX4 : Cond.instanceMethod yX4_init ∈ zT := zT_t 12 (by decide +kernel) (by decide +kernel)
theorem owX4 : Cond.methodLink RX4 3 Lib.objectInit ∈ zT := zT_t 14 (by decide +kernel) (by decide +kernel)
theorem pwX4_12 : Cond.fieldLink RX4 12 (TX4 0).1 (TX4 0).2.1 (TX4 0).2.2.1 ∈ zT := zT_t 149 (by decide +kernel) (by decide +kernel)
theorem pwX4_21 : Cond.fieldLink RX4 21 (TX4 1).1 (TX4 1).2.1 (TX4 1).2.2.1 ∈ zT := zT_t 150 (by decide +kernel) (by decide +kernel)
theorem pwX4_25 : Cond.fieldLink RX4 25 (TX4 2).1 (TX4 2).2.1 (TX4 2).2.2.1 ∈ zT := zT_t 151 (by decide +kernel) (by decide +kernel)
theorem pwX4_32 : Cond.fieldLink RX4 32 (TX4 3).1 (TX4 3).2.1 (TX4 3).2.2.1 ∈ zT := zT_t 152 (by decide +kernel) (by decide +kernel)
theorem pwX4_39 : Cond.fieldLink RX4 39 (TX4 4).1 (TX4 4).2.1 (TX4 4).2.2.1 ∈ zT := zT_t 153 (by decide +kernel) (by decide +kernel)
theorem pwX4_43 : Cond.fieldLink RX4 43 (TX4 5).1 (TX4 5).2.1 (TX4 5).2.2.1 ∈ zT := zT_t 154 (by decide +kernel) (by decide +kernel)
theorem pwX4_46 : Cond.fieldLink RX4 46 (TX4 6).1 (TX4 6).2.1 (TX4 6).2.2.1 ∈ zT := zT_t 155 (by decide +kernel) (by decide +kernel)
theorem pwX4_50 : Cond.fieldLink RX4 50 (TX4 7).1 (TX4 7).2.1 (TX4 7).2.2.1 ∈ zT := zT_t 156 (by decide +kernel) (by decide +kernel)
theorem dfX5 : ∀ j, j < 32 → defaultValue (tyX5 j) = vp_V [.null, .null, .null, .null, .null, .null, .null, .null, .int 0, .int 0, .int 0, .int 0, .null, .null, .null, .null, .null, .null, .null, .null, .null, .null, .null, .int 0, .null, .null, .int 0, .int 0, .int 0, .int 0, .int 0, .int 0] j := by
  intro j hj
  match j, hj with
  | 0, _ => rfl
  | 1, _ => rfl
  | 2, _ => rfl
  | 3, _ => rfl
  | 4, _ => rfl
  | 5, _ => rfl
  | 6, _ => rfl
  | 7, _ => rfl
  | 8, _ => rfl
  | 9, _ => rfl
  | 10, _ => rfl
  | 11, _ => rfl
  | 12, _ => rfl
  | 13, _ => rfl
  | 14, _ => rfl
  | 15, _ => rfl
  | 16, _ => rfl
  | 17, _ => rfl
  | 18, _ => rfl
  | 19, _ => rfl
  | 20, _ => rfl
  | 21, _ => rfl
  | 22, _ => rfl
  | 23, _ => rfl
  | 24, _ => rfl
  | 25, _ => rfl
  | 26, _ => rfl
  | 27, _ => rfl
  | 28, _ => rfl
  | 29, _ => rfl
  | 30, _ => rfl
  | 31, _ => rfl
  | j + 32, h => omega
theorem cwX5 : Cond.code yX5_init cX5_init 1 none ∈ zT := zT_t 451 (by decide +kernel) (by decide +kernel)
theorem iwX5 : Cond.initialized RX5 ∈ zT := zT_t 6 (by decide +kernel) (by decide +kernel)
theorem nwX5 : Cond.instantiable RX5 32 ∈ zT := zT_t 448 (by decide +kernel) (by decide +kernel)
theorem mwX5 : Cond.instanceMethod yX5_init ∈ zT := zT_t 450 (by decide +kernel) (by decide +kernel)
theorem owX5 : Cond.methodLink RX5 1 Lib.objectInit ∈ zT := zT_t 452 (by decide +kernel) (by decide +kernel)
theorem pwX5_7 : Cond.fieldLink RX5 7 (TX5 0).1 (TX5 0).2.1 (TX5 0).2.2.1 ∈ zT := zT_t 453 (by decide +kernel) (by decide +kernel)
theorem pwX5_13 : Cond.fieldLink RX5 13 (TX5 1).1 (TX5 1).2.1 (TX5 1).2.2.1 ∈ zT := zT_t 454 (by decide +kernel) (by decide +kernel)
theorem pwX5_16 : Cond.fieldLink RX5 16 (TX5 2).1 (TX5 2).2.1 (TX5 2).2.2.1 ∈ zT := zT_t 455 (by decide +kernel) (by decide +kernel)
theorem pwX5_19 : Cond.fieldLink RX5 19 (TX5 3).1 (TX5 3).2.1 (TX5 3).2.2.1 ∈ zT := zT_t 456 (by decide +kernel) (by decide +kernel)
theorem pwX5_22 : Cond.fieldLink RX5 22 (TX5 4).1 (TX5 4).2.1 (TX5 4).2.2.1 ∈ zT := zT_t 457 (by decide +kernel) (by decide +kernel)
theorem pwX5_25 : Cond.fieldLink RX5 25 (TX5 5).1 (TX5 5).2.1 (TX5 5).2.2.1 ∈ zT := zT_t 458 (by decide +kernel) (by decide +kernel)
theorem pwX5_28 : Cond.fieldLink RX5 28 (TX5 6).1 (TX5 6).2.1 (TX5 6).2.2.1 ∈ zT := zT_t 459 (by decide +kernel) (by decide +kernel)
theorem pwX5_31 : Cond.fieldLink RX5 31 (TX5 7).1 (TX5 7).2.1 (TX5 7).2.2.1 ∈ zT := zT_t 460 (by decide +kernel) (by decide +kernel)
theorem pwX5_34 : Cond.fieldLink RX5 34 (TX5 8).1 (TX5 8).2.1 (TX5 8).2.2.1 ∈ zT := zT_t 461 (by decide +kernel) (by decide +kernel)
theorem pwX5_38 : Cond.fieldLink RX5 38 (TX5 9).1 (TX5 9).2.1 (TX5 9).2.2.1 ∈ zT := zT_t 462 (by decide +kernel) (by decide +kernel)
theorem pwX5_41 : Cond.fieldLink RX5 41 (TX5 12).1 (TX5 12).2.1 (TX5 12).2.2.1 ∈ zT := zT_t 465 (by decide +kernel) (by decide +kernel)
theorem pwX5_44 : Cond.fieldLink RX5 44 (TX5 13).1 (TX5 13).2.1 (TX5 13).2.2.1 ∈ zT := zT_t 466 (by decide +kernel) (by decide +kernel)
theorem pwX5_47 : Cond.fieldLink RX5 47 (TX5 14).1 (TX5 14).2.1 (TX5 14).2.2.1 ∈ zT := zT_t 467 (by decide +kernel) (by decide +kernel)
theorem pwX5_50 : Cond.fieldLink RX5 50 (TX5 15).1 (TX5 15).2.1 (TX5 15).2.2.1 ∈ zT := zT_t 468 (by decide +kernel) (by decide +kernel)
theorem pwX5_54 : Cond.fieldLink RX5 54 (TX5 16).1 (TX5 16).2.1 (TX5 16).2.2.1 ∈ zT := zT_t 469 (by decide +kernel) (by decide +kernel)
theorem pwX5_57 : Cond.fieldLink RX5 57 (TX5 17).1 (TX5 17).2.1 (TX5 17).2.2.1 ∈ zT := zT_t 470 (by decide +kernel) (by decide +kernel)
theorem pwX5_60 : Cond.fieldLink RX5 60 (TX5 18).1 (TX5 18).2.1 (TX5 18).2.2.1 ∈ zT := zT_t 471 (by decide +kernel) (by decide +kernel)
theorem pwX5_63 : Cond.fieldLink RX5 63 (TX5 19).1 (TX5 19).2.1 (TX5 19).2.2.1 ∈ zT := zT_t 472 (by decide +kernel) (by decide +kernel)
theorem pwX5_66 : Cond.fieldLink RX5 66 (TX5 20).1 (TX5 20).2.1 (TX5 20).2.2.1 ∈ zT := zT_t 473 (by decide +kernel) (by decide +kernel)
theorem pwX5_69 : Cond.fieldLink RX5 69 (TX5 21).1 (TX5 21).2.1 (TX5 21).2.2.1 ∈ zT := zT_t 474 (by decide +kernel) (by decide +kernel)
theorem pwX5_72 : Cond.fieldLink RX5 72 (TX5 22).1 (TX5 22).2.1 (TX5 22).2.2.1 ∈ zT := zT_t 475 (by decide +kernel) (by decide +kernel)
theorem pwX5_75 : Cond.fieldLink RX5 75 (TX5 24).1 (TX5 24).2.1 (TX5 24).2.2.1 ∈ zT := zT_t 477 (by decide +kernel) (by decide +kernel)
theorem pwX5_78 : Cond.fieldLink RX5 78 (TX5 25).1 (TX5 25).2.1 (TX5 25).2.2.1 ∈ zT := zT_t 478 (by decide +kernel) (by decide +kernel)
theorem klL_7 : Cond.classLink RL 7 RX4 ∈ zT := zT_t 9 (by decide +kernel) (by decide +kernel)
theorem klX4_9 : Cond.classLink RX4 9 RX3 ∈ zT := zT_t 17 (by decide +kernel) (by decide +kernel)
theorem klX4_16 : Cond.classLink RX4 16 RX2 ∈ zT := zT_t 53 (by decide +kernel) (by decide +kernel)
theorem klX4_29 : Cond.classLink RX4 29 RX0 ∈ zT := zT_t 109 (by decide +kernel) (by decide +kernel)
theorem klX4_36 : Cond.classLink RX4 36 RX1 ∈ zT := zT_t 131 (by decide +kernel) (by decide +kernel)
theorem klL_10 : Cond.classLink RL 10 RX5 ∈ zT := zT_t 447 (by decide +kernel) (by decide +kernel)
set_option maxRecDepth 100000 in
set_option maxHeartbeats 4000000 in
theorem tX3_init (l : Launch) (D : va_G) (kA : Nat → ClassId) (h0 : Nat) (sz : Nat) : Met l yX3_init (.code yX3_init cX3_init 1 none :: zT) ({ frames := 1, cells := 5, slots := 166, locals := 12 }) (va_Pc [.ref h0] (fun U => U.heap.size = sz ∧ va_P D vwCl [(h0, .inr (3, [.null, .null, .null, .null, .null, .int 0, .int 0]))] U.heap ∧ va_K D vwCl (zt kA) U ∧ va_D (fun _ => True) [(h0, .inr (3, [.null, .null, .null, .null, .null, .int 0, .int 0]))])) (va_Qv (fun _ : Nat → Nat => True) (fun u t => va_P D vwCl [(h0, .inr (3, [.ref (u 0), .ref (u 1), .ref (u 2), .ref (u 3), .ref (u 4), .int 0, .int 0])), (u 0, .inl (kA 0, 150, .inl z0)), (u 1, .inl (kA 0, 4, .inl z0)), (u 2, .inl (kA 0, 4, .inl z0)), (u 3, .inl (kA 0, 4, .inl z0)), (u 4, .inl (kA 0, 4, .inl z0))] t.heap ∧ va_K D vwCl (zt kA) t ∧ va_D (va_A [(h0, .inr (3, [.null, .null, .null, .null, .null, .int 0, .int 0]))] sz) [(h0, .inr (3, [.ref (u 0), .ref (u 1), .ref (u 2), .ref (u 3), .ref (u 4), .int 0, .int 0])), (u 0, .inl (kA 0, 150, .inl z0)), (u 1, .inl (kA 0, 4, .inl z0)), (u 2, .inl (kA 0, 4, .inl z0)), (u 3, .inl (kA 0, 4, .inl z0)), (u 4, .inl (kA 0, 4, .inl z0))]) (va_A [(h0, .inr (3, [.null, .null, .null, .null, .null, .int 0, .int 0]))] sz)) 5 166 (va_A [(h0, .inr (3, [.null, .null, .null, .null, .null, .int 0, .int 0]))] sz) := by
  refine Met.ofW (cc := cX3_init) (maxL := 1) (ret := none) (by decide +kernel) rfl ?_
  intro p e s m args below meth c s₁ B hml hv
  obtain ⟨rfl, hsz, hP, hK, hD0⟩ := hv
  have hx := B.exec
  have hb := B.bytes
  have hr := B.returns
  have hts : ∀ w ∈ zT, w.before [.ref h0].toArray s = true := fun w hw => atoms_spec (ws := .code yX3_init cX3_init 1 none :: zT) B.pre w (List.mem_cons_of_mem _ hw)
  have hown : s.vm.findClass RX3 = some m.cls := findClass_of_methodNamed B.named
  have hlocks := B.notSynchronized
  have hin : meth.name = "<init>" := (name_of_methodNamed B.named B.method).1
  subst hsz
  have hD := hD0.self (sz := s.heap.size)
  generalize hAe : va_A [(h0, .inr (3, [.null, .null, .null, .null, .null, .int 0, .int 0]))] s.heap.size = A at hD ⊢
  have hA : ∀ q : Nat, s.heap.size ≤ q → A q := fun q h => by rw [← hAe]; exact Or.inr h
  have hS : va_S A s.heap s.heap [] := va_S.rf
  have hl := lv_entry ([.ref h0]) (n := 1) (Nat.le_of_ble_eq_true rfl)
  rw [lg_entry_eq]
  generalize (lg_sl ([.ref h0]) ++ List.replicate (1 - (lg_sl ([.ref h0])).length) Slot.unset).toArray = ls at hl ⊢
  have hl : lv_has ls 1 [(0, .ref h0)] := hl
  refine lv_aload_n hx hb dX3_init_0 rfl (lv_at hl 0 rfl) ?_
  refine W.objInit hx hb hown (hts _ owX3) (hts _ oiI) (hts _ oiC) rfl (by rw [hml]; exact hl.1) rfl dX3_init_1 (Nat.le_of_ble_eq_true rfl) (Nat.le_of_ble_eq_true rfl) ?_
  refine W.eq (g2 := F0 m 4 ls []) rfl ?_
  refine lv_aload_n hx hb dX3_init_4 rfl (lv_at hl 0 rfl) ?_
  refine lv_sipush (v := 150) hx hb dX3_init_5 (by decide) ?_
  refine c_newi (N' := 150) hx hb hts hK hP hD hS hA (by decide) (by decide) (by decide) (Nat.le_of_ble_eq_true rfl) (Nat.le_of_ble_eq_true rfl) dX3_init_8 (fun q8 H hP hD hS => ?_)
  have hP : va_P D vwCl [(h0, .inr (3, [.null, .null, .null, .null, .null, .int 0, .int 0])), (q8, .inl (kA 0, 150, .inl z0))] H := hP
  have hD : va_D A [(h0, .inr (3, [.null, .null, .null, .null, .null, .int 0, .int 0])), (q8, .inl (kA 0, 150, .inl z0))] := hD
  refine W.widen (k := 1) (n := 150) (Nat.le_of_ble_eq_true rfl) (Nat.le_of_ble_eq_true rfl) ?_
  refine va_putF (D := D) (ci := 3) (v := .ref q8) (ty := tyX3 0) (C := RX3) (T := TX3) (N := 7) hx hb hts inX3 tyX3 tyX3_ok nmX3 hown hK hP hD hS 0 rfl rfl 0 (by decide) (hts _ pwX3_9) (fun _ h9 => h9) rfl hin rfl (tyX3_ok 0 (by decide)) rfl rfl (Nat.le_of_ble_eq_true rfl) dX3_init_10 (fun H locs hP hD hS => ?_)
  have hP : va_P D vwCl [(h0, .inr (3, [.ref q8, .null, .null, .null, .null, .int 0, .int 0])), (q8, .inl (kA 0, 150, .inl z0))] H := hP
  have hD : va_D A [(h0, .inr (3, [.ref q8, .null, .null, .null, .null, .int 0, .int 0])), (q8, .inl (kA 0, 150, .inl z0))] := hD
  refine lv_aload_n hx hb dX3_init_13 rfl (lv_at hl 0 rfl) ?_
  refine lv_iconst (v := 4) hx hb dX3_init_14 (by decide) ?_
  refine c_newi (N' := 4) hx hb hts hK hP hD hS hA (by decide) (by decide) (by decide) (Nat.le_of_ble_eq_true rfl) (Nat.le_of_ble_eq_true rfl) dX3_init_15 (fun q15 H hP hD hS => ?_)
  have hP : va_P D vwCl [(h0, .inr (3, [.ref q8, .null, .null, .null, .null, .int 0, .int 0])), (q8, .inl (kA 0, 150, .inl z0)), (q15, .inl (kA 0, 4, .inl z0))] H := hP
  have hD : va_D A [(h0, .inr (3, [.ref q8, .null, .null, .null, .null, .int 0, .int 0])), (q8, .inl (kA 0, 150, .inl z0)), (q15, .inl (kA 0, 4, .inl z0))] := hD
  refine W.widen (k := 2) (n := 154) (Nat.le_of_ble_eq_true rfl) (Nat.le_of_ble_eq_true rfl) ?_
  refine va_putF (D := D) (ci := 3) (v := .ref q15) (ty := tyX3 1) (C := RX3) (T := TX3) (N := 7) hx hb hts inX3 tyX3 tyX3_ok nmX3 hown hK hP hD hS 0 rfl rfl 1 (by decide) (hts _ pwX3_15) (fun _ h9 => h9) rfl hin rfl (tyX3_ok 1 (by decide)) rfl rfl (Nat.le_of_ble_eq_true rfl) dX3_init_17 (fun H locs hP hD hS => ?_)
  have hP : va_P D vwCl [(h0, .inr (3, [.ref q8, .ref q15, .null, .null, .null, .int 0, .int 0])), (q8, .inl (kA 0, 150, .inl z0)), (q15, .inl (kA 0, 4, .inl z0))] H := hP
  have hD : va_D A [(h0, .inr (3, [.ref q8, .ref q15, .null, .null, .null, .int 0, .int 0])), (q8, .inl (kA 0, 150, .inl z0)), (q15, .inl (kA 0, 4, .inl z0))] := hD
  refine lv_aload_n hx hb dX3_init_20 rfl (lv_at hl 0 rfl) ?_
  refine lv_iconst (v := 4) hx hb dX3_init_21 (by decide) ?_
  refine c_newi (N' := 4) hx hb hts hK hP hD hS hA (by decide) (by decide) (by decide) (Nat.le_of_ble_eq_true rfl) (Nat.le_of_ble_eq_true rfl) dX3_init_22 (fun q22 H hP hD hS => ?_)
  have hP : va_P D vwCl [(h0, .inr (3, [.ref q8, .ref q15, .null, .null, .null, .int 0, .int 0])), (q8, .inl (kA 0, 150, .inl z0)), (q15, .inl (kA 0, 4, .inl z0)), (q22, .inl (kA 0, 4, .inl z0))] H := hP
  have hD : va_D A [(h0, .inr (3, [.ref q8, .ref q15, .null, .null, .null, .int 0, .int 0])), (q8, .inl (kA 0, 150, .inl z0)), (q15, .inl (kA 0, 4, .inl z0)), (q22, .inl (kA 0, 4, .inl z0))] := hD
  refine W.widen (k := 3) (n := 158) (Nat.le_of_ble_eq_true rfl) (Nat.le_of_ble_eq_true rfl) ?_
  refine va_putF (D := D) (ci := 3) (v := .ref q22) (ty := tyX3 2) (C := RX3) (T := TX3) (N := 7) hx hb hts inX3 tyX3 tyX3_ok nmX3 hown hK hP hD hS 0 rfl rfl 2 (by decide) (hts _ pwX3_18) (fun _ h9 => h9) rfl hin rfl (tyX3_ok 2 (by decide)) rfl rfl (Nat.le_of_ble_eq_true rfl) dX3_init_24 (fun H locs hP hD hS => ?_)
  have hP : va_P D vwCl [(h0, .inr (3, [.ref q8, .ref q15, .ref q22, .null, .null, .int 0, .int 0])), (q8, .inl (kA 0, 150, .inl z0)), (q15, .inl (kA 0, 4, .inl z0)), (q22, .inl (kA 0, 4, .inl z0))] H := hP
  have hD : va_D A [(h0, .inr (3, [.ref q8, .ref q15, .ref q22, .null, .null, .int 0, .int 0])), (q8, .inl (kA 0, 150, .inl z0)), (q15, .inl (kA 0, 4, .inl z0)), (q22, .inl (kA 0, 4, .inl z0))] := hD
  refine lv_aload_n hx hb dX3_init_27 rfl (lv_at hl 0 rfl) ?_
  refine lv_iconst (v := 4) hx hb dX3_init_28 (by decide) ?_
  refine c_newi (N' := 4) hx hb hts hK hP hD hS hA (by decide) (by decide) (by decide) (Nat.le_of_ble_eq_true rfl) (Nat.le_of_ble_eq_true rfl) dX3_init_29 (fun q29 H hP hD hS => ?_)
  have hP : va_P D vwCl [(h0, .inr (3, [.ref q8, .ref q15, .ref q22, .null, .null, .int 0, .int 0])), (q8, .inl (kA 0, 150, .inl z0)), (q15, .inl (kA 0, 4, .inl z0)), (q22, .inl (kA 0, 4, .inl z0)), (q29, .inl (kA 0, 4, .inl z0))] H := hP
  have hD : va_D A [(h0, .inr (3, [.ref q8, .ref q15, .ref q22, .null, .null, .int 0, .int 0])), (q8, .inl (kA 0, 150, .inl z0)), (q15, .inl (kA 0, 4, .inl z0)), (q22, .inl (kA 0, 4, .inl z0)), (q29, .inl (kA 0, 4, .inl z0))] := hD
  refine W.widen (k := 4) (n := 162) (Nat.le_of_ble_eq_true rfl) (Nat.le_of_ble_eq_true rfl) ?_
  refine va_putF (D := D) (ci := 3) (v := .ref q29) (ty := tyX3 3) (C := RX3) (T := TX3) (N := 7) hx hb hts inX3 tyX3 tyX3_ok nmX3 hown hK hP hD hS 0 rfl rfl 3 (by decide) (hts _ pwX3_21) (fun _ h9 => h9) rfl hin rfl (tyX3_ok 3 (by decide)) rfl rfl (Nat.le_of_ble_eq_true rfl) dX3_init_31 (fun H locs hP hD hS => ?_)
  have hP : va_P D vwCl [(h0, .inr (3, [.ref q8, .ref q15, .ref q22, .ref q29, .null, .int 0, .int 0])), (q8, .inl (kA 0, 150, .inl z0)), (q15, .inl (kA 0, 4, .inl z0)), (q22, .inl (kA 0, 4, .inl z0)), (q29, .inl (kA 0, 4, .inl z0))] H := hP
  have hD : va_D A [(h0, .inr (3, [.ref q8, .ref q15, .ref q22, .ref q29, .null, .int 0, .int 0])), (q8, .inl (kA 0, 150, .inl z0)), (q15, .inl (kA 0, 4, .inl z0)), (q22, .inl (kA 0, 4, .inl z0)), (q29, .inl (kA 0, 4, .inl z0))] := hD
  refine lv_aload_n hx hb dX3_init_34 rfl (lv_at hl 0 rfl) ?_
  refine lv_iconst (v := 4) hx hb dX3_init_35 (by decide) ?_
  refine c_newi (N' := 4) hx hb hts hK hP hD hS hA (by decide) (by decide) (by decide) (Nat.le_of_ble_eq_true rfl) (Nat.le_of_ble_eq_true rfl) dX3_init_36 (fun q36 H hP hD hS => ?_)
  have hP : va_P D vwCl [(h0, .inr (3, [.ref q8, .ref q15, .ref q22, .ref q29, .null, .int 0, .int 0])), (q8, .inl (kA 0, 150, .inl z0)), (q15, .inl (kA 0, 4, .inl z0)), (q22, .inl (kA 0, 4, .inl z0)), (q29, .inl (kA 0, 4, .inl z0)), (q36, .inl (kA 0, 4, .inl z0))] H := hP
  have hD : va_D A [(h0, .inr (3, [.ref q8, .ref q15, .ref q22, .ref q29, .null, .int 0, .int 0])), (q8, .inl (kA 0, 150, .inl z0)), (q15, .inl (kA 0, 4, .inl z0)), (q22, .inl (kA 0, 4, .inl z0)), (q29, .inl (kA 0, 4, .inl z0)), (q36, .inl (kA 0, 4, .inl z0))] := hD
  refine W.widen (k := 5) (n := 166) (Nat.le_of_ble_eq_true rfl) (Nat.le_of_ble_eq_true rfl) ?_
  refine va_putF (D := D) (ci := 3) (v := .ref q36) (ty := tyX3 4) (C := RX3) (T := TX3) (N := 7) hx hb hts inX3 tyX3 tyX3_ok nmX3 hown hK hP hD hS 0 rfl rfl 4 (by decide) (hts _ pwX3_24) (fun _ h9 => h9) rfl hin rfl (tyX3_ok 4 (by decide)) rfl rfl (Nat.le_of_ble_eq_true rfl) dX3_init_38 (fun H locs hP hD hS => ?_)
  have hP : va_P D vwCl [(h0, .inr (3, [.ref q8, .ref q15, .ref q22, .ref q29, .ref q36, .int 0, .int 0])), (q8, .inl (kA 0, 150, .inl z0)), (q15, .inl (kA 0, 4, .inl z0)), (q22, .inl (kA 0, 4, .inl z0)), (q29, .inl (kA 0, 4, .inl z0)), (q36, .inl (kA 0, 4, .inl z0))] H := hP
  have hD : va_D A [(h0, .inr (3, [.ref q8, .ref q15, .ref q22, .ref q29, .ref q36, .int 0, .int 0])), (q8, .inl (kA 0, 150, .inl z0)), (q15, .inl (kA 0, 4, .inl z0)), (q22, .inl (kA 0, 4, .inl z0)), (q29, .inl (kA 0, 4, .inl z0)), (q36, .inl (kA 0, 4, .inl z0))] := hD
  exact W.vret hx hb hr (fun t ht hW => ⟨⟨fun i => match i with | 0 => q8 | 1 => q15 | 2 => q22 | 3 => q29 | 4 => q36 | _ => 0, rfl, trivial, by rw [ht]; exact hP, va_K.moved hW.alike hK, hD⟩, hS.F ht⟩) hS.2.2 dX3_init_41

set_option maxRecDepth 100000 in
set_option maxHeartbeats 4000000 in
theorem tX2_init (l : Launch) (D : va_G) (kA : Nat → ClassId) (h0 : Nat) (tb : Nat) (sz : Nat) : Met l yX2_init (.code yX2_init cX2_init 2 none :: zT) ({ frames := 1, cells := 7, slots := 132, locals := 12 }) (va_Pc [.ref h0, .ref tb] (fun U => U.heap.size = sz ∧ va_P D vwCl [(h0, .inr (2, [.null, .null, .null, .null, .null, .null, .null, .null, .int 0, .int 0, .int 0, .int 0, .int 0]))] U.heap ∧ va_K D vwCl (zt kA) U ∧ va_D (fun _ => True) [(h0, .inr (2, [.null, .null, .null, .null, .null, .null, .null, .null, .int 0, .int 0, .int 0, .int 0, .int 0]))])) (va_Qv (fun _ : Nat → Nat => True) (fun u t => va_P D vwCl [(h0, .inr (2, [.ref tb, .ref (u 0), .ref (u 1), .ref (u 2), .ref (u 3), .ref (u 4), .ref (u 5), .ref (u 6), .int 0, .int 0, .int 0, .int 0, .int 0])), (u 0, .inl (kA 0, 50, .inl z0)), (u 1, .inl (kA 0, 4, .inl z0)), (u 2, .inl (kA 0, 4, .inl z0)), (u 3, .inl (kA 0, 4, .inl z0)), (u 4, .inl (kA 0, 4, .inl z0)), (u 5, .inl (kA 0, 50, .inl z0)), (u 6, .inl (kA 0, 16, .inl z0))] t.heap ∧ va_K D vwCl (zt kA) t ∧ va_D (va_A [(h0, .inr (2, [.null, .null, .null, .null, .null, .null, .null, .null, .int 0, .int 0, .int 0, .int 0, .int 0]))] sz) [(h0, .inr (2, [.ref tb, .ref (u 0), .ref (u 1), .ref (u 2), .ref (u 3), .ref (u 4), .ref (u 5), .ref (u 6), .int 0, .int 0, .int 0, .int 0, .int 0])), (u 0, .inl (kA 0, 50, .inl z0)), (u 1, .inl (kA 0, 4, .inl z0)), (u 2, .inl (kA 0, 4, .inl z0)), (u 3, .inl (kA 0, 4, .inl z0)), (u 4, .inl (kA 0, 4, .inl z0)), (u 5, .inl (kA 0, 50, .inl z0)), (u 6, .inl (kA 0, 16, .inl z0))]) (va_A [(h0, .inr (2, [.null, .null, .null, .null, .null, .null, .null, .null, .int 0, .int 0, .int 0, .int 0, .int 0]))] sz)) 7 132 (va_A [(h0, .inr (2, [.null, .null, .null, .null, .null, .null, .null, .null, .int 0, .int 0, .int 0, .int 0, .int 0]))] sz) := by
  refine Met.ofW (cc := cX2_init) (maxL := 2) (ret := none) (by decide +kernel) rfl ?_
  intro p e s m args below meth c s₁ B hml hv
  obtain ⟨rfl, hsz, hP, hK, hD0⟩ := hv
  have hx := B.exec
  have hb := B.bytes
  have hr := B.returns
  have hts : ∀ w ∈ zT, w.before [.ref h0, .ref tb].toArray s = true := fun w hw => atoms_spec (ws := .code yX2_init cX2_init 2 none :: zT) B.pre w (List.mem_cons_of_mem _ hw)
  have hown : s.vm.findClass RX2 = some m.cls := findClass_of_methodNamed B.named
  have hlocks := B.notSynchronized
  have hin : meth.name = "<init>" := (name_of_methodNamed B.named B.method).1
  subst hsz
  have hD := hD0.self (sz := s.heap.size)
  generalize hAe : va_A [(h0, .inr (2, [.null, .null, .null, .null, .null, .null, .null, .null, .int 0, .int 0, .int 0, .int 0, .int 0]))] s.heap.size = A at hD ⊢
  have hA : ∀ q : Nat, s.heap.size ≤ q → A q := fun q h => by rw [← hAe]; exact Or.inr h
  have hS : va_S A s.heap s.heap [] := va_S.rf
  have hl := lv_entry ([.ref h0, .ref tb]) (n := 2) (Nat.le_of_ble_eq_true rfl)
  rw [lg_entry_eq]
  generalize (lg_sl ([.ref h0, .ref tb]) ++ List.replicate (2 - (lg_sl ([.ref h0, .ref tb])).length) Slot.unset).toArray = ls at hl ⊢
  have hl : lv_has ls 2 [(0, .ref h0), (1, .ref tb)] := hl
  refine lv_aload_n hx hb dX2_init_0 rfl (lv_at hl 0 rfl) ?_
  refine W.objInit hx hb hown (hts _ owX2) (hts _ oiI) (hts _ oiC) rfl (by rw [hml]; exact hl.1) rfl dX2_init_1 (Nat.le_of_ble_eq_true rfl) (Nat.le_of_ble_eq_true rfl) ?_
  refine W.eq (g2 := F0 m 4 ls []) rfl ?_
  refine lv_aload_n hx hb dX2_init_4 rfl (lv_at hl 0 rfl) ?_
  refine lv_bipush (v := 50) hx hb dX2_init_5 (by decide) ?_
  refine c_newi (N' := 50) hx hb hts hK hP hD hS hA (by decide) (by decide) (by decide) (Nat.le_of_ble_eq_true rfl) (Nat.le_of_ble_eq_true rfl) dX2_init_7 (fun q7 H hP hD hS => ?_)
  have hP : va_P D vwCl [(h0, .inr (2, [.null, .null, .null, .null, .null, .null, .null, .null, .int 0, .int 0, .int 0, .int 0, .int 0])), (q7, .inl (kA 0, 50, .inl z0))] H := hP
  have hD : va_D A [(h0, .inr (2, [.null, .null, .null, .null, .null, .null, .null, .null, .int 0, .int 0, .int 0, .int 0, .int 0])), (q7, .inl (kA 0, 50, .inl z0))] := hD
  refine W.widen (k := 1) (n := 50) (Nat.le_of_ble_eq_true rfl) (Nat.le_of_ble_eq_true rfl) ?_
  refine va_putF (D := D) (ci := 2) (v := .ref q7) (ty := tyX2 1) (C := RX2) (T := TX2) (N := 13) hx hb hts inX2 tyX2 tyX2_ok nmX2 hown hK hP hD hS 0 rfl rfl 1 (by decide) (hts _ pwX2_9) (fun _ h9 => h9) rfl hin rfl (tyX2_ok 1 (by decide)) rfl rfl (Nat.le_of_ble_eq_true rfl) dX2_init_9 (fun H locs hP hD hS => ?_)
  have hP : va_P D vwCl [(h0, .inr (2, [.null, .ref q7, .null, .null, .null, .null, .null, .null, .int 0, .int 0, .int 0, .int 0, .int 0])), (q7, .inl (kA 0, 50, .inl z0))] H := hP
  have hD : va_D A [(h0, .inr (2, [.null, .ref q7, .null, .null, .null, .null, .null, .null, .int 0, .int 0, .int 0, .int 0, .int 0])), (q7, .inl (kA 0, 50, .inl z0))] := hD
  refine lv_aload_n hx hb dX2_init_12 rfl (lv_at hl 0 rfl) ?_
  refine lv_iconst (v := 4) hx hb dX2_init_13 (by decide) ?_
  refine c_newi (N' := 4) hx hb hts hK hP hD hS hA (by decide) (by decide) (by decide) (Nat.le_of_ble_eq_true rfl) (Nat.le_of_ble_eq_true rfl) dX2_init_14 (fun q14 H hP hD hS => ?_)
  have hP : va_P D vwCl [(h0, .inr (2, [.null, .ref q7, .null, .null, .null, .null, .null, .null, .int 0, .int 0, .int 0, .int 0, .int 0])), (q7, .inl (kA 0, 50, .inl z0)), (q14, .inl (kA 0, 4, .inl z0))] H := hP
  have hD : va_D A [(h0, .inr (2, [.null, .ref q7, .null, .null, .null, .null, .null, .null, .int 0, .int 0, .int 0, .int 0, .int 0])), (q7, .inl (kA 0, 50, .inl z0)), (q14, .inl (kA 0, 4, .inl z0))] := hD
  refine W.widen (k := 2) (n := 54) (Nat.le_of_ble_eq_true rfl) (Nat.le_of_ble_eq_true rfl) ?_
  refine va_putF (D := D) (ci := 2) (v := .ref q14) (ty := tyX2 2) (C := RX2) (T := TX2) (N := 13) hx hb hts inX2 tyX2 tyX2_ok nmX2 hown hK hP hD hS 0 rfl rfl 2 (by decide) (hts _ pwX2_15) (fun _ h9 => h9) rfl hin rfl (tyX2_ok 2 (by decide)) rfl rfl (Nat.le_of_ble_eq_true rfl) dX2_init_16 (fun H locs hP hD hS => ?_)
  have hP : va_P D vwCl [(h0, .inr (2, [.null, .ref q7, .ref q14, .null, .null, .null, .null, .null, .int 0, .int 0, .int 0, .int 0, .int 0])), (q7, .inl (kA 0, 50, .inl z0)), (q14, .inl (kA 0, 4, .inl z0))] H := hP
  have hD : va_D A [(h0, .inr (2, [.null, .ref q7, .ref q14, .null, .null, .null, .null, .null, .int 0, .int 0, .int 0, .int 0, .int 0])), (q7, .inl (kA 0, 50, .inl z0)), (q14, .inl (kA 0, 4, .inl z0))] := hD
  refine lv_aload_n hx hb dX2_init_19 rfl (lv_at hl 0 rfl) ?_
  refine lv_iconst (v := 4) hx hb dX2_init_20 (by decide) ?_
  refine c_newi (N' := 4) hx hb hts hK hP hD hS hA (by decide) (by decide) (by decide) (Nat.le_of_ble_eq_true rfl) (Nat.le_of_ble_eq_true rfl) dX2_init_21 (fun q21 H hP hD hS => ?_)
  have hP : va_P D vwCl [(h0, .inr (2, [.null, .ref q7, .ref q14, .null, .null, .null, .null, .null, .int 0, .int 0, .int 0, .int 0, .int 0])), (q7, .inl (kA 0, 50, .inl z0)), (q14, .inl (kA 0, 4, .inl z0)), (q21, .inl (kA 0, 4, .inl z0))] H := hP
  have hD : va_D A [(h0, .inr (2, [.null, .ref q7, .ref q14, .null, .null, .null, .null, .null, .int 0, .int 0, .int 0, .int 0, .int 0])), (q7, .inl (kA 0, 50, .inl z0)), (q14, .inl (kA 0, 4, .inl z0)), (q21, .inl (kA 0, 4, .inl z0))] := hD
  refine W.widen (k := 3) (n := 58) (Nat.le_of_ble_eq_true rfl) (Nat.le_of_ble_eq_true rfl) ?_
  refine va_putF (D := D) (ci := 2) (v := .ref q21) (ty := tyX2 3) (C := RX2) (T := TX2) (N := 13) hx hb hts inX2 tyX2 tyX2_ok nmX2 hown hK hP hD hS 0 rfl rfl 3 (by decide) (hts _ pwX2_18) (fun _ h9 => h9) rfl hin rfl (tyX2_ok 3 (by decide)) rfl rfl (Nat.le_of_ble_eq_true rfl) dX2_init_23 (fun H locs hP hD hS => ?_)
  have hP : va_P D vwCl [(h0, .inr (2, [.null, .ref q7, .ref q14, .ref q21, .null, .null, .null, .null, .int 0, .int 0, .int 0, .int 0, .int 0])), (q7, .inl (kA 0, 50, .inl z0)), (q14, .inl (kA 0, 4, .inl z0)), (q21, .inl (kA 0, 4, .inl z0))] H := hP
  have hD : va_D A [(h0, .inr (2, [.null, .ref q7, .ref q14, .ref q21, .null, .null, .null, .null, .int 0, .int 0, .int 0, .int 0, .int 0])), (q7, .inl (kA 0, 50, .inl z0)), (q14, .inl (kA 0, 4, .inl z0)), (q21, .inl (kA 0, 4, .inl z0))] := hD
  refine lv_aload_n hx hb dX2_init_26 rfl (lv_at hl 0 rfl) ?_
  refine lv_iconst (v := 4) hx hb dX2_init_27 (by decide) ?_
  refine c_newi (N' := 4) hx hb hts hK hP hD hS hA (by decide) (by decide) (by decide) (Nat.le_of_ble_eq_true rfl) (Nat.le_of_ble_eq_true rfl) dX2_init_28 (fun q28 H hP hD hS => ?_)
  have hP : va_P D vwCl [(h0, .inr (2, [.null, .ref q7, .ref q14, .ref q21, .null, .null, .null, .null, .int 0, .int 0, .int 0, .int 0, .int 0])), (q7, .inl (kA 0, 50, .inl z0)), (q14, .inl (kA 0, 4, .inl z0)), (q21, .inl (kA 0, 4, .inl z0)), (q28, .inl (kA 0, 4, .inl z0))] H := hP
  have hD : va_D A [(h0, .inr (2, [.null, .ref q7, .ref q14, .ref q21, .null, .null, .null, .null, .int 0, .int 0, .int 0, .int 0, .int 0])), (q7, .inl (kA 0, 50, .inl z0)), (q14, .inl (kA 0, 4, .inl z0)), (q21, .inl (kA 0, 4, .inl z0)), (q28, .inl (kA 0, 4, .inl z0))] := hD
  refine W.widen (k := 4) (n := 62) (Nat.le_of_ble_eq_true rfl) (Nat.le_of_ble_eq_true rfl) ?_
  refine va_putF (D := D) (ci := 2) (v := .ref q28) (ty := tyX2 4) (C := RX2) (T := TX2) (N := 13) hx hb hts inX2 tyX2 tyX2_ok nmX2 hown hK hP hD hS 0 rfl rfl 4 (by decide) (hts _ pwX2_21) (fun _ h9 => h9) rfl hin rfl (tyX2_ok 4 (by decide)) rfl rfl (Nat.le_of_ble_eq_true rfl) dX2_init_30 (fun H locs hP hD hS => ?_)
  have hP : va_P D vwCl [(h0, .inr (2, [.null, .ref q7, .ref q14, .ref q21, .ref q28, .null, .null, .null, .int 0, .int 0, .int 0, .int 0, .int 0])), (q7, .inl (kA 0, 50, .inl z0)), (q14, .inl (kA 0, 4, .inl z0)), (q21, .inl (kA 0, 4, .inl z0)), (q28, .inl (kA 0, 4, .inl z0))] H := hP
  have hD : va_D A [(h0, .inr (2, [.null, .ref q7, .ref q14, .ref q21, .ref q28, .null, .null, .null, .int 0, .int 0, .int 0, .int 0, .int 0])), (q7, .inl (kA 0, 50, .inl z0)), (q14, .inl (kA 0, 4, .inl z0)), (q21, .inl (kA 0, 4, .inl z0)), (q28, .inl (kA 0, 4, .inl z0))] := hD
  refine lv_aload_n hx hb dX2_init_33 rfl (lv_at hl 0 rfl) ?_
  refine lv_iconst (v := 4) hx hb dX2_init_34 (by decide) ?_
  refine c_newi (N' := 4) hx hb hts hK hP hD hS hA (by decide) (by decide) (by decide) (Nat.le_of_ble_eq_true rfl) (Nat.le_of_ble_eq_true rfl) dX2_init_35 (fun q35 H hP hD hS => ?_)
  have hP : va_P D vwCl [(h0, .inr (2, [.null, .ref q7, .ref q14, .ref q21, .ref q28, .null, .null, .null, .int 0, .int 0, .int 0, .int 0, .int 0])), (q7, .inl (kA 0, 50, .inl z0)), (q14, .inl (kA 0, 4, .inl z0)), (q21, .inl (kA 0, 4, .inl z0)), (q28, .inl (kA 0, 4, .inl z0)), (q35, .inl (kA 0, 4, .inl z0))] H := hP
  have hD : va_D A [(h0, .inr (2, [.null, .ref q7, .ref q14, .ref q21, .ref q28, .null, .null, .null, .int 0, .int 0, .int 0, .int 0, .int 0])), (q7, .inl (kA 0, 50, .inl z0)), (q14, .inl (kA 0, 4, .inl z0)), (q21, .inl (kA 0, 4, .inl z0)), (q28, .inl (kA 0, 4, .inl z0)), (q35, .inl (kA 0, 4, .inl z0))] := hD
  refine W.widen (k := 5) (n := 66) (Nat.le_of_ble_eq_true rfl) (Nat.le_of_ble_eq_true rfl) ?_
  refine va_putF (D := D) (ci := 2) (v := .ref q35) (ty := tyX2 5) (C := RX2) (T := TX2) (N := 13) hx hb hts inX2 tyX2 tyX2_ok nmX2 hown hK hP hD hS 0 rfl rfl 5 (by decide) (hts _ pwX2_24) (fun _ h9 => h9) rfl hin rfl (tyX2_ok 5 (by decide)) rfl rfl (Nat.le_of_ble_eq_true rfl) dX2_init_37 (fun H locs hP hD hS => ?_)
  have hP : va_P D vwCl [(h0, .inr (2, [.null, .ref q7, .ref q14, .ref q21, .ref q28, .ref q35, .null, .null, .int 0, .int 0, .int 0, .int 0, .int 0])), (q7, .inl (kA 0, 50, .inl z0)), (q14, .inl (kA 0, 4, .inl z0)), (q21, .inl (kA 0, 4, .inl z0)), (q28, .inl (kA 0, 4, .inl z0)), (q35, .inl (kA 0, 4, .inl z0))] H := hP
  have hD : va_D A [(h0, .inr (2, [.null, .ref q7, .ref q14, .ref q21, .ref q28, .ref q35, .null, .null, .int 0, .int 0, .int 0, .int 0, .int 0])), (q7, .inl (kA 0, 50, .inl z0)), (q14, .inl (kA 0, 4, .inl z0)), (q21, .inl (kA 0, 4, .inl z0)), (q28, .inl (kA 0, 4, .inl z0)), (q35, .inl (kA 0, 4, .inl z0))] := hD
  refine lv_aload_n hx hb dX2_init_40 rfl (lv_at hl 0 rfl) ?_
  refine lv_bipush (v := 50) hx hb dX2_init_41 (by decide) ?_
  refine c_newi (N' := 50) hx hb hts hK hP hD hS hA (by decide) (by decide) (by decide) (Nat.le_of_ble_eq_true rfl) (Nat.le_of_ble_eq_true rfl) dX2_init_43 (fun q43 H hP hD hS => ?_)
  have hP : va_P D vwCl [(h0, .inr (2, [.null, .ref q7, .ref q14, .ref q21, .ref q28, .ref q35, .null, .null, .int 0, .int 0, .int 0, .int 0, .int 0])), (q7, .inl (kA 0, 50, .inl z0)), (q14, .inl (kA 0, 4, .inl z0)), (q21, .inl (kA 0, 4, .inl z0)), (q28, .inl (kA 0, 4, .inl z0)), (q35, .inl (kA 0, 4, .inl z0)), (q43, .inl (kA 0, 50, .inl z0))] H := hP
  have hD : va_D A [(h0, .inr (2, [.null, .ref q7, .ref q14, .ref q21, .ref q28, .ref q35, .null, .null, .int 0, .int 0, .int 0, .int 0, .int 0])), (q7, .inl (kA 0, 50, .inl z0)), (q14, .inl (kA 0, 4, .inl z0)), (q21, .inl (kA 0, 4, .inl z0)), (q28, .inl (kA 0, 4, .inl z0)), (q35, .inl (kA 0, 4, .inl z0)), (q43, .inl (kA 0, 50, .inl z0))] := hD
  refine W.widen (k := 6) (n := 116) (Nat.le_of_ble_eq_true rfl) (Nat.le_of_ble_eq_true rfl) ?_
  refine va_putF (D := D) (ci := 2) (v := .ref q43) (ty := tyX2 6) (C := RX2) (T := TX2) (N := 13) hx hb hts inX2 tyX2 tyX2_ok nmX2 hown hK hP hD hS 0 rfl rfl 6 (by decide) (hts _ pwX2_27) (fun _ h9 => h9) rfl hin rfl (tyX2_ok 6 (by decide)) rfl rfl (Nat.le_of_ble_eq_true rfl) dX2_init_45 (fun H locs hP hD hS => ?_)
  have hP : va_P D vwCl [(h0, .inr (2, [.null, .ref q7, .ref q14, .ref q21, .ref q28, .ref q35, .ref q43, .null, .int 0, .int 0, .int 0, .int 0, .int 0])), (q7, .inl (kA 0, 50, .inl z0)), (q14, .inl (kA 0, 4, .inl z0)), (q21, .inl (kA 0, 4, .inl z0)), (q28, .inl (kA 0, 4, .inl z0)), (q35, .inl (kA 0, 4, .inl z0)), (q43, .inl (kA 0, 50, .inl z0))] H := hP
  have hD : va_D A [(h0, .inr (2, [.null, .ref q7, .ref q14, .ref q21, .ref q28, .ref q35, .ref q43, .null, .int 0, .int 0, .int 0, .int 0, .int 0])), (q7, .inl (kA 0, 50, .inl z0)), (q14, .inl (kA 0, 4, .inl z0)), (q21, .inl (kA 0, 4, .inl z0)), (q28, .inl (kA 0, 4, .inl z0)), (q35, .inl (kA 0, 4, .inl z0)), (q43, .inl (kA 0, 50, .inl z0))] := hD
  refine lv_aload_n hx hb dX2_init_48 rfl (lv_at hl 0 rfl) ?_
  refine lv_bipush (v := 16) hx hb dX2_init_49 (by decide) ?_
  refine c_newi (N' := 16) hx hb hts hK hP hD hS hA (by decide) (by decide) (by decide) (Nat.le_of_ble_eq_true rfl) (Nat.le_of_ble_eq_true rfl) dX2_init_51 (fun q51 H hP hD hS => ?_)
  have hP : va_P D vwCl [(h0, .inr (2, [.null, .ref q7, .ref q14, .ref q21, .ref q28, .ref q35, .ref q43, .null, .int 0, .int 0, .int 0, .int 0, .int 0])), (q7, .inl (kA 0, 50, .inl z0)), (q14, .inl (kA 0, 4, .inl z0)), (q21, .inl (kA 0, 4, .inl z0)), (q28, .inl (kA 0, 4, .inl z0)), (q35, .inl (kA 0, 4, .inl z0)), (q43, .inl (kA 0, 50, .inl z0)), (q51, .inl (kA 0, 16, .inl z0))] H := hP
  have hD : va_D A [(h0, .inr (2, [.null, .ref q7, .ref q14, .ref q21, .ref q28, .ref q35, .ref q43, .null, .int 0, .int 0, .int 0, .int 0, .int 0])), (q7, .inl (kA 0, 50, .inl z0)), (q14, .inl (kA 0, 4, .inl z0)), (q21, .inl (kA 0, 4, .inl z0)), (q28, .inl (kA 0, 4, .inl z0)), (q35, .inl (kA 0, 4, .inl z0)), (q43, .inl (kA 0, 50, .inl z0)), (q51, .inl (kA 0, 16, .inl z0))] := hD
  refine W.widen (k := 7) (n := 132) (Nat.le_of_ble_eq_true rfl) (Nat.le_of_ble_eq_true rfl) ?_
  refine va_putF (D := D) (ci := 2) (v := .ref q51) (ty := tyX2 7) (C := RX2) (T := TX2) (N := 13) hx hb hts inX2 tyX2 tyX2_ok nmX2 hown hK hP hD hS 0 rfl rfl 7 (by decide) (hts _ pwX2_30) (fun _ h9 => h9) rfl hin rfl (tyX2_ok 7 (by decide)) rfl rfl (Nat.le_of_ble_eq_true rfl) dX2_init_53 (fun H locs hP hD hS => ?_)
  have hP : va_P D vwCl [(h0, .inr (2, [.null, .ref q7, .ref q14, .ref q21, .ref q28, .ref q35, .ref q43, .ref q51, .int 0, .int 0, .int 0, .int 0, .int 0])), (q7, .inl (kA 0, 50, .inl z0)), (q14, .inl (kA 0, 4, .inl z0)), (q21, .inl (kA 0, 4, .inl z0)), (q28, .inl (kA 0, 4, .inl z0)), (q35, .inl (kA 0, 4, .inl z0)), (q43, .inl (kA 0, 50, .inl z0)), (q51, .inl (kA 0, 16, .inl z0))] H := hP
  have hD : va_D A [(h0, .inr (2, [.null, .ref q7, .ref q14, .ref q21, .ref q28, .ref q35, .ref q43, .ref q51, .int 0, .int 0, .int 0, .int 0, .int 0])), (q7, .inl (kA 0, 50, .inl z0)), (q14, .inl (kA 0, 4, .inl z0)), (q21, .inl (kA 0, 4, .inl z0)), (q28, .inl (kA 0, 4, .inl z0)), (q35, .inl (kA 0, 4, .inl z0)), (q43, .inl (kA 0, 50, .inl z0)), (q51, .inl (kA 0, 16, .inl z0))] := hD
  refine lv_aload_n hx hb dX2_init_56 rfl (lv_at hl 0 rfl) ?_
  refine lv_aload_n hx hb dX2_init_57 rfl (lv_at hl 1 rfl) ?_
  refine va_putF (D := D) (ci := 2) (v := .ref tb) (ty := tyX2 0) (C := RX2) (T := TX2) (N := 13) hx hb hts inX2 tyX2 tyX2_ok nmX2 hown hK hP hD hS 0 rfl rfl 0 (by decide) (hts _ pwX2_33) (fun _ h9 => h9) rfl hin rfl (tyX2_ok 0 (by decide)) rfl rfl (Nat.le_of_ble_eq_true rfl) dX2_init_58 (fun H locs hP hD hS => ?_)
  have hP : va_P D vwCl [(h0, .inr (2, [.ref tb, .ref q7, .ref q14, .ref q21, .ref q28, .ref q35, .ref q43, .ref q51, .int 0, .int 0, .int 0, .int 0, .int 0])), (q7, .inl (kA 0, 50, .inl z0)), (q14, .inl (kA 0, 4, .inl z0)), (q21, .inl (kA 0, 4, .inl z0)), (q28, .inl (kA 0, 4, .inl z0)), (q35, .inl (kA 0, 4, .inl z0)), (q43, .inl (kA 0, 50, .inl z0)), (q51, .inl (kA 0, 16, .inl z0))] H := hP
  have hD : va_D A [(h0, .inr (2, [.ref tb, .ref q7, .ref q14, .ref q21, .ref q28, .ref q35, .ref q43, .ref q51, .int 0, .int 0, .int 0, .int 0, .int 0])), (q7, .inl (kA 0, 50, .inl z0)), (q14, .inl (kA 0, 4, .inl z0)), (q21, .inl (kA 0, 4, .inl z0)), (q28, .inl (kA 0, 4, .inl z0)), (q35, .inl (kA 0, 4, .inl z0)), (q43, .inl (kA 0, 50, .inl z0)), (q51, .inl (kA 0, 16, .inl z0))] := hD
  exact W.vret hx hb hr (fun t ht hW => ⟨⟨fun i => match i with | 0 => q7 | 1 => q14 | 2 => q21 | 3 => q28 | 4 => q35 | 5 => q43 | 6 => q51 | _ => 0, rfl, trivial, by rw [ht]; exact hP, va_K.moved hW.alike hK, hD⟩, hS.F ht⟩) hS.2.2 dX2_init_61

set_option maxRecDepth 100000 in
set_option maxHeartbeats 4000000 in
theorem tX0_init (l : Launch) (D : va_G) (kA : Nat → ClassId) (h0 : Nat) (sz : Nat) : Met l yX0_init (.code yX0_init cX0_init 1 none :: zT) ({ frames := 1, cells := 1, slots := 100, locals := 12 }) (va_Pc [.ref h0] (fun U => U.heap.size = sz ∧ va_P D vwCl [(h0, .inr (0, [.null, .int 0, .int 0, .int 0]))] U.heap ∧ va_K D vwCl (zt kA) U ∧ va_D (fun _ => True) [(h0, .inr (0, [.null, .int 0, .int 0, .int 0]))])) (va_Qv (fun _ : Nat → Nat => True) (fun u t => va_P D vwCl [(h0, .inr (0, [.ref (u 0), .int 100, .int 0, .int 0])), (u 0, .inl (kA 0, 100, .inl z0))] t.heap ∧ va_K D vwCl (zt kA) t ∧ va_D (va_A [(h0, .inr (0, [.null, .int 0, .int 0, .int 0]))] sz) [(h0, .inr (0, [.ref (u 0), .int 100, .int 0, .int 0])), (u 0, .inl (kA 0, 100, .inl z0))]) (va_A [(h0, .inr (0, [.null, .int 0, .int 0, .int 0]))] sz)) 1 100 (va_A [(h0, .inr (0, [.null, .int 0, .int 0, .int 0]))] sz) := by
  refine Met.ofW (cc := cX0_init) (maxL := 1) (ret := none) (by decide +kernel) rfl ?_
  intro p e s m args below meth c s₁ B hml hv
  obtain ⟨rfl, hsz, hP, hK, hD0⟩ := hv
  have hx := B.exec
  have hb := B.bytes
  have hr := B.returns
  have hts : ∀ w ∈ zT, w.before [.ref h0].toArray s = true := fun w hw => atoms_spec (ws := .code yX0_init cX0_init 1 none :: zT) B.pre w (List.mem_cons_of_mem _ hw)
  have hown : s.vm.findClass RX0 = some m.cls := findClass_of_methodNamed B.named
  have hlocks := B.notSynchronized
  have hin : meth.name = "<init>" := (name_of_methodNamed B.named B.method).1
  subst hsz
  have hD := hD0.self (sz := s.heap.size)
  generalize hAe : va_A [(h0, .inr (0, [.null, .int 0, .int 0, .int 0]))] s.heap.size = A at hD ⊢
  have hA : ∀ q : Nat, s.heap.size ≤ q → A q := fun q h => by rw [← hAe]; exact Or.inr h
  have hS : va_S A s.heap s.heap [] := va_S.rf
  have hl := lv_entry ([.ref h0]) (n := 1) (Nat.le_of_ble_eq_true rfl)
  rw [lg_entry_eq]
  generalize (lg_sl ([.ref h0]) ++ List.replicate (1 - (lg_sl ([.ref h0])).length) Slot.unset).toArray = ls at hl ⊢
  have hl : lv_has ls 1 [(0, .ref h0)] := hl
  refine lv_aload_n hx hb dX0_init_0 rfl (lv_at hl 0 rfl) ?_
  refine W.objInit hx hb hown (hts _ owX0) (hts _ oiI) (hts _ oiC) rfl (by rw [hml]; exact hl.1) rfl dX0_init_1 (Nat.le_of_ble_eq_true rfl) (Nat.le_of_ble_eq_true rfl) ?_
  refine W.eq (g2 := F0 m 4 ls []) rfl ?_
  refine lv_aload_n hx hb dX0_init_4 rfl (lv_at hl 0 rfl) ?_
  refine lv_bipush (v := 100) hx hb dX0_init_5 (by decide) ?_
  refine c_newi (N' := 100) hx hb hts hK hP hD hS hA (by decide) (by decide) (by decide) (Nat.le_of_ble_eq_true rfl) (Nat.le_of_ble_eq_true rfl) dX0_init_7 (fun q7 H hP hD hS => ?_)
  have hP : va_P D vwCl [(h0, .inr (0, [.null, .int 0, .int 0, .int 0])), (q7, .inl (kA 0, 100, .inl z0))] H := hP
  have hD : va_D A [(h0, .inr (0, [.null, .int 0, .int 0, .int 0])), (q7, .inl (kA 0, 100, .inl z0))] := hD
  refine W.widen (k := 1) (n := 100) (Nat.le_of_ble_eq_true rfl) (Nat.le_of_ble_eq_true rfl) ?_
  refine va_putF (D := D) (ci := 0) (v := .ref q7) (ty := tyX0 0) (C := RX0) (T := TX0) (N := 4) hx hb hts inX0 tyX0 tyX0_ok nmX0 hown hK hP hD hS 0 rfl rfl 0 (by decide) (hts _ pwX0_9) (fun _ h9 => h9) rfl hin rfl (tyX0_ok 0 (by decide)) rfl rfl (Nat.le_of_ble_eq_true rfl) dX0_init_9 (fun H locs hP hD hS => ?_)
  have hP : va_P D vwCl [(h0, .inr (0, [.ref q7, .int 0, .int 0, .int 0])), (q7, .inl (kA 0, 100, .inl z0))] H := hP
  have hD : va_D A [(h0, .inr (0, [.ref q7, .int 0, .int 0, .int 0])), (q7, .inl (kA 0, 100, .inl z0))] := hD
  refine lv_aload_n hx hb dX0_init_12 rfl (lv_at hl 0 rfl) ?_
  refine lv_bipush (v := 100) hx hb dX0_init_13 (by decide) ?_
  refine va_put (D := D) (ci := 0) (v := .int 100) (ty := tyX0 1) (C := RX0) (T := TX0) (N := 4) hx hb hts inX0 tyX0 tyX0_ok nmX0 hown hK hP hD hS 0 rfl rfl 1 (by decide) (hts _ pwX0_15) (fun _ h9 => h9) rfl (tyX0_ok 1 (by decide)) rfl rfl (Nat.le_of_ble_eq_true rfl) dX0_init_15 (fun H locs hP hD hS => ?_)
  have hP : va_P D vwCl [(h0, .inr (0, [.ref q7, .int 100, .int 0, .int 0])), (q7, .inl (kA 0, 100, .inl z0))] H := hP
  have hD : va_D A [(h0, .inr (0, [.ref q7, .int 100, .int 0, .int 0])), (q7, .inl (kA 0, 100, .inl z0))] := hD
  exact W.vret hx hb hr (fun t ht hW => ⟨⟨fun i => match i with | 0 => q7 | _ => 0, rfl, trivial, by rw [ht]; exact hP, va_K.moved hW.alike hK, hD⟩, hS.F ht⟩) hS.2.2 dX0_init_18

set_option maxRecDepth 100000 in
set_option maxHeartbeats 4000000 in
theorem tX1_init (l : Launch) (D : va_G) (kA : Nat → ClassId) (h0 : Nat) (sz : Nat) : Met l yX1_init (.code yX1_init cX1_init 1 none :: zT) ({ frames := 1, cells := 2, slots := 5000, locals := 12 }) (va_Pc [.ref h0] (fun U => U.heap.size = sz ∧ va_P D vwCl [(h0, .inr (1, [.null, .null, .int 0]))] U.heap ∧ va_K D vwCl (zt kA) U ∧ va_D (fun _ => True) [(h0, .inr (1, [.null, .null, .int 0]))])) (va_Qv (fun _ : Nat → Nat => True) (fun u t => va_P D vwCl [(h0, .inr (1, [.ref (u 0), .ref (u 1), .int 0])), (u 0, .inl (kA 0, 2500, .inl z0)), (u 1, .inl (kA 1, 2500, .inl z0))] t.heap ∧ va_K D vwCl (zt kA) t ∧ va_D (va_A [(h0, .inr (1, [.null, .null, .int 0]))] sz) [(h0, .inr (1, [.ref (u 0), .ref (u 1), .int 0])), (u 0, .inl (kA 0, 2500, .inl z0)), (u 1, .inl (kA 1, 2500, .inl z0))]) (va_A [(h0, .inr (1, [.null, .null, .int 0]))] sz)) 2 5000 (va_A [(h0, .inr (1, [.null, .null, .int 0]))] sz) := by
  refine Met.ofW (cc := cX1_init) (maxL := 1) (ret := none) (by decide +kernel) rfl ?_
  intro p e s m args below meth c s₁ B hml hv
  obtain ⟨rfl, hsz, hP, hK, hD0⟩ := hv
  have hx := B.exec
  have hb := B.bytes
  have hr := B.returns
  have hts : ∀ w ∈ zT, w.before [.ref h0].toArray s = true := fun w hw => atoms_spec (ws := .code yX1_init cX1_init 1 none :: zT) B.pre w (List.mem_cons_of_mem _ hw)
  have hown : s.vm.findClass RX1 = some m.cls := findClass_of_methodNamed B.named
  have hlocks := B.notSynchronized
  have hin : meth.name = "<init>" := (name_of_methodNamed B.named B.method).1
  subst hsz
  have hD := hD0.self (sz := s.heap.size)
  generalize hAe : va_A [(h0, .inr (1, [.null, .null, .int 0]))] s.heap.size = A at hD ⊢
  have hA : ∀ q : Nat, s.heap.size ≤ q → A q := fun q h => by rw [← hAe]; exact Or.inr h
  have hS : va_S A s.heap s.heap [] := va_S.rf
  have hl := lv_entry ([.ref h0]) (n := 1) (Nat.le_of_ble_eq_true rfl)
  rw [lg_entry_eq]
  generalize (lg_sl ([.ref h0]) ++ List.replicate (1 - (lg_sl ([.ref h0])).length) Slot.unset).toArray = ls at hl ⊢
  have hl : lv_has ls 1 [(0, .ref h0)] := hl
  refine lv_aload_n hx hb dX1_init_0 rfl (lv_at hl 0 rfl) ?_
  refine W.objInit hx hb hown (hts _ owX1) (hts _ oiI) (hts _ oiC) rfl (by rw [hml]; exact hl.1) rfl dX1_init_1 (Nat.le_of_ble_eq_true rfl) (Nat.le_of_ble_eq_true rfl) ?_
  refine W.eq (g2 := F0 m 4 ls []) rfl ?_
  refine lv_aload_n hx hb dX1_init_4 rfl (lv_at hl 0 rfl) ?_
  refine lv_sipush (v := 2500) hx hb dX1_init_5 (by decide) ?_
  refine c_newi (N' := 2500) hx hb hts hK hP hD hS hA (by decide) (by decide) (by decide) (Nat.le_of_ble_eq_true rfl) (Nat.le_of_ble_eq_true rfl) dX1_init_8 (fun q8 H hP hD hS => ?_)
  have hP : va_P D vwCl [(h0, .inr (1, [.null, .null, .int 0])), (q8, .inl (kA 0, 2500, .inl z0))] H := hP
  have hD : va_D A [(h0, .inr (1, [.null, .null, .int 0])), (q8, .inl (kA 0, 2500, .inl z0))] := hD
  refine W.widen (k := 1) (n := 2500) (Nat.le_of_ble_eq_true rfl) (Nat.le_of_ble_eq_true rfl) ?_
  refine va_putF (D := D) (ci := 1) (v := .ref q8) (ty := tyX1 0) (C := RX1) (T := TX1) (N := 3) hx hb hts inX1 tyX1 tyX1_ok nmX1 hown hK hP hD hS 0 rfl rfl 0 (by decide) (hts _ pwX1_9) (fun _ h9 => h9) rfl hin rfl (tyX1_ok 0 (by decide)) rfl rfl (Nat.le_of_ble_eq_true rfl) dX1_init_10 (fun H locs hP hD hS => ?_)
  have hP : va_P D vwCl [(h0, .inr (1, [.ref q8, .null, .int 0])), (q8, .inl (kA 0, 2500, .inl z0))] H := hP
  have hD : va_D A [(h0, .inr (1, [.ref q8, .null, .int 0])), (q8, .inl (kA 0, 2500, .inl z0))] := hD
  refine lv_aload_n hx hb dX1_init_13 rfl (lv_at hl 0 rfl) ?_
  refine lv_sipush (v := 2500) hx hb dX1_init_14 (by decide) ?_
  refine c_newz (N' := 2500) hx hb hts hK hP hD hS hA (by decide) (by decide) (by decide) (Nat.le_of_ble_eq_true rfl) (Nat.le_of_ble_eq_true rfl) dX1_init_17 (fun q17 H hP hD hS => ?_)
  have hP : va_P D vwCl [(h0, .inr (1, [.ref q8, .null, .int 0])), (q8, .inl (kA 0, 2500, .inl z0)), (q17, .inl (kA 1, 2500, .inl z0))] H := hP
  have hD : va_D A [(h0, .inr (1, [.ref q8, .null, .int 0])), (q8, .inl (kA 0, 2500, .inl z0)), (q17, .inl (kA 1, 2500, .inl z0))] := hD
  refine W.widen (k := 2) (n := 5000) (Nat.le_of_ble_eq_true rfl) (Nat.le_of_ble_eq_true rfl) ?_
  refine va_putF (D := D) (ci := 1) (v := .ref q17) (ty := tyX1 1) (C := RX1) (T := TX1) (N := 3) hx hb hts inX1 tyX1 tyX1_ok nmX1 hown hK hP hD hS 0 rfl rfl 1 (by decide) (hts _ pwX1_15) (fun _ h9 => h9) rfl hin rfl (tyX1_ok 1 (by decide)) rfl rfl (Nat.le_of_ble_eq_true rfl) dX1_init_19 (fun H locs hP hD hS => ?_)
  have hP : va_P D vwCl [(h0, .inr (1, [.ref q8, .ref q17, .int 0])), (q8, .inl (kA 0, 2500, .inl z0)), (q17, .inl (kA 1, 2500, .inl z0))] H := hP
  have hD : va_D A [(h0, .inr (1, [.ref q8, .ref q17, .int 0])), (q8, .inl (kA 0, 2500, .inl z0)), (q17, .inl (kA 1, 2500, .inl z0))] := hD
  exact W.vret hx hb hr (fun t ht hW => ⟨⟨fun i => match i with | 0 => q8 | 1 => q17 | _ => 0, rfl, trivial, by rw [ht]; exact hP, va_K.moved hW.alike hK, hD⟩, hS.F ht⟩) hS.2.2 dX1_init_22

set_option maxRecDepth 100000 in
set_option maxHeartbeats 4000000 in
theorem tX5_init (l : Launch) (D : va_G) (kA : Nat → ClassId) (h0 : Nat) (sz : Nat) : Met l yX5_init (.code yX5_init cX5_init 1 none :: zT) ({ frames := 1, cells := 21, slots := 5574, locals := 12 }) (va_Pc [.ref h0] (fun U => U.heap.size = sz ∧ va_P D vwCl [(h0, .inr (5, [.null, .null, .null, .null, .null, .null, .null, .null, .int 0, .int 0, .int 0, .int 0, .null, .null, .null, .null, .null, .null, .null, .null, .null, .null, .null, .int 0, .null, .null, .int 0, .int 0, .int 0, .int 0, .int 0, .int 0]))] U.heap ∧ va_K D vwCl (zt kA) U ∧ va_D (fun _ => True) [(h0, .inr (5, [.null, .null, .null, .null, .null, .null, .null, .null, .int 0, .int 0, .int 0, .int 0, .null, .null, .null, .null, .null, .null, .null, .null, .null, .null, .null, .int 0, .null, .null, .int 0, .int 0, .int 0, .int 0, .int 0, .int 0]))])) (va_Qv (fun _ : Nat → Nat => True) (fun u t => va_P D vwCl [(h0, .inr (5, [.ref (u 0), .ref (u 1), .ref (u 2), .ref (u 3), .ref (u 4), .ref (u 5), .ref (u 6), .ref (u 7), .int 100, .int (-1), .int 0, .int 0, .ref (u 8), .ref (u 9), .ref (u 10), .ref (u 11), .ref (u 12), .ref (u 13), .ref (u 14), .ref (u 15), .ref (u 16), .ref (u 17), .ref (u 18), .int 0, .ref (u 19), .ref (u 20), .int 0, .int 0, .int 0, .int 0, .int 0, .int 0])), (u 0, .inl (kA 0, 2, .inl z0)), (u 1, .inl (kA 0, 300, .inl z0)), (u 2, .inl (kA 0, 2, .inl z0)), (u 3, .inl (kA 0, 8, .inl z0)), (u 4, .inl (kA 0, 8, .inl z0)), (u 5, .inl (kA 0, 8, .inl z0)), (u 6, .inl (kA 0, 8, .inl z0)), (u 7, .inl (kA 0, 2, .inl z0)), (u 8, .inl (kA 0, 2, .inl z0)), (u 9, .inl (kA 0, 2, .inl z0)), (u 10, .inl (kA 0, 8, .inl z0)), (u 11, .inl (kA 1, 2, .inl z0)), (u 12, .inl (kA 0, 8, .inl z0)), (u 13, .inl (kA 0, 8, .inl z0)), (u 14, .inl (kA 0, 2, .inl z0)), (u 15, .inl (kA 0, 2, .inl z0)), (u 16, .inl (kA 0, 2, .inl z0)), (u 17, .inl (kA 0, 100, .inl z0)), (u 18, .inl (kA 0, 100, .inl z0)), (u 19, .inl (kA 1, 2500, .inl z0)), (u 20, .inl (kA 0, 2500, .inl z0))] t.heap ∧ va_K D vwCl (zt kA) t ∧ va_D (va_A [(h0, .inr (5, [.null, .null, .null, .null, .null, .null, .null, .null, .int 0, .int 0, .int 0, .int 0, .null, .null, .null, .null, .null, .null, .null, .null, .null, .null, .null, .int 0, .null, .null, .int 0, .int 0, .int 0, .int 0, .int 0, .int 0]))] sz) [(h0, .inr (5, [.ref (u 0), .ref (u 1), .ref (u 2), .ref (u 3), .ref (u 4), .ref (u 5), .ref (u 6), .ref (u 7), .int 100, .int (-1), .int 0, .int 0, .ref (u 8), .ref (u 9), .ref (u 10), .ref (u 11), .ref (u 12), .ref (u 13), .ref (u 14), .ref (u 15), .ref (u 16), .ref (u 17), .ref (u 18), .int 0, .ref (u 19), .ref (u 20), .int 0, .int 0, .int 0, .int 0, .int 0, .int 0])), (u 0, .inl (kA 0, 2, .inl z0)), (u 1, .inl (kA 0, 300, .inl z0)), (u 2, .inl (kA 0, 2, .inl z0)), (u 3, .inl (kA 0, 8, .inl z0)), (u 4, .inl (kA 0, 8, .inl z0)), (u 5, .inl (kA 0, 8, .inl z0)), (u 6, .inl (kA 0, 8, .inl z0)), (u 7, .inl (kA 0, 2, .inl z0)), (u 8, .inl (kA 0, 2, .inl z0)), (u 9, .inl (kA 0, 2, .inl z0)), (u 10, .inl (kA 0, 8, .inl z0)), (u 11, .inl (kA 1, 2, .inl z0)), (u 12, .inl (kA 0, 8, .inl z0)), (u 13, .inl (kA 0, 8, .inl z0)), (u 14, .inl (kA 0, 2, .inl z0)), (u 15, .inl (kA 0, 2, .inl z0)), (u 16, .inl (kA 0, 2, .inl z0)), (u 17, .inl (kA 0, 100, .inl z0)), (u 18, .inl (kA 0, 100, .inl z0)), (u 19, .inl (kA 1, 2500, .inl z0)), (u 20, .inl (kA 0, 2500, .inl z0))]) (va_A [(h0, .inr (5, [.null, .null, .null, .null, .null, .null, .null, .null, .int 0, .int 0, .int 0, .int 0, .null, .null, .null, .null, .null, .null, .null, .null, .null, .null, .null, .int 0, .null, .null, .int 0, .int 0, .int 0, .int 0, .int 0, .int 0]))] sz)) 21 5574 (va_A [(h0, .inr (5, [.null, .null, .null, .null, .null, .null, .null, .null, .int 0, .int 0, .int 0, .int 0, .null, .null, .null, .null, .null, .null, .null, .null, .null, .null, .null, .int 0, .null, .null, .int 0, .int 0, .int 0, .int 0, .int 0, .int 0]))] sz) := by
  refine Met.ofW (cc := cX5_init) (maxL := 1) (ret := none) (by decide +kernel) rfl ?_
  intro p e s m args below meth c s₁ B hml hv
  obtain ⟨rfl, hsz, hP, hK, hD0⟩ := hv
  have hx := B.exec
  have hb := B.bytes
  have hr := B.returns
  have hts : ∀ w ∈ zT, w.before [.ref h0].toArray s = true := fun w hw => atoms_spec (ws := .code yX5_init cX5_init 1 none :: zT) B.pre w (List.mem_cons_of_mem _ hw)
  have hown : s.vm.findClass RX5 = some m.cls := findClass_of_methodNamed B.named
  have hlocks := B.notSynchronized
  have hin : meth.name = "<init>" := (name_of_methodNamed B.named B.method).1
  subst hsz
  have hD := hD0.self (sz := s.heap.size)
  generalize hAe : va_A [(h0, .inr (5, [.null, .null, .null, .null, .null, .null, .null, .null, .int 0, .int 0, .int 0, .int 0, .null, .null, .null, .null, .null, .null, .null, .null, .null, .null, .null, .int 0, .null, .null, .int 0, .int 0, .int 0, .int 0, .int 0, .int 0]))] s.heap.size = A at hD ⊢
  have hA : ∀ q : Nat, s.heap.size ≤ q → A q := fun q h => by rw [← hAe]; exact Or.inr h
  have hS : va_S A s.heap s.heap [] := va_S.rf
  have hl := lv_entry ([.ref h0]) (n := 1) (Nat.le_of_ble_eq_true rfl)
  rw [lg_entry_eq]
  generalize (lg_sl ([.ref h0]) ++ List.replicate (1 - (lg_sl ([.ref h0])).length) Slot.unset).toArray = ls at hl ⊢
  have hl : lv_has ls 1 [(0, .ref h0)] := hl
  refine lv_aload_n hx hb dX5_init_0 rfl (lv_at hl 0 rfl) ?_
  refine W.objInit hx hb hown (hts _ owX5) (hts _ oiI) (hts _ oiC) rfl (by rw [hml]; exact hl.1) rfl dX5_init_1 (Nat.le_of_ble_eq_true rfl) (Nat.le_of_ble_eq_true rfl) ?_
  refine W.eq (g2 := F0 m 4 ls []) rfl ?_
  refine lv_aload_n hx hb dX5_init_4 rfl (lv_at hl 0 rfl) ?_
  refine lv_iconst (v := 2) hx hb dX5_init_5 (by decide) ?_
  refine c_newi (N' := 2) hx hb hts hK hP hD hS hA (by decide) (by decide) (by decide) (Nat.le_of_ble_eq_true rfl) (Nat.le_of_ble_eq_true rfl) dX5_init_6 (fun q6 H hP hD hS => ?_)
  have hP : va_P D vwCl [(h0, .inr (5, [.null, .null, .null, .null, .null, .null, .null, .null, .int 0, .int 0, .int 0, .int 0, .null, .null, .null, .null, .null, .null, .null, .null, .null, .null, .null, .int 0, .null, .null, .int 0, .int 0, .int 0, .int 0, .int 0, .int 0])), (q6, .inl (kA 0, 2, .inl z0))] H := hP
  have hD : va_D A [(h0, .inr (5, [.null, .null, .null, .null, .null, .null, .null, .null, .int 0, .int 0, .int 0, .int 0, .null, .null, .null, .null, .null, .null, .null, .null, .null, .null, .null, .int 0, .null, .null, .int 0, .int 0, .int 0, .int 0, .int 0, .int 0])), (q6, .inl (kA 0, 2, .inl z0))] := hD
  refine W.widen (k := 1) (n := 2) (Nat.le_of_ble_eq_true rfl) (Nat.le_of_ble_eq_true rfl) ?_
  refine va_putF (D := D) (ci := 5) (v := .ref q6) (ty := tyX5 0) (C := RX5) (T := TX5) (N := 32) hx hb hts inX5 tyX5 tyX5_ok nmX5 hown hK hP hD hS 0 rfl rfl 0 (by decide) (hts _ pwX5_7) (fun _ h9 => h9) rfl hin rfl (tyX5_ok 0 (by decide)) rfl rfl (Nat.le_of_ble_eq_true rfl) dX5_init_8 (fun H locs hP hD hS => ?_)
  have hP : va_P D vwCl [(h0, .inr (5, [.ref q6, .null, .null, .null, .null, .null, .null, .null, .int 0, .int 0, .int 0, .int 0, .null, .null, .null, .null, .null, .null, .null, .null, .null, .null, .null, .int 0, .null, .null, .int 0, .int 0, .int 0, .int 0, .int 0, .int 0])), (q6, .inl (kA 0, 2, .inl z0))] H := hP
  have hD : va_D A [(h0, .inr (5, [.ref q6, .null, .null, .null, .null, .null, .null, .null, .int 0, .int 0, .int 0, .int 0, .null, .null, .null, .null, .null, .null, .null, .null, .null, .null, .null, .int 0, .null, .null, .int 0, .int 0, .int 0, .int 0, .int 0, .int 0])), (q6, .inl (kA 0, 2, .inl z0))] := hD
  refine lv_aload_n hx hb dX5_init_11 rfl (lv_at hl 0 rfl) ?_
  refine lv_sipush (v := 300) hx hb dX5_init_12 (by decide) ?_
  refine c_newi (N' := 300) hx hb hts hK hP hD hS hA (by decide) (by decide) (by decide) (Nat.le_of_ble_eq_true rfl) (Nat.le_of_ble_eq_true rfl) dX5_init_15 (fun q15 H hP hD hS => ?_)
  have hP : va_P D vwCl [(h0, .inr (5, [.ref q6, .null, .null, .null, .null, .null, .null, .null, .int 0, .int 0, .int 0, .int 0, .null, .null, .null, .null, .null, .null, .null, .null, .null, .null, .null, .int 0, .null, .null, .int 0, .int 0, .int 0, .int 0, .int 0, .int 0])), (q6, .inl (kA 0, 2, .inl z0)), (q15, .inl (kA 0, 300, .inl z0))] H := hP
  have hD : va_D A [(h0, .inr (5, [.ref q6, .null, .null, .null, .null, .null, .null, .null, .int 0, .int 0, .int 0, .int 0, .null, .null, .null, .null, .null, .null, .null, .null, .null, .null, .null, .int 0, .null, .null, .int 0, .int 0, .int 0, .int 0, .int 0, .int 0])), (q6, .inl (kA 0, 2, .inl z0)), (q15, .inl (kA 0, 300, .inl z0))] := hD
  refine W.widen (k := 2) (n := 302) (Nat.le_of_ble_eq_true rfl) (Nat.le_of_ble_eq_true rfl) ?_
  refine va_putF (D := D) (ci := 5) (v := .ref q15) (ty := tyX5 1) (C := RX5) (T := TX5) (N := 32) hx hb hts inX5 tyX5 tyX5_ok nmX5 hown hK hP hD hS 0 rfl rfl 1 (by decide) (hts _ pwX5_13) (fun _ h9 => h9) rfl hin rfl (tyX5_ok 1 (by decide)) rfl rfl (Nat.le_of_ble_eq_true rfl) dX5_init_17 (fun H locs hP hD hS => ?_)
  have hP : va_P D vwCl [(h0, .inr (5, [.ref q6, .ref q15, .null, .null, .null, .null, .null, .null, .int 0, .int 0, .int 0, .int 0, .null, .null, .null, .null, .null, .null, .null, .null, .null, .null, .null, .int 0, .null, .null, .int 0, .int 0, .int 0, .int 0, .int 0, .int 0])), (q6, .inl (kA 0, 2, .inl z0)), (q15, .inl (kA 0, 300, .inl z0))] H := hP
  have hD : va_D A [(h0, .inr (5, [.ref q6, .ref q15, .null, .null, .null, .null, .null, .null, .int 0, .int 0, .int 0, .int 0, .null, .null, .null, .null, .null, .null, .null, .null, .null, .null, .null, .int 0, .null, .null, .int 0, .int 0, .int 0, .int 0, .int 0, .int 0])), (q6, .inl (kA 0, 2, .inl z0)), (q15, .inl (kA 0, 300, .inl z0))] := hD
  refine lv_aload_n hx hb dX5_init_20 rfl (lv_at hl 0 rfl) ?_
  refine lv_iconst (v := 2) hx hb dX5_init_21 (by decide) ?_
  refine c_newi (N' := 2) hx hb hts hK hP hD hS hA (by decide) (by decide) (by decide) (Nat.le_of_ble_eq_true rfl) (Nat.le_of_ble_eq_true rfl) dX5_init_22 (fun q22 H hP hD hS => ?_)
  have hP : va_P D vwCl [(h0, .inr (5, [.ref q6, .ref q15, .null, .null, .null, .null, .null, .null, .int 0, .int 0, .int 0, .int 0, .null, .null, .null, .null, .null, .null, .null, .null, .null, .null, .null, .int 0, .null, .null, .int 0, .int 0, .int 0, .int 0, .int 0, .int 0])), (q6, .inl (kA 0, 2, .inl z0)), (q15, .inl (kA 0, 300, .inl z0)), (q22, .inl (kA 0, 2, .inl z0))] H := hP
  have hD : va_D A [(h0, .inr (5, [.ref q6, .ref q15, .null, .null, .null, .null, .null, .null, .int 0, .int 0, .int 0, .int 0, .null, .null, .null, .null, .null, .null, .null, .null, .null, .null, .null, .int 0, .null, .null, .int 0, .int 0, .int 0, .int 0, .int 0, .int 0])), (q6, .inl (kA 0, 2, .inl z0)), (q15, .inl (kA 0, 300, .inl z0)), (q22, .inl (kA 0, 2, .inl z0))] := hD
  refine W.widen (k := 3) (n := 304) (Nat.le_of_ble_eq_true rfl) (Nat.le_of_ble_eq_true rfl) ?_
  refine va_putF (D := D) (ci := 5) (v := .ref q22) (ty := tyX5 2) (C := RX5) (T := TX5) (N := 32) hx hb hts inX5 tyX5 tyX5_ok nmX5 hown hK hP hD hS 0 rfl rfl 2 (by decide) (hts _ pwX5_16) (fun _ h9 => h9) rfl hin rfl (tyX5_ok 2 (by decide)) rfl rfl (Nat.le_of_ble_eq_true rfl) dX5_init_24 (fun H locs hP hD hS => ?_)
  have hP : va_P D vwCl [(h0, .inr (5, [.ref q6, .ref q15, .ref q22, .null, .null, .null, .null, .null, .int 0, .int 0, .int 0, .int 0, .null, .null, .null, .null, .null, .null, .null, .null, .null, .null, .null, .int 0, .null, .null, .int 0, .int 0, .int 0, .int 0, .int 0, .int 0])), (q6, .inl (kA 0, 2, .inl z0)), (q15, .inl (kA 0, 300, .inl z0)), (q22, .inl (kA 0, 2, .inl z0))] H := hP
  have hD : va_D A [(h0, .inr (5, [.ref q6, .ref q15, .ref q22, .null, .null, .null, .null, .null, .int 0, .int 0, .int 0, .int 0, .null, .null, .null, .null, .null, .null, .null, .null, .null, .null, .null, .int 0, .null, .null, .int 0, .int 0, .int 0, .int 0, .int 0, .int 0])), (q6, .inl (kA 0, 2, .inl z0)), (q15, .inl (kA 0, 300, .inl z0)), (q22, .inl (kA 0, 2, .inl z0))] := hD
  refine lv_aload_n hx hb dX5_init_27 rfl (lv_at hl 0 rfl) ?_
  refine lv_bipush (v := 8) hx hb dX5_init_28 (by decide) ?_
  refine c_newi (N' := 8) hx hb hts hK hP hD hS hA (by decide) (by decide) (by decide) (Nat.le_of_ble_eq_true rfl) (Nat.le_of_ble_eq_true rfl) dX5_init_30 (fun q30 H hP hD hS => ?_)
  have hP : va_P D vwCl [(h0, .inr (5, [.ref q6, .ref q15, .ref q22, .null, .null, .null, .null, .null, .int 0, .int 0, .int 0, .int 0, .null, .null, .null, .null, .null, .null, .null, .null, .null, .null, .null, .int 0, .null, .null, .int 0, .int 0, .int 0, .int 0, .int 0, .int 0])), (q6, .inl (kA 0, 2, .inl z0)), (q15, .inl (kA 0, 300, .inl z0)), (q22, .inl (kA 0, 2, .inl z0)), (q30, .inl (kA 0, 8, .inl z0))] H := hP
  have hD : va_D A [(h0, .inr (5, [.ref q6, .ref q15, .ref q22, .null, .null, .null, .null, .null, .int 0, .int 0, .int 0, .int 0, .null, .null, .null, .null, .null, .null, .null, .null, .null, .null, .null, .int 0, .null, .null, .int 0, .int 0, .int 0, .int 0, .int 0, .int 0])), (q6, .inl (kA 0, 2, .inl z0)), (q15, .inl (kA 0, 300, .inl z0)), (q22, .inl (kA 0, 2, .inl z0)), (q30, .inl (kA 0, 8, .inl z0))] := hD
  refine W.widen (k := 4) (n := 312) (Nat.le_of_ble_eq_true rfl) (Nat.le_of_ble_eq_true rfl) ?_
  refine va_putF (D := D) (ci := 5) (v := .ref q30) (ty := tyX5 3) (C := RX5) (T := TX5) (N := 32) hx hb hts inX5 tyX5 tyX5_ok nmX5 hown hK hP hD hS 0 rfl rfl 3 (by decide) (hts _ pwX5_19) (fun _ h9 => h9) rfl hin rfl (tyX5_ok 3 (by decide)) rfl rfl (Nat.le_of_ble_eq_true rfl) dX5_init_32 (fun H locs hP hD hS => ?_)
  have hP : va_P D vwCl [(h0, .inr (5, [.ref q6, .ref q15, .ref q22, .ref q30, .null, .null, .null, .null, .int 0, .int 0, .int 0, .int 0, .null, .null, .null, .null, .null, .null, .null, .null, .null, .null, .null, .int 0, .null, .null, .int 0, .int 0, .int 0, .int 0, .int 0, .int 0])), (q6, .inl (kA 0, 2, .inl z0)), (q15, .inl (kA 0, 300, .inl z0)), (q22, .inl (kA 0, 2, .inl z0)), (q30, .inl (kA 0, 8, .inl z0))] H := hP
  have hD : va_D A [(h0, .inr (5, [.ref q6, .ref q15, .ref q22, .ref q30, .null, .null, .null, .null, .int 0, .int 0, .int 0, .int 0, .null, .null, .null, .null, .null, .null, .null, .null, .null, .null, .null, .int 0, .null, .null, .int 0, .int 0, .int 0, .int 0, .int 0, .int 0])), (q6, .inl (kA 0, 2, .inl z0)), (q15, .inl (kA 0, 300, .inl z0)), (q22, .inl (kA 0, 2, .inl z0)), (q30, .inl (kA 0, 8, .inl z0))] := hD
  refine lv_aload_n hx hb dX5_init_35 rfl (lv_at hl 0 rfl) ?_
  refine lv_bipush (v := 8) hx hb dX5_init_36 (by decide) ?_
  refine c_newi (N' := 8) hx hb hts hK hP hD hS hA (by decide) (by decide) (by decide) (Nat.le_of_ble_eq_true rfl) (Nat.le_of_ble_eq_true rfl) dX5_init_38 (fun q38 H hP hD hS => ?_)
  have hP : va_P D vwCl [(h0, .inr (5, [.ref q6, .ref q15, .ref q22, .ref q30, .null, .null, .null, .null, .int 0, .int 0, .int 0, .int 0, .null, .null, .null, .null, .null, .null, .null, .null, .null, .null, .null, .int 0, .null, .null, .int 0, .int 0, .int 0, .int 0, .int 0, .int 0])), (q6, .inl (kA 0, 2, .inl z0)), (q15, .inl (kA 0, 300, .inl z0)), (q22, .inl (kA 0, 2, .inl z0)), (q30, .inl (kA 0, 8, .inl z0)), (q38, .inl (kA 0, 8, .inl z0))] H := hP
  have hD : va_D A [(h0, .inr (5, [.ref q6, .ref q15, .ref q22, .ref q30, .null, .null, .null, .null, .int 0, .int 0, .int 0, .int 0, .null, .null, .null, .null, .null, .null, .null, .null, .null, .null, .null, .int 0, .null, .null, .int 0, .int 0, .int 0, .int 0, .int 0, .int 0])), (q6, .inl (kA 0, 2, .inl z0)), (q15, .inl (kA 0, 300, .inl z0)), (q22, .inl (kA 0, 2, .inl z0)), (q30, .inl (kA 0, 8, .inl z0)), (q38, .inl (kA 0, 8, .inl z0))] := hD
  refine W.widen (k := 5) (n := 320) (Nat.le_of_ble_eq_true rfl) (Nat.le_of_ble_eq_true rfl) ?_
  refine va_putF (D := D) (ci := 5) (v := .ref q38) (ty := tyX5 4) (C := RX5) (T := TX5) (N := 32) hx hb hts inX5 tyX5 tyX5_ok nmX5 hown hK hP hD hS 0 rfl rfl 4 (by decide) (hts _ pwX5_22) (fun _ h9 => h9) rfl hin rfl (tyX5_ok 4 (by decide)) rfl rfl (Nat.le_of_ble_eq_true rfl) dX5_init_40 (fun H locs hP hD hS => ?_)
  have hP : va_P D vwCl [(h0, .inr (5, [.ref q6, .ref q15, .ref q22, .ref q30, .ref q38, .null, .null, .null, .int 0, .int 0, .int 0, .int 0, .null, .null, .null, .null, .null, .null, .null, .null, .null, .null, .null, .int 0, .null, .null, .int 0, .int 0, .int 0, .int 0, .int 0, .int 0])), (q6, .inl (kA 0, 2, .inl z0)), (q15, .inl (kA 0, 300, .inl z0)), (q22, .inl (kA 0, 2, .inl z0)), (q30, .inl (kA 0, 8, .inl z0)), (q38, .inl (kA 0, 8, .inl z0))] H := hP
  have hD : va_D A [(h0, .inr (5, [.ref q6, .ref q15, .ref q22, .ref q30, .ref q38, .null, .null, .null, .int 0, .int 0, .int 0, .int 0, .null, .null, .null, .null, .null, .null, .null, .null, .null, .null, .null, .int 0, .null, .null, .int 0, .int 0, .int 0, .int 0, .int 0, .int 0])), (q6, .inl (kA 0, 2, .inl z0)), (q15, .inl (kA 0, 300, .inl z0)), (q22, .inl (kA 0, 2, .inl z0)), (q30, .inl (kA 0, 8, .inl z0)), (q38, .inl (kA 0, 8, .inl z0))] := hD
  refine lv_aload_n hx hb dX5_init_43 rfl (lv_at hl 0 rfl) ?_
  refine lv_bipush (v := 8) hx hb dX5_init_44 (by decide) ?_
  refine c_newi (N' := 8) hx hb hts hK hP hD hS hA (by decide) (by decide) (by decide) (Nat.le_of_ble_eq_true rfl) (Nat.le_of_ble_eq_true rfl) dX5_init_46 (fun q46 H hP hD hS => ?_)
  have hP : va_P D vwCl [(h0, .inr (5, [.ref q6, .ref q15, .ref q22, .ref q30, .ref q38, .null, .null, .null, .int 0, .int 0, .int 0, .int 0, .null, .null, .null, .null, .null, .null, .null, .null, .null, .null, .null, .int 0, .null, .null, .int 0, .int 0, .int 0, .int 0, .int 0, .int 0])), (q6, .inl (kA 0, 2, .inl z0)), (q15, .inl (kA 0, 300, .inl z0)), (q22, .inl (kA 0, 2, .inl z0)), (q30, .inl (kA 0, 8, .inl z0)), (q38, .inl (kA 0, 8, .inl z0)), (q46, .inl (kA 0, 8, .inl z0))] H := hP
  have hD : va_D A [(h0, .inr (5, [.ref q6, .ref q15, .ref q22, .ref q30, .ref q38, .null, .null, .null, .int 0, .int 0, .int 0, .int 0, .null, .null, .null, .null, .null, .null, .null, .null, .null, .null, .null, .int 0, .null, .null, .int 0, .int 0, .int 0, .int 0, .int 0, .int 0])), (q6, .inl (kA 0, 2, .inl z0)), (q15, .inl (kA 0, 300, .inl z0)), (q22, .inl (kA 0, 2, .inl z0)), (q30, .inl (kA 0, 8, .inl z0)), (q38, .inl (kA 0, 8, .inl z0)), (q46, .inl (kA 0, 8, .inl z0))] := hD
  refine W.widen (k := 6) (n := 328) (Nat.le_of_ble_eq_true rfl) (Nat.le_of_ble_eq_true rfl) ?_
  refine va_putF (D := D) (ci := 5) (v := .ref q46) (ty := tyX5 5) (C := RX5) (T := TX5) (N := 32) hx hb hts inX5 tyX5 tyX5_ok nmX5 hown hK hP hD hS 0 rfl rfl 5 (by decide) (hts _ pwX5_25) (fun _ h9 => h9) rfl hin rfl (tyX5_ok 5 (by decide)) rfl rfl (Nat.le_of_ble_eq_true rfl) dX5_init_48 (fun H locs hP hD hS => ?_)
  have hP : va_P D vwCl [(h0, .inr (5, [.ref q6, .ref q15, .ref q22, .ref q30, .ref q38, .ref q46, .null, .null, .int 0, .int 0, .int 0, .int 0, .null, .null, .null, .null, .null, .null, .null, .null, .null, .null, .null, .int 0, .null, .null, .int 0, .int 0, .int 0, .int 0, .int 0, .int 0])), (q6, .inl (kA 0, 2, .inl z0)), (q15, .inl (kA 0, 300, .inl z0)), (q22, .inl (kA 0, 2, .inl z0)), (q30, .inl (kA 0, 8, .inl z0)), (q38, .inl (kA 0, 8, .inl z0)), (q46, .inl (kA 0, 8, .inl z0))] H := hP
  have hD : va_D A [(h0, .inr (5, [.ref q6, .ref q15, .ref q22, .ref q30, .ref q38, .ref q46, .null, .null, .int 0, .int 0, .int 0, .int 0, .null, .null, .null, .null, .null, .null, .null, .null, .null, .null, .null, .int 0, .null, .null, .int 0, .int 0, .int 0, .int 0, .int 0, .int 0])), (q6, .inl (kA 0, 2, .inl z0)), (q15, .inl (kA 0, 300, .inl z0)), (q22, .inl (kA 0, 2, .inl z0)), (q30, .inl (kA 0, 8, .inl z0)), (q38, .inl (kA 0, 8, .inl z0)), (q46, .inl (kA 0, 8, .inl z0))] := hD
  refine lv_aload_n hx hb dX5_init_51 rfl (lv_at hl 0 rfl) ?_
  refine lv_bipush (v := 8) hx hb dX5_init_52 (by decide) ?_
  refine c_newi (N' := 8) hx hb hts hK hP hD hS hA (by decide) (by decide) (by decide) (Nat.le_of_ble_eq_true rfl) (Nat.le_of_ble_eq_true rfl) dX5_init_54 (fun q54 H hP hD hS => ?_)
  have hP : va_P D vwCl [(h0, .inr (5, [.ref q6, .ref q15, .ref q22, .ref q30, .ref q38, .ref q46, .null, .null, .int 0, .int 0, .int 0, .int 0, .null, .null, .null, .null, .null, .null, .null, .null, .null, .null, .null, .int 0, .null, .null, .int 0, .int 0, .int 0, .int 0, .int 0, .int 0])), (q6, .inl (kA 0, 2, .inl z0)), (q15, .inl (kA 0, 300, .inl z0)), (q22, .inl (kA 0, 2, .inl z0)), (q30, .inl (kA 0, 8, .inl z0)), (q38, .inl (kA 0, 8, .inl z0)), (q46, .inl (kA 0, 8, .inl z0)), (q54, .inl (kA 0, 8, .inl z0))] H := hP
  have hD : va_D A [(h0, .inr (5, [.ref q6, .ref q15, .ref q22, .ref q30, .ref q38, .ref q46, .null, .null, .int 0, .int 0, .int 0, .int 0, .null, .null, .null, .null, .null, .null, .null, .null, .null, .null, .null, .int 0, .null, .null, .int 0, .int 0, .int 0, .int 0, .int 0, .int 0])), (q6, .inl (kA 0, 2, .inl z0)), (q15, .inl (kA 0, 300, .inl z0)), (q22, .inl (kA 0, 2, .inl z0)), (q30, .inl (kA 0, 8, .inl z0)), (q38, .inl (kA 0, 8, .inl z0)), (q46, .inl (kA 0, 8, .inl z0)), (q54, .inl (kA 0, 8, .inl z0))] := hD
  refine W.widen (k := 7) (n := 336) (Nat.le_of_ble_eq_true rfl) (Nat.le_of_ble_eq_true rfl) ?_
  refine va_putF (D := D) (ci := 5) (v := .ref q54) (ty := tyX5 6) (C := RX5) (T := TX5) (N := 32) hx hb hts inX5 tyX5 tyX5_ok nmX5 hown hK hP hD hS 0 rfl rfl 6 (by decide) (hts _ pwX5_28) (fun _ h9 => h9) rfl hin rfl (tyX5_ok 6 (by decide)) rfl rfl (Nat.le_of_ble_eq_true rfl) dX5_init_56 (fun H locs hP hD hS => ?_)
  have hP : va_P D vwCl [(h0, .inr (5, [.ref q6, .ref q15, .ref q22, .ref q30, .ref q38, .ref q46, .ref q54, .null, .int 0, .int 0, .int 0, .int 0, .null, .null, .null, .null, .null, .null, .null, .null, .null, .null, .null, .int 0, .null, .null, .int 0, .int 0, .int 0, .int 0, .int 0, .int 0])), (q6, .inl (kA 0, 2, .inl z0)), (q15, .inl (kA 0, 300, .inl z0)), (q22, .inl (kA 0, 2, .inl z0)), (q30, .inl (kA 0, 8, .inl z0)), (q38, .inl (kA 0, 8, .inl z0)), (q46, .inl (kA 0, 8, .inl z0)), (q54, .inl (kA 0, 8, .inl z0))] H := hP
  have hD : va_D A [(h0, .inr (5, [.ref q6, .ref q15, .ref q22, .ref q30, .ref q38, .ref q46, .ref q54, .null, .int 0, .int 0, .int 0, .int 0, .null, .null, .null, .null, .null, .null, .null, .null, .null, .null, .null, .int 0, .null, .null, .int 0, .int 0, .int 0, .int 0, .int 0, .int 0])), (q6, .inl (kA 0, 2, .inl z0)), (q15, .inl (kA 0, 300, .inl z0)), (q22, .inl (kA 0, 2, .inl z0)), (q30, .inl (kA 0, 8, .inl z0)), (q38, .inl (kA 0, 8, .inl z0)), (q46, .inl (kA 0, 8, .inl z0)), (q54, .inl (kA 0, 8, .inl z0))] := hD
  refine lv_aload_n hx hb dX5_init_59 rfl (lv_at hl 0 rfl) ?_
  refine lv_iconst (v := 2) hx hb dX5_init_60 (by decide) ?_
  refine c_newi (N' := 2) hx hb hts hK hP hD hS hA (by decide) (by decide) (by decide) (Nat.le_of_ble_eq_true rfl) (Nat.le_of_ble_eq_true rfl) dX5_init_61 (fun q61 H hP hD hS => ?_)
  have hP : va_P D vwCl [(h0, .inr (5, [.ref q6, .ref q15, .ref q22, .ref q30, .ref q38, .ref q46, .ref q54, .null, .int 0, .int 0, .int 0, .int 0, .null, .null, .null, .null, .null, .null, .null, .null, .null, .null, .null, .int 0, .null, .null, .int 0, .int 0, .int 0, .int 0, .int 0, .int 0])), (q6, .inl (kA 0, 2, .inl z0)), (q15, .inl (kA 0, 300, .inl z0)), (q22, .inl (kA 0, 2, .inl z0)), (q30, .inl (kA 0, 8, .inl z0)), (q38, .inl (kA 0, 8, .inl z0)), (q46, .inl (kA 0, 8, .inl z0)), (q54, .inl (kA 0, 8, .inl z0)), (q61, .inl (kA 0, 2, .inl z0))] H := hP
  have hD : va_D A [(h0, .inr (5, [.ref q6, .ref q15, .ref q22, .ref q30, .ref q38, .ref q46, .ref q54, .null, .int 0, .int 0, .int 0, .int 0, .null, .null, .null, .null, .null, .null, .null, .null, .null, .null, .null, .int 0, .null, .null, .int 0, .int 0, .int 0, .int 0, .int 0, .int 0])), (q6, .inl (kA 0, 2, .inl z0)), (q15, .inl (kA 0, 300, .inl z0)), (q22, .inl (kA 0, 2, .inl z0)), (q30, .inl (kA 0, 8, .inl z0)), (q38, .inl (kA 0, 8, .inl z0)), (q46, .inl (kA 0, 8, .inl z0)), (q54, .inl (kA 0, 8, .inl z0)), (q61, .inl (kA 0, 2, .inl z0))] := hD
  refine W.widen (k := 8) (n := 338) (Nat.le_of_ble_eq_true rfl) (Nat.le_of_ble_eq_true rfl) ?_
  refine va_putF (D := D) (ci := 5) (v := .ref q61) (ty := tyX5 7) (C := RX5) (T := TX5) (N := 32) hx hb hts inX5 tyX5 tyX5_ok nmX5 hown hK hP hD hS 0 rfl rfl 7 (by decide) (hts _ pwX5_31) (fun _ h9 => h9) rfl hin rfl (tyX5_ok 7 (by decide)) rfl rfl (Nat.le_of_ble_eq_true rfl) dX5_init_63 (fun H locs hP hD hS => ?_)
  have hP : va_P D vwCl [(h0, .inr (5, [.ref q6, .ref q15, .ref q22, .ref q30, .ref q38, .ref q46, .ref q54, .ref q61, .int 0, .int 0, .int 0, .int 0, .null, .null, .null, .null, .null, .null, .null, .null, .null, .null, .null, .int 0, .null, .null, .int 0, .int 0, .int 0, .int 0, .int 0, .int 0])), (q6, .inl (kA 0, 2, .inl z0)), (q15, .inl (kA 0, 300, .inl z0)), (q22, .inl (kA 0, 2, .inl z0)), (q30, .inl (kA 0, 8, .inl z0)), (q38, .inl (kA 0, 8, .inl z0)), (q46, .inl (kA 0, 8, .inl z0)), (q54, .inl (kA 0, 8, .inl z0)), (q61, .inl (kA 0, 2, .inl z0))] H := hP
  have hD : va_D A [(h0, .inr (5, [.ref q6, .ref q15, .ref q22, .ref q30, .ref q38, .ref q46, .ref q54, .ref q61, .int 0, .int 0, .int 0, .int 0, .null, .null, .null, .null, .null, .null, .null, .null, .null, .null, .null, .int 0, .null, .null, .int 0, .int 0, .int 0, .int 0, .int 0, .int 0])), (q6, .inl (kA 0, 2, .inl z0)), (q15, .inl (kA 0, 300, .inl z0)), (q22, .inl (kA 0, 2, .inl z0)), (q30, .inl (kA 0, 8, .inl z0)), (q38, .inl (kA 0, 8, .inl z0)), (q46, .inl (kA 0, 8, .inl z0)), (q54, .inl (kA 0, 8, .inl z0)), (q61, .inl (kA 0, 2, .inl z0))] := hD
  refine lv_aload_n hx hb dX5_init_66 rfl (lv_at hl 0 rfl) ?_
  refine lv_bipush (v := 100) hx hb dX5_init_67 (by decide) ?_
  refine va_put (D := D) (ci := 5) (v := .int 100) (ty := tyX5 8) (C := RX5) (T := TX5) (N := 32) hx hb hts inX5 tyX5 tyX5_ok nmX5 hown hK hP hD hS 0 rfl rfl 8 (by decide) (hts _ pwX5_34) (fun _ h9 => h9) rfl (tyX5_ok 8 (by decide)) rfl rfl (Nat.le_of_ble_eq_true rfl) dX5_init_69 (fun H locs hP hD hS => ?_)
  have hP : va_P D vwCl [(h0, .inr (5, [.ref q6, .ref q15, .ref q22, .ref q30, .ref q38, .ref q46, .ref q54, .ref q61, .int 100, .int 0, .int 0, .int 0, .null, .null, .null, .null, .null, .null, .null, .null, .null, .null, .null, .int 0, .null, .null, .int 0, .int 0, .int 0, .int 0, .int 0, .int 0])), (q6, .inl (kA 0, 2, .inl z0)), (q15, .inl (kA 0, 300, .inl z0)), (q22, .inl (kA 0, 2, .inl z0)), (q30, .inl (kA 0, 8, .inl z0)), (q38, .inl (kA 0, 8, .inl z0)), (q46, .inl (kA 0, 8, .inl z0)), (q54, .inl (kA 0, 8, .inl z0)), (q61, .inl (kA 0, 2, .inl z0))] H := hP
  have hD : va_D A [(h0, .inr (5, [.ref q6, .ref q15, .ref q22, .ref q30, .ref q38, .ref q46, .ref q54, .ref q61, .int 100, .int 0, .int 0, .int 0, .null, .null, .null, .null, .null, .null, .null, .null, .null, .null, .null, .int 0, .null, .null, .int 0, .int 0, .int 0, .int 0, .int 0, .int 0])), (q6, .inl (kA 0, 2, .inl z0)), (q15, .inl (kA 0, 300, .inl z0)), (q22, .inl (kA 0, 2, .inl z0)), (q30, .inl (kA 0, 8, .inl z0)), (q38, .inl (kA 0, 8, .inl z0)), (q46, .inl (kA 0, 8, .inl z0)), (q54, .inl (kA 0, 8, .inl z0)), (q61, .inl (kA 0, 2, .inl z0))] := hD
  refine lv_aload_n hx hb dX5_init_72 rfl (lv_at hl 0 rfl) ?_
  refine lv_iconst (v := -1) hx hb dX5_init_73 (by decide) ?_
  refine va_put (D := D) (ci := 5) (v := .int (-1)) (ty := tyX5 9) (C := RX5) (T := TX5) (N := 32) hx hb hts inX5 tyX5 tyX5_ok nmX5 hown hK hP hD hS 0 rfl rfl 9 (by decide) (hts _ pwX5_38) (fun _ h9 => h9) rfl (tyX5_ok 9 (by decide)) rfl rfl (Nat.le_of_ble_eq_true rfl) dX5_init_74 (fun H locs hP hD hS => ?_)
  have hP : va_P D vwCl [(h0, .inr (5, [.ref q6, .ref q15, .ref q22, .ref q30, .ref q38, .ref q46, .ref q54, .ref q61, .int 100, .int (-1), .int 0, .int 0, .null, .null, .null, .null, .null, .null, .null, .null, .null, .null, .null, .int 0, .null, .null, .int 0, .int 0, .int 0, .int 0, .int 0, .int 0])), (q6, .inl (kA 0, 2, .inl z0)), (q15, .inl (kA 0, 300, .inl z0)), (q22, .inl (kA 0, 2, .inl z0)), (q30, .inl (kA 0, 8, .inl z0)), (q38, .inl (kA 0, 8, .inl z0)), (q46, .inl (kA 0, 8, .inl z0)), (q54, .inl (kA 0, 8, .inl z0)), (q61, .inl (kA 0, 2, .inl z0))] H := hP
  have hD : va_D A [(h0, .inr (5, [.ref q6, .ref q15, .ref q22, .ref q30, .ref q38, .ref q46, .ref q54, .ref q61, .int 100, .int (-1), .int 0, .int 0, .null, .null, .null, .null, .null, .null, .null, .null, .null, .null, .null, .int 0, .null, .null, .int 0, .int 0, .int 0, .int 0, .int 0, .int 0])), (q6, .inl (kA 0, 2, .inl z0)), (q15, .inl (kA 0, 300, .inl z0)), (q22, .inl (kA 0, 2, .inl z0)), (q30, .inl (kA 0, 8, .inl z0)), (q38, .inl (kA 0, 8, .inl z0)), (q46, .inl (kA 0, 8, .inl z0)), (q54, .inl (kA 0, 8, .inl z0)), (q61, .inl (kA 0, 2, .inl z0))] := hD
  refine lv_aload_n hx hb dX5_init_77 rfl (lv_at hl 0 rfl) ?_
  refine lv_iconst (v := 2) hx hb dX5_init_78 (by decide) ?_
  refine c_newi (N' := 2) hx hb hts hK hP hD hS hA (by decide) (by decide) (by decide) (Nat.le_of_ble_eq_true rfl) (Nat.le_of_ble_eq_true rfl) dX5_init_79 (fun q79 H hP hD hS => ?_)
  have hP : va_P D vwCl [(h0, .inr (5, [.ref q6, .ref q15, .ref q22, .ref q30, .ref q38, .ref q46, .ref q54, .ref q61, .int 100, .int (-1), .int 0, .int 0, .null, .null, .null, .null, .null, .null, .null, .null, .null, .null, .null, .int 0, .null, .null, .int 0, .int 0, .int 0, .int 0, .int 0, .int 0])), (q6, .inl (kA 0, 2, .inl z0)), (q15, .inl (kA 0, 300, .inl z0)), (q22, .inl (kA 0, 2, .inl z0)), (q30, .inl (kA 0, 8, .inl z0)), (q38, .inl (kA 0, 8, .inl z0)), (q46, .inl (kA 0, 8, .inl z0)), (q54, .inl (kA 0, 8, .inl z0)), (q61, .inl (kA 0, 2, .inl z0)), (q79, .inl (kA 0, 2, .inl z0))] H := hP
  have hD : va_D A [(h0, .inr (5, [.ref q6, .ref q15, .ref q22, .ref q30, .ref q38, .ref q46, .ref q54, .ref q61, .int 100, .int (-1), .int 0, .int 0, .null, .null, .null, .null, .null, .null, .null, .null, .null, .null, .null, .int 0, .null, .null, .int 0, .int 0, .int 0, .int 0, .int 0, .int 0])), (q6, .inl (kA 0, 2, .inl z0)), (q15, .inl (kA 0, 300, .inl z0)), (q22, .inl (kA 0, 2, .inl z0)), (q30, .inl (kA 0, 8, .inl z0)), (q38, .inl (kA 0, 8, .inl z0)), (q46, .inl (kA 0, 8, .inl z0)), (q54, .inl (kA 0, 8, .inl z0)), (q61, .inl (kA 0, 2, .inl z0)), (q79, .inl (kA 0, 2, .inl z0))] := hD
  refine W.widen (k := 9) (n := 340) (Nat.le_of_ble_eq_true rfl) (Nat.le_of_ble_eq_true rfl) ?_
  refine va_putF (D := D) (ci := 5) (v := .ref q79) (ty := tyX5 12) (C := RX5) (T := TX5) (N := 32) hx hb hts inX5 tyX5 tyX5_ok nmX5 hown hK hP hD hS 0 rfl rfl 12 (by decide) (hts _ pwX5_41) (fun _ h9 => h9) rfl hin rfl (tyX5_ok 12 (by decide)) rfl rfl (Nat.le_of_ble_eq_true rfl) dX5_init_81 (fun H locs hP hD hS => ?_)
  have hP : va_P D vwCl [(h0, .inr (5, [.ref q6, .ref q15, .ref q22, .ref q30, .ref q38, .ref q46, .ref q54, .ref q61, .int 100, .int (-1), .int 0, .int 0, .ref q79, .null, .null, .null, .null, .null, .null, .null, .null, .null, .null, .int 0, .null, .null, .int 0, .int 0, .int 0, .int 0, .int 0, .int 0])), (q6, .inl (kA 0, 2, .inl z0)), (q15, .inl (kA 0, 300, .inl z0)), (q22, .inl (kA 0, 2, .inl z0)), (q30, .inl (kA 0, 8, .inl z0)), (q38, .inl (kA 0, 8, .inl z0)), (q46, .inl (kA 0, 8, .inl z0)), (q54, .inl (kA 0, 8, .inl z0)), (q61, .inl (kA 0, 2, .inl z0)), (q79, .inl (kA 0, 2, .inl z0))] H := hP
  have hD : va_D A [(h0, .inr (5, [.ref q6, .ref q15, .ref q22, .ref q30, .ref q38, .ref q46, .ref q54, .ref q61, .int 100, .int (-1), .int 0, .int 0, .ref q79, .null, .null, .null, .null, .null, .null, .null, .null, .null, .null, .int 0, .null, .null, .int 0, .int 0, .int 0, .int 0, .int 0, .int 0])), (q6, .inl (kA 0, 2, .inl z0)), (q15, .inl (kA 0, 300, .inl z0)), (q22, .inl (kA 0, 2, .inl z0)), (q30, .inl (kA 0, 8, .inl z0)), (q38, .inl (kA 0, 8, .inl z0)), (q46, .inl (kA 0, 8, .inl z0)), (q54, .inl (kA 0, 8, .inl z0)), (q61, .inl (kA 0, 2, .inl z0)), (q79, .inl (kA 0, 2, .inl z0))] := hD
  refine lv_aload_n hx hb dX5_init_84 rfl (lv_at hl 0 rfl) ?_
  refine lv_iconst (v := 2) hx hb dX5_init_85 (by decide) ?_
  refine c_newi (N' := 2) hx hb hts hK hP hD hS hA (by decide) (by decide) (by decide) (Nat.le_of_ble_eq_true rfl) (Nat.le_of_ble_eq_true rfl) dX5_init_86 (fun q86 H hP hD hS => ?_)
  have hP : va_P D vwCl [(h0, .inr (5, [.ref q6, .ref q15, .ref q22, .ref q30, .ref q38, .ref q46, .ref q54, .ref q61, .int 100, .int (-1), .int 0, .int 0, .ref q79, .null, .null, .null, .null, .null, .null, .null, .null, .null, .null, .int 0, .null, .null, .int 0, .int 0, .int 0, .int 0, .int 0, .int 0])), (q6, .inl (kA 0, 2, .inl z0)), (q15, .inl (kA 0, 300, .inl z0)), (q22, .inl (kA 0, 2, .inl z0)), (q30, .inl (kA 0, 8, .inl z0)), (q38, .inl (kA 0, 8, .inl z0)), (q46, .inl (kA 0, 8, .inl z0)), (q54, .inl (kA 0, 8, .inl z0)), (q61, .inl (kA 0, 2, .inl z0)), (q79, .inl (kA 0, 2, .inl z0)), (q86, .inl (kA 0, 2, .inl z0))] H := hP
  have hD : va_D A [(h0, .inr (5, [.ref q6, .ref q15, .ref q22, .ref q30, .ref q38, .ref q46, .ref q54, .ref q61, .int 100, .int (-1), .int 0, .int 0, .ref q79, .null, .null, .null, .null, .null, .null, .null, .null, .null, .null, .int 0, .null, .null, .int 0, .int 0, .int 0, .int 0, .int 0, .int 0])), (q6, .inl (kA 0, 2, .inl z0)), (q15, .inl (kA 0, 300, .inl z0)), (q22, .inl (kA 0, 2, .inl z0)), (q30, .inl (kA 0, 8, .inl z0)), (q38, .inl (kA 0, 8, .inl z0)), (q46, .inl (kA 0, 8, .inl z0)), (q54, .inl (kA 0, 8, .inl z0)), (q61, .inl (kA 0, 2, .inl z0)), (q79, .inl (kA 0, 2, .inl z0)), (q86, .inl (kA 0, 2, .inl z0))] := hD
  refine W.widen (k := 10) (n := 342) (Nat.le_of_ble_eq_true rfl) (Nat.le_of_ble_eq_true rfl) ?_
  refine va_putF (D := D) (ci := 5) (v := .ref q86) (ty := tyX5 13) (C := RX5) (T := TX5) (N := 32) hx hb hts inX5 tyX5 tyX5_ok nmX5 hown hK hP hD hS 0 rfl rfl 13 (by decide) (hts _ pwX5_44) (fun _ h9 => h9) rfl hin rfl (tyX5_ok 13 (by decide)) rfl rfl (Nat.le_of_ble_eq_true rfl) dX5_init_88 (fun H locs hP hD hS => ?_)
  have hP : va_P D vwCl [(h0, .inr (5, [.ref q6, .ref q15, .ref q22, .ref q30, .ref q38, .ref q46, .ref q54, .ref q61, .int 100, .int (-1), .int 0, .int 0, .ref q79, .ref q86, .null, .null, .null, .null, .null, .null, .null, .null, .null, .int 0, .null, .null, .int 0, .int 0, .int 0, .int 0, .int 0, .int 0])), (q6, .inl (kA 0, 2, .inl z0)), (q15, .inl (kA 0, 300, .inl z0)), (q22, .inl (kA 0, 2, .inl z0)), (q30, .inl (kA 0, 8, .inl z0)), (q38, .inl (kA 0, 8, .inl z0)), (q46, .inl (kA 0, 8, .inl z0)), (q54, .inl (kA 0, 8, .inl z0)), (q61, .inl (kA 0, 2, .inl z0)), (q79, .inl (kA 0, 2, .inl z0)), (q86, .inl (kA 0, 2, .inl z0))] H := hP
  have hD : va_D A [(h0, .inr (5, [.ref q6, .ref q15, .ref q22, .ref q30, .ref q38, .ref q46, .ref q54, .ref q61, .int 100, .int (-1), .int 0, .int 0, .ref q79, .ref q86, .null, .null, .null, .null, .null, .null, .null, .null, .null, .int 0, .null, .null, .int 0, .int 0, .int 0, .int 0, .int 0, .int 0])), (q6, .inl (kA 0, 2, .inl z0)), (q15, .inl (kA 0, 300, .inl z0)), (q22, .inl (kA 0, 2, .inl z0)), (q30, .inl (kA 0, 8, .inl z0)), (q38, .inl (kA 0, 8, .inl z0)), (q46, .inl (kA 0, 8, .inl z0)), (q54, .inl (kA 0, 8, .inl z0)), (q61, .inl (kA 0, 2, .inl z0)), (q79, .inl (kA 0, 2, .inl z0)), (q86, .inl (kA 0, 2, .inl z0))] := hD
  refine lv_aload_n hx hb dX5_init_91 rfl (lv_at hl 0 rfl) ?_
  refine lv_bipush (v := 8) hx hb dX5_init_92 (by decide) ?_
  refine c_newi (N' := 8) hx hb hts hK hP hD hS hA (by decide) (by decide) (by decide) (Nat.le_of_ble_eq_true rfl) (Nat.le_of_ble_eq_true rfl) dX5_init_94 (fun q94 H hP hD hS => ?_)
  have hP : va_P D vwCl [(h0, .inr (5, [.ref q6, .ref q15, .ref q22, .ref q30, .ref q38, .ref q46, .ref q54, .ref q61, .int 100, .int (-1), .int 0, .int 0, .ref q79, .ref q86, .null, .null, .null, .null, .null, .null, .null, .null, .null, .int 0, .null, .null, .int 0, .int 0, .int 0, .int 0, .int 0, .int 0])), (q6, .inl (kA 0, 2, .inl z0)), (q15, .inl (kA 0, 300, .inl z0)), (q22, .inl (kA 0, 2, .inl z0)), (q30, .inl (kA 0, 8, .inl z0)), (q38, .inl (kA 0, 8, .inl z0)), (q46, .inl (kA 0, 8, .inl z0)), (q54, .inl (kA 0, 8, .inl z0)), (q61, .inl (kA 0, 2, .inl z0)), (q79, .inl (kA 0, 2, .inl z0)), (q86, .inl (kA 0, 2, .inl z0)), (q94, .inl (kA 0, 8, .inl z0))] H := hP
  have hD : va_D A [(h0, .inr (5, [.ref q6, .ref q15, .ref q22, .ref q30, .ref q38, .ref q46, .ref q54, .ref q61, .int 100, .int (-1), .int 0, .int 0, .ref q79, .ref q86, .null, .null, .null, .null, .null, .null, .null, .null, .null, .int 0, .null, .null, .int 0, .int 0, .int 0, .int 0, .int 0, .int 0])), (q6, .inl (kA 0, 2, .inl z0)), (q15, .inl (kA 0, 300, .inl z0)), (q22, .inl (kA 0, 2, .inl z0)), (q30, .inl (kA 0, 8, .inl z0)), (q38, .inl (kA 0, 8, .inl z0)), (q46, .inl (kA 0, 8, .inl z0)), (q54, .inl (kA 0, 8, .inl z0)), (q61, .inl (kA 0, 2, .inl z0)), (q79, .inl (kA 0, 2, .inl z0)), (q86, .inl (kA 0, 2, .inl z0)), (q94, .inl (kA 0, 8, .inl z0))] := hD
  refine W.widen (k := 11) (n := 350) (Nat.le_of_ble_eq_true rfl) (Nat.le_of_ble_eq_true rfl) ?_
  refine va_putF (D := D) (ci := 5) (v := .ref q94) (ty := tyX5 14) (C := RX5) (T := TX5) (N := 32) hx hb hts inX5 tyX5 tyX5_ok nmX5 hown hK hP hD hS 0 rfl rfl 14 (by decide) (hts _ pwX5_47) (fun _ h9 => h9) rfl hin rfl (tyX5_ok 14 (by decide)) rfl rfl (Nat.le_of_ble_eq_true rfl) dX5_init_96 (fun H locs hP hD hS => ?_)
  have hP : va_P D vwCl [(h0, .inr (5, [.ref q6, .ref q15, .ref q22, .ref q30, .ref q38, .ref q46, .ref q54, .ref q61, .int 100, .int (-1), .int 0, .int 0, .ref q79, .ref q86, .ref q94, .null, .null, .null, .null, .null, .null, .null, .null, .int 0, .null, .null, .int 0, .int 0, .int 0, .int 0, .int 0, .int 0])), (q6, .inl (kA 0, 2, .inl z0)), (q15, .inl (kA 0, 300, .inl z0)), (q22, .inl (kA 0, 2, .inl z0)), (q30, .inl (kA 0, 8, .inl z0)), (q38, .inl (kA 0, 8, .inl z0)), (q46, .inl (kA 0, 8, .inl z0)), (q54, .inl (kA 0, 8, .inl z0)), (q61, .inl (kA 0, 2, .inl z0)), (q79, .inl (kA 0, 2, .inl z0)), (q86, .inl (kA 0, 2, .inl z0)), (q94, .inl (kA 0, 8, .inl z0))] H := hP
  have hD : va_D A [(h0, .inr (5, [.ref q6, .ref q15, .ref q22, .ref q30, .ref q38, .ref q46, .ref q54, .ref q61, .int 100, .int (-1), .int 0, .int 0, .ref q79, .ref q86, .ref q94, .null, .null, .null, .null, .null, .null, .null, .null, .int 0, .null, .null, .int 0, .int 0, .int 0, .int 0, .int 0, .int 0])), (q6, .inl (kA 0, 2, .inl z0)), (q15, .inl (kA 0, 300, .inl z0)), (q22, .inl (kA 0, 2, .inl z0)), (q30, .inl (kA 0, 8, .inl z0)), (q38, .inl (kA 0, 8, .inl z0)), (q46, .inl (kA 0, 8, .inl z0)), (q54, .inl (kA 0, 8, .inl z0)), (q61, .inl (kA 0, 2, .inl z0)), (q79, .inl (kA 0, 2, .inl z0)), (q86, .inl (kA 0, 2, .inl z0)), (q94, .inl (kA 0, 8, .inl z0))] := hD
  refine lv_aload_n hx hb dX5_init_99 rfl (lv_at hl 0 rfl) ?_
  refine lv_iconst (v := 2) hx hb dX5_init_100 (by decide) ?_
  refine c_newz (N' := 2) hx hb hts hK hP hD hS hA (by decide) (by decide) (by decide) (Nat.le_of_ble_eq_true rfl) (Nat.le_of_ble_eq_true rfl) dX5_init_101 (fun q101 H hP hD hS => ?_)
  have hP : va_P D vwCl [(h0, .inr (5, [.ref q6, .ref q15, .ref q22, .ref q30, .ref q38, .ref q46, .ref q54, .ref q61, .int 100, .int (-1), .int 0, .int 0, .ref q79, .ref q86, .ref q94, .null, .null, .null, .null, .null, .null, .null, .null, .int 0, .null, .null, .int 0, .int 0, .int 0, .int 0, .int 0, .int 0])), (q6, .inl (kA 0, 2, .inl z0)), (q15, .inl (kA 0, 300, .inl z0)), (q22, .inl (kA 0, 2, .inl z0)), (q30, .inl (kA 0, 8, .inl z0)), (q38, .inl (kA 0, 8, .inl z0)), (q46, .inl (kA 0, 8, .inl z0)), (q54, .inl (kA 0, 8, .inl z0)), (q61, .inl (kA 0, 2, .inl z0)), (q79, .inl (kA 0, 2, .inl z0)), (q86, .inl (kA 0, 2, .inl z0)), (q94, .inl (kA 0, 8, .inl z0)), (q101, .inl (kA 1, 2, .inl z0))] H := hP
  have hD : va_D A [(h0, .inr (5, [.ref q6, .ref q15, .ref q22, .ref q30, .ref q38, .ref q46, .ref q54, .ref q61, .int 100, .int (-1), .int 0, .int 0, .ref q79, .ref q86, .ref q94, .null, .null, .null, .null, .null, .null, .null, .null, .int 0, .null, .null, .int 0, .int 0, .int 0, .int 0, .int 0, .int 0])), (q6, .inl (kA 0, 2, .inl z0)), (q15, .inl (kA 0, 300, .inl z0)), (q22, .inl (kA 0, 2, .inl z0)), (q30, .inl (kA 0, 8, .inl z0)), (q38, .inl (kA 0, 8, .inl z0)), (q46, .inl (kA 0, 8, .inl z0)), (q54, .inl (kA 0, 8, .inl z0)), (q61, .inl (kA 0, 2, .inl z0)), (q79, .inl (kA 0, 2, .inl z0)), (q86, .inl (kA 0, 2, .inl z0)), (q94, .inl (kA 0, 8, .inl z0)), (q101, .inl (kA 1, 2, .inl z0))] := hD
  refine W.widen (k := 12) (n := 352) (Nat.le_of_ble_eq_true rfl) (Nat.le_of_ble_eq_true rfl) ?_
  refine va_putF (D := D) (ci := 5) (v := .ref q101) (ty := tyX5 15) (C := RX5) (T := TX5) (N := 32) hx hb hts inX5 tyX5 tyX5_ok nmX5 hown hK hP hD hS 0 rfl rfl 15 (by decide) (hts _ pwX5_50) (fun _ h9 => h9) rfl hin rfl (tyX5_ok 15 (by decide)) rfl rfl (Nat.le_of_ble_eq_true rfl) dX5_init_103 (fun H locs hP hD hS => ?_)
  have hP : va_P D vwCl [(h0, .inr (5, [.ref q6, .ref q15, .ref q22, .ref q30, .ref q38, .ref q46, .ref q54, .ref q61, .int 100, .int (-1), .int 0, .int 0, .ref q79, .ref q86, .ref q94, .ref q101, .null, .null, .null, .null, .null, .null, .null, .int 0, .null, .null, .int 0, .int 0, .int 0, .int 0, .int 0, .int 0])), (q6, .inl (kA 0, 2, .inl z0)), (q15, .inl (kA 0, 300, .inl z0)), (q22, .inl (kA 0, 2, .inl z0)), (q30, .inl (kA 0, 8, .inl z0)), (q38, .inl (kA 0, 8, .inl z0)), (q46, .inl (kA 0, 8, .inl z0)), (q54, .inl (kA 0, 8, .inl z0)), (q61, .inl (kA 0, 2, .inl z0)), (q79, .inl (kA 0, 2, .inl z0)), (q86, .inl (kA 0, 2, .inl z0)), (q94, .inl (kA 0, 8, .inl z0)), (q101, .inl (kA 1, 2, .inl z0))] H := hP
  have hD : va_D A [(h0, .inr (5, [.ref q6, .ref q15, .ref q22, .ref q30, .ref q38, .ref q46, .ref q54, .ref q61, .int 100, .int (-1), .int 0, .int 0, .ref q79, .ref q86, .ref q94, .ref q101, .null, .null, .null, .null, .null, .null, .null, .int 0, .null, .null, .int 0, .int 0, .int 0, .int 0, .int 0, .int 0])), (q6, .inl (kA 0, 2, .inl z0)), (q15, .inl (kA 0, 300, .inl z0)), (q22, .inl (kA 0, 2, .inl z0)), (q30, .inl (kA 0, 8, .inl z0)), (q38, .inl (kA 0, 8, .inl z0)), (q46, .inl (kA 0, 8, .inl z0)), (q54, .inl (kA 0, 8, .inl z0)), (q61, .inl (kA 0, 2, .inl z0)), (q79, .inl (kA 0, 2, .inl z0)), (q86, .inl (kA 0, 2, .inl z0)), (q94, .inl (kA 0, 8, .inl z0)), (q101, .inl (kA 1, 2, .inl z0))] := hD
  refine lv_aload_n hx hb dX5_init_106 rfl (lv_at hl 0 rfl) ?_
  refine lv_bipush (v := 8) hx hb dX5_init_107 (by decide) ?_
  refine c_newi (N' := 8) hx hb hts hK hP hD hS hA (by decide) (by decide) (by decide) (Nat.le_of_ble_eq_true rfl) (Nat.le_of_ble_eq_true rfl) dX5_init_109 (fun q109 H hP hD hS => ?_)
  have hP : va_P D vwCl [(h0, .inr (5, [.ref q6, .ref q15, .ref q22, .ref q30, .ref q38, .ref q46, .ref q54, .ref q61, .int 100, .int (-1), .int 0, .int 0, .ref q79, .ref q86, .ref q94, .ref q101, .null, .null, .null, .null, .null, .null, .null, .int 0, .null, .null, .int 0, .int 0, .int 0, .int 0, .int 0, .int 0])), (q6, .inl (kA 0, 2, .inl z0)), (q15, .inl (kA 0, 300, .inl z0)), (q22, .inl (kA 0, 2, .inl z0)), (q30, .inl (kA 0, 8, .inl z0)), (q38, .inl (kA 0, 8, .inl z0)), (q46, .inl (kA 0, 8, .inl z0)), (q54, .inl (kA 0, 8, .inl z0)), (q61, .inl (kA 0, 2, .inl z0)), (q79, .inl (kA 0, 2, .inl z0)), (q86, .inl (kA 0, 2, .inl z0)), (q94, .inl (kA 0, 8, .inl z0)), (q101, .inl (kA 1, 2, .inl z0)), (q109, .inl (kA 0, 8, .inl z0))] H := hP
  have hD : va_D A [(h0, .inr (5, [.ref q6, .ref q15, .ref q22, .ref q30, .ref q38, .ref q46, .ref q54, .ref q61, .int 100, .int (-1), .int 0, .int 0, .ref q79, .ref q86, .ref q94, .ref q101, .null, .null, .null, .null, .null, .null, .null, .int 0, .null, .null, .int 0, .int 0, .int 0, .int 0, .int 0, .int 0])), (q6, .inl (kA 0, 2, .inl z0)), (q15, .inl (kA 0, 300, .inl z0)), (q22, .inl (kA 0, 2, .inl z0)), (q30, .inl (kA 0, 8, .inl z0)), (q38, .inl (kA 0, 8, .inl z0)), (q46, .inl (kA 0, 8, .inl z0)), (q54, .inl (kA 0, 8, .inl z0)), (q61, .inl (kA 0, 2, .inl z0)), (q79, .inl (kA 0, 2, .inl z0)), (q86, .inl (kA 0, 2, .inl z0)), (q94, .inl (kA 0, 8, .inl z0)), (q101, .inl (kA 1, 2, .inl z0)), (q109, .inl (kA 0, 8, .inl z0))] := hD
  refine W.widen (k := 13) (n := 360) (Nat.le_of_ble_eq_true rfl) (Nat.le_of_ble_eq_true rfl) ?_
  refine va_putF (D := D) (ci := 5) (v := .ref q109) (ty := tyX5 16) (C := RX5) (T := TX5) (N := 32) hx hb hts inX5 tyX5 tyX5_ok nmX5 hown hK hP hD hS 0 rfl rfl 16 (by decide) (hts _ pwX5_54) (fun _ h9 => h9) rfl hin rfl (tyX5_ok 16 (by decide)) rfl rfl (Nat.le_of_ble_eq_true rfl) dX5_init_111 (fun H locs hP hD hS => ?_)
  have hP : va_P D vwCl [(h0, .inr (5, [.ref q6, .ref q15, .ref q22, .ref q30, .ref q38, .ref q46, .ref q54, .ref q61, .int 100, .int (-1), .int 0, .int 0, .ref q79, .ref q86, .ref q94, .ref q101, .ref q109, .null, .null, .null, .null, .null, .null, .int 0, .null, .null, .int 0, .int 0, .int 0, .int 0, .int 0, .int 0])), (q6, .inl (kA 0, 2, .inl z0)), (q15, .inl (kA 0, 300, .inl z0)), (q22, .inl (kA 0, 2, .inl z0)), (q30, .inl (kA 0, 8, .inl z0)), (q38, .inl (kA 0, 8, .inl z0)), (q46, .inl (kA 0, 8, .inl z0)), (q54, .inl (kA 0, 8, .inl z0)), (q61, .inl (kA 0, 2, .inl z0)), (q79, .inl (kA 0, 2, .inl z0)), (q86, .inl (kA 0, 2, .inl z0)), (q94, .inl (kA 0, 8, .inl z0)), (q101, .inl (kA 1, 2, .inl z0)), (q109, .inl (kA 0, 8, .inl z0))] H := hP
  have hD : va_D A [(h0, .inr (5, [.ref q6, .ref q15, .ref q22, .ref q30, .ref q38, .ref q46, .ref q54, .ref q61, .int 100, .int (-1), .int 0, .int 0, .ref q79, .ref q86, .ref q94, .ref q101, .ref q109, .null, .null, .null, .null, .null, .null, .int 0, .null, .null, .int 0, .int 0, .int 0, .int 0, .int 0, .int 0])), (q6, .inl (kA 0, 2, .inl z0)), (q15, .inl (kA 0, 300, .inl z0)), (q22, .inl (kA 0, 2, .inl z0)), (q30, .inl (kA 0, 8, .inl z0)), (q38, .inl (kA 0, 8, .inl z0)), (q46, .inl (kA 0, 8, .inl z0)), (q54, .inl (kA 0, 8, .inl z0)), (q61, .inl (kA 0, 2, .inl z0)), (q79, .inl (kA 0, 2, .inl z0)), (q86, .inl (kA 0, 2, .inl z0)), (q94, .inl (kA 0, 8, .inl z0)), (q101, .inl (kA 1, 2, .inl z0)), (q109, .inl (kA 0, 8, .inl z0))] := hD
  refine lv_aload_n hx hb dX5_init_114 rfl (lv_at hl 0 rfl) ?_
  refine lv_bipush (v := 8) hx hb dX5_init_115 (by decide) ?_
  refine c_newi (N' := 8) hx hb hts hK hP hD hS hA (by decide) (by decide) (by decide) (Nat.le_of_ble_eq_true rfl) (Nat.le_of_ble_eq_true rfl) dX5_init_117 (fun q117 H hP hD hS => ?_)
  have hP : va_P D vwCl [(h0, .inr (5, [.ref q6, .ref q15, .ref q22, .ref q30, .ref q38, .ref q46, .ref q54, .ref q61, .int 100, .int (-1), .int 0, .int 0, .ref q79, .ref q86, .ref q94, .ref q101, .ref q109, .null, .null, .null, .null, .null, .null, .int 0, .null, .null, .int 0, .int 0, .int 0, .int 0, .int 0, .int 0])), (q6, .inl (kA 0, 2, .inl z0)), (q15, .inl (kA 0, 300, .inl z0)), (q22, .inl (kA 0, 2, .inl z0)), (q30, .inl (kA 0, 8, .inl z0)), (q38, .inl (kA 0, 8, .inl z0)), (q46, .inl (kA 0, 8, .inl z0)), (q54, .inl (kA 0, 8, .inl z0)), (q61, .inl (kA 0, 2, .inl z0)), (q79, .inl (kA 0, 2, .inl z0)), (q86, .inl (kA 0, 2, .inl z0)), (q94, .inl (kA 0, 8, .inl z0)), (q101, .inl (kA 1, 2, .inl z0)), (q109, .inl (kA 0, 8, .inl z0)), (q117, .inl (kA 0, 8, .inl z0))] H := hP
  have hD : va_D A [(h0, .inr (5, [.ref q6, .ref q15, .ref q22, .ref q30, .ref q38, .ref q46, .ref q54, .ref q61, .int 100, .int (-1), .int 0, .int 0, .ref q79, .ref q86, .ref q94, .ref q101, .ref q109, .null, .null, .null, .null, .null, .null, .int 0, .null, .null, .int 0, .int 0, .int 0, .int 0, .int 0, .int 0])), (q6, .inl (kA 0, 2, .inl z0)), (q15, .inl (kA 0, 300, .inl z0)), (q22, .inl (kA 0, 2, .inl z0)), (q30, .inl (kA 0, 8, .inl z0)), (q38, .inl (kA 0, 8, .inl z0)), (q46, .inl (kA 0, 8, .inl z0)), (q54, .inl (kA 0, 8, .inl z0)), (q61, .inl (kA 0, 2, .inl z0)), (q79, .inl (kA 0, 2, .inl z0)), (q86, .inl (kA 0, 2, .inl z0)), (q94, .inl (kA 0, 8, .inl z0)), (q101, .inl (kA 1, 2, .inl z0)), (q109, .inl (kA 0, 8, .inl z0)), (q117, .inl (kA 0, 8, .inl z0))] := hD
  refine W.widen (k := 14) (n := 368) (Nat.le_of_ble_eq_true rfl) (Nat.le_of_ble_eq_true rfl) ?_
  refine va_putF (D := D) (ci := 5) (v := .ref q117) (ty := tyX5 17) (C := RX5) (T := TX5) (N := 32) hx hb hts inX5 tyX5 tyX5_ok nmX5 hown hK hP hD hS 0 rfl rfl 17 (by decide) (hts _ pwX5_57) (fun _ h9 => h9) rfl hin rfl (tyX5_ok 17 (by decide)) rfl rfl (Nat.le_of_ble_eq_true rfl) dX5_init_119 (fun H locs hP hD hS => ?_)
  have hP : va_P D vwCl [(h0, .inr (5, [.ref q6, .ref q15, .ref q22, .ref q30, .ref q38, .ref q46, .ref q54, .ref q61, .int 100, .int (-1), .int 0, .int 0, .ref q79, .ref q86, .ref q94, .ref q101, .ref q109, .ref q117, .null, .null, .null, .null, .null, .int 0, .null, .null, .int 0, .int 0, .int 0, .int 0, .int 0, .int 0])), (q6, .inl (kA 0, 2, .inl z0)), (q15, .inl (kA 0, 300, .inl z0)), (q22, .inl (kA 0, 2, .inl z0)), (q30, .inl (kA 0, 8, .inl z0)), (q38, .inl (kA 0, 8, .inl z0)), (q46, .inl (kA 0, 8, .inl z0)), (q54, .inl (kA 0, 8, .inl z0)), (q61, .inl (kA 0, 2, .inl z0)), (q79, .inl (kA 0, 2, .inl z0)), (q86, .inl (kA 0, 2, .inl z0)), (q94, .inl (kA 0, 8, .inl z0)), (q101, .inl (kA 1, 2, .inl z0)), (q109, .inl (kA 0, 8, .inl z0)), (q117, .inl (kA 0, 8, .inl z0))] H := hP
  have hD : va_D A [(h0, .inr (5, [.ref q6, .ref q15, .ref q22, .ref q30, .ref q38, .ref q46, .ref q54, .ref q61, .int 100, .int (-1), .int 0, .int 0, .ref q79, .ref q86, .ref q94, .ref q101, .ref q109, .ref q117, .null, .null, .null, .null, .null, .int 0, .null, .null, .int 0, .int 0, .int 0, .int 0, .int 0, .int 0])), (q6, .inl (kA 0, 2, .inl z0)), (q15, .inl (kA 0, 300, .inl z0)), (q22, .inl (kA 0, 2, .inl z0)), (q30, .inl (kA 0, 8, .inl z0)), (q38, .inl (kA 0, 8, .inl z0)), (q46, .inl (kA 0, 8, .inl z0)), (q54, .inl (kA 0, 8, .inl z0)), (q61, .inl (kA 0, 2, .inl z0)), (q79, .inl (kA 0, 2, .inl z0)), (q86, .inl (kA 0, 2, .inl z0)), (q94, .inl (kA 0, 8, .inl z0)), (q101, .inl (kA 1, 2, .inl z0)), (q109, .inl (kA 0, 8, .inl z0)), (q117, .inl (kA 0, 8, .inl z0))] := hD
  refine lv_aload_n hx hb dX5_init_122 rfl (lv_at hl 0 rfl) ?_
  refine lv_iconst (v := 2) hx hb dX5_init_123 (by decide) ?_
  refine c_newi (N' := 2) hx hb hts hK hP hD hS hA (by decide) (by decide) (by decide) (Nat.le_of_ble_eq_true rfl) (Nat.le_of_ble_eq_true rfl) dX5_init_124 (fun q124 H hP hD hS => ?_)
  have hP : va_P D vwCl [(h0, .inr (5, [.ref q6, .ref q15, .ref q22, .ref q30, .ref q38, .ref q46, .ref q54, .ref q61, .int 100, .int (-1), .int 0, .int 0, .ref q79, .ref q86, .ref q94, .ref q101, .ref q109, .ref q117, .null, .null, .null, .null, .null, .int 0, .null, .null, .int 0, .int 0, .int 0, .int 0, .int 0, .int 0])), (q6, .inl (kA 0, 2, .inl z0)), (q15, .inl (kA 0, 300, .inl z0)), (q22, .inl (kA 0, 2, .inl z0)), (q30, .inl (kA 0, 8, .inl z0)), (q38, .inl (kA 0, 8, .inl z0)), (q46, .inl (kA 0, 8, .inl z0)), (q54, .inl (kA 0, 8, .inl z0)), (q61, .inl (kA 0, 2, .inl z0)), (q79, .inl (kA 0, 2, .inl z0)), (q86, .inl (kA 0, 2, .inl z0)), (q94, .inl (kA 0, 8, .inl z0)), (q101, .inl (kA 1, 2, .inl z0)), (q109, .inl (kA 0, 8, .inl z0)), (q117, .inl (kA 0, 8, .inl z0)), (q124, .inl (kA 0, 2, .inl z0))] H := hP
  have hD : va_D A [(h0, .inr (5, [.ref q6, .ref q15, .ref q22, .ref q30, .ref q38, .ref q46, .ref q54, .ref q61, .int 100, .int (-1), .int 0, .int 0, .ref q79, .ref q86, .ref q94, .ref q101, .ref q109, .ref q117, .null, .null, .null, .null, .null, .int 0, .null, .null, .int 0, .int 0, .int 0, .int 0, .int 0, .int 0])), (q6, .inl (kA 0, 2, .inl z0)), (q15, .inl (kA 0, 300, .inl z0)), (q22, .inl (kA 0, 2, .inl z0)), (q30, .inl (kA 0, 8, .inl z0)), (q38, .inl (kA 0, 8, .inl z0)), (q46, .inl (kA 0, 8, .inl z0)), (q54, .inl (kA 0, 8, .inl z0)), (q61, .inl (kA 0, 2, .inl z0)), (q79, .inl (kA 0, 2, .inl z0)), (q86, .inl (kA 0, 2, .inl z0)), (q94, .inl (kA 0, 8, .inl z0)), (q101, .inl (kA 1, 2, .inl z0)), (q109, .inl (kA 0, 8, .inl z0)), (q117, .inl (kA 0, 8, .inl z0)), (q124, .inl (kA 0, 2, .inl z0))] := hD
  refine W.widen (k := 15) (n := 370) (Nat.le_of_ble_eq_true rfl) (Nat.le_of_ble_eq_true rfl) ?_
  refine va_putF (D := D) (ci := 5) (v := .ref q124) (ty := tyX5 18) (C := RX5) (T := TX5) (N := 32) hx hb hts inX5 tyX5 tyX5_ok nmX5 hown hK hP hD hS 0 rfl rfl 18 (by decide) (hts _ pwX5_60) (fun _ h9 => h9) rfl hin rfl (tyX5_ok 18 (by decide)) rfl rfl (Nat.le_of_ble_eq_true rfl) dX5_init_126 (fun H locs hP hD hS => ?_)
  have hP : va_P D vwCl [(h0, .inr (5, [.ref q6, .ref q15, .ref q22, .ref q30, .ref q38, .ref q46, .ref q54, .ref q61, .int 100, .int (-1), .int 0, .int 0, .ref q79, .ref q86, .ref q94, .ref q101, .ref q109, .ref q117, .ref q124, .null, .null, .null, .null, .int 0, .null, .null, .int 0, .int 0, .int 0, .int 0, .int 0, .int 0])), (q6, .inl (kA 0, 2, .inl z0)), (q15, .inl (kA 0, 300, .inl z0)), (q22, .inl (kA 0, 2, .inl z0)), (q30, .inl (kA 0, 8, .inl z0)), (q38, .inl (kA 0, 8, .inl z0)), (q46, .inl (kA 0, 8, .inl z0)), (q54, .inl (kA 0, 8, .inl z0)), (q61, .inl (kA 0, 2, .inl z0)), (q79, .inl (kA 0, 2, .inl z0)), (q86, .inl (kA 0, 2, .inl z0)), (q94, .inl (kA 0, 8, .inl z0)), (q101, .inl (kA 1, 2, .inl z0)), (q109, .inl (kA 0, 8, .inl z0)), (q117, .inl (kA 0, 8, .inl z0)), (q124, .inl (kA 0, 2, .inl z0))] H := hP
  have hD : va_D A [(h0, .inr (5, [.ref q6, .ref q15, .ref q22, .ref q30, .ref q38, .ref q46, .ref q54, .ref q61, .int 100, .int (-1), .int 0, .int 0, .ref q79, .ref q86, .ref q94, .ref q101, .ref q109, .ref q117, .ref q124, .null, .null, .null, .null, .int 0, .null, .null, .int 0, .int 0, .int 0, .int 0, .int 0, .int 0])), (q6, .inl (kA 0, 2, .inl z0)), (q15, .inl (kA 0, 300, .inl z0)), (q22, .inl (kA 0, 2, .inl z0)), (q30, .inl (kA 0, 8, .inl z0)), (q38, .inl (kA 0, 8, .inl z0)), (q46, .inl (kA 0, 8, .inl z0)), (q54, .inl (kA 0, 8, .inl z0)), (q61, .inl (kA 0, 2, .inl z0)), (q79, .inl (kA 0, 2, .inl z0)), (q86, .inl (kA 0, 2, .inl z0)), (q94, .inl (kA 0, 8, .inl z0)), (q101, .inl (kA 1, 2, .inl z0)), (q109, .inl (kA 0, 8, .inl z0)), (q117, .inl (kA 0, 8, .inl z0)), (q124, .inl (kA 0, 2, .inl z0))] := hD
  refine lv_aload_n hx hb dX5_init_129 rfl (lv_at hl 0 rfl) ?_
  refine lv_iconst (v := 2) hx hb dX5_init_130 (by decide) ?_
  refine c_newi (N' := 2) hx hb hts hK hP hD hS hA (by decide) (by decide) (by decide) (Nat.le_of_ble_eq_true rfl) (Nat.le_of_ble_eq_true rfl) dX5_init_131 (fun q131 H hP hD hS => ?_)
  have hP : va_P D vwCl [(h0, .inr (5, [.ref q6, .ref q15, .ref q22, .ref q30, .ref q38, .ref q46, .ref q54, .ref q61, .int 100, .int (-1), .int 0, .int 0, .ref q79, .ref q86, .ref q94, .ref q101, .ref q109, .ref q117, .ref q124, .null, .null, .null, .null, .int 0, .null, .null, .int 0, .int 0, .int 0, .int 0, .int 0, .int 0])), (q6, .inl (kA 0, 2, .inl z0)), (q15, .inl (kA 0, 300, .inl z0)), (q22, .inl (kA 0, 2, .inl z0)), (q30, .inl (kA 0, 8, .inl z0)), (q38, .inl (kA 0, 8, .inl z0)), (q46, .inl (kA 0, 8, .inl z0)), (q54, .inl (kA 0, 8, .inl z0)), (q61, .inl (kA 0, 2, .inl z0)), (q79, .inl (kA 0, 2, .inl z0)), (q86, .inl (kA 0, 2, .inl z0)), (q94, .inl (kA 0, 8, .inl z0)), (q101, .inl (kA 1, 2, .inl z0)), (q109, .inl (kA 0, 8, .inl z0)), (q117, .inl (kA 0, 8, .inl z0)), (q124, .inl (kA 0, 2, .inl z0)), (q131, .inl (kA 0, 2, .inl z0))] H := hP
  have hD : va_D A [(h0, .inr (5, [.ref q6, .ref q15, .ref q22, .ref q30, .ref q38, .ref q46, .ref q54, .ref q61, .int 100, .int (-1), .int 0, .int 0, .ref q79, .ref q86, .ref q94, .ref q101, .ref q109, .ref q117, .ref q124, .null, .null, .null, .null, .int 0, .null, .null, .int 0, .int 0, .int 0, .int 0, .int 0, .int 0])), (q6, .inl (kA 0, 2, .inl z0)), (q15, .inl (kA 0, 300, .inl z0)), (q22, .inl (kA 0, 2, .inl z0)), (q30, .inl (kA 0, 8, .inl z0)), (q38, .inl (kA 0, 8, .inl z0)), (q46, .inl (kA 0, 8, .inl z0)), (q54, .inl (kA 0, 8, .inl z0)), (q61, .inl (kA 0, 2, .inl z0)), (q79, .inl (kA 0, 2, .inl z0)), (q86, .inl (kA 0, 2, .inl z0)), (q94, .inl (kA 0, 8, .inl z0)), (q101, .inl (kA 1, 2, .inl z0)), (q109, .inl (kA 0, 8, .inl z0)), (q117, .inl (kA 0, 8, .inl z0)), (q124, .inl (kA 0, 2, .inl z0)), (q131, .inl (kA 0, 2, .inl z0))] := hD
  refine W.widen (k := 16) (n := 372) (Nat.le_of_ble_eq_true rfl) (Nat.le_of_ble_eq_true rfl) ?_
  refine va_putF (D := D) (ci := 5) (v := .ref q131) (ty := tyX5 19) (C := RX5) (T := TX5) (N := 32) hx hb hts inX5 tyX5 tyX5_ok nmX5 hown hK hP hD hS 0 rfl rfl 19 (by decide) (hts _ pwX5_63) (fun _ h9 => h9) rfl hin rfl (tyX5_ok 19 (by decide)) rfl rfl (Nat.le_of_ble_eq_true rfl) dX5_init_133 (fun H locs hP hD hS => ?_)
  have hP : va_P D vwCl [(h0, .inr (5, [.ref q6, .ref q15, .ref q22, .ref q30, .ref q38, .ref q46, .ref q54, .ref q61, .int 100, .int (-1), .int 0, .int 0, .ref q79, .ref q86, .ref q94, .ref q101, .ref q109, .ref q117, .ref q124, .ref q131, .null, .null, .null, .int 0, .null, .null, .int 0, .int 0, .int 0, .int 0, .int 0, .int 0])), (q6, .inl (kA 0, 2, .inl z0)), (q15, .inl (kA 0, 300, .inl z0)), (q22, .inl (kA 0, 2, .inl z0)), (q30, .inl (kA 0, 8, .inl z0)), (q38, .inl (kA 0, 8, .inl z0)), (q46, .inl (kA 0, 8, .inl z0)), (q54, .inl (kA 0, 8, .inl z0)), (q61, .inl (kA 0, 2, .inl z0)), (q79, .inl (kA 0, 2, .inl z0)), (q86, .inl (kA 0, 2, .inl z0)), (q94, .inl (kA 0, 8, .inl z0)), (q101, .inl (kA 1, 2, .inl z0)), (q109, .inl (kA 0, 8, .inl z0)), (q117, .inl (kA 0, 8, .inl z0)), (q124, .inl (kA 0, 2, .inl z0)), (q131, .inl (kA 0, 2, .inl z0))] H := hP
  have hD : va_D A [(h0, .inr (5, [.ref q6, .ref q15, .ref q22, .ref q30, .ref q38, .ref q46, .ref q54, .ref q61, .int 100, .int (-1), .int 0, .int 0, .ref q79, .ref q86, .ref q94, .ref q101, .ref q109, .ref q117, .ref q124, .ref q131, .null, .null, .null, .int 0, .null, .null, .int 0, .int 0, .int 0, .int 0, .int 0, .int 0])), (q6, .inl (kA 0, 2, .inl z0)), (q15, .inl (kA 0, 300, .inl z0)), (q22, .inl (kA 0, 2, .inl z0)), (q30, .inl (kA 0, 8, .inl z0)), (q38, .inl (kA 0, 8, .inl z0)), (q46, .inl (kA 0, 8, .inl z0)), (q54, .inl (kA 0, 8, .inl z0)), (q61, .inl (kA 0, 2, .inl z0)), (q79, .inl (kA 0, 2, .inl z0)), (q86, .inl (kA 0, 2, .inl z0)), (q94, .inl (kA 0, 8, .inl z0)), (q101, .inl (kA 1, 2, .inl z0)), (q109, .inl (kA 0, 8, .inl z0)), (q117, .inl (kA 0, 8, .inl z0)), (q124, .inl (kA 0, 2, .inl z0)), (q131, .inl (kA 0, 2, .inl z0))] := hD
  refine lv_aload_n hx hb dX5_init_136 rfl (lv_at hl 0 rfl) ?_
  refine lv_iconst (v := 2) hx hb dX5_init_137 (by decide) ?_
  refine c_newi (N' := 2) hx hb hts hK hP hD hS hA (by decide) (by decide) (by decide) (Nat.le_of_ble_eq_true rfl) (Nat.le_of_ble_eq_true rfl) dX5_init_138 (fun q138 H hP hD hS => ?_)
  have hP : va_P D vwCl [(h0, .inr (5, [.ref q6, .ref q15, .ref q22, .ref q30, .ref q38, .ref q46, .ref q54, .ref q61, .int 100, .int (-1), .int 0, .int 0, .ref q79, .ref q86, .ref q94, .ref q101, .ref q109, .ref q117, .ref q124, .ref q131, .null, .null, .null, .int 0, .null, .null, .int 0, .int 0, .int 0, .int 0, .int 0, .int 0])), (q6, .inl (kA 0, 2, .inl z0)), (q15, .inl (kA 0, 300, .inl z0)), (q22, .inl (kA 0, 2, .inl z0)), (q30, .inl (kA 0, 8, .inl z0)), (q38, .inl (kA 0, 8, .inl z0)), (q46, .inl (kA 0, 8, .inl z0)), (q54, .inl (kA 0, 8, .inl z0)), (q61, .inl (kA 0, 2, .inl z0)), (q79, .inl (kA 0, 2, .inl z0)), (q86, .inl (kA 0, 2, .inl z0)), (q94, .inl (kA 0, 8, .inl z0)), (q101, .inl (kA 1, 2, .inl z0)), (q109, .inl (kA 0, 8, .inl z0)), (q117, .inl (kA 0, 8, .inl z0)), (q124, .inl (kA 0, 2, .inl z0)), (q131, .inl (kA 0, 2, .inl z0)), (q138, .inl (kA 0, 2, .inl z0))] H := hP
  have hD : va_D A [(h0, .inr (5, [.ref q6, .ref q15, .ref q22, .ref q30, .ref q38, .ref q46, .ref q54, .ref q61, .int 100, .int (-1), .int 0, .int 0, .ref q79, .ref q86, .ref q94, .ref q101, .ref q109, .ref q117, .ref q124, .ref q131, .null, .null, .null, .int 0, .null, .null, .int 0, .int 0, .int 0, .int 0, .int 0, .int 0])), (q6, .inl (kA 0, 2, .inl z0)), (q15, .inl (kA 0, 300, .inl z0)), (q22, .inl (kA 0, 2, .inl z0)), (q30, .inl (kA 0, 8, .inl z0)), (q38, .inl (kA 0, 8, .inl z0)), (q46, .inl (kA 0, 8, .inl z0)), (q54, .inl (kA 0, 8, .inl z0)), (q61, .inl (kA 0, 2, .inl z0)), (q79, .inl (kA 0, 2, .inl z0)), (q86, .inl (kA 0, 2, .inl z0)), (q94, .inl (kA 0, 8, .inl z0)), (q101, .inl (kA 1, 2, .inl z0)), (q109, .inl (kA 0, 8, .inl z0)), (q117, .inl (kA 0, 8, .inl z0)), (q124, .inl (kA 0, 2, .inl z0)), (q131, .inl (kA 0, 2, .inl z0)), (q138, .inl (kA 0, 2, .inl z0))] := hD
  refine W.widen (k := 17) (n := 374) (Nat.le_of_ble_eq_true rfl) (Nat.le_of_ble_eq_true rfl) ?_
  refine va_putF (D := D) (ci := 5) (v := .ref q138) (ty := tyX5 20) (C := RX5) (T := TX5) (N := 32) hx hb hts inX5 tyX5 tyX5_ok nmX5 hown hK hP hD hS 0 rfl rfl 20 (by decide) (hts _ pwX5_66) (fun _ h9 => h9) rfl hin rfl (tyX5_ok 20 (by decide)) rfl rfl (Nat.le_of_ble_eq_true rfl) dX5_init_140 (fun H locs hP hD hS => ?_)
  have hP : va_P D vwCl [(h0, .inr (5, [.ref q6, .ref q15, .ref q22, .ref q30, .ref q38, .ref q46, .ref q54, .ref q61, .int 100, .int (-1), .int 0, .int 0, .ref q79, .ref q86, .ref q94, .ref q101, .ref q109, .ref q117, .ref q124, .ref q131, .ref q138, .null, .null, .int 0, .null, .null, .int 0, .int 0, .int 0, .int 0, .int 0, .int 0])), (q6, .inl (kA 0, 2, .inl z0)), (q15, .inl (kA 0, 300, .inl z0)), (q22, .inl (kA 0, 2, .inl z0)), (q30, .inl (kA 0, 8, .inl z0)), (q38, .inl (kA 0, 8, .inl z0)), (q46, .inl (kA 0, 8, .inl z0)), (q54, .inl (kA 0, 8, .inl z0)), (q61, .inl (kA 0, 2, .inl z0)), (q79, .inl (kA 0, 2, .inl z0)), (q86, .inl (kA 0, 2, .inl z0)), (q94, .inl (kA 0, 8, .inl z0)), (q101, .inl (kA 1, 2, .inl z0)), (q109, .inl (kA 0, 8, .inl z0)), (q117, .inl (kA 0, 8, .inl z0)), (q124, .inl (kA 0, 2, .inl z0)), (q131, .inl (kA 0, 2, .inl z0)), (q138, .inl (kA 0, 2, .inl z0))] H := hP
  have hD : va_D A [(h0, .inr (5, [.ref q6, .ref q15, .ref q22, .ref q30, .ref q38, .ref q46, .ref q54, .ref q61, .int 100, .int (-1), .int 0, .int 0, .ref q79, .ref q86, .ref q94, .ref q101, .ref q109, .ref q117, .ref q124, .ref q131, .ref q138, .null, .null, .int 0, .null, .null, .int 0, .int 0, .int 0, .int 0, .int 0, .int 0])), (q6, .inl (kA 0, 2, .inl z0)), (q15, .inl (kA 0, 300, .inl z0)), (q22, .inl (kA 0, 2, .inl z0)), (q30, .inl (kA 0, 8, .inl z0)), (q38, .inl (kA 0, 8, .inl z0)), (q46, .inl (kA 0, 8, .inl z0)), (q54, .inl (kA 0, 8, .inl z0)), (q61, .inl (kA 0, 2, .inl z0)), (q79, .inl (kA 0, 2, .inl z0)), (q86, .inl (kA 0, 2, .inl z0)), (q94, .inl (kA 0, 8, .inl z0)), (q101, .inl (kA 1, 2, .inl z0)), (q109, .inl (kA 0, 8, .inl z0)), (q117, .inl (kA 0, 8, .inl z0)), (q124, .inl (kA 0, 2, .inl z0)), (q131, .inl (kA 0, 2, .inl z0)), (q138, .inl (kA 0, 2, .inl z0))] := hD
  refine lv_aload_n hx hb dX5_init_143 rfl (lv_at hl 0 rfl) ?_
  refine lv_bipush (v := 100) hx hb dX5_init_144 (by decide) ?_
  refine c_newi (N' := 100) hx hb hts hK hP hD hS hA (by decide) (by decide) (by decide) (Nat.le_of_ble_eq_true rfl) (Nat.le_of_ble_eq_true rfl) dX5_init_146 (fun q146 H hP hD hS => ?_)
  have hP : va_P D vwCl [(h0, .inr (5, [.ref q6, .ref q15, .ref q22, .ref q30, .ref q38, .ref q46, .ref q54, .ref q61, .int 100, .int (-1), .int 0, .int 0, .ref q79, .ref q86, .ref q94, .ref q101, .ref q109, .ref q117, .ref q124, .ref q131, .ref q138, .null, .null, .int 0, .null, .null, .int 0, .int 0, .int 0, .int 0, .int 0, .int 0])), (q6, .inl (kA 0, 2, .inl z0)), (q15, .inl (kA 0, 300, .inl z0)), (q22, .inl (kA 0, 2, .inl z0)), (q30, .inl (kA 0, 8, .inl z0)), (q38, .inl (kA 0, 8, .inl z0)), (q46, .inl (kA 0, 8, .inl z0)), (q54, .inl (kA 0, 8, .inl z0)), (q61, .inl (kA 0, 2, .inl z0)), (q79, .inl (kA 0, 2, .inl z0)), (q86, .inl (kA 0, 2, .inl z0)), (q94, .inl (kA 0, 8, .inl z0)), (q101, .inl (kA 1, 2, .inl z0)), (q109, .inl (kA 0, 8, .inl z0)), (q117, .inl (kA 0, 8, .inl z0)), (q124, .inl (kA 0, 2, .inl z0)), (q131, .inl (kA 0, 2, .inl z0)), (q138, .inl (kA 0, 2, .inl z0)), (q146, .inl (kA 0, 100, .inl z0))] H := hP
  have hD : va_D A [(h0, .inr (5, [.ref q6, .ref q15, .ref q22, .ref q30, .ref q38, .ref q46, .ref q54, .ref q61, .int 100, .int (-1), .int 0, .int 0, .ref q79, .ref q86, .ref q94, .ref q101, .ref q109, .ref q117, .ref q124, .ref q131, .ref q138, .null, .null, .int 0, .null, .null, .int 0, .int 0, .int 0, .int 0, .int 0, .int 0])), (q6, .inl (kA 0, 2, .inl z0)), (q15, .inl (kA 0, 300, .inl z0)), (q22, .inl (kA 0, 2, .inl z0)), (q30, .inl (kA 0, 8, .inl z0)), (q38, .inl (kA 0, 8, .inl z0)), (q46, .inl (kA 0, 8, .inl z0)), (q54, .inl (kA 0, 8, .inl z0)), (q61, .inl (kA 0, 2, .inl z0)), (q79, .inl (kA 0, 2, .inl z0)), (q86, .inl (kA 0, 2, .inl z0)), (q94, .inl (kA 0, 8, .inl z0)), (q101, .inl (kA 1, 2, .inl z0)), (q109, .inl (kA 0, 8, .inl z0)), (q117, .inl (kA 0, 8, .inl z0)), (q124, .inl (kA 0, 2, .inl z0)), (q131, .inl (kA 0, 2, .inl z0)), (q138, .inl (kA 0, 2, .inl z0)), (q146, .inl (kA 0, 100, .inl z0))] := hD
  refine W.widen (k := 18) (n := 474) (Nat.le_of_ble_eq_true rfl) (Nat.le_of_ble_eq_true rfl) ?_
  refine va_putF (D := D) (ci := 5) (v := .ref q146) (ty := tyX5 21) (C := RX5) (T := TX5) (N := 32) hx hb hts inX5 tyX5 tyX5_ok nmX5 hown hK hP hD hS 0 rfl rfl 21 (by decide) (hts _ pwX5_69) (fun _ h9 => h9) rfl hin rfl (tyX5_ok 21 (by decide)) rfl rfl (Nat.le_of_ble_eq_true rfl) dX5_init_148 (fun H locs hP hD hS => ?_)
  have hP : va_P D vwCl [(h0, .inr (5, [.ref q6, .ref q15, .ref q22, .ref q30, .ref q38, .ref q46, .ref q54, .ref q61, .int 100, .int (-1), .int 0, .int 0, .ref q79, .ref q86, .ref q94, .ref q101, .ref q109, .ref q117, .ref q124, .ref q131, .ref q138, .ref q146, .null, .int 0, .null, .null, .int 0, .int 0, .int 0, .int 0, .int 0, .int 0])), (q6, .inl (kA 0, 2, .inl z0)), (q15, .inl (kA 0, 300, .inl z0)), (q22, .inl (kA 0, 2, .inl z0)), (q30, .inl (kA 0, 8, .inl z0)), (q38, .inl (kA 0, 8, .inl z0)), (q46, .inl (kA 0, 8, .inl z0)), (q54, .inl (kA 0, 8, .inl z0)), (q61, .inl (kA 0, 2, .inl z0)), (q79, .inl (kA 0, 2, .inl z0)), (q86, .inl (kA 0, 2, .inl z0)), (q94, .inl (kA 0, 8, .inl z0)), (q101, .inl (kA 1, 2, .inl z0)), (q109, .inl (kA 0, 8, .inl z0)), (q117, .inl (kA 0, 8, .inl z0)), (q124, .inl (kA 0, 2, .inl z0)), (q131, .inl (kA 0, 2, .inl z0)), (q138, .inl (kA 0, 2, .inl z0)), (q146, .inl (kA 0, 100, .inl z0))] H := hP
  have hD : va_D A [(h0, .inr (5, [.ref q6, .ref q15, .ref q22, .ref q30, .ref q38, .ref q46, .ref q54, .ref q61, .int 100, .int (-1), .int 0, .int 0, .ref q79, .ref q86, .ref q94, .ref q101, .ref q109, .ref q117, .ref q124, .ref q131, .ref q138, .ref q146, .null, .int 0, .null, .null, .int 0, .int 0, .int 0, .int 0, .int 0, .int 0])), (q6, .inl (kA 0, 2, .inl z0)), (q15, .inl (kA 0, 300, .inl z0)), (q22, .inl (kA 0, 2, .inl z0)), (q30, .inl (kA 0, 8, .inl z0)), (q38, .inl (kA 0, 8, .inl z0)), (q46, .inl (kA 0, 8, .inl z0)), (q54, .inl (kA 0, 8, .inl z0)), (q61, .inl (kA 0, 2, .inl z0)), (q79, .inl (kA 0, 2, .inl z0)), (q86, .inl (kA 0, 2, .inl z0)), (q94, .inl (kA 0, 8, .inl z0)), (q101, .inl (kA 1, 2, .inl z0)), (q109, .inl (kA 0, 8, .inl z0)), (q117, .inl (kA 0, 8, .inl z0)), (q124, .inl (kA 0, 2, .inl z0)), (q131, .inl (kA 0, 2, .inl z0)), (q138, .inl (kA 0, 2, .inl z0)), (q146, .inl (kA 0, 100, .inl z0))] := hD
  refine lv_aload_n hx hb dX5_init_151 rfl (lv_at hl 0 rfl) ?_
  refine lv_bipush (v := 100) hx hb dX5_init_152 (by decide) ?_
  refine c_newi (N' := 100) hx hb hts hK hP hD hS hA (by decide) (by decide) (by decide) (Nat.le_of_ble_eq_true rfl) (Nat.le_of_ble_eq_true rfl) dX5_init_154 (fun q154 H hP hD hS => ?_)
  have hP : va_P D vwCl [(h0, .inr (5, [.ref q6, .ref q15, .ref q22, .ref q30, .ref q38, .ref q46, .ref q54, .ref q61, .int 100, .int (-1), .int 0, .int 0, .ref q79, .ref q86, .ref q94, .ref q101, .ref q109, .ref q117, .ref q124, .ref q131, .ref q138, .ref q146, .null, .int 0, .null, .null, .int 0, .int 0, .int 0, .int 0, .int 0, .int 0])), (q6, .inl (kA 0, 2, .inl z0)), (q15, .inl (kA 0, 300, .inl z0)), (q22, .inl (kA 0, 2, .inl z0)), (q30, .inl (kA 0, 8, .inl z0)), (q38, .inl (kA 0, 8, .inl z0)), (q46, .inl (kA 0, 8, .inl z0)), (q54, .inl (kA 0, 8, .inl z0)), (q61, .inl (kA 0, 2, .inl z0)), (q79, .inl (kA 0, 2, .inl z0)), (q86, .inl (kA 0, 2, .inl z0)), (q94, .inl (kA 0, 8, .inl z0)), (q101, .inl (kA 1, 2, .inl z0)), (q109, .inl (kA 0, 8, .inl z0)), (q117, .inl (kA 0, 8, .inl z0)), (q124, .inl (kA 0, 2, .inl z0)), (q131, .inl (kA 0, 2, .inl z0)), (q138, .inl (kA 0, 2, .inl z0)), (q146, .inl (kA 0, 100, .inl z0)), (q154, .inl (kA 0, 100, .inl z0))] H := hP
  have hD : va_D A [(h0, .inr (5, [.ref q6, .ref q15, .ref q22, .ref q30, .ref q38, .ref q46, .ref q54, .ref q61, .int 100, .int (-1), .int 0, .int 0, .ref q79, .ref q86, .ref q94, .ref q101, .ref q109, .ref q117, .ref q124, .ref q131, .ref q138, .ref q146, .null, .int 0, .null, .null, .int 0, .int 0, .int 0, .int 0, .int 0, .int 0])), (q6, .inl (kA 0, 2, .inl z0)), (q15, .inl (kA 0, 300, .inl z0)), (q22, .inl (kA 0, 2, .inl z0)), (q30, .inl (kA 0, 8, .inl z0)), (q38, .inl (kA 0, 8, .inl z0)), (q46, .inl (kA 0, 8, .inl z0)), (q54, .inl (kA 0, 8, .inl z0)), (q61, .inl (kA 0, 2, .inl z0)), (q79, .inl (kA 0, 2, .inl z0)), (q86, .inl (kA 0, 2, .inl z0)), (q94, .inl (kA 0, 8, .inl z0)), (q101, .inl (kA 1, 2, .inl z0)), (q109, .inl (kA 0, 8, .inl z0)), (q117, .inl (kA 0, 8, .inl z0)), (q124, .inl (kA 0, 2, .inl z0)), (q131, .inl (kA 0, 2, .inl z0)), (q138, .inl (kA 0, 2, .inl z0)), (q146, .inl (kA 0, 100, .inl z0)), (q154, .inl (kA 0, 100, .inl z0))] := hD
  refine W.widen (k := 19) (n := 574) (Nat.le_of_ble_eq_true rfl) (Nat.le_of_ble_eq_true rfl) ?_
  refine va_putF (D := D) (ci := 5) (v := .ref q154) (ty := tyX5 22) (C := RX5) (T := TX5) (N := 32) hx hb hts inX5 tyX5 tyX5_ok nmX5 hown hK hP hD hS 0 rfl rfl 22 (by decide) (hts _ pwX5_72) (fun _ h9 => h9) rfl hin rfl (tyX5_ok 22 (by decide)) rfl rfl (Nat.le_of_ble_eq_true rfl) dX5_init_156 (fun H locs hP hD hS => ?_)
  have hP : va_P D vwCl [(h0, .inr (5, [.ref q6, .ref q15, .ref q22, .ref q30, .ref q38, .ref q46, .ref q54, .ref q61, .int 100, .int (-1), .int 0, .int 0, .ref q79, .ref q86, .ref q94, .ref q101, .ref q109, .ref q117, .ref q124, .ref q131, .ref q138, .ref q146, .ref q154, .int 0, .null, .null, .int 0, .int 0, .int 0, .int 0, .int 0, .int 0])), (q6, .inl (kA 0, 2, .inl z0)), (q15, .inl (kA 0, 300, .inl z0)), (q22, .inl (kA 0, 2, .inl z0)), (q30, .inl (kA 0, 8, .inl z0)), (q38, .inl (kA 0, 8, .inl z0)), (q46, .inl (kA 0, 8, .inl z0)), (q54, .inl (kA 0, 8, .inl z0)), (q61, .inl (kA 0, 2, .inl z0)), (q79, .inl (kA 0, 2, .inl z0)), (q86, .inl (kA 0, 2, .inl z0)), (q94, .inl (kA 0, 8, .inl z0)), (q101, .inl (kA 1, 2, .inl z0)), (q109, .inl (kA 0, 8, .inl z0)), (q117, .inl (kA 0, 8, .inl z0)), (q124, .inl (kA 0, 2, .inl z0)), (q131, .inl (kA 0, 2, .inl z0)), (q138, .inl (kA 0, 2, .inl z0)), (q146, .inl (kA 0, 100, .inl z0)), (q154, .inl (kA 0, 100, .inl z0))] H := hP
  have hD : va_D A [(h0, .inr (5, [.ref q6, .ref q15, .ref q22, .ref q30, .ref q38, .ref q46, .ref q54, .ref q61, .int 100, .int (-1), .int 0, .int 0, .ref q79, .ref q86, .ref q94, .ref q101, .ref q109, .ref q117, .ref q124, .ref q131, .ref q138, .ref q146, .ref q154, .int 0, .null, .null, .int 0, .int 0, .int 0, .int 0, .int 0, .int 0])), (q6, .inl (kA 0, 2, .inl z0)), (q15, .inl (kA 0, 300, .inl z0)), (q22, .inl (kA 0, 2, .inl z0)), (q30, .inl (kA 0, 8, .inl z0)), (q38, .inl (kA 0, 8, .inl z0)), (q46, .inl (kA 0, 8, .inl z0)), (q54, .inl (kA 0, 8, .inl z0)), (q61, .inl (kA 0, 2, .inl z0)), (q79, .inl (kA 0, 2, .inl z0)), (q86, .inl (kA 0, 2, .inl z0)), (q94, .inl (kA 0, 8, .inl z0)), (q101, .inl (kA 1, 2, .inl z0)), (q109, .inl (kA 0, 8, .inl z0)), (q117, .inl (kA 0, 8, .inl z0)), (q124, .inl (kA 0, 2, .inl z0)), (q131, .inl (kA 0, 2, .inl z0)), (q138, .inl (kA 0, 2, .inl z0)), (q146, .inl (kA 0, 100, .inl z0)), (q154, .inl (kA 0, 100, .inl z0))] := hD
  refine lv_aload_n hx hb dX5_init_159 rfl (lv_at hl 0 rfl) ?_
  refine lv_sipush (v := 2500) hx hb dX5_init_160 (by decide) ?_
  refine c_newz (N' := 2500) hx hb hts hK hP hD hS hA (by decide) (by decide) (by decide) (Nat.le_of_ble_eq_true rfl) (Nat.le_of_ble_eq_true rfl) dX5_init_163 (fun q163 H hP hD hS => ?_)
  have hP : va_P D vwCl [(h0, .inr (5, [.ref q6, .ref q15, .ref q22, .ref q30, .ref q38, .ref q46, .ref q54, .ref q61, .int 100, .int (-1), .int 0, .int 0, .ref q79, .ref q86, .ref q94, .ref q101, .ref q109, .ref q117, .ref q124, .ref q131, .ref q138, .ref q146, .ref q154, .int 0, .null, .null, .int 0, .int 0, .int 0, .int 0, .int 0, .int 0])), (q6, .inl (kA 0, 2, .inl z0)), (q15, .inl (kA 0, 300, .inl z0)), (q22, .inl (kA 0, 2, .inl z0)), (q30, .inl (kA 0, 8, .inl z0)), (q38, .inl (kA 0, 8, .inl z0)), (q46, .inl (kA 0, 8, .inl z0)), (q54, .inl (kA 0, 8, .inl z0)), (q61, .inl (kA 0, 2, .inl z0)), (q79, .inl (kA 0, 2, .inl z0)), (q86, .inl (kA 0, 2, .inl z0)), (q94, .inl (kA 0, 8, .inl z0)), (q101, .inl (kA 1, 2, .inl z0)), (q109, .inl (kA 0, 8, .inl z0)), (q117, .inl (kA 0, 8, .inl z0)), (q124, .inl (kA 0, 2, .inl z0)), (q131, .inl (kA 0, 2, .inl z0)), (q138, .inl (kA 0, 2, .inl z0)), (q146, .inl (kA 0, 100, .inl z0)), (q154, .inl (kA 0, 100, .inl z0)), (q163, .inl (kA 1, 2500, .inl z0))] H := hP
  have hD : va_D A [(h0, .inr (5, [.ref q6, .ref q15, .ref q22, .ref q30, .ref q38, .ref q46, .ref q54, .ref q61, .int 100, .int (-1), .int 0, .int 0, .ref q79, .ref q86, .ref q94, .ref q101, .ref q109, .ref q117, .ref q124, .ref q131, .ref q138, .ref q146, .ref q154, .int 0, .null, .null, .int 0, .int 0, .int 0, .int 0, .int 0, .int 0])), (q6, .inl (kA 0, 2, .inl z0)), (q15, .inl (kA 0, 300, .inl z0)), (q22, .inl (kA 0, 2, .inl z0)), (q30, .inl (kA 0, 8, .inl z0)), (q38, .inl (kA 0, 8, .inl z0)), (q46, .inl (kA 0, 8, .inl z0)), (q54, .inl (kA 0, 8, .inl z0)), (q61, .inl (kA 0, 2, .inl z0)), (q79, .inl (kA 0, 2, .inl z0)), (q86, .inl (kA 0, 2, .inl z0)), (q94, .inl (kA 0, 8, .inl z0)), (q101, .inl (kA 1, 2, .inl z0)), (q109, .inl (kA 0, 8, .inl z0)), (q117, .inl (kA 0, 8, .inl z0)), (q124, .inl (kA 0, 2, .inl z0)), (q131, .inl (kA 0, 2, .inl z0)), (q138, .inl (kA 0, 2, .inl z0)), (q146, .inl (kA 0, 100, .inl z0)), (q154, .inl (kA 0, 100, .inl z0)), (q163, .inl (kA 1, 2500, .inl z0))] := hD
  refine W.widen (k := 20) (n := 3074) (Nat.le_of_ble_eq_true rfl) (Nat.le_of_ble_eq_true rfl) ?_
  refine va_putF (D := D) (ci := 5) (v := .ref q163) (ty := tyX5 24) (C := RX5) (T := TX5) (N := 32) hx hb hts inX5 tyX5 tyX5_ok nmX5 hown hK hP hD hS 0 rfl rfl 24 (by decide) (hts _ pwX5_75) (fun _ h9 => h9) rfl hin rfl (tyX5_ok 24 (by decide)) rfl rfl (Nat.le_of_ble_eq_true rfl) dX5_init_165 (fun H locs hP hD hS => ?_)
  have hP : va_P D vwCl [(h0, .inr (5, [.ref q6, .ref q15, .ref q22, .ref q30, .ref q38, .ref q46, .ref q54, .ref q61, .int 100, .int (-1), .int 0, .int 0, .ref q79, .ref q86, .ref q94, .ref q101, .ref q109, .ref q117, .ref q124, .ref q131, .ref q138, .ref q146, .ref q154, .int 0, .ref q163, .null, .int 0, .int 0, .int 0, .int 0, .int 0, .int 0])), (q6, .inl (kA 0, 2, .inl z0)), (q15, .inl (kA 0, 300, .inl z0)), (q22, .inl (kA 0, 2, .inl z0)), (q30, .inl (kA 0, 8, .inl z0)), (q38, .inl (kA 0, 8, .inl z0)), (q46, .inl (kA 0, 8, .inl z0)), (q54, .inl (kA 0, 8, .inl z0)), (q61, .inl (kA 0, 2, .inl z0)), (q79, .inl (kA 0, 2, .inl z0)), (q86, .inl (kA 0, 2, .inl z0)), (q94, .inl (kA 0, 8, .inl z0)), (q101, .inl (kA 1, 2, .inl z0)), (q109, .inl (kA 0, 8, .inl z0)), (q117, .inl (kA 0, 8, .inl z0)), (q124, .inl (kA 0, 2, .inl z0)), (q131, .inl (kA 0, 2, .inl z0)), (q138, .inl (kA 0, 2, .inl z0)), (q146, .inl (kA 0, 100, .inl z0)), (q154, .inl (kA 0, 100, .inl z0)), (q163, .inl (kA 1, 2500, .inl z0))] H := hP
  have hD : va_D A [(h0, .inr (5, [.ref q6, .ref q15, .ref q22, .ref q30, .ref q38, .ref q46, .ref q54, .ref q61, .int 100, .int (-1), .int 0, .int 0, .ref q79, .ref q86, .ref q94, .ref q101, .ref q109, .ref q117, .ref q124, .ref q131, .ref q138, .ref q146, .ref q154, .int 0, .ref q163, .null, .int 0, .int 0, .int 0, .int 0, .int 0, .int 0])), (q6, .inl (kA 0, 2, .inl z0)), (q15, .inl (kA 0, 300, .inl z0)), (q22, .inl (kA 0, 2, .inl z0)), (q30, .inl (kA 0, 8, .inl z0)), (q38, .inl (kA 0, 8, .inl z0)), (q46, .inl (kA 0, 8, .inl z0)), (q54, .inl (kA 0, 8, .inl z0)), (q61, .inl (kA 0, 2, .inl z0)), (q79, .inl (kA 0, 2, .inl z0)), (q86, .inl (kA 0, 2, .inl z0)), (q94, .inl (kA 0, 8, .inl z0)), (q101, .inl (kA 1, 2, .inl z0)), (q109, .inl (kA 0, 8, .inl z0)), (q117, .inl (kA 0, 8, .inl z0)), (q124, .inl (kA 0, 2, .inl z0)), (q131, .inl (kA 0, 2, .inl z0)), (q138, .inl (kA 0, 2, .inl z0)), (q146, .inl (kA 0, 100, .inl z0)), (q154, .inl (kA 0, 100, .inl z0)), (q163, .inl (kA 1, 2500, .inl z0))] := hD
  refine lv_aload_n hx hb dX5_init_168 rfl (lv_at hl 0 rfl) ?_
  refine lv_sipush (v := 2500) hx hb dX5_init_169 (by decide) ?_
  refine c_newi (N' := 2500) hx hb hts hK hP hD hS hA (by decide) (by decide) (by decide) (Nat.le_of_ble_eq_true rfl) (Nat.le_of_ble_eq_true rfl) dX5_init_172 (fun q172 H hP hD hS => ?_)
  have hP : va_P D vwCl [(h0, .inr (5, [.ref q6, .ref q15, .ref q22, .ref q30, .ref q38, .ref q46, .ref q54, .ref q61, .int 100, .int (-1), .int 0, .int 0, .ref q79, .ref q86, .ref q94, .ref q101, .ref q109, .ref q117, .ref q124, .ref q131, .ref q138, .ref q146, .ref q154, .int 0, .ref q163, .null, .int 0, .int 0, .int 0, .int 0, .int 0, .int 0])), (q6, .inl (kA 0, 2, .inl z0)), (q15, .inl (kA 0, 300, .inl z0)), (q22, .inl (kA 0, 2, .inl z0)), (q30, .inl (kA 0, 8, .inl z0)), (q38, .inl (kA 0, 8, .inl z0)), (q46, .inl (kA 0, 8, .inl z0)), (q54, .inl (kA 0, 8, .inl z0)), (q61, .inl (kA 0, 2, .inl z0)), (q79, .inl (kA 0, 2, .inl z0)), (q86, .inl (kA 0, 2, .inl z0)), (q94, .inl (kA 0, 8, .inl z0)), (q101, .inl (kA 1, 2, .inl z0)), (q109, .inl (kA 0, 8, .inl z0)), (q117, .inl (kA 0, 8, .inl z0)), (q124, .inl (kA 0, 2, .inl z0)), (q131, .inl (kA 0, 2, .inl z0)), (q138, .inl (kA 0, 2, .inl z0)), (q146, .inl (kA 0, 100, .inl z0)), (q154, .inl (kA 0, 100, .inl z0)), (q163, .inl (kA 1, 2500, .inl z0)), (q172, .inl (kA 0, 2500, .inl z0))] H := hP
  have hD : va_D A [(h0, .inr (5, [.ref q6, .ref q15, .ref q22, .ref q30, .ref q38, .ref q46, .ref q54, .ref q61, .int 100, .int (-1), .int 0, .int 0, .ref q79, .ref q86, .ref q94, .ref q101, .ref q109, .ref q117, .ref q124, .ref q131, .ref q138, .ref q146, .ref q154, .int 0, .ref q163, .null, .int 0, .int 0, .int 0, .int 0, .int 0, .int 0])), (q6, .inl (kA 0, 2, .inl z0)), (q15, .inl (kA 0, 300, .inl z0)), (q22, .inl (kA 0, 2, .inl z0)), (q30, .inl (kA 0, 8, .inl z0)), (q38, .inl (kA 0, 8, .inl z0)), (q46, .inl (kA 0, 8, .inl z0)), (q54, .inl (kA 0, 8, .inl z0)), (q61, .inl (kA 0, 2, .inl z0)), (q79, .inl (kA 0, 2, .inl z0)), (q86, .inl (kA 0, 2, .inl z0)), (q94, .inl (kA 0, 8, .inl z0)), (q101, .inl (kA 1, 2, .inl z0)), (q109, .inl (kA 0, 8, .inl z0)), (q117, .inl (kA 0, 8, .inl z0)), (q124, .inl (kA 0, 2, .inl z0)), (q131, .inl (kA 0, 2, .inl z0)), (q138, .inl (kA 0, 2, .inl z0)), (q146, .inl (kA 0, 100, .inl z0)), (q154, .inl (kA 0, 100, .inl z0)), (q163, .inl (kA 1, 2500, .inl z0)), (q172, .inl (kA 0, 2500, .inl z0))] := hD
  refine W.widen (k := 21) (n := 5574) (Nat.le_of_ble_eq_true rfl) (Nat.le_of_ble_eq_true rfl) ?_
  refine va_putF (D := D) (ci := 5) (v := .ref q172) (ty := tyX5 25) (C := RX5) (T := TX5) (N := 32) hx hb hts inX5 tyX5 tyX5_ok nmX5 hown hK hP hD hS 0 rfl rfl 25 (by decide) (hts _ pwX5_78) (fun _ h9 => h9) rfl hin rfl (tyX5_ok 25 (by decide)) rfl rfl (Nat.le_of_ble_eq_true rfl) dX5_init_174 (fun H locs hP hD hS => ?_)
  have hP : va_P D vwCl [(h0, .inr (5, [.ref q6, .ref q15, .ref q22, .ref q30, .ref q38, .ref q46, .ref q54, .ref q61, .int 100, .int (-1), .int 0, .int 0, .ref q79, .ref q86, .ref q94, .ref q101, .ref q109, .ref q117, .ref q124, .ref q131, .ref q138, .ref q146, .ref q154, .int 0, .ref q163, .ref q172, .int 0, .int 0, .int 0, .int 0, .int 0, .int 0])), (q6, .inl (kA 0, 2, .inl z0)), (q15, .inl (kA 0, 300, .inl z0)), (q22, .inl (kA 0, 2, .inl z0)), (q30, .inl (kA 0, 8, .inl z0)), (q38, .inl (kA 0, 8, .inl z0)), (q46, .inl (kA 0, 8, .inl z0)), (q54, .inl (kA 0, 8, .inl z0)), (q61, .inl (kA 0, 2, .inl z0)), (q79, .inl (kA 0, 2, .inl z0)), (q86, .inl (kA 0, 2, .inl z0)), (q94, .inl (kA 0, 8, .inl z0)), (q101, .inl (kA 1, 2, .inl z0)), (q109, .inl (kA 0, 8, .inl z0)), (q117, .inl (kA 0, 8, .inl z0)), (q124, .inl (kA 0, 2, .inl z0)), (q131, .inl (kA 0, 2, .inl z0)), (q138, .inl (kA 0, 2, .inl z0)), (q146, .inl (kA 0, 100, .inl z0)), (q154, .inl (kA 0, 100, .inl z0)), (q163, .inl (kA 1, 2500, .inl z0)), (q172, .inl (kA 0, 2500, .inl z0))] H := hP
  have hD : va_D A [(h0, .inr (5, [.ref q6, .ref q15, .ref q22, .ref q30, .ref q38, .ref q46, .ref q54, .ref q61, .int 100, .int (-1), .int 0, .int 0, .ref q79, .ref q86, .ref q94, .ref q101, .ref q109, .ref q117, .ref q124, .ref q131, .ref q138, .ref q146, .ref q154, .int 0, .ref q163, .ref q172, .int 0, .int 0, .int 0, .int 0, .int 0, .int 0])), (q6, .inl (kA 0, 2, .inl z0)), (q15, .inl (kA 0, 300, .inl z0)), (q22, .inl (kA 0, 2, .inl z0)), (q30, .inl (kA 0, 8, .inl z0)), (q38, .inl (kA 0, 8, .inl z0)), (q46, .inl (kA 0, 8, .inl z0)), (q54, .inl (kA 0, 8, .inl z0)), (q61, .inl (kA 0, 2, .inl z0)), (q79, .inl (kA 0, 2, .inl z0)), (q86, .inl (kA 0, 2, .inl z0)), (q94, .inl (kA 0, 8, .inl z0)), (q101, .inl (kA 1, 2, .inl z0)), (q109, .inl (kA 0, 8, .inl z0)), (q117, .inl (kA 0, 8, .inl z0)), (q124, .inl (kA 0, 2, .inl z0)), (q131, .inl (kA 0, 2, .inl z0)), (q138, .inl (kA 0, 2, .inl z0)), (q146, .inl (kA 0, 100, .inl z0)), (q154, .inl (kA 0, 100, .inl z0)), (q163, .inl (kA 1, 2500, .inl z0)), (q172, .inl (kA 0, 2500, .inl z0))] := hD
  exact W.vret hx hb hr (fun t ht hW => ⟨⟨fun i => match i with | 0 => q6 | 1 => q15 | 2 => q22 | 3 => q30 | 4 => q38 | 5 => q46 | 6 => q54 | 7 => q61 | 8 => q79 | 9 => q86 | 10 => q94 | 11 => q101 | 12 => q109 | 13 => q117 | 14 => q124 | 15 => q131 | 16 => q138 | 17 => q146 | 18 => q154 | 19 => q163 | 20 => q172 | _ => 0, rfl, trivial, by rw [ht]; exact hP, va_K.moved hW.alike hK, hD⟩, hS.F ht⟩) hS.2.2 dX5_init_177

