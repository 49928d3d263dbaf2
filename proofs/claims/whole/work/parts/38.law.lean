/-! THE CLAIM OUT OF ONE WALK OF THE LAW'S BODY. Your part is whole_start (and what it stands on); all else here is the same for every law, but numbers. -/
def R_law : String := "TurningPlansLaw"
def lw_P (b : Addr) (xs : List Int32) (args : Array Value) (s : State) : Prop := args = #[.ref b] ∧ s.IntsAt b xs ∧ xs.length ≤ 2560 ∧ (Jvm.Cond.and given_1 narrow_1).before args s = true
def lw_Q (_ : Array Value) (s : State) (o : Outcome) (t : State) : Prop := o = .returned (some (.int 1)) ∧ Framed s o t [] 60 11469
def lw_Z (below : List Frame) (a : Array Value) (s : State) : State → Prop := fun t => ∃ o, t.status = .running ∧ Ended t below o ∧ lw_Q a s o t
/-- the law's own end, with 1 on the stack, nothing written that was there before, its room as the claim has it -/
theorem lw_ret {p : Program} {l : Launch} {e : Env} {s : State} {m : MethodId} {below : List Frame} {meth : Method} {c : Code} {b : Nat} (hx : p.tables.exec = Jvm.exec) (hb : c.code = code) (hr : meth.sig.returnType = ret) (hlocks : meth.locks = false) {pc : Nat} {H : Heap} {ls : Array Slot} (hdg : decode code pc = .ok (.ireturn, 1)) : W p l e room_1 s m #[Value.ref b] below meth c H [] 60 11469 (lw_Z below #[Value.ref b] s) (F0 m pc ls [.int 1]) := by
  intro T hT X
  obtain ⟨fs, hret, hrun, hended, hW, hframe⟩ := X.leave (v := some (.int 1)) (hlocks := hlocks) (fun h => by rw [hr] at h; cases h)
  have hmeth' : T.vm.method? m = some meth := X.method'
  refine ⟨T.setFrames fs, ?_, .returned (some (.int 1)), hrun, hended, rfl, ⟨_, rfl⟩, hW, hframe⟩
  jvm_step X.here [X.here.top, hx, hb, hdg, hmeth', hr, ret, narrow_b1]
  (try refine ⟨rfl, ?_⟩); (try refine ⟨rfl, ?_⟩)
  first | (intro acts; rw [hret _ acts rfl rfl rfl]) | rw [hret _ _ rfl rfl rfl]
  exact Steps.refl _
/-- what holds at the law's entry: the machine, the code, the tables' words (any of lw_tbl by 'hts w (by decide +kernel)'), the script of L ints xs at the cell b, what the Statement gives of the start (any of its parts by flat_of_before) -/
def lw_At (p : Program) (s : State) (m : MethodId) (meth : Method) (c : Code) (b L : Nat) (xs : Nat → Int32) : Prop :=
  p.tables.exec = Jvm.exec ∧ c.code = code ∧ meth.sig.returnType = ret ∧ c.maxLocals = 4 ∧ s.vm.findClass R_law = some m.cls ∧ (∀ w ∈ lw_tbl, w.before #[Value.ref b] s = true) ∧ va_X b L xs s s.heap ∧ b < s.heap.size ∧ meth.locks = false ∧ (Jvm.Cond.and given_1 narrow_1).before #[Value.ref b] s = true

def hC0 : zh := [
  .inr (4, [.ref 1, .ref 2, .ref 3, .ref 4, .ref 5, .ref 6, .int 0, .int (-1), .int 0, .int 0, .int 0, .int 0, .int 0, .int 0]),
  .inl (2, 2, .inr (.inr (.inr (.inr (fun j => if j = 0 then some 7 else if j = 1 then some 13 else none))))),
  .inl (3, 2, .inr (.inr (.inr (.inr (fun j => if j = 0 then some 19 else if j = 1 then some 27 else none))))),
  .inl (0, 2, .inl z0),
  .inr (0, [.ref 35, .int 100, .int 0, .int 0]),
  .inr (1, [.ref 36, .ref 37, .int 0]),
  .inl (0, 100, .inl z0),
  .inr (3, [.ref 8, .ref 9, .ref 10, .ref 11, .ref 12, .int 0, .int 0]),
  .inl (0, 150, .inl z0),
  .inl (0, 4, .inl z0),
  .inl (0, 4, .inl z0),
  .inl (0, 4, .inl z0),
  .inl (0, 4, .inl z0),
  .inr (3, [.ref 14, .ref 15, .ref 16, .ref 17, .ref 18, .int 0, .int 0]),
  .inl (0, 150, .inl z0),
  .inl (0, 4, .inl z0),
  .inl (0, 4, .inl z0),
  .inl (0, 4, .inl z0),
  .inl (0, 4, .inl z0),
  .inr (2, [.ref 7, .ref 20, .ref 21, .ref 22, .ref 23, .ref 24, .ref 25, .ref 26, .int 0, .int 0, .int 0, .int 0, .int 0]),
  .inl (0, 50, .inl z0),
  .inl (0, 4, .inl z0),
  .inl (0, 4, .inl z0),
  .inl (0, 4, .inl z0),
  .inl (0, 4, .inl z0),
  .inl (0, 50, .inl z0),
  .inl (0, 16, .inl z0),
  .inr (2, [.ref 13, .ref 28, .ref 29, .ref 30, .ref 31, .ref 32, .ref 33, .ref 34, .int 0, .int 0, .int 0, .int 0, .int 0]),
  .inl (0, 50, .inl z0),
  .inl (0, 4, .inl z0),
  .inl (0, 4, .inl z0),
  .inl (0, 4, .inl z0),
  .inl (0, 4, .inl z0),
  .inl (0, 50, .inl z0),
  .inl (0, 16, .inl z0),
  .inl (0, 100, .inl z0),
  .inl (0, 2500, .inl z0),
  .inl (1, 2500, .inl z0)]
def hM0 : zh := [
  .inr (5, [.ref 1, .ref 2, .ref 3, .ref 4, .ref 5, .ref 6, .ref 7, .ref 8, .int 100, .int (-1), .int 0, .int 0, .ref 9, .ref 10, .ref 11, .ref 12, .ref 13, .ref 14, .ref 15, .ref 16, .ref 17, .ref 18, .ref 19, .int 0, .ref 20, .ref 21, .int 0, .int 0, .int 0, .int 0, .int 0, .int 0]),
  .inl (0, 2, .inl z0),
  .inl (0, 300, .inl z0),
  .inl (0, 2, .inl z0),
  .inl (0, 8, .inl z0),
  .inl (0, 8, .inl z0),
  .inl (0, 8, .inl z0),
  .inl (0, 8, .inl z0),
  .inl (0, 2, .inl z0),
  .inl (0, 2, .inl z0),
  .inl (0, 2, .inl z0),
  .inl (0, 8, .inl z0),
  .inl (1, 2, .inl z0),
  .inl (0, 8, .inl z0),
  .inl (0, 8, .inl z0),
  .inl (0, 2, .inl z0),
  .inl (0, 2, .inl z0),
  .inl (0, 2, .inl z0),
  .inl (0, 100, .inl z0),
  .inl (0, 100, .inl z0),
  .inl (1, 2500, .inl z0),
  .inl (0, 2500, .inl z0)]
theorem V0_z {k j : Nat} (h : k ≠ 0) : V0 k j = 0 := by unfold V0; rw [if_neg (fun w => h w.1), if_neg (fun w => h w.1)]
theorem V0_f {k : Nat} (h : k ≠ 0) : (fun j => nI (V0 k j)) = z0 := by
  funext j
  rw [V0_z h]; rfl
theorem ca_0 {n off k : Nat} (h : k ≠ 0) : ca n off (V0 k) = .inl (0, n, .inl z0) := by
  unfold ca
  have e : (fun j => nI (if j < n then V0 k (off + j) else 0)) = z0 := by
    funext j
    rw [V0_z h]
    split <;> rfl
  rw [e]
theorem zo_V9 : zo (V0 0 9) = -1 := by decide +kernel
theorem zo_V29 : zo (V0 0 29) = 0 := by decide +kernel
theorem nI_V0 (n : Nat) (h : n ≠ 8) (h2 : n ≠ 29) : nI (V0 0 n) = 0 := by
  unfold V0
  rw [if_neg (fun w => h w.2), if_neg (fun w => h2 w.2)]
  rfl
theorem nI_V8 : nI (V0 0 8) = 100 := by decide +kernel

set_option maxRecDepth 100000 in
set_option maxHeartbeats 4000000 in
theorem hC0_eq : hC V0 (fun _ _ => 0) = hC0 := by
  unfold hC hC0
  rw [ca_0 (n := 4) (off := 0) (k := 4) (by decide), ca_0 (n := 4) (off := 0) (k := 5) (by decide), ca_0 (n := 4) (off := 0) (k := 6) (by decide), ca_0 (n := 4) (off := 0) (k := 7) (by decide), ca_0 (n := 4) (off := 0) (k := 13) (by decide), ca_0 (n := 4) (off := 0) (k := 14) (by decide), ca_0 (n := 4) (off := 4) (k := 4) (by decide), ca_0 (n := 4) (off := 4) (k := 5) (by decide), ca_0 (n := 4) (off := 4) (k := 6) (by decide), ca_0 (n := 4) (off := 4) (k := 7) (by decide), ca_0 (n := 4) (off := 4) (k := 13) (by decide), ca_0 (n := 4) (off := 4) (k := 14) (by decide), ca_0 (n := 50) (off := 0) (k := 18) (by decide), ca_0 (n := 50) (off := 50) (k := 18) (by decide), ca_0 (n := 150) (off := 0) (k := 2) (by decide), ca_0 (n := 150) (off := 150) (k := 2) (by decide)]
  rw [V0_f (k := 8) (by decide), V0_f (k := 20) (by decide), V0_f (k := 21) (by decide), V0_f (k := 22) (by decide)]
  rw [nI_V8, zo_V9, nI_V0 10 (by decide) (by decide), nI_V0 23 (by decide) (by decide), nI_V0 26 (by decide) (by decide), nI_V0 28 (by decide) (by decide), zo_V29, nI_V0 30 (by decide) (by decide), nI_V0 31 (by decide) (by decide), show nI (V0 1 0) = 0 from by rw [V0_z (by decide)]; rfl, show nI (V0 1 1) = 0 from by rw [V0_z (by decide)]; rfl, show nI (V0 3 0) = 0 from by rw [V0_z (by decide)]; rfl, show nI (V0 3 1) = 0 from by rw [V0_z (by decide)]; rfl, show nI (V0 9 0) = 0 from by rw [V0_z (by decide)]; rfl, show nI (V0 9 1) = 0 from by rw [V0_z (by decide)]; rfl, show nI (V0 10 0) = 0 from by rw [V0_z (by decide)]; rfl, show nI (V0 10 1) = 0 from by rw [V0_z (by decide)]; rfl, show nI (V0 12 0) = 0 from by rw [V0_z (by decide)]; rfl, show nI (V0 12 1) = 0 from by rw [V0_z (by decide)]; rfl, show nI (V0 15 0) = 0 from by rw [V0_z (by decide)]; rfl, show nI (V0 15 1) = 0 from by rw [V0_z (by decide)]; rfl, show nI (V0 17 0) = 0 from by rw [V0_z (by decide)]; rfl, show nI (V0 17 1) = 0 from by rw [V0_z (by decide)]; rfl]
  rfl

set_option maxRecDepth 100000 in
set_option maxHeartbeats 4000000 in
theorem hM0_eq : hM V0 = hM0 := by
  unfold hM hM0
  rw [V0_f (k := 1) (by decide), V0_f (k := 2) (by decide), V0_f (k := 3) (by decide), V0_f (k := 4) (by decide), V0_f (k := 5) (by decide), V0_f (k := 6) (by decide), V0_f (k := 7) (by decide), V0_f (k := 8) (by decide), V0_f (k := 9) (by decide), V0_f (k := 10) (by decide), V0_f (k := 11) (by decide), V0_f (k := 12) (by decide), V0_f (k := 13) (by decide), V0_f (k := 14) (by decide), V0_f (k := 15) (by decide), V0_f (k := 16) (by decide), V0_f (k := 17) (by decide), V0_f (k := 18) (by decide), V0_f (k := 19) (by decide), V0_f (k := 20) (by decide), V0_f (k := 21) (by decide)]
  rw [nI_V8, zo_V9, nI_V0 10 (by decide) (by decide), nI_V0 11 (by decide) (by decide), nI_V0 23 (by decide) (by decide), nI_V0 26 (by decide) (by decide), nI_V0 27 (by decide) (by decide), nI_V0 28 (by decide) (by decide), zo_V29, nI_V0 30 (by decide) (by decide), nI_V0 31 (by decide) (by decide)]

theorem rf_eq (u : Nat → Nat) (a b : Nat) : (fun j => (if j = 0 then some a else if j = 1 then some b else none : Option Nat).map u) = va_up (va_up (fun _ => none) 0 (some (u a))) 1 (some (u b)) := by
  funext j
  unfold va_up
  by_cases h1 : j = 1
  · subst h1; rfl
  · by_cases h0 : j = 0
    · simp [h0]
    · simp [h1, h0]
/-- the picture's world, place by place -/
def zwF (ad : Nat → Nat) (kA : Nat → ClassId) : Nat → zh → va_W
  | _, [] => []
  | k, x :: h => (ad k, ze ad kA x) :: zwF ad kA (k + 1) h
theorem zwF_at (ad : Nat → Nat) (kA : Nat → ClassId) : ∀ (h : zh) (k i : Nat), (zwF ad kA k h)[i]? = (h[i]?).map (fun x => (ad (k + i), ze ad kA x))
  | [], k, i => by simp [zwF]
  | x :: h, k, 0 => by simp [zwF]
  | x :: h, k, i + 1 => by
    show (zwF ad kA (k + 1) h)[i]? = _
    rw [zwF_at ad kA h (k + 1) i, List.getElem?_cons_succ, show k + 1 + i = k + (i + 1) by omega]
theorem zw_F (ad : Nat → Nat) (kA : Nat → ClassId) (h : zh) : zw ad kA h = zwF ad kA 0 h := by
  apply List.ext_getElem?
  intro i
  unfold zw
  rw [List.getElem?_mapIdx, zwF_at, Nat.zero_add]
theorem zw_len (ad : Nat → Nat) (kA : Nat → ClassId) (h : zh) : (zw ad kA h).length = h.length := by
  unfold zw
  rw [List.length_mapIdx]
theorem rng_l {α : Type} (a b : List α) : (List.range a.length).map (fun i => (a ++ b)[i]?) = a.map some := by
  apply List.ext_getElem?
  intro i
  rw [List.getElem?_map, List.getElem?_map]
  by_cases h : i < a.length
  · rw [List.getElem?_range h, Option.map_some, List.getElem?_append_left h, List.getElem?_eq_getElem h, Option.map_some]
  · rw [List.getElem?_eq_none (by rw [List.length_range]; omega), List.getElem?_eq_none (by omega : a.length ≤ i)]; rfl
theorem rng_r {α : Type} (a b : List α) : ((List.range b.length).map (fun i => a.length + i)).map (fun i => (a ++ b)[i]?) = b.map some := by
  apply List.ext_getElem?
  intro i
  rw [List.getElem?_map, List.getElem?_map, List.getElem?_map]
  by_cases h : i < b.length
  · rw [List.getElem?_range h, Option.map_some, Option.map_some, List.getElem?_append_right (by omega), show a.length + i - a.length = i by omega, List.getElem?_eq_getElem h, Option.map_some]
  · rw [List.getElem?_eq_none (by rw [List.length_range]; omega), List.getElem?_eq_none (by omega : b.length ≤ i)]; rfl
theorem wX4_eq (kA : Nat → ClassId) (u : Nat → Nat) : wX4 kA u = zw u kA (hC V0 (fun _ _ => 0)) := by
  rw [hC0_eq]
  unfold wX4
  rw [← rf_eq u 7 13, ← rf_eq u 19 27, zw_F]
  rfl

/-- addresses of the reference's cells -/
def u5 (h0 : Nat) (u : Nat → Nat) : Nat → Nat
  | 0 => h0
  | k + 1 => u k
theorem wX5_eq (kA : Nat → ClassId) (h0 : Nat) (u : Nat → Nat) : [(h0, .inr (5, [.ref (u 0), .ref (u 1), .ref (u 2), .ref (u 3), .ref (u 4), .ref (u 5), .ref (u 6), .ref (u 7), .int 100, .int (-1), .int 0, .int 0, .ref (u 8), .ref (u 9), .ref (u 10), .ref (u 11), .ref (u 12), .ref (u 13), .ref (u 14), .ref (u 15), .ref (u 16), .ref (u 17), .ref (u 18), .int 0, .ref (u 19), .ref (u 20), .int 0, .int 0, .int 0, .int 0, .int 0, .int 0])), (u 0, .inl (kA 0, 2, .inl z0)), (u 1, .inl (kA 0, 300, .inl z0)), (u 2, .inl (kA 0, 2, .inl z0)), (u 3, .inl (kA 0, 8, .inl z0)), (u 4, .inl (kA 0, 8, .inl z0)), (u 5, .inl (kA 0, 8, .inl z0)), (u 6, .inl (kA 0, 8, .inl z0)), (u 7, .inl (kA 0, 2, .inl z0)), (u 8, .inl (kA 0, 2, .inl z0)), (u 9, .inl (kA 0, 2, .inl z0)), (u 10, .inl (kA 0, 8, .inl z0)), (u 11, .inl (kA 1, 2, .inl z0)), (u 12, .inl (kA 0, 8, .inl z0)), (u 13, .inl (kA 0, 8, .inl z0)), (u 14, .inl (kA 0, 2, .inl z0)), (u 15, .inl (kA 0, 2, .inl z0)), (u 16, .inl (kA 0, 2, .inl z0)), (u 17, .inl (kA 0, 100, .inl z0)), (u 18, .inl (kA 0, 100, .inl z0)), (u 19, .inl (kA 1, 2500, .inl z0)), (u 20, .inl (kA 0, 2500, .inl z0))] = zw (u5 h0 u) kA (hM V0) := by
  rw [hM0_eq, zw_F]
  rfl

/-- the law as a method: what it may use -/
abbrev mL : zm_I := (yL_law, cL_law, 4, (some .boolean), 9, 292)
theorem zBL {M' : zm_I} {idx n : Nat} (K : zK mL M' idx n) {s : State} {args : Array Value} (hts : ∀ w ∈ zT, w.before args s = true) : CallB room_1 s args RL idx (zm_y M') (zm_c M') (zm_n M') (zm_r M') (zm_w M') (zm_R M') 0 0 n := by
  obtain ⟨k1, k2, k3, k4, k5⟩ := K
  refine callB_of (Ts := zT) n hts ?_ rfl rfl rfl (hts _ k4) (hts _ k3) k5 k1
  intro w hw
  rcases List.mem_cons.mp hw with rfl | hw
  · exact ⟨k2, good_of_word (zgood k2)⟩
  · exact ⟨hw, good_of_word (zgood hw)⟩
set_option maxHeartbeats 4000000 in
/-- a call out of the law: the callee's cells come first; they come back behind the others -/
theorem lw_call {p : Program} {l : Launch} {e : Env} {s : State} {m : MethodId} {args : Array Value} {below : List Frame} {meth : Method} {c : Code} {D : va_G} {kA : Nat → ClassId} {u : Nat → Nat} {h : zh} {B : va_W} {H : Heap} {locs : List Loc} {ls : Array Slot} {Q : State → Prop} {A : Nat → Prop} {M' : zm_I} {Qc : Option Value → zh → Prop} {idx n ci pc : Nat} {fs As rest st0 : List Value}
    (hx : p.tables.exec = Jvm.exec) (hb : c.code = code) (hml : c.maxLocals = 4) (hown : s.vm.findClass R_law = some m.cls) (hts : ∀ w ∈ zT, w.before args s = true) (hA : ∀ q, s.heap.size ≤ q → A q) (hK : va_K D vwCl (zt kA) s)
    (K : zK mL M' idx n) (Kv : zKv M') (hM : PM M' (.ref 0 :: As) h Qc) (he : h[0]? = some (.inr (ci, fs))) (hci : (vwCl[ci]?).map (fun q => q.1) = some (zm_y M').cls) (hn : As.length = n) (hAs : As.map (zv u) = As)
    (hP : va_P D vwCl (zw u kA h ++ B) H) (hD : va_D A (zw u kA h ++ B)) (hS : va_S A s.heap H locs) (isC isR : List Nat) (hC : isC.map (fun i => (zw u kA h ++ B)[i]?) = (zw u kA h).map some) (hR : isR.map (fun i => (zw u kA h ++ B)[i]?) = B.map some) (hnd : va_nd isR = true) (hdis : ∀ i ∈ isR, i ∉ isC)
    (hl : ls.size = 4) (hst : st0 = As.reverse ++ .ref (u 0) :: rest) (hr : (rest.map fun v => v.category).sum ≤ 8) (d : decode code pc = .ok (.invokevirtual idx, 3))
    (kk : ∀ (r : Option Value) (h' : zh) (H1 : Heap) (locs1 : List Loc), Qc r h' → va_P D vwCl (B ++ zw u kA h') H1 → va_D A (B ++ zw u kA h') → va_S A s.heap H1 locs1 → W p l e room_1 s m args below meth c H1 locs1 60 11469 Q (F0 m (pc + 3) ls ((r.map (zv u)).toList ++ rest))) : W p l e room_1 s m args below meth c H locs 60 11469 Q (F0 m pc ls st0) := by
  subst hst
  obtain ⟨q, hq, hq2⟩ := Option.map_eq_some_iff.mp hci
  have app : ∀ {k : Nat} {x : Nat × va_E}, (zw u kA h)[k]? = some x → (zw u kA h ++ B)[k]? = some x := by
    intro k x hk
    rw [List.getElem?_append_left (List.getElem?_eq_some_iff.mp hk).1]; exact hk
  have hPc : va_P D vwCl (zw u kA h) H := fun k x hk => hP k x (app hk)
  have hDc : va_D A (zw u kA h) := ⟨fun i j a b hi hj => hD.1 i j a b (app hi) (app hj), fun k x hk => hD.2 k x (app hk)⟩
  have hrc : ∃ cell : Cell, H[u 0]? = some cell ∧ cell.vm.isStatics = false ∧ s.vm.findClass (zm_y M').cls = some cell.cls := by
    rw [← hq2]; exact va_recv hK hPc hq (zw_at he)
  have hfree : ∀ q, va_A (zw u kA h) H.size q → A q := by
    intro q hq
    rcases hq with ⟨k, x, hk⟩ | hq
    · exact hDc.2 k _ hk
    · exact hA q (Nat.le_trans hS.1 hq)
  have hrun := va_runV (l := l) (e := e) (below := below) (meth := meth) (locs := locs) (cells := 60) (slots := 11469) (R := room_1) (C := (zm_y M').cls) (b := u 0) (As := As.map (zv u)) (rest := rest) (g := F0 m pc ls (As.reverse ++ .ref (u 0) :: rest)) ⟨hx, hb, hml, hown, hts⟩ (hM l D u kA H.size) ⟨zBL K hts, hts _ Kv.1, hts _ Kv.2⟩ ⟨zblind _ _ _ _ _ _, hrc, fun U hU hW => ⟨rfl, by rw [hU], by rw [hU]; exact hPc, va_K.moved hW.alike hK, hDc.weaken (fun _ _ _ _ => trivial)⟩⟩ rfl (by rw [List.length_map]; exact hn) hl (by rw [hAs]) (lv_room hr) d ⟨Nat.le_refl 60, Nat.le_refl 11469⟩
  intro T hT X
  obtain ⟨v, st₀, t, T', Lc, h0, X', hL, e1, e2, ⟨⟨r, h', hv, hqc, hP', hK', hD'⟩, hz, hk⟩, st⟩ := hrun T hT X
  cases hv
  rw [h0] at hz hk
  have hS' : va_S A s.heap T'.heap (locs ++ Lc) := ⟨Nat.le_trans hS.1 (by rw [e1]; exact hz), fun q h1 h2 => by rw [e1, hk q (Nat.lt_of_lt_of_le h1 hS.1) (fun z => h2 (hfree q z))]; exact hS.2.1 q h1 h2, fun q hq => by
      rcases List.mem_append.mp hq with h | h
      · exact hS.2.2 q h
      · exact hfree _ (hL q h)⟩
  obtain ⟨hP2, hD2⟩ := va_join (wr := B) (w1 := zw u kA h') hP hD isC isR hC hR hnd hdis hk hfree hP' hD'
  rw [← e1] at hP2
  obtain ⟨t2, a1, b1⟩ := kk r h' T'.heap (locs ++ Lc) hqc hP2 hD2 hS' T' rfl X'
  exact ⟨t2, st t2 a1, b1⟩

theorem rgX (u1 u2 : Nat → Nat) (kA : Nat → ClassId) (V E V' : zS) : (List.range 38).map (fun i => (zw u1 kA (hC V E) ++ zw u2 kA (hM V'))[i]?) = (zw u1 kA (hC V E)).map some ∧ ((List.range 22).map (fun i => 38 + i)).map (fun i => (zw u1 kA (hC V E) ++ zw u2 kA (hM V'))[i]?) = (zw u2 kA (hM V')).map some := by
  have a := rng_l (zw u1 kA (hC V E)) (zw u2 kA (hM V'))
  have b := rng_r (zw u1 kA (hC V E)) (zw u2 kA (hM V'))
  rw [zw_len] at a
  rw [zw_len, zw_len] at b
  exact ⟨a, b⟩
theorem rgM (u1 u2 : Nat → Nat) (kA : Nat → ClassId) (V E V' : zS) : (List.range 22).map (fun i => (zw u2 kA (hM V') ++ zw u1 kA (hC V E))[i]?) = (zw u2 kA (hM V')).map some ∧ ((List.range 38).map (fun i => 22 + i)).map (fun i => (zw u2 kA (hM V') ++ zw u1 kA (hC V E))[i]?) = (zw u1 kA (hC V E)).map some := by
  have a := rng_l (zw u2 kA (hM V')) (zw u1 kA (hC V E))
  have b := rng_r (zw u2 kA (hM V')) (zw u1 kA (hC V E))
  rw [zw_len] at a
  rw [zw_len, zw_len] at b
  exact ⟨a, b⟩

