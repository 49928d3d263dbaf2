/-! THE PURE MACHINE: heaps as lists of cells, references as places in the list; Wp: what the machine comes to from a frame; PM: a method's contract -/
/-- the words of the tables that hold at every moment -/
def zT : List Cond := lw_tbl.filter goodWord
theorem zT_in {w : Cond} (h : w ∈ lw_tbl) (g : goodWord w = true) : w ∈ zT := List.mem_filter.mpr ⟨h, g⟩
theorem zgood {w : Cond} (h : w ∈ zT) : goodWord w = true := (List.mem_filter.mp h).2
abbrev zm_I : Type := MethodName × ByteArray × Nat × Option FieldType × Nat × Nat
abbrev zm_y (M : zm_I) : MethodName := M.1
abbrev zm_c (M : zm_I) : ByteArray := M.2.1
abbrev zm_n (M : zm_I) : Nat := M.2.2.1
abbrev zm_r (M : zm_I) : Option FieldType := M.2.2.2.1
abbrev zm_R (M : zm_I) : Room := { frames := M.2.2.2.2.1, cells := 0, slots := 0, locals := M.2.2.2.2.2 }
def zm_w (M : zm_I) : List Cond := Cond.code (zm_y M) (zm_c M) (zm_n M) (zm_r M) :: zT
def zv (ad : Nat → Nat) : Value → Value
  | .ref k => .ref (ad k)
  | v => v
def za (ad : Nat → Nat) : vp_A → vp_A
  | (n, .inr (.inr (.inr (.inr f)))) => (n, .inr (.inr (.inr (.inr (fun j => (f j).map ad)))))
  | (n, .inl f) => (n, .inl f)
  | (n, .inr (.inl f)) => (n, .inr (.inl f))
  | (n, .inr (.inr (.inl f))) => (n, .inr (.inr (.inl f)))
  | (n, .inr (.inr (.inr (.inl f)))) => (n, .inr (.inr (.inr (.inl f))))
def ze (ad : Nat → Nat) (ca : Nat → ClassId) : va_E → va_E
  | .inl q => .inl (ca q.1, za ad q.2)
  | .inr q => .inr (q.1, q.2.map (zv ad))
abbrev zh : Type := List va_E
def zw (ad : Nat → Nat) (ca : Nat → ClassId) (h : zh) : va_W := h.mapIdx (fun k e => (ad k, ze ad ca e))
def zt (ca : Nat → ClassId) : List (ClassId × FieldType) := [(ca 0, .int), (ca 1, .boolean), (ca 2, .object "TurningPlans$Table"), (ca 3, .object "TurningPlans$Scan")]
theorem zv_cat (ad : Nat → Nat) (v : Value) : (zv ad v).category = v.category := by cases v <;> rfl
theorem zw_at {ad : Nat → Nat} {ca : Nat → ClassId} {h : zh} {k : Nat} {x : va_E} (he : h[k]? = some x) : (zw ad ca h)[k]? = some (ad k, ze ad ca x) := by
  unfold zw
  rw [List.getElem?_mapIdx, he]; rfl
theorem zw_set (ad : Nat → Nat) (ca : Nat → ClassId) (h : zh) (k : Nat) (x : va_E) : (zw ad ca h).set k (ad k, ze ad ca x) = zw ad ca (h.set k x) := by
  apply List.ext_getElem?
  intro i
  unfold zw
  rw [List.getElem?_mapIdx, List.getElem?_set, List.getElem?_set, List.length_mapIdx, List.getElem?_mapIdx]
  by_cases hk : k = i
  · subst hk
    simp only [if_true]
    by_cases hl : k < h.length <;> simp [hl]
  · simp [hk]
/-- the locals: 'null' says nothing of a place -/
def zl (ad : Nat → Nat) (ls : Array Slot) (n : Nat) (L : List Value) : Prop := ls.size = n ∧ lv_wf ls ∧ ∀ (i : Nat) (v : Value), L[i]? = some v → v ≠ .null → ls[i]? = some (.val (zv ad v))
def zls (ad : Nat → Nat) (L : List Value) : List (Nat × Value) := (List.range L.length).filterMap (fun (i : Nat) => match (L[i]? : Option Value) with
  | some Value.null => none
  | some v => some (i, zv ad v)
  | none => none)
theorem zls_mem {ad : Nat → Nat} {L : List Value} {i : Nat} {v : Value} (h : L[i]? = some v) (hn : v ≠ .null) : (i, zv ad v) ∈ zls ad L := by
  unfold zls
  rw [List.mem_filterMap]
  refine ⟨i, List.mem_range.mpr (List.getElem?_eq_some_iff.mp h).1, ?_⟩
  rw [h]
  cases v <;> first | rfl | exact absurd rfl hn
theorem zls_of {ad : Nat → Nat} {L : List Value} {q : Nat × Value} (h : q ∈ zls ad L) : ∃ v, L[q.1]? = some v ∧ v ≠ .null ∧ q.2 = zv ad v := by
  unfold zls at h
  obtain ⟨i, -, hi⟩ := List.mem_filterMap.mp h
  cases hL : L[i]? with
  | none => rw [hL] at hi; cases hi
  | some v =>
    rw [hL] at hi
    cases v <;> first | (cases hi; exact ⟨_, hL, (fun z => by cases z), rfl⟩) | cases hi
theorem zl_has {ad : Nat → Nat} {ls : Array Slot} {n : Nat} {L : List Value} (h : zl ad ls n L) : lv_has ls n (zls ad L) := by
  refine ⟨h.1, h.2.1, fun q hq => ?_⟩
  obtain ⟨v, h1, h2, h3⟩ := zls_of hq
  rw [h3]
  exact h.2.2 _ _ h1 h2
theorem zl_at {ad : Nat → Nat} {ls : Array Slot} {n : Nat} {L : List Value} (h : zl ad ls n L) {i : Nat} {v : Value} (hi : L[i]? = some v) (hn : v ≠ .null) : ls[i]? = some (.val (zv ad v)) := h.2.2 i v hi hn
theorem zl_put {ad : Nat → Nat} {ls' : Array Slot} {n : Nat} {L : List Value} {i : Nat} {v : Value} (hc : (L.getD (i - 1) .null).category = 1)
    (h : lv_has ls' n ((i, zv ad v) :: (zls ad L).filter (fun q => !(q.1 == i) && !(q.1 + 1 == i && q.2.category == 2)))) : zl ad ls' n (L.set i v) := by
  refine ⟨h.1, h.2.1, fun j w hj hw => ?_⟩
  by_cases hji : j = i
  · subst hji
    rw [List.getElem?_set] at hj
    simp only [if_true] at hj
    by_cases hl : j < L.length
    · simp only [hl, if_true] at hj
      cases hj
      exact h.2.2 (j, zv ad v) List.mem_cons_self
    · simp only [hl, if_false] at hj
      cases hj
  · rw [List.getElem?_set_ne (fun z => hji z.symm)] at hj
    refine h.2.2 (j, zv ad w) (List.mem_cons_of_mem _ (List.mem_filter.mpr ⟨zls_mem hj hw, ?_⟩))
    simp only [Bool.and_eq_true, Bool.not_eq_true', beq_eq_false_iff_ne, ne_eq, Bool.and_eq_false_iff, zv_cat]
    refine ⟨hji, ?_⟩
    by_cases hj1 : j + 1 = i
    · right
      have e1 : i - 1 = j := by omega
      rw [e1, List.getD_eq_getElem?_getD, hj] at hc
      simp only [Option.getD_some] at hc
      omega
    · exact Or.inl hj1
theorem zl_put2 {ad : Nat → Nat} {ls' : Array Slot} {n : Nat} {L : List Value} {i : Nat} {v : Value} (hc : (L.getD (i - 1) .null).category = 1)
    (h : lv_has ls' n ((i, zv ad v) :: (zls ad L).filter (fun q => !(q.1 == i) && (!(q.1 == i + 1) && !(q.1 + 1 == i && q.2.category == 2))))) : zl ad ls' n ((L.set i v).set (i + 1) .null) := by
  refine ⟨h.1, h.2.1, fun j w hj hw => ?_⟩
  by_cases hj2 : j = i + 1
  · subst hj2
    rw [List.getElem?_set] at hj
    simp only [if_true] at hj
    split at hj
    · cases hj; exact absurd rfl hw
    · cases hj
  rw [List.getElem?_set_ne (fun z => hj2 z.symm)] at hj
  by_cases hji : j = i
  · subst hji
    rw [List.getElem?_set] at hj
    simp only [if_true] at hj
    by_cases hl : j < L.length
    · simp only [hl, if_true] at hj
      cases hj
      exact h.2.2 (j, zv ad v) List.mem_cons_self
    · simp only [hl, if_false] at hj
      cases hj
  · rw [List.getElem?_set_ne (fun z => hji z.symm)] at hj
    refine h.2.2 (j, zv ad w) (List.mem_cons_of_mem _ (List.mem_filter.mpr ⟨zls_mem hj hw, ?_⟩))
    simp only [Bool.and_eq_true, Bool.not_eq_true', beq_eq_false_iff_ne, ne_eq, Bool.and_eq_false_iff, zv_cat]
    refine ⟨hji, hj2, ?_⟩
    by_cases hj1 : j + 1 = i
    · right
      have e1 : i - 1 = j := by omega
      rw [e1, List.getD_eq_getElem?_getD, hj] at hc
      simp only [Option.getD_some] at hc
      omega
    · exact Or.inl hj1
/-- what holds of the machine while a method runs -/
def zC (M : zm_I) (p : Program) (s : State) (m : MethodId) (args : Array Value) (meth : Method) (c : Code) (D : va_G) (ca : Nat → ClassId) (A : Nat → Prop) : Prop :=
  p.tables.exec = Jvm.exec ∧ c.code = zm_c M ∧ meth.sig.returnType = zm_r M ∧ c.maxLocals = zm_n M ∧ s.vm.findClass (zm_y M).cls = some m.cls ∧ meth.locks = false ∧ (∀ w ∈ zT, w.before args s = true) ∧ (∀ q, s.heap.size ≤ q → A q) ∧ va_K D vwCl (zt ca) s
def zH (s : State) (D : va_G) (ad : Nat → Nat) (ca : Nat → ClassId) (A : Nat → Prop) (h : zh) (H : Heap) (locs : List Loc) : Prop := va_P D vwCl (zw ad ca h) H ∧ va_D A (zw ad ca h) ∧ va_S A s.heap H locs
def zQ (D : va_G) (ad : Nat → Nat) (ca : Nat → ClassId) (A : Nat → Prop) (Q : Option Value → zh → Prop) : Array Value → State → Outcome → State → Prop := fun _ st oc t =>
  (∃ (r : Option Value) (h' : zh), oc = .returned (r.map (zv ad)) ∧ Q r h' ∧ va_P D vwCl (zw ad ca h') t.heap ∧ va_K D vwCl (zt ca) t ∧ va_D A (zw ad ca h')) ∧ va_F A st t
def Wp (M : zm_I) (Q : Option Value → zh → Prop) (pc : Nat) (L st : List Value) (h : zh) : Prop :=
  ∀ (p : Program) (l : Launch) (e : Env) (s : State) (m : MethodId) (args : Array Value) (below : List Frame) (meth : Method) (c : Code) (D : va_G) (ad : Nat → Nat) (ca : Nat → ClassId) (A : Nat → Prop) (H : Heap) (locs : List Loc) (ls : Array Slot),
    zC M p s m args meth c D ca A → zH s D ad ca A h H locs → zl ad ls (zm_n M) L → W p l e (zm_R M) s m args below meth c H locs 0 0 (MQ below (zQ D ad ca A Q) args s 0 0 A) (F0 m pc ls (st.map (zv ad)))
def zP (D : va_G) (ad : Nat → Nat) (ca : Nat → ClassId) (av : List Value) (h : zh) (sz : Nat) : Array Value → State → Prop := va_Pc (av.map (zv ad)) (fun U => U.heap.size = sz ∧ va_P D vwCl (zw ad ca h) U.heap ∧ va_K D vwCl (zt ca) U ∧ va_D (fun _ => True) (zw ad ca h))
/-- a method's contract: from these arguments and this heap it returns, and Q holds of its answer and of the heap then -/
def PM (M : zm_I) (av : List Value) (h : zh) (Q : Option Value → zh → Prop) : Prop :=
  ∀ (l : Launch) (D : va_G) (ad : Nat → Nat) (ca : Nat → ClassId) (sz : Nat), Met l (zm_y M) (zm_w M) (zm_R M) (zP D ad ca av h sz) (zQ D ad ca (va_A (zw ad ca h) sz) Q) 0 0 (va_A (zw ad ca h) sz)
def zent (n : Nat) (av : List Value) : List Value := av ++ List.replicate (n - av.length) .null
theorem zargs (ad : Nat → Nat) : ∀ (av : List Value) (i : Nat), (∀ v ∈ av, v.category = 1) → ∀ (j : Nat) (v : Value), av[j]? = some v → (i + j, zv ad v) ∈ lv_args i (av.map (zv ad))
  | [], _, _, j, v, h => by simp at h
  | a :: av, i, hc, j, v, h => by
    have ha : ¬ (zv ad a).category = 2 := by rw [zv_cat, hc a List.mem_cons_self]; decide
    simp only [List.map_cons, lv_args, if_neg ha]
    cases j with
    | zero =>
      simp only [List.getElem?_cons_zero, Option.some.injEq] at h
      subst h
      exact List.mem_cons_self
    | succ j =>
      rw [List.getElem?_cons_succ] at h
      have := zargs ad av (i + 1) (fun v hv => hc v (List.mem_cons_of_mem _ hv)) j v h
      rw [show i + (j + 1) = i + 1 + j by omega]
      exact List.mem_cons_of_mem _ this
theorem zsl_len : ∀ (av : List Value), (∀ v ∈ av, v.category = 1) → (lg_sl av).length = av.length
  | [], _ => rfl
  | a :: av, hc => by
    have ha : ¬ a.category = 2 := by rw [hc a List.mem_cons_self]; decide
    have := zsl_len av (fun v hv => hc v (List.mem_cons_of_mem _ hv))
    unfold lg_sl at this ⊢
    rw [List.flatMap_cons, List.length_append, this, if_neg ha]
    simp [Nat.add_comm]
/-- a contract out of its body -/
theorem PM.of {M : zm_I} {av : List Value} {h : zh} {Q : Option Value → zh → Prop} (hy : plainName (zm_y M).cls = true) (hc : ∀ v ∈ av, v.category = 1) (hn : av.length ≤ zm_n M) (k : Wp M Q 0 (zent (zm_n M) av) [] h) : PM M av h Q := by
  intro l D ad ca sz
  refine Met.ofW (cc := zm_c M) (maxL := zm_n M) (ret := zm_r M) hy rfl ?_
  intro p e s m args below meth c s₁ B hml hv
  obtain ⟨rfl, hsz, hP, hK, hD0⟩ := hv
  subst hsz
  have hts : ∀ w ∈ zT, w.before (av.map (zv ad)).toArray s = true := fun w hw => atoms_spec (ws := zm_w M) B.pre w (List.mem_cons_of_mem _ hw)
  have hcm : ∀ v ∈ av.map (zv ad), v.category = 1 := by
    intro v hv
    obtain ⟨w, h1, rfl⟩ := List.mem_map.mp hv
    rw [zv_cat]; exact hc w h1
  have hlen := zsl_len (av.map (zv ad)) hcm
  rw [List.length_map] at hlen
  have hl := lv_entry (av.map (zv ad)) (n := zm_n M) (by rw [hlen]; exact hn)
  rw [lg_entry_eq]
  refine k p l e s m _ below meth c D ad ca _ s.heap [] _ ⟨B.exec, B.bytes, B.returns, hml, findClass_of_methodNamed B.named, B.notSynchronized, hts, fun q h => Or.inr h, hK⟩ ⟨hP, hD0.self, va_S.rf⟩ ⟨hl.1, hl.2.1, fun i v hi hv => ?_⟩
  unfold zent at hi
  by_cases hil : i < av.length
  · rw [List.getElem?_append_left hil] at hi
    have := zargs ad av 0 hc i v hi
    rw [Nat.zero_add] at this
    exact hl.2.2 _ this
  · rw [List.getElem?_append_right (by omega)] at hi
    have := List.mem_of_getElem? hi
    exact absurd (List.eq_of_mem_replicate this) hv
theorem PM.mono {M : zm_I} {av : List Value} {h : zh} {Q Q' : Option Value → zh → Prop} (k : PM M av h Q) (hQ : ∀ r h', Q r h' → Q' r h') : PM M av h Q' := by
  intro l D ad ca sz
  intro p e ha hc hk s m args below hf hfit hpre hpos
  obtain ⟨t, o, h1, h2, h3, ⟨⟨⟨r, h', a1, a2, a3⟩, a4⟩, a5⟩⟩ := k l D ad ca sz p e ha hc hk s m args below hf hfit hpre hpos
  exact ⟨t, o, h1, h2, h3, ⟨⟨⟨r, h', a1, hQ r h' a2, a3⟩, a4⟩, a5⟩⟩
theorem Wp.mono {M : zm_I} {Q Q' : Option Value → zh → Prop} {pc : Nat} {L st : List Value} {h : zh} (k : Wp M Q pc L st h) (hQ : ∀ r h', Q r h' → Q' r h') : Wp M Q' pc L st h := by
  intro p l e s m args below meth c D ad ca A H locs ls C Hh hl T hT X
  obtain ⟨t, a1, o, b1, b2, ⟨⟨r, h', c1, c2, c3⟩, c4⟩, b4⟩ := k p l e s m args below meth c D ad ca A H locs ls C Hh hl T hT X
  exact ⟨t, a1, o, b1, b2, ⟨⟨r, h', c1, hQ r h' c2, c3⟩, c4⟩, b4⟩
