/-- n numbers of f from off on -/
def ca (n off : Nat) (f : Nat → Nat) : va_E := .inl (0, n, .inl (fun j => nI (if j < n then f (off + j) else 0)))
theorem ca_upd {n off : Nat} {f : Nat → Nat} {i x : Nat} (h : i < n) : (.inl (0, n, .inl (upd (fun j => nI (if j < n then f (off + j) else 0)) i (nI x))) : va_E) = ca n off (fun b => if b = off + i then x else f b) := by
  unfold ca
  have e : upd (fun j => nI (if j < n then f (off + j) else 0)) i (nI x) = fun j => nI (if j < n then (if off + j = off + i then x else f (off + j)) else 0) := by
    funext j
    simp only [upd]
    by_cases q : j = i
    · subst q; simp [h]
    · have q2 : ¬ off + j = off + i := by omega
      simp [q]
  rw [e]
theorem ca_o {n off : Nat} {f : Nat → Nat} {b x : Nat} (h : b < off ∨ off + n ≤ b) : ca n off (fun z => if z = b then x else f z) = ca n off f := by
  unfold ca
  have e : (fun j => nI (if j < n then (if off + j = b then x else f (off + j)) else 0)) = fun j => nI (if j < n then f (off + j) else 0) := by
    funext j
    by_cases q : j < n
    · have : ¬ off + j = b := by omega
      simp [q, this]
    · simp [q]
  rw [e]
theorem Wp.cald {M : zm_I} {Q : Option Value → zh → Prop} {pc pc2 : Nat} {L st : List Value} {h : zh} {a n off j : Nat} {f : Nat → Nat} (d : decode (zm_c M) pc = .ok (.iaload, 1)) (hp : pc + 1 = pc2) (ha : h[a]? = some (ca n off f)) (hj : j < n) (hn : n < 2 ^ 31) (k : Wp M Q pc2 L (.int (nI (f (off + j))) :: st) h) : Wp M Q pc L (.int (nI j) :: .ref a :: st) h := by
  refine Wp.ialdN d hp ha hj hn ?_
  simp only [hj, if_true]
  exact k
theorem Wp.cast {M : zm_I} {Q : Option Value → zh → Prop} {pc pc2 : Nat} {L st : List Value} {h : zh} {a n off j x : Nat} {f : Nat → Nat} (d : decode (zm_c M) pc = .ok (.iastore, 1)) (hp : pc + 1 = pc2) (ha : h[a]? = some (ca n off f)) (hj : j < n) (hn : n < 2 ^ 31) (k : Wp M Q pc2 L st (h.set a (ca n off (fun b => if b = off + j then x else f b)))) : Wp M Q pc L (.int (nI x) :: .int (nI j) :: .ref a :: st) h := by
  refine Wp.iastN d hp ha hj hn ?_
  rw [ca_upd hj]
  exact k
theorem Wp.calen {M : zm_I} {Q : Option Value → zh → Prop} {pc pc2 : Nat} {L st : List Value} {h : zh} {a n off : Nat} {f : Nat → Nat} (d : decode (zm_c M) pc = .ok (.arraylength, 1)) (hp : pc + 1 = pc2) (ha : h[a]? = some (ca n off f)) (k : Wp M Q pc2 L (.int (nI n) :: st) h) : Wp M Q pc L (.ref a :: st) h := Wp.alen d hp ha (by decide) k
def hC (V E : zS) : zh := [
  .inr (4, [.ref 1, .ref 2, .ref 3, .ref 4, .ref 5, .ref 6, .int (nI (V 0 10)), .int (zo (V 0 9)), .int (zo (V 0 29)), .int (nI (V 0 30)), .int (nI (V 0 31)), .int (nI (E 0 2)), .int (nI (E 0 0)), .int (nI (E 0 1))]),
  .inl (2, 2, .inr (.inr (.inr (.inr (fun j => if j = 0 then some 7 else if j = 1 then some 13 else none))))),
  .inl (3, 2, .inr (.inr (.inr (.inr (fun j => if j = 0 then some 19 else if j = 1 then some 27 else none))))),
  .inl (0, 2, .inl (fun j => nI (V 8 j))),
  .inr (0, [.ref 35, .int (nI (V 0 8)), .int (nI (V 0 23)), .int (nI (V 0 28))]),
  .inr (1, [.ref 36, .ref 37, .int (nI (V 0 26))]),
  .inl (0, 100, .inl (fun j => nI (E 6 j))),
  .inr (3, [.ref 8, .ref 9, .ref 10, .ref 11, .ref 12, .int (nI (V 1 0)), .int (nI (V 3 0))]),
  ca 150 0 (V 2),
  ca 4 0 (V 4),
  ca 4 0 (V 5),
  ca 4 0 (V 6),
  ca 4 0 (V 7),
  .inr (3, [.ref 14, .ref 15, .ref 16, .ref 17, .ref 18, .int (nI (V 1 1)), .int (nI (V 3 1))]),
  ca 150 150 (V 2),
  ca 4 4 (V 4),
  ca 4 4 (V 5),
  ca 4 4 (V 6),
  ca 4 4 (V 7),
  .inr (2, [.ref 7, .ref 20, .ref 21, .ref 22, .ref 23, .ref 24, .ref 25, .ref 26, .int (nI (V 9 0)), .int (nI (V 12 0)), .int (nI (V 10 0)), .int (nI (V 15 0)), .int (nI (V 17 0))]),
  ca 50 0 (V 18),
  ca 4 0 (V 13),
  ca 4 0 (V 14),
  .inl (0, 4, .inl (fun j => nI (E 23 j))),
  .inl (0, 4, .inl (fun j => nI (E 24 j))),
  .inl (0, 50, .inl (fun j => nI (E 25 j))),
  .inl (0, 16, .inl (fun j => nI (E 26 j))),
  .inr (2, [.ref 13, .ref 28, .ref 29, .ref 30, .ref 31, .ref 32, .ref 33, .ref 34, .int (nI (V 9 1)), .int (nI (V 12 1)), .int (nI (V 10 1)), .int (nI (V 15 1)), .int (nI (V 17 1))]),
  ca 50 50 (V 18),
  ca 4 4 (V 13),
  ca 4 4 (V 14),
  .inl (0, 4, .inl (fun j => nI (E 31 j))),
  .inl (0, 4, .inl (fun j => nI (E 32 j))),
  .inl (0, 50, .inl (fun j => nI (E 33 j))),
  .inl (0, 16, .inl (fun j => nI (E 34 j))),
  .inl (0, 100, .inl (fun j => nI (V 22 j))),
  .inl (0, 2500, .inl (fun j => nI (V 21 j))),
  .inl (1, 2500, .inl (fun j => nI (V 20 j)))]
theorem hC_o0_6 (V E : zS) (x : Nat) : (hC V E).set 0 (.inr (4, ([.ref 1, .ref 2, .ref 3, .ref 4, .ref 5, .ref 6, .int (nI (V 0 10)), .int (zo (V 0 9)), .int (zo (V 0 29)), .int (nI (V 0 30)), .int (nI (V 0 31)), .int (nI (E 0 2)), .int (nI (E 0 0)), .int (nI (E 0 1))] : List Value).set 6 (.int (nI x)))) = hC (vs V 0 10 x) E := rfl
theorem hC_o0_7 (V E : zS) (x : Nat) : (hC V E).set 0 (.inr (4, ([.ref 1, .ref 2, .ref 3, .ref 4, .ref 5, .ref 6, .int (nI (V 0 10)), .int (zo (V 0 9)), .int (zo (V 0 29)), .int (nI (V 0 30)), .int (nI (V 0 31)), .int (nI (E 0 2)), .int (nI (E 0 0)), .int (nI (E 0 1))] : List Value).set 7 (.int (zo x)))) = hC (vs V 0 9 x) E := rfl
theorem hC_o0_8 (V E : zS) (x : Nat) : (hC V E).set 0 (.inr (4, ([.ref 1, .ref 2, .ref 3, .ref 4, .ref 5, .ref 6, .int (nI (V 0 10)), .int (zo (V 0 9)), .int (zo (V 0 29)), .int (nI (V 0 30)), .int (nI (V 0 31)), .int (nI (E 0 2)), .int (nI (E 0 0)), .int (nI (E 0 1))] : List Value).set 8 (.int (zo x)))) = hC (vs V 0 29 x) E := rfl
theorem hC_o0_9 (V E : zS) (x : Nat) : (hC V E).set 0 (.inr (4, ([.ref 1, .ref 2, .ref 3, .ref 4, .ref 5, .ref 6, .int (nI (V 0 10)), .int (zo (V 0 9)), .int (zo (V 0 29)), .int (nI (V 0 30)), .int (nI (V 0 31)), .int (nI (E 0 2)), .int (nI (E 0 0)), .int (nI (E 0 1))] : List Value).set 9 (.int (nI x)))) = hC (vs V 0 30 x) E := rfl
theorem hC_o0_10 (V E : zS) (x : Nat) : (hC V E).set 0 (.inr (4, ([.ref 1, .ref 2, .ref 3, .ref 4, .ref 5, .ref 6, .int (nI (V 0 10)), .int (zo (V 0 9)), .int (zo (V 0 29)), .int (nI (V 0 30)), .int (nI (V 0 31)), .int (nI (E 0 2)), .int (nI (E 0 0)), .int (nI (E 0 1))] : List Value).set 10 (.int (nI x)))) = hC (vs V 0 31 x) E := rfl
theorem hC_o0_11 (V E : zS) (x : Nat) : (hC V E).set 0 (.inr (4, ([.ref 1, .ref 2, .ref 3, .ref 4, .ref 5, .ref 6, .int (nI (V 0 10)), .int (zo (V 0 9)), .int (zo (V 0 29)), .int (nI (V 0 30)), .int (nI (V 0 31)), .int (nI (E 0 2)), .int (nI (E 0 0)), .int (nI (E 0 1))] : List Value).set 11 (.int (nI x)))) = hC V (vs E 0 2 x) := rfl
theorem hC_o0_12 (V E : zS) (x : Nat) : (hC V E).set 0 (.inr (4, ([.ref 1, .ref 2, .ref 3, .ref 4, .ref 5, .ref 6, .int (nI (V 0 10)), .int (zo (V 0 9)), .int (zo (V 0 29)), .int (nI (V 0 30)), .int (nI (V 0 31)), .int (nI (E 0 2)), .int (nI (E 0 0)), .int (nI (E 0 1))] : List Value).set 12 (.int (nI x)))) = hC V (vs E 0 0 x) := rfl
theorem hC_o0_13 (V E : zS) (x : Nat) : (hC V E).set 0 (.inr (4, ([.ref 1, .ref 2, .ref 3, .ref 4, .ref 5, .ref 6, .int (nI (V 0 10)), .int (zo (V 0 9)), .int (zo (V 0 29)), .int (nI (V 0 30)), .int (nI (V 0 31)), .int (nI (E 0 2)), .int (nI (E 0 0)), .int (nI (E 0 1))] : List Value).set 13 (.int (nI x)))) = hC V (vs E 0 1 x) := rfl
theorem hC_a3 (V E : zS) (i x : Nat) : (hC V E).set 3 (.inl (0, 2, .inl (upd (fun j => nI (V 8 j)) i (nI x)))) = hC (vs V 8 i x) E := by rw [upd_vs]; rfl
theorem hC_o4_1 (V E : zS) (x : Nat) : (hC V E).set 4 (.inr (0, ([.ref 35, .int (nI (V 0 8)), .int (nI (V 0 23)), .int (nI (V 0 28))] : List Value).set 1 (.int (nI x)))) = hC (vs V 0 8 x) E := rfl
theorem hC_o4_2 (V E : zS) (x : Nat) : (hC V E).set 4 (.inr (0, ([.ref 35, .int (nI (V 0 8)), .int (nI (V 0 23)), .int (nI (V 0 28))] : List Value).set 2 (.int (nI x)))) = hC (vs V 0 23 x) E := rfl
theorem hC_o4_3 (V E : zS) (x : Nat) : (hC V E).set 4 (.inr (0, ([.ref 35, .int (nI (V 0 8)), .int (nI (V 0 23)), .int (nI (V 0 28))] : List Value).set 3 (.int (nI x)))) = hC (vs V 0 28 x) E := rfl
theorem hC_o5_2 (V E : zS) (x : Nat) : (hC V E).set 5 (.inr (1, ([.ref 36, .ref 37, .int (nI (V 0 26))] : List Value).set 2 (.int (nI x)))) = hC (vs V 0 26 x) E := rfl
theorem hC_a6 (V E : zS) (i x : Nat) : (hC V E).set 6 (.inl (0, 100, .inl (upd (fun j => nI (E 6 j)) i (nI x)))) = hC V (vs E 6 i x) := by rw [upd_vs]; rfl
theorem hC_o7_5 (V E : zS) (x : Nat) : (hC V E).set 7 (.inr (3, ([.ref 8, .ref 9, .ref 10, .ref 11, .ref 12, .int (nI (V 1 0)), .int (nI (V 3 0))] : List Value).set 5 (.int (nI x)))) = hC (vs V 1 0 x) E := rfl
theorem hC_o7_6 (V E : zS) (x : Nat) : (hC V E).set 7 (.inr (3, ([.ref 8, .ref 9, .ref 10, .ref 11, .ref 12, .int (nI (V 1 0)), .int (nI (V 3 0))] : List Value).set 6 (.int (nI x)))) = hC (vs V 3 0 x) E := rfl
theorem hC_a8 (V E : zS) (i x : Nat) (h : i < 150) : (hC V E).set 8 (ca 150 0 (fun b => if b = 0 + i then x else V 2 b)) = hC (vs V 2 (0 + i) x) E := by
  have e2 : ca 150 150 (V 2) = ca 150 150 (vs V 2 (0 + i) x 2) := (ca_o (f := V 2) (b := 0 + i) (x := x) (by omega)).symm
  unfold hC
  rw [e2]
  rfl
theorem hC_a9 (V E : zS) (i x : Nat) (h : i < 4) : (hC V E).set 9 (ca 4 0 (fun b => if b = 0 + i then x else V 4 b)) = hC (vs V 4 (0 + i) x) E := by
  have e2 : ca 4 4 (V 4) = ca 4 4 (vs V 4 (0 + i) x 4) := (ca_o (f := V 4) (b := 0 + i) (x := x) (by omega)).symm
  unfold hC
  rw [e2]
  rfl
theorem hC_a10 (V E : zS) (i x : Nat) (h : i < 4) : (hC V E).set 10 (ca 4 0 (fun b => if b = 0 + i then x else V 5 b)) = hC (vs V 5 (0 + i) x) E := by
  have e2 : ca 4 4 (V 5) = ca 4 4 (vs V 5 (0 + i) x 5) := (ca_o (f := V 5) (b := 0 + i) (x := x) (by omega)).symm
  unfold hC
  rw [e2]
  rfl
theorem hC_a11 (V E : zS) (i x : Nat) (h : i < 4) : (hC V E).set 11 (ca 4 0 (fun b => if b = 0 + i then x else V 6 b)) = hC (vs V 6 (0 + i) x) E := by
  have e2 : ca 4 4 (V 6) = ca 4 4 (vs V 6 (0 + i) x 6) := (ca_o (f := V 6) (b := 0 + i) (x := x) (by omega)).symm
  unfold hC
  rw [e2]
  rfl
theorem hC_a12 (V E : zS) (i x : Nat) (h : i < 4) : (hC V E).set 12 (ca 4 0 (fun b => if b = 0 + i then x else V 7 b)) = hC (vs V 7 (0 + i) x) E := by
  have e2 : ca 4 4 (V 7) = ca 4 4 (vs V 7 (0 + i) x 7) := (ca_o (f := V 7) (b := 0 + i) (x := x) (by omega)).symm
  unfold hC
  rw [e2]
  rfl
theorem hC_o13_5 (V E : zS) (x : Nat) : (hC V E).set 13 (.inr (3, ([.ref 14, .ref 15, .ref 16, .ref 17, .ref 18, .int (nI (V 1 1)), .int (nI (V 3 1))] : List Value).set 5 (.int (nI x)))) = hC (vs V 1 1 x) E := rfl
theorem hC_o13_6 (V E : zS) (x : Nat) : (hC V E).set 13 (.inr (3, ([.ref 14, .ref 15, .ref 16, .ref 17, .ref 18, .int (nI (V 1 1)), .int (nI (V 3 1))] : List Value).set 6 (.int (nI x)))) = hC (vs V 3 1 x) E := rfl
theorem hC_a14 (V E : zS) (i x : Nat) (h : i < 150) : (hC V E).set 14 (ca 150 150 (fun b => if b = 150 + i then x else V 2 b)) = hC (vs V 2 (150 + i) x) E := by
  have e2 : ca 150 0 (V 2) = ca 150 0 (vs V 2 (150 + i) x 2) := (ca_o (f := V 2) (b := 150 + i) (x := x) (by omega)).symm
  unfold hC
  rw [e2]
  rfl
theorem hC_a15 (V E : zS) (i x : Nat) (h : i < 4) : (hC V E).set 15 (ca 4 4 (fun b => if b = 4 + i then x else V 4 b)) = hC (vs V 4 (4 + i) x) E := by
  have e2 : ca 4 0 (V 4) = ca 4 0 (vs V 4 (4 + i) x 4) := (ca_o (f := V 4) (b := 4 + i) (x := x) (by omega)).symm
  unfold hC
  rw [e2]
  rfl
theorem hC_a16 (V E : zS) (i x : Nat) (h : i < 4) : (hC V E).set 16 (ca 4 4 (fun b => if b = 4 + i then x else V 5 b)) = hC (vs V 5 (4 + i) x) E := by
  have e2 : ca 4 0 (V 5) = ca 4 0 (vs V 5 (4 + i) x 5) := (ca_o (f := V 5) (b := 4 + i) (x := x) (by omega)).symm
  unfold hC
  rw [e2]
  rfl
theorem hC_a17 (V E : zS) (i x : Nat) (h : i < 4) : (hC V E).set 17 (ca 4 4 (fun b => if b = 4 + i then x else V 6 b)) = hC (vs V 6 (4 + i) x) E := by
  have e2 : ca 4 0 (V 6) = ca 4 0 (vs V 6 (4 + i) x 6) := (ca_o (f := V 6) (b := 4 + i) (x := x) (by omega)).symm
  unfold hC
  rw [e2]
  rfl
theorem hC_a18 (V E : zS) (i x : Nat) (h : i < 4) : (hC V E).set 18 (ca 4 4 (fun b => if b = 4 + i then x else V 7 b)) = hC (vs V 7 (4 + i) x) E := by
  have e2 : ca 4 0 (V 7) = ca 4 0 (vs V 7 (4 + i) x 7) := (ca_o (f := V 7) (b := 4 + i) (x := x) (by omega)).symm
  unfold hC
  rw [e2]
  rfl
theorem hC_o19_8 (V E : zS) (x : Nat) : (hC V E).set 19 (.inr (2, ([.ref 7, .ref 20, .ref 21, .ref 22, .ref 23, .ref 24, .ref 25, .ref 26, .int (nI (V 9 0)), .int (nI (V 12 0)), .int (nI (V 10 0)), .int (nI (V 15 0)), .int (nI (V 17 0))] : List Value).set 8 (.int (nI x)))) = hC (vs V 9 0 x) E := rfl
theorem hC_o19_9 (V E : zS) (x : Nat) : (hC V E).set 19 (.inr (2, ([.ref 7, .ref 20, .ref 21, .ref 22, .ref 23, .ref 24, .ref 25, .ref 26, .int (nI (V 9 0)), .int (nI (V 12 0)), .int (nI (V 10 0)), .int (nI (V 15 0)), .int (nI (V 17 0))] : List Value).set 9 (.int (nI x)))) = hC (vs V 12 0 x) E := rfl
theorem hC_o19_10 (V E : zS) (x : Nat) : (hC V E).set 19 (.inr (2, ([.ref 7, .ref 20, .ref 21, .ref 22, .ref 23, .ref 24, .ref 25, .ref 26, .int (nI (V 9 0)), .int (nI (V 12 0)), .int (nI (V 10 0)), .int (nI (V 15 0)), .int (nI (V 17 0))] : List Value).set 10 (.int (nI x)))) = hC (vs V 10 0 x) E := rfl
theorem hC_o19_11 (V E : zS) (x : Nat) : (hC V E).set 19 (.inr (2, ([.ref 7, .ref 20, .ref 21, .ref 22, .ref 23, .ref 24, .ref 25, .ref 26, .int (nI (V 9 0)), .int (nI (V 12 0)), .int (nI (V 10 0)), .int (nI (V 15 0)), .int (nI (V 17 0))] : List Value).set 11 (.int (nI x)))) = hC (vs V 15 0 x) E := rfl
theorem hC_o19_12 (V E : zS) (x : Nat) : (hC V E).set 19 (.inr (2, ([.ref 7, .ref 20, .ref 21, .ref 22, .ref 23, .ref 24, .ref 25, .ref 26, .int (nI (V 9 0)), .int (nI (V 12 0)), .int (nI (V 10 0)), .int (nI (V 15 0)), .int (nI (V 17 0))] : List Value).set 12 (.int (nI x)))) = hC (vs V 17 0 x) E := rfl
theorem hC_a20 (V E : zS) (i x : Nat) (h : i < 50) : (hC V E).set 20 (ca 50 0 (fun b => if b = 0 + i then x else V 18 b)) = hC (vs V 18 (0 + i) x) E := by
  have e2 : ca 50 50 (V 18) = ca 50 50 (vs V 18 (0 + i) x 18) := (ca_o (f := V 18) (b := 0 + i) (x := x) (by omega)).symm
  unfold hC
  rw [e2]
  rfl
theorem hC_a21 (V E : zS) (i x : Nat) (h : i < 4) : (hC V E).set 21 (ca 4 0 (fun b => if b = 0 + i then x else V 13 b)) = hC (vs V 13 (0 + i) x) E := by
  have e2 : ca 4 4 (V 13) = ca 4 4 (vs V 13 (0 + i) x 13) := (ca_o (f := V 13) (b := 0 + i) (x := x) (by omega)).symm
  unfold hC
  rw [e2]
  rfl
theorem hC_a22 (V E : zS) (i x : Nat) (h : i < 4) : (hC V E).set 22 (ca 4 0 (fun b => if b = 0 + i then x else V 14 b)) = hC (vs V 14 (0 + i) x) E := by
  have e2 : ca 4 4 (V 14) = ca 4 4 (vs V 14 (0 + i) x 14) := (ca_o (f := V 14) (b := 0 + i) (x := x) (by omega)).symm
  unfold hC
  rw [e2]
  rfl
theorem hC_a23 (V E : zS) (i x : Nat) : (hC V E).set 23 (.inl (0, 4, .inl (upd (fun j => nI (E 23 j)) i (nI x)))) = hC V (vs E 23 i x) := by rw [upd_vs]; rfl
theorem hC_a24 (V E : zS) (i x : Nat) : (hC V E).set 24 (.inl (0, 4, .inl (upd (fun j => nI (E 24 j)) i (nI x)))) = hC V (vs E 24 i x) := by rw [upd_vs]; rfl
theorem hC_a25 (V E : zS) (i x : Nat) : (hC V E).set 25 (.inl (0, 50, .inl (upd (fun j => nI (E 25 j)) i (nI x)))) = hC V (vs E 25 i x) := by rw [upd_vs]; rfl
theorem hC_a26 (V E : zS) (i x : Nat) : (hC V E).set 26 (.inl (0, 16, .inl (upd (fun j => nI (E 26 j)) i (nI x)))) = hC V (vs E 26 i x) := by rw [upd_vs]; rfl
theorem hC_o27_8 (V E : zS) (x : Nat) : (hC V E).set 27 (.inr (2, ([.ref 13, .ref 28, .ref 29, .ref 30, .ref 31, .ref 32, .ref 33, .ref 34, .int (nI (V 9 1)), .int (nI (V 12 1)), .int (nI (V 10 1)), .int (nI (V 15 1)), .int (nI (V 17 1))] : List Value).set 8 (.int (nI x)))) = hC (vs V 9 1 x) E := rfl
theorem hC_o27_9 (V E : zS) (x : Nat) : (hC V E).set 27 (.inr (2, ([.ref 13, .ref 28, .ref 29, .ref 30, .ref 31, .ref 32, .ref 33, .ref 34, .int (nI (V 9 1)), .int (nI (V 12 1)), .int (nI (V 10 1)), .int (nI (V 15 1)), .int (nI (V 17 1))] : List Value).set 9 (.int (nI x)))) = hC (vs V 12 1 x) E := rfl
theorem hC_o27_10 (V E : zS) (x : Nat) : (hC V E).set 27 (.inr (2, ([.ref 13, .ref 28, .ref 29, .ref 30, .ref 31, .ref 32, .ref 33, .ref 34, .int (nI (V 9 1)), .int (nI (V 12 1)), .int (nI (V 10 1)), .int (nI (V 15 1)), .int (nI (V 17 1))] : List Value).set 10 (.int (nI x)))) = hC (vs V 10 1 x) E := rfl
theorem hC_o27_11 (V E : zS) (x : Nat) : (hC V E).set 27 (.inr (2, ([.ref 13, .ref 28, .ref 29, .ref 30, .ref 31, .ref 32, .ref 33, .ref 34, .int (nI (V 9 1)), .int (nI (V 12 1)), .int (nI (V 10 1)), .int (nI (V 15 1)), .int (nI (V 17 1))] : List Value).set 11 (.int (nI x)))) = hC (vs V 15 1 x) E := rfl
theorem hC_o27_12 (V E : zS) (x : Nat) : (hC V E).set 27 (.inr (2, ([.ref 13, .ref 28, .ref 29, .ref 30, .ref 31, .ref 32, .ref 33, .ref 34, .int (nI (V 9 1)), .int (nI (V 12 1)), .int (nI (V 10 1)), .int (nI (V 15 1)), .int (nI (V 17 1))] : List Value).set 12 (.int (nI x)))) = hC (vs V 17 1 x) E := rfl
theorem hC_a28 (V E : zS) (i x : Nat) (h : i < 50) : (hC V E).set 28 (ca 50 50 (fun b => if b = 50 + i then x else V 18 b)) = hC (vs V 18 (50 + i) x) E := by
  have e2 : ca 50 0 (V 18) = ca 50 0 (vs V 18 (50 + i) x 18) := (ca_o (f := V 18) (b := 50 + i) (x := x) (by omega)).symm
  unfold hC
  rw [e2]
  rfl
theorem hC_a29 (V E : zS) (i x : Nat) (h : i < 4) : (hC V E).set 29 (ca 4 4 (fun b => if b = 4 + i then x else V 13 b)) = hC (vs V 13 (4 + i) x) E := by
  have e2 : ca 4 0 (V 13) = ca 4 0 (vs V 13 (4 + i) x 13) := (ca_o (f := V 13) (b := 4 + i) (x := x) (by omega)).symm
  unfold hC
  rw [e2]
  rfl
theorem hC_a30 (V E : zS) (i x : Nat) (h : i < 4) : (hC V E).set 30 (ca 4 4 (fun b => if b = 4 + i then x else V 14 b)) = hC (vs V 14 (4 + i) x) E := by
  have e2 : ca 4 0 (V 14) = ca 4 0 (vs V 14 (4 + i) x 14) := (ca_o (f := V 14) (b := 4 + i) (x := x) (by omega)).symm
  unfold hC
  rw [e2]
  rfl
theorem hC_a31 (V E : zS) (i x : Nat) : (hC V E).set 31 (.inl (0, 4, .inl (upd (fun j => nI (E 31 j)) i (nI x)))) = hC V (vs E 31 i x) := by rw [upd_vs]; rfl
theorem hC_a32 (V E : zS) (i x : Nat) : (hC V E).set 32 (.inl (0, 4, .inl (upd (fun j => nI (E 32 j)) i (nI x)))) = hC V (vs E 32 i x) := by rw [upd_vs]; rfl
theorem hC_a33 (V E : zS) (i x : Nat) : (hC V E).set 33 (.inl (0, 50, .inl (upd (fun j => nI (E 33 j)) i (nI x)))) = hC V (vs E 33 i x) := by rw [upd_vs]; rfl
theorem hC_a34 (V E : zS) (i x : Nat) : (hC V E).set 34 (.inl (0, 16, .inl (upd (fun j => nI (E 34 j)) i (nI x)))) = hC V (vs E 34 i x) := by rw [upd_vs]; rfl
theorem hC_a35 (V E : zS) (i x : Nat) : (hC V E).set 35 (.inl (0, 100, .inl (upd (fun j => nI (V 22 j)) i (nI x)))) = hC (vs V 22 i x) E := by rw [upd_vs]; rfl
theorem hC_a36 (V E : zS) (i x : Nat) : (hC V E).set 36 (.inl (0, 2500, .inl (upd (fun j => nI (V 21 j)) i (nI x)))) = hC (vs V 21 i x) E := by rw [upd_vs]; rfl
theorem hC_a37 (V E : zS) (i x : Nat) : (hC V E).set 37 (.inl (1, 2500, .inl (upd (fun j => nI (V 20 j)) i (nI x)))) = hC (vs V 20 i x) E := by rw [upd_vs]; rfl
