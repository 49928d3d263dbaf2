/-- the numbers of a picture: cell k, place i -/
def vs (V : Nat → Nat → Nat) (k i x : Nat) : Nat → Nat → Nat := fun a b => if a = k then (if b = i then x else V a b) else V a b
/-- a number that may be -1: 0 stands for it -/
def zo (n : Nat) : Int32 := nI n - 1
theorem upd_vs (V : Nat → Nat → Nat) (k i x : Nat) : upd (fun j => nI (V k j)) i (nI x) = fun j => nI (vs V k i x k j) := by
  funext j
  simp only [upd, vs, if_true]
  by_cases h : j = i <;> simp [h]
theorem Wp.heq {M : zm_I} {Q : Option Value → zh → Prop} {pc : Nat} {L st : List Value} {h h' : zh} (e : h = h') (k : Wp M Q pc L st h') : Wp M Q pc L st h := e ▸ k
theorem Wp.leq {M : zm_I} {Q : Option Value → zh → Prop} {pc : Nat} {L L' st : List Value} {h : zh} (e : L = L') (k : Wp M Q pc L' st h) : Wp M Q pc L st h := e ▸ k
theorem Wp.iaddN {M : zm_I} {Q : Option Value → zh → Prop} {pc pc2 : Nat} {L st : List Value} {h : zh} {a b : Nat} (d : decode (zm_c M) pc = .ok (.iadd, 1)) (hp : pc + 1 = pc2) (k : Wp M Q pc2 L (.int (nI (a + b)) :: st) h) : Wp M Q pc L (.int (nI b) :: .int (nI a) :: st) h := Wp.iadd d hp (Wp.top _ (nI_add a b) k)
theorem Wp.imulN {M : zm_I} {Q : Option Value → zh → Prop} {pc pc2 : Nat} {L st : List Value} {h : zh} {a b : Nat} (d : decode (zm_c M) pc = .ok (.imul, 1)) (hp : pc + 1 = pc2) (k : Wp M Q pc2 L (.int (nI (a * b)) :: st) h) : Wp M Q pc L (.int (nI b) :: .int (nI a) :: st) h := Wp.imul d hp (Wp.top _ (pk_mul a b) k)
theorem Wp.isubN {M : zm_I} {Q : Option Value → zh → Prop} {pc pc2 : Nat} {L st : List Value} {h : zh} {a b : Nat} (d : decode (zm_c M) pc = .ok (.isub, 1)) (hp : pc + 1 = pc2) (hb : b ≤ a) (k : Wp M Q pc2 L (.int (nI (a - b)) :: st) h) : Wp M Q pc L (.int (nI b) :: .int (nI a) :: st) h := Wp.isub d hp (Wp.top _ (pk_sub hb) k)
theorem nI_ne {b : Nat} (h0 : 0 < b) (hb : b < 2 ^ 31) : ¬ nI b = 0 := nI_ne0 h0 hb
theorem Wp.idivN {M : zm_I} {Q : Option Value → zh → Prop} {pc pc2 : Nat} {L st : List Value} {h : zh} {a b : Nat} (d : decode (zm_c M) pc = .ok (.idiv, 1)) (hp : pc + 1 = pc2) (ha : a < 2 ^ 31) (h0 : 0 < b) (hb : b < 2 ^ 31) (k : Wp M Q pc2 L (.int (nI (a / b)) :: st) h) : Wp M Q pc L (.int (nI b) :: .int (nI a) :: st) h := Wp.idiv d hp (nI_ne h0 hb) (Wp.top _ (pk_div ha h0 hb) k)
theorem Wp.iremN {M : zm_I} {Q : Option Value → zh → Prop} {pc pc2 : Nat} {L st : List Value} {h : zh} {a b : Nat} (d : decode (zm_c M) pc = .ok (.irem, 1)) (hp : pc + 1 = pc2) (ha : a < 2 ^ 31) (h0 : 0 < b) (hb : b < 2 ^ 31) (k : Wp M Q pc2 L (.int (nI (a % b)) :: st) h) : Wp M Q pc L (.int (nI b) :: .int (nI a) :: st) h := Wp.irem d hp (nI_ne h0 hb) (Wp.top _ (pk_rem ha h0 hb) k)
theorem Wp.iincN {M : zm_I} {Q : Option Value → zh → Prop} {pc pc2 : Nat} {L st : List Value} {h : zh} {i a : Nat} (d : decode (zm_c M) pc = .ok (.iinc i 1, 3)) (hp : pc + 3 = pc2) (hL : L[i]? = some (.int (nI a))) (hn : i < zm_n M) (hc : (L.getD (i - 1) .null).category = 1) (k : Wp M Q pc2 (L.set i (.int (nI (a + 1)))) st h) : Wp M Q pc L st h := Wp.iinc d hp hL (nI (a + 1)) (by rw [nI_succ]; rfl) hn hc k
theorem Wp.iconN {M : zm_I} {Q : Option Value → zh → Prop} {pc pc2 : Nat} {L st : List Value} {h : zh} (n : Nat) (d : decode (zm_c M) pc = .ok (.iconst (Int.ofNat n), 1)) (hp : pc + 1 = pc2) (k : Wp M Q pc2 L (.int (nI n) :: st) h) : Wp M Q pc L st h := Wp.icon d hp (nI n) (by show Int32.ofInt (n : Int) = nI n; rw [Int32.ofInt_eq_ofNat]; rfl) k
theorem Wp.bipN {M : zm_I} {Q : Option Value → zh → Prop} {pc pc2 : Nat} {L st : List Value} {h : zh} (n : Nat) (d : decode (zm_c M) pc = .ok (.bipush (Int.ofNat n), 2)) (hp : pc + 2 = pc2) (hn : (Int8.ofInt (Int.ofNat n)).toInt32 = nI n) (k : Wp M Q pc2 L (.int (nI n) :: st) h) : Wp M Q pc L st h := Wp.bipush d hp (nI n) hn k
theorem Wp.sipN {M : zm_I} {Q : Option Value → zh → Prop} {pc pc2 : Nat} {L st : List Value} {h : zh} (n : Nat) (d : decode (zm_c M) pc = .ok (.sipush (Int.ofNat n), 3)) (hp : pc + 3 = pc2) (hn : (Int16.ofInt (Int.ofNat n)).toInt32 = nI n) (k : Wp M Q pc2 L (.int (nI n) :: st) h) : Wp M Q pc L st h := Wp.sipush d hp (nI n) hn k
theorem Wp.icmpN_eq {M : zm_I} {Q : Option Value → zh → Prop} {pc pc2 : Nat} {L st : List Value} {h : zh} {a b : Nat} {off : Int} (tgt : Nat) (d : decode (zm_c M) pc = .ok (.if_icmp .eq off, 3)) (hp : pc + 3 = pc2) (ht : (pc : Int) + off = (tgt : Int)) (ha : a < 2 ^ 31) (hb : b < 2 ^ 31) (kt : a = b → Wp M Q tgt L st h) (kf : a ≠ b → Wp M Q pc2 L st h) : Wp M Q pc L (.int (nI b) :: .int (nI a) :: st) h := Wp.icmp_eq tgt d hp ht (fun z => kt ((nI_eq ha hb).mp z)) (fun z => kf (fun q => z ((nI_eq ha hb).mpr q)))
theorem Wp.icmpN_ne {M : zm_I} {Q : Option Value → zh → Prop} {pc pc2 : Nat} {L st : List Value} {h : zh} {a b : Nat} {off : Int} (tgt : Nat) (d : decode (zm_c M) pc = .ok (.if_icmp .ne off, 3)) (hp : pc + 3 = pc2) (ht : (pc : Int) + off = (tgt : Int)) (ha : a < 2 ^ 31) (hb : b < 2 ^ 31) (kt : a ≠ b → Wp M Q tgt L st h) (kf : a = b → Wp M Q pc2 L st h) : Wp M Q pc L (.int (nI b) :: .int (nI a) :: st) h := Wp.icmp_ne tgt d hp ht (fun z => kt (fun q => z ((nI_eq ha hb).mpr q))) (fun z => kf ((nI_eq ha hb).mp z))
theorem Wp.icmpN_lt {M : zm_I} {Q : Option Value → zh → Prop} {pc pc2 : Nat} {L st : List Value} {h : zh} {a b : Nat} {off : Int} (tgt : Nat) (d : decode (zm_c M) pc = .ok (.if_icmp .lt off, 3)) (hp : pc + 3 = pc2) (ht : (pc : Int) + off = (tgt : Int)) (ha : a < 2 ^ 31) (hb : b < 2 ^ 31) (kt : a < b → Wp M Q tgt L st h) (kf : b ≤ a → Wp M Q pc2 L st h) : Wp M Q pc L (.int (nI b) :: .int (nI a) :: st) h := Wp.icmp_lt tgt d hp ht (fun z => kt ((nI_ltI ha hb).mp z)) (fun z => kf (Nat.le_of_not_lt (fun q => z ((nI_ltI ha hb).mpr q))))
theorem Wp.icmpN_ge {M : zm_I} {Q : Option Value → zh → Prop} {pc pc2 : Nat} {L st : List Value} {h : zh} {a b : Nat} {off : Int} (tgt : Nat) (d : decode (zm_c M) pc = .ok (.if_icmp .ge off, 3)) (hp : pc + 3 = pc2) (ht : (pc : Int) + off = (tgt : Int)) (ha : a < 2 ^ 31) (hb : b < 2 ^ 31) (kt : b ≤ a → Wp M Q tgt L st h) (kf : a < b → Wp M Q pc2 L st h) : Wp M Q pc L (.int (nI b) :: .int (nI a) :: st) h := Wp.icmp_ge tgt d hp ht (fun z => kt ((nI_leI hb ha).mp z)) (fun z => kf (Nat.lt_of_not_le (fun q => z ((nI_leI hb ha).mpr q))))
theorem Wp.icmpN_gt {M : zm_I} {Q : Option Value → zh → Prop} {pc pc2 : Nat} {L st : List Value} {h : zh} {a b : Nat} {off : Int} (tgt : Nat) (d : decode (zm_c M) pc = .ok (.if_icmp .gt off, 3)) (hp : pc + 3 = pc2) (ht : (pc : Int) + off = (tgt : Int)) (ha : a < 2 ^ 31) (hb : b < 2 ^ 31) (kt : b < a → Wp M Q tgt L st h) (kf : a ≤ b → Wp M Q pc2 L st h) : Wp M Q pc L (.int (nI b) :: .int (nI a) :: st) h := Wp.icmp_gt tgt d hp ht (fun z => kt ((nI_ltI hb ha).mp z)) (fun z => kf (Nat.le_of_not_lt (fun q => z ((nI_ltI hb ha).mpr q))))
theorem Wp.icmpN_le {M : zm_I} {Q : Option Value → zh → Prop} {pc pc2 : Nat} {L st : List Value} {h : zh} {a b : Nat} {off : Int} (tgt : Nat) (d : decode (zm_c M) pc = .ok (.if_icmp .le off, 3)) (hp : pc + 3 = pc2) (ht : (pc : Int) + off = (tgt : Int)) (ha : a < 2 ^ 31) (hb : b < 2 ^ 31) (kt : a ≤ b → Wp M Q tgt L st h) (kf : b < a → Wp M Q pc2 L st h) : Wp M Q pc L (.int (nI b) :: .int (nI a) :: st) h := Wp.icmp_le tgt d hp ht (fun z => kt ((nI_leI ha hb).mp z)) (fun z => kf (Nat.lt_of_not_le (fun q => z ((nI_leI ha hb).mpr q))))
theorem Wp.ifN_eq {M : zm_I} {Q : Option Value → zh → Prop} {pc pc2 : Nat} {L st : List Value} {h : zh} {a : Nat} {off : Int} (tgt : Nat) (d : decode (zm_c M) pc = .ok (.ifCond .eq off, 3)) (hp : pc + 3 = pc2) (ht : (pc : Int) + off = (tgt : Int)) (ha : a < 2 ^ 31) (kt : a = 0 → Wp M Q tgt L st h) (kf : a ≠ 0 → Wp M Q pc2 L st h) : Wp M Q pc L (.int (nI a) :: st) h := by
  have hz : 0 < 2 ^ 31 := by decide
  exact Wp.if_eq tgt d hp ht (fun z => kt ((nI_eq ha hz).mp z)) (fun z => kf (fun q => z ((nI_eq ha hz).mpr q)))
theorem Wp.ifN_ne {M : zm_I} {Q : Option Value → zh → Prop} {pc pc2 : Nat} {L st : List Value} {h : zh} {a : Nat} {off : Int} (tgt : Nat) (d : decode (zm_c M) pc = .ok (.ifCond .ne off, 3)) (hp : pc + 3 = pc2) (ht : (pc : Int) + off = (tgt : Int)) (ha : a < 2 ^ 31) (kt : a ≠ 0 → Wp M Q tgt L st h) (kf : a = 0 → Wp M Q pc2 L st h) : Wp M Q pc L (.int (nI a) :: st) h := by
  have hz : 0 < 2 ^ 31 := by decide
  exact Wp.if_ne tgt d hp ht (fun z => kt (fun q => z ((nI_eq ha hz).mpr q))) (fun z => kf ((nI_eq ha hz).mp z))
theorem Wp.ifN_lt {M : zm_I} {Q : Option Value → zh → Prop} {pc pc2 : Nat} {L st : List Value} {h : zh} {a : Nat} {off : Int} (tgt : Nat) (d : decode (zm_c M) pc = .ok (.ifCond .lt off, 3)) (hp : pc + 3 = pc2) (ht : (pc : Int) + off = (tgt : Int)) (ha : a < 2 ^ 31) (kt : False → Wp M Q tgt L st h) (kf : True → Wp M Q pc2 L st h) : Wp M Q pc L (.int (nI a) :: st) h := by
  have hz : 0 < 2 ^ 31 := by decide
  exact Wp.if_lt tgt d hp ht (fun z => kt (absurd z (nI_pos ha))) (fun z => kf (trivial))
theorem Wp.ifN_ge {M : zm_I} {Q : Option Value → zh → Prop} {pc pc2 : Nat} {L st : List Value} {h : zh} {a : Nat} {off : Int} (tgt : Nat) (d : decode (zm_c M) pc = .ok (.ifCond .ge off, 3)) (hp : pc + 3 = pc2) (ht : (pc : Int) + off = (tgt : Int)) (ha : a < 2 ^ 31) (kt : True → Wp M Q tgt L st h) (kf : False → Wp M Q pc2 L st h) : Wp M Q pc L (.int (nI a) :: st) h := by
  have hz : 0 < 2 ^ 31 := by decide
  exact Wp.if_ge tgt d hp ht (fun z => kt (trivial)) (fun z => kf (z (nI_pos' ha)))
theorem Wp.ifN_gt {M : zm_I} {Q : Option Value → zh → Prop} {pc pc2 : Nat} {L st : List Value} {h : zh} {a : Nat} {off : Int} (tgt : Nat) (d : decode (zm_c M) pc = .ok (.ifCond .gt off, 3)) (hp : pc + 3 = pc2) (ht : (pc : Int) + off = (tgt : Int)) (ha : a < 2 ^ 31) (kt : 0 < a → Wp M Q tgt L st h) (kf : a = 0 → Wp M Q pc2 L st h) : Wp M Q pc L (.int (nI a) :: st) h := by
  have hz : 0 < 2 ^ 31 := by decide
  exact Wp.if_gt tgt d hp ht (fun z => kt ((nI_ltI hz ha).mp z)) (fun z => kf (Nat.le_zero.mp (Nat.le_of_not_lt (fun q => z ((nI_ltI hz ha).mpr q)))))
theorem Wp.ifN_le {M : zm_I} {Q : Option Value → zh → Prop} {pc pc2 : Nat} {L st : List Value} {h : zh} {a : Nat} {off : Int} (tgt : Nat) (d : decode (zm_c M) pc = .ok (.ifCond .le off, 3)) (hp : pc + 3 = pc2) (ht : (pc : Int) + off = (tgt : Int)) (ha : a < 2 ^ 31) (kt : a = 0 → Wp M Q tgt L st h) (kf : 0 < a → Wp M Q pc2 L st h) : Wp M Q pc L (.int (nI a) :: st) h := by
  have hz : 0 < 2 ^ 31 := by decide
  exact Wp.if_le tgt d hp ht (fun z => kt (Nat.le_zero.mp ((nI_leI ha hz).mp z))) (fun z => kf (Nat.lt_of_not_le (fun q => z ((nI_leI ha hz).mpr q))))
/-- a boolean as the machine has it -/
def zb (b : Bool) : Nat := if b then 1 else 0
theorem zb_t {b : Bool} (h : b = true) : zb b = 1 := by subst h; rfl
theorem zb_f {b : Bool} (h : b = false) : zb b = 0 := by subst h; rfl
theorem zb_le (b : Bool) : zb b ≤ 1 := by cases b <;> decide
theorem zb_lt (b : Bool) : zb b < 2 ^ 31 := by cases b <;> decide
theorem zb_0 {b : Bool} (h : zb b = 0) : b = false := by cases b <;> first | rfl | exact absurd h (by decide)
theorem zb_1 {b : Bool} (h : zb b ≠ 0) : b = true := by cases b <;> first | rfl | exact absurd rfl h
theorem zb_nar (b : Bool) : narrow .boolean (.int (nI (zb b))) = .int (nI (zb b)) := by cases b <;> decide +kernel
theorem zb_fits (b : Bool) : fits .boolean (.int (nI (zb b))) = true := by cases b <;> decide +kernel
def hM (V : Nat → Nat → Nat) : zh := [
  .inr (5, [.ref 1, .ref 2, .ref 3, .ref 4, .ref 5, .ref 6, .ref 7, .ref 8, .int (nI (V 0 8)), .int (zo (V 0 9)), .int (nI (V 0 10)), .int (nI (V 0 11)), .ref 9, .ref 10, .ref 11, .ref 12, .ref 13, .ref 14, .ref 15, .ref 16, .ref 17, .ref 18, .ref 19, .int (nI (V 0 23)), .ref 20, .ref 21, .int (nI (V 0 26)), .int (nI (V 0 27)), .int (nI (V 0 28)), .int (zo (V 0 29)), .int (nI (V 0 30)), .int (nI (V 0 31))]),
  .inl (0, 2, .inl (fun j => nI (V 1 j))),
  .inl (0, 300, .inl (fun j => nI (V 2 j))),
  .inl (0, 2, .inl (fun j => nI (V 3 j))),
  .inl (0, 8, .inl (fun j => nI (V 4 j))),
  .inl (0, 8, .inl (fun j => nI (V 5 j))),
  .inl (0, 8, .inl (fun j => nI (V 6 j))),
  .inl (0, 8, .inl (fun j => nI (V 7 j))),
  .inl (0, 2, .inl (fun j => nI (V 8 j))),
  .inl (0, 2, .inl (fun j => nI (V 9 j))),
  .inl (0, 2, .inl (fun j => nI (V 10 j))),
  .inl (0, 8, .inl (fun j => nI (V 11 j))),
  .inl (1, 2, .inl (fun j => nI (V 12 j))),
  .inl (0, 8, .inl (fun j => nI (V 13 j))),
  .inl (0, 8, .inl (fun j => nI (V 14 j))),
  .inl (0, 2, .inl (fun j => nI (V 15 j))),
  .inl (0, 2, .inl (fun j => nI (V 16 j))),
  .inl (0, 2, .inl (fun j => nI (V 17 j))),
  .inl (0, 100, .inl (fun j => nI (V 18 j))),
  .inl (0, 100, .inl (fun j => nI (V 19 j))),
  .inl (1, 2500, .inl (fun j => nI (V 20 j))),
  .inl (0, 2500, .inl (fun j => nI (V 21 j)))]
theorem hM_o0_8 (V : Nat → Nat → Nat) (x : Nat) : (hM V).set 0 (.inr (5, ([.ref 1, .ref 2, .ref 3, .ref 4, .ref 5, .ref 6, .ref 7, .ref 8, .int (nI (V 0 8)), .int (zo (V 0 9)), .int (nI (V 0 10)), .int (nI (V 0 11)), .ref 9, .ref 10, .ref 11, .ref 12, .ref 13, .ref 14, .ref 15, .ref 16, .ref 17, .ref 18, .ref 19, .int (nI (V 0 23)), .ref 20, .ref 21, .int (nI (V 0 26)), .int (nI (V 0 27)), .int (nI (V 0 28)), .int (zo (V 0 29)), .int (nI (V 0 30)), .int (nI (V 0 31))] : List Value).set 8 (.int (nI x)))) = hM (vs V 0 8 x) := rfl
theorem hM_o0_9 (V : Nat → Nat → Nat) (x : Nat) : (hM V).set 0 (.inr (5, ([.ref 1, .ref 2, .ref 3, .ref 4, .ref 5, .ref 6, .ref 7, .ref 8, .int (nI (V 0 8)), .int (zo (V 0 9)), .int (nI (V 0 10)), .int (nI (V 0 11)), .ref 9, .ref 10, .ref 11, .ref 12, .ref 13, .ref 14, .ref 15, .ref 16, .ref 17, .ref 18, .ref 19, .int (nI (V 0 23)), .ref 20, .ref 21, .int (nI (V 0 26)), .int (nI (V 0 27)), .int (nI (V 0 28)), .int (zo (V 0 29)), .int (nI (V 0 30)), .int (nI (V 0 31))] : List Value).set 9 (.int (zo x)))) = hM (vs V 0 9 x) := rfl
theorem hM_o0_10 (V : Nat → Nat → Nat) (x : Nat) : (hM V).set 0 (.inr (5, ([.ref 1, .ref 2, .ref 3, .ref 4, .ref 5, .ref 6, .ref 7, .ref 8, .int (nI (V 0 8)), .int (zo (V 0 9)), .int (nI (V 0 10)), .int (nI (V 0 11)), .ref 9, .ref 10, .ref 11, .ref 12, .ref 13, .ref 14, .ref 15, .ref 16, .ref 17, .ref 18, .ref 19, .int (nI (V 0 23)), .ref 20, .ref 21, .int (nI (V 0 26)), .int (nI (V 0 27)), .int (nI (V 0 28)), .int (zo (V 0 29)), .int (nI (V 0 30)), .int (nI (V 0 31))] : List Value).set 10 (.int (nI x)))) = hM (vs V 0 10 x) := rfl
theorem hM_o0_11 (V : Nat → Nat → Nat) (x : Nat) : (hM V).set 0 (.inr (5, ([.ref 1, .ref 2, .ref 3, .ref 4, .ref 5, .ref 6, .ref 7, .ref 8, .int (nI (V 0 8)), .int (zo (V 0 9)), .int (nI (V 0 10)), .int (nI (V 0 11)), .ref 9, .ref 10, .ref 11, .ref 12, .ref 13, .ref 14, .ref 15, .ref 16, .ref 17, .ref 18, .ref 19, .int (nI (V 0 23)), .ref 20, .ref 21, .int (nI (V 0 26)), .int (nI (V 0 27)), .int (nI (V 0 28)), .int (zo (V 0 29)), .int (nI (V 0 30)), .int (nI (V 0 31))] : List Value).set 11 (.int (nI x)))) = hM (vs V 0 11 x) := rfl
theorem hM_o0_23 (V : Nat → Nat → Nat) (x : Nat) : (hM V).set 0 (.inr (5, ([.ref 1, .ref 2, .ref 3, .ref 4, .ref 5, .ref 6, .ref 7, .ref 8, .int (nI (V 0 8)), .int (zo (V 0 9)), .int (nI (V 0 10)), .int (nI (V 0 11)), .ref 9, .ref 10, .ref 11, .ref 12, .ref 13, .ref 14, .ref 15, .ref 16, .ref 17, .ref 18, .ref 19, .int (nI (V 0 23)), .ref 20, .ref 21, .int (nI (V 0 26)), .int (nI (V 0 27)), .int (nI (V 0 28)), .int (zo (V 0 29)), .int (nI (V 0 30)), .int (nI (V 0 31))] : List Value).set 23 (.int (nI x)))) = hM (vs V 0 23 x) := rfl
theorem hM_o0_26 (V : Nat → Nat → Nat) (x : Nat) : (hM V).set 0 (.inr (5, ([.ref 1, .ref 2, .ref 3, .ref 4, .ref 5, .ref 6, .ref 7, .ref 8, .int (nI (V 0 8)), .int (zo (V 0 9)), .int (nI (V 0 10)), .int (nI (V 0 11)), .ref 9, .ref 10, .ref 11, .ref 12, .ref 13, .ref 14, .ref 15, .ref 16, .ref 17, .ref 18, .ref 19, .int (nI (V 0 23)), .ref 20, .ref 21, .int (nI (V 0 26)), .int (nI (V 0 27)), .int (nI (V 0 28)), .int (zo (V 0 29)), .int (nI (V 0 30)), .int (nI (V 0 31))] : List Value).set 26 (.int (nI x)))) = hM (vs V 0 26 x) := rfl
theorem hM_o0_27 (V : Nat → Nat → Nat) (x : Nat) : (hM V).set 0 (.inr (5, ([.ref 1, .ref 2, .ref 3, .ref 4, .ref 5, .ref 6, .ref 7, .ref 8, .int (nI (V 0 8)), .int (zo (V 0 9)), .int (nI (V 0 10)), .int (nI (V 0 11)), .ref 9, .ref 10, .ref 11, .ref 12, .ref 13, .ref 14, .ref 15, .ref 16, .ref 17, .ref 18, .ref 19, .int (nI (V 0 23)), .ref 20, .ref 21, .int (nI (V 0 26)), .int (nI (V 0 27)), .int (nI (V 0 28)), .int (zo (V 0 29)), .int (nI (V 0 30)), .int (nI (V 0 31))] : List Value).set 27 (.int (nI x)))) = hM (vs V 0 27 x) := rfl
theorem hM_o0_28 (V : Nat → Nat → Nat) (x : Nat) : (hM V).set 0 (.inr (5, ([.ref 1, .ref 2, .ref 3, .ref 4, .ref 5, .ref 6, .ref 7, .ref 8, .int (nI (V 0 8)), .int (zo (V 0 9)), .int (nI (V 0 10)), .int (nI (V 0 11)), .ref 9, .ref 10, .ref 11, .ref 12, .ref 13, .ref 14, .ref 15, .ref 16, .ref 17, .ref 18, .ref 19, .int (nI (V 0 23)), .ref 20, .ref 21, .int (nI (V 0 26)), .int (nI (V 0 27)), .int (nI (V 0 28)), .int (zo (V 0 29)), .int (nI (V 0 30)), .int (nI (V 0 31))] : List Value).set 28 (.int (nI x)))) = hM (vs V 0 28 x) := rfl
theorem hM_o0_29 (V : Nat → Nat → Nat) (x : Nat) : (hM V).set 0 (.inr (5, ([.ref 1, .ref 2, .ref 3, .ref 4, .ref 5, .ref 6, .ref 7, .ref 8, .int (nI (V 0 8)), .int (zo (V 0 9)), .int (nI (V 0 10)), .int (nI (V 0 11)), .ref 9, .ref 10, .ref 11, .ref 12, .ref 13, .ref 14, .ref 15, .ref 16, .ref 17, .ref 18, .ref 19, .int (nI (V 0 23)), .ref 20, .ref 21, .int (nI (V 0 26)), .int (nI (V 0 27)), .int (nI (V 0 28)), .int (zo (V 0 29)), .int (nI (V 0 30)), .int (nI (V 0 31))] : List Value).set 29 (.int (zo x)))) = hM (vs V 0 29 x) := rfl
theorem hM_o0_30 (V : Nat → Nat → Nat) (x : Nat) : (hM V).set 0 (.inr (5, ([.ref 1, .ref 2, .ref 3, .ref 4, .ref 5, .ref 6, .ref 7, .ref 8, .int (nI (V 0 8)), .int (zo (V 0 9)), .int (nI (V 0 10)), .int (nI (V 0 11)), .ref 9, .ref 10, .ref 11, .ref 12, .ref 13, .ref 14, .ref 15, .ref 16, .ref 17, .ref 18, .ref 19, .int (nI (V 0 23)), .ref 20, .ref 21, .int (nI (V 0 26)), .int (nI (V 0 27)), .int (nI (V 0 28)), .int (zo (V 0 29)), .int (nI (V 0 30)), .int (nI (V 0 31))] : List Value).set 30 (.int (nI x)))) = hM (vs V 0 30 x) := rfl
theorem hM_o0_31 (V : Nat → Nat → Nat) (x : Nat) : (hM V).set 0 (.inr (5, ([.ref 1, .ref 2, .ref 3, .ref 4, .ref 5, .ref 6, .ref 7, .ref 8, .int (nI (V 0 8)), .int (zo (V 0 9)), .int (nI (V 0 10)), .int (nI (V 0 11)), .ref 9, .ref 10, .ref 11, .ref 12, .ref 13, .ref 14, .ref 15, .ref 16, .ref 17, .ref 18, .ref 19, .int (nI (V 0 23)), .ref 20, .ref 21, .int (nI (V 0 26)), .int (nI (V 0 27)), .int (nI (V 0 28)), .int (zo (V 0 29)), .int (nI (V 0 30)), .int (nI (V 0 31))] : List Value).set 31 (.int (nI x)))) = hM (vs V 0 31 x) := rfl
theorem hM_a1 (V : Nat → Nat → Nat) (i x : Nat) : (hM V).set 1 (.inl (0, 2, .inl (upd (fun j => nI (V 1 j)) i (nI x)))) = hM (vs V 1 i x) := by rw [upd_vs]; rfl
theorem hM_a2 (V : Nat → Nat → Nat) (i x : Nat) : (hM V).set 2 (.inl (0, 300, .inl (upd (fun j => nI (V 2 j)) i (nI x)))) = hM (vs V 2 i x) := by rw [upd_vs]; rfl
theorem hM_a3 (V : Nat → Nat → Nat) (i x : Nat) : (hM V).set 3 (.inl (0, 2, .inl (upd (fun j => nI (V 3 j)) i (nI x)))) = hM (vs V 3 i x) := by rw [upd_vs]; rfl
theorem hM_a4 (V : Nat → Nat → Nat) (i x : Nat) : (hM V).set 4 (.inl (0, 8, .inl (upd (fun j => nI (V 4 j)) i (nI x)))) = hM (vs V 4 i x) := by rw [upd_vs]; rfl
theorem hM_a5 (V : Nat → Nat → Nat) (i x : Nat) : (hM V).set 5 (.inl (0, 8, .inl (upd (fun j => nI (V 5 j)) i (nI x)))) = hM (vs V 5 i x) := by rw [upd_vs]; rfl
theorem hM_a6 (V : Nat → Nat → Nat) (i x : Nat) : (hM V).set 6 (.inl (0, 8, .inl (upd (fun j => nI (V 6 j)) i (nI x)))) = hM (vs V 6 i x) := by rw [upd_vs]; rfl
theorem hM_a7 (V : Nat → Nat → Nat) (i x : Nat) : (hM V).set 7 (.inl (0, 8, .inl (upd (fun j => nI (V 7 j)) i (nI x)))) = hM (vs V 7 i x) := by rw [upd_vs]; rfl
theorem hM_a8 (V : Nat → Nat → Nat) (i x : Nat) : (hM V).set 8 (.inl (0, 2, .inl (upd (fun j => nI (V 8 j)) i (nI x)))) = hM (vs V 8 i x) := by rw [upd_vs]; rfl
theorem hM_a9 (V : Nat → Nat → Nat) (i x : Nat) : (hM V).set 9 (.inl (0, 2, .inl (upd (fun j => nI (V 9 j)) i (nI x)))) = hM (vs V 9 i x) := by rw [upd_vs]; rfl
theorem hM_a10 (V : Nat → Nat → Nat) (i x : Nat) : (hM V).set 10 (.inl (0, 2, .inl (upd (fun j => nI (V 10 j)) i (nI x)))) = hM (vs V 10 i x) := by rw [upd_vs]; rfl
theorem hM_a11 (V : Nat → Nat → Nat) (i x : Nat) : (hM V).set 11 (.inl (0, 8, .inl (upd (fun j => nI (V 11 j)) i (nI x)))) = hM (vs V 11 i x) := by rw [upd_vs]; rfl
theorem hM_a12 (V : Nat → Nat → Nat) (i x : Nat) : (hM V).set 12 (.inl (1, 2, .inl (upd (fun j => nI (V 12 j)) i (nI x)))) = hM (vs V 12 i x) := by rw [upd_vs]; rfl
theorem hM_a13 (V : Nat → Nat → Nat) (i x : Nat) : (hM V).set 13 (.inl (0, 8, .inl (upd (fun j => nI (V 13 j)) i (nI x)))) = hM (vs V 13 i x) := by rw [upd_vs]; rfl
theorem hM_a14 (V : Nat → Nat → Nat) (i x : Nat) : (hM V).set 14 (.inl (0, 8, .inl (upd (fun j => nI (V 14 j)) i (nI x)))) = hM (vs V 14 i x) := by rw [upd_vs]; rfl
theorem hM_a15 (V : Nat → Nat → Nat) (i x : Nat) : (hM V).set 15 (.inl (0, 2, .inl (upd (fun j => nI (V 15 j)) i (nI x)))) = hM (vs V 15 i x) := by rw [upd_vs]; rfl
theorem hM_a16 (V : Nat → Nat → Nat) (i x : Nat) : (hM V).set 16 (.inl (0, 2, .inl (upd (fun j => nI (V 16 j)) i (nI x)))) = hM (vs V 16 i x) := by rw [upd_vs]; rfl
theorem hM_a17 (V : Nat → Nat → Nat) (i x : Nat) : (hM V).set 17 (.inl (0, 2, .inl (upd (fun j => nI (V 17 j)) i (nI x)))) = hM (vs V 17 i x) := by rw [upd_vs]; rfl
theorem hM_a18 (V : Nat → Nat → Nat) (i x : Nat) : (hM V).set 18 (.inl (0, 100, .inl (upd (fun j => nI (V 18 j)) i (nI x)))) = hM (vs V 18 i x) := by rw [upd_vs]; rfl
theorem hM_a19 (V : Nat → Nat → Nat) (i x : Nat) : (hM V).set 19 (.inl (0, 100, .inl (upd (fun j => nI (V 19 j)) i (nI x)))) = hM (vs V 19 i x) := by rw [upd_vs]; rfl
theorem hM_a20 (V : Nat → Nat → Nat) (i x : Nat) : (hM V).set 20 (.inl (1, 2500, .inl (upd (fun j => nI (V 20 j)) i (nI x)))) = hM (vs V 20 i x) := by rw [upd_vs]; rfl
theorem hM_a21 (V : Nat → Nat → Nat) (i x : Nat) : (hM V).set 21 (.inl (0, 2500, .inl (upd (fun j => nI (V 21 j)) i (nI x)))) = hM (vs V 21 i x) := by rw [upd_vs]; rfl
def hX (U : Nat → Nat → Nat) : zh := [
  .inr (4, [.ref 1, .ref 2, .ref 3, .ref 4, .ref 5, .ref 6, .int (nI (U 0 6)), .int (zo (U 0 7)), .int (zo (U 0 8)), .int (nI (U 0 9)), .int (nI (U 0 10)), .int (nI (U 0 11)), .int (nI (U 0 12)), .int (nI (U 0 13))]),
  .inl (2, 2, .inr (.inr (.inr (.inr (fun j => if j = 0 then some 7 else if j = 1 then some 13 else none))))),
  .inl (3, 2, .inr (.inr (.inr (.inr (fun j => if j = 0 then some 19 else if j = 1 then some 27 else none))))),
  .inl (0, 2, .inl (fun j => nI (U 3 j))),
  .inr (0, [.ref 35, .int (nI (U 4 1)), .int (nI (U 4 2)), .int (nI (U 4 3))]),
  .inr (1, [.ref 36, .ref 37, .int (nI (U 5 2))]),
  .inl (0, 100, .inl (fun j => nI (U 6 j))),
  .inr (3, [.ref 8, .ref 9, .ref 10, .ref 11, .ref 12, .int (nI (U 7 5)), .int (nI (U 7 6))]),
  .inl (0, 150, .inl (fun j => nI (U 8 j))),
  .inl (0, 4, .inl (fun j => nI (U 9 j))),
  .inl (0, 4, .inl (fun j => nI (U 10 j))),
  .inl (0, 4, .inl (fun j => nI (U 11 j))),
  .inl (0, 4, .inl (fun j => nI (U 12 j))),
  .inr (3, [.ref 14, .ref 15, .ref 16, .ref 17, .ref 18, .int (nI (U 13 5)), .int (nI (U 13 6))]),
  .inl (0, 150, .inl (fun j => nI (U 14 j))),
  .inl (0, 4, .inl (fun j => nI (U 15 j))),
  .inl (0, 4, .inl (fun j => nI (U 16 j))),
  .inl (0, 4, .inl (fun j => nI (U 17 j))),
  .inl (0, 4, .inl (fun j => nI (U 18 j))),
  .inr (2, [.ref 7, .ref 20, .ref 21, .ref 22, .ref 23, .ref 24, .ref 25, .ref 26, .int (nI (U 19 8)), .int (nI (U 19 9)), .int (nI (U 19 10)), .int (nI (U 19 11)), .int (nI (U 19 12))]),
  .inl (0, 50, .inl (fun j => nI (U 20 j))),
  .inl (0, 4, .inl (fun j => nI (U 21 j))),
  .inl (0, 4, .inl (fun j => nI (U 22 j))),
  .inl (0, 4, .inl (fun j => nI (U 23 j))),
  .inl (0, 4, .inl (fun j => nI (U 24 j))),
  .inl (0, 50, .inl (fun j => nI (U 25 j))),
  .inl (0, 16, .inl (fun j => nI (U 26 j))),
  .inr (2, [.ref 13, .ref 28, .ref 29, .ref 30, .ref 31, .ref 32, .ref 33, .ref 34, .int (nI (U 27 8)), .int (nI (U 27 9)), .int (nI (U 27 10)), .int (nI (U 27 11)), .int (nI (U 27 12))]),
  .inl (0, 50, .inl (fun j => nI (U 28 j))),
  .inl (0, 4, .inl (fun j => nI (U 29 j))),
  .inl (0, 4, .inl (fun j => nI (U 30 j))),
  .inl (0, 4, .inl (fun j => nI (U 31 j))),
  .inl (0, 4, .inl (fun j => nI (U 32 j))),
  .inl (0, 50, .inl (fun j => nI (U 33 j))),
  .inl (0, 16, .inl (fun j => nI (U 34 j))),
  .inl (0, 100, .inl (fun j => nI (U 35 j))),
  .inl (0, 2500, .inl (fun j => nI (U 36 j))),
  .inl (1, 2500, .inl (fun j => nI (U 37 j)))]
theorem hX_o0_6 (U : Nat → Nat → Nat) (x : Nat) : (hX U).set 0 (.inr (4, ([.ref 1, .ref 2, .ref 3, .ref 4, .ref 5, .ref 6, .int (nI (U 0 6)), .int (zo (U 0 7)), .int (zo (U 0 8)), .int (nI (U 0 9)), .int (nI (U 0 10)), .int (nI (U 0 11)), .int (nI (U 0 12)), .int (nI (U 0 13))] : List Value).set 6 (.int (nI x)))) = hX (vs U 0 6 x) := rfl
theorem hX_o0_7 (U : Nat → Nat → Nat) (x : Nat) : (hX U).set 0 (.inr (4, ([.ref 1, .ref 2, .ref 3, .ref 4, .ref 5, .ref 6, .int (nI (U 0 6)), .int (zo (U 0 7)), .int (zo (U 0 8)), .int (nI (U 0 9)), .int (nI (U 0 10)), .int (nI (U 0 11)), .int (nI (U 0 12)), .int (nI (U 0 13))] : List Value).set 7 (.int (zo x)))) = hX (vs U 0 7 x) := rfl
theorem hX_o0_8 (U : Nat → Nat → Nat) (x : Nat) : (hX U).set 0 (.inr (4, ([.ref 1, .ref 2, .ref 3, .ref 4, .ref 5, .ref 6, .int (nI (U 0 6)), .int (zo (U 0 7)), .int (zo (U 0 8)), .int (nI (U 0 9)), .int (nI (U 0 10)), .int (nI (U 0 11)), .int (nI (U 0 12)), .int (nI (U 0 13))] : List Value).set 8 (.int (zo x)))) = hX (vs U 0 8 x) := rfl
theorem hX_o0_9 (U : Nat → Nat → Nat) (x : Nat) : (hX U).set 0 (.inr (4, ([.ref 1, .ref 2, .ref 3, .ref 4, .ref 5, .ref 6, .int (nI (U 0 6)), .int (zo (U 0 7)), .int (zo (U 0 8)), .int (nI (U 0 9)), .int (nI (U 0 10)), .int (nI (U 0 11)), .int (nI (U 0 12)), .int (nI (U 0 13))] : List Value).set 9 (.int (nI x)))) = hX (vs U 0 9 x) := rfl
theorem hX_o0_10 (U : Nat → Nat → Nat) (x : Nat) : (hX U).set 0 (.inr (4, ([.ref 1, .ref 2, .ref 3, .ref 4, .ref 5, .ref 6, .int (nI (U 0 6)), .int (zo (U 0 7)), .int (zo (U 0 8)), .int (nI (U 0 9)), .int (nI (U 0 10)), .int (nI (U 0 11)), .int (nI (U 0 12)), .int (nI (U 0 13))] : List Value).set 10 (.int (nI x)))) = hX (vs U 0 10 x) := rfl
theorem hX_o0_11 (U : Nat → Nat → Nat) (x : Nat) : (hX U).set 0 (.inr (4, ([.ref 1, .ref 2, .ref 3, .ref 4, .ref 5, .ref 6, .int (nI (U 0 6)), .int (zo (U 0 7)), .int (zo (U 0 8)), .int (nI (U 0 9)), .int (nI (U 0 10)), .int (nI (U 0 11)), .int (nI (U 0 12)), .int (nI (U 0 13))] : List Value).set 11 (.int (nI x)))) = hX (vs U 0 11 x) := rfl
theorem hX_o0_12 (U : Nat → Nat → Nat) (x : Nat) : (hX U).set 0 (.inr (4, ([.ref 1, .ref 2, .ref 3, .ref 4, .ref 5, .ref 6, .int (nI (U 0 6)), .int (zo (U 0 7)), .int (zo (U 0 8)), .int (nI (U 0 9)), .int (nI (U 0 10)), .int (nI (U 0 11)), .int (nI (U 0 12)), .int (nI (U 0 13))] : List Value).set 12 (.int (nI x)))) = hX (vs U 0 12 x) := rfl
theorem hX_o0_13 (U : Nat → Nat → Nat) (x : Nat) : (hX U).set 0 (.inr (4, ([.ref 1, .ref 2, .ref 3, .ref 4, .ref 5, .ref 6, .int (nI (U 0 6)), .int (zo (U 0 7)), .int (zo (U 0 8)), .int (nI (U 0 9)), .int (nI (U 0 10)), .int (nI (U 0 11)), .int (nI (U 0 12)), .int (nI (U 0 13))] : List Value).set 13 (.int (nI x)))) = hX (vs U 0 13 x) := rfl
theorem hX_a3 (U : Nat → Nat → Nat) (i x : Nat) : (hX U).set 3 (.inl (0, 2, .inl (upd (fun j => nI (U 3 j)) i (nI x)))) = hX (vs U 3 i x) := by rw [upd_vs]; rfl
theorem hX_o4_1 (U : Nat → Nat → Nat) (x : Nat) : (hX U).set 4 (.inr (0, ([.ref 35, .int (nI (U 4 1)), .int (nI (U 4 2)), .int (nI (U 4 3))] : List Value).set 1 (.int (nI x)))) = hX (vs U 4 1 x) := rfl
theorem hX_o4_2 (U : Nat → Nat → Nat) (x : Nat) : (hX U).set 4 (.inr (0, ([.ref 35, .int (nI (U 4 1)), .int (nI (U 4 2)), .int (nI (U 4 3))] : List Value).set 2 (.int (nI x)))) = hX (vs U 4 2 x) := rfl
theorem hX_o4_3 (U : Nat → Nat → Nat) (x : Nat) : (hX U).set 4 (.inr (0, ([.ref 35, .int (nI (U 4 1)), .int (nI (U 4 2)), .int (nI (U 4 3))] : List Value).set 3 (.int (nI x)))) = hX (vs U 4 3 x) := rfl
theorem hX_o5_2 (U : Nat → Nat → Nat) (x : Nat) : (hX U).set 5 (.inr (1, ([.ref 36, .ref 37, .int (nI (U 5 2))] : List Value).set 2 (.int (nI x)))) = hX (vs U 5 2 x) := rfl
theorem hX_a6 (U : Nat → Nat → Nat) (i x : Nat) : (hX U).set 6 (.inl (0, 100, .inl (upd (fun j => nI (U 6 j)) i (nI x)))) = hX (vs U 6 i x) := by rw [upd_vs]; rfl
theorem hX_o7_5 (U : Nat → Nat → Nat) (x : Nat) : (hX U).set 7 (.inr (3, ([.ref 8, .ref 9, .ref 10, .ref 11, .ref 12, .int (nI (U 7 5)), .int (nI (U 7 6))] : List Value).set 5 (.int (nI x)))) = hX (vs U 7 5 x) := rfl
theorem hX_o7_6 (U : Nat → Nat → Nat) (x : Nat) : (hX U).set 7 (.inr (3, ([.ref 8, .ref 9, .ref 10, .ref 11, .ref 12, .int (nI (U 7 5)), .int (nI (U 7 6))] : List Value).set 6 (.int (nI x)))) = hX (vs U 7 6 x) := rfl
theorem hX_a8 (U : Nat → Nat → Nat) (i x : Nat) : (hX U).set 8 (.inl (0, 150, .inl (upd (fun j => nI (U 8 j)) i (nI x)))) = hX (vs U 8 i x) := by rw [upd_vs]; rfl
theorem hX_a9 (U : Nat → Nat → Nat) (i x : Nat) : (hX U).set 9 (.inl (0, 4, .inl (upd (fun j => nI (U 9 j)) i (nI x)))) = hX (vs U 9 i x) := by rw [upd_vs]; rfl
theorem hX_a10 (U : Nat → Nat → Nat) (i x : Nat) : (hX U).set 10 (.inl (0, 4, .inl (upd (fun j => nI (U 10 j)) i (nI x)))) = hX (vs U 10 i x) := by rw [upd_vs]; rfl
theorem hX_a11 (U : Nat → Nat → Nat) (i x : Nat) : (hX U).set 11 (.inl (0, 4, .inl (upd (fun j => nI (U 11 j)) i (nI x)))) = hX (vs U 11 i x) := by rw [upd_vs]; rfl
theorem hX_a12 (U : Nat → Nat → Nat) (i x : Nat) : (hX U).set 12 (.inl (0, 4, .inl (upd (fun j => nI (U 12 j)) i (nI x)))) = hX (vs U 12 i x) := by rw [upd_vs]; rfl
theorem hX_o13_5 (U : Nat → Nat → Nat) (x : Nat) : (hX U).set 13 (.inr (3, ([.ref 14, .ref 15, .ref 16, .ref 17, .ref 18, .int (nI (U 13 5)), .int (nI (U 13 6))] : List Value).set 5 (.int (nI x)))) = hX (vs U 13 5 x) := rfl
theorem hX_o13_6 (U : Nat → Nat → Nat) (x : Nat) : (hX U).set 13 (.inr (3, ([.ref 14, .ref 15, .ref 16, .ref 17, .ref 18, .int (nI (U 13 5)), .int (nI (U 13 6))] : List Value).set 6 (.int (nI x)))) = hX (vs U 13 6 x) := rfl
theorem hX_a14 (U : Nat → Nat → Nat) (i x : Nat) : (hX U).set 14 (.inl (0, 150, .inl (upd (fun j => nI (U 14 j)) i (nI x)))) = hX (vs U 14 i x) := by rw [upd_vs]; rfl
theorem hX_a15 (U : Nat → Nat → Nat) (i x : Nat) : (hX U).set 15 (.inl (0, 4, .inl (upd (fun j => nI (U 15 j)) i (nI x)))) = hX (vs U 15 i x) := by rw [upd_vs]; rfl
theorem hX_a16 (U : Nat → Nat → Nat) (i x : Nat) : (hX U).set 16 (.inl (0, 4, .inl (upd (fun j => nI (U 16 j)) i (nI x)))) = hX (vs U 16 i x) := by rw [upd_vs]; rfl
theorem hX_a17 (U : Nat → Nat → Nat) (i x : Nat) : (hX U).set 17 (.inl (0, 4, .inl (upd (fun j => nI (U 17 j)) i (nI x)))) = hX (vs U 17 i x) := by rw [upd_vs]; rfl
theorem hX_a18 (U : Nat → Nat → Nat) (i x : Nat) : (hX U).set 18 (.inl (0, 4, .inl (upd (fun j => nI (U 18 j)) i (nI x)))) = hX (vs U 18 i x) := by rw [upd_vs]; rfl
theorem hX_o19_8 (U : Nat → Nat → Nat) (x : Nat) : (hX U).set 19 (.inr (2, ([.ref 7, .ref 20, .ref 21, .ref 22, .ref 23, .ref 24, .ref 25, .ref 26, .int (nI (U 19 8)), .int (nI (U 19 9)), .int (nI (U 19 10)), .int (nI (U 19 11)), .int (nI (U 19 12))] : List Value).set 8 (.int (nI x)))) = hX (vs U 19 8 x) := rfl
theorem hX_o19_9 (U : Nat → Nat → Nat) (x : Nat) : (hX U).set 19 (.inr (2, ([.ref 7, .ref 20, .ref 21, .ref 22, .ref 23, .ref 24, .ref 25, .ref 26, .int (nI (U 19 8)), .int (nI (U 19 9)), .int (nI (U 19 10)), .int (nI (U 19 11)), .int (nI (U 19 12))] : List Value).set 9 (.int (nI x)))) = hX (vs U 19 9 x) := rfl
theorem hX_o19_10 (U : Nat → Nat → Nat) (x : Nat) : (hX U).set 19 (.inr (2, ([.ref 7, .ref 20, .ref 21, .ref 22, .ref 23, .ref 24, .ref 25, .ref 26, .int (nI (U 19 8)), .int (nI (U 19 9)), .int (nI (U 19 10)), .int (nI (U 19 11)), .int (nI (U 19 12))] : List Value).set 10 (.int (nI x)))) = hX (vs U 19 10 x) := rfl
theorem hX_o19_11 (U : Nat → Nat → Nat) (x : Nat) : (hX U).set 19 (.inr (2, ([.ref 7, .ref 20, .ref 21, .ref 22, .ref 23, .ref 24, .ref 25, .ref 26, .int (nI (U 19 8)), .int (nI (U 19 9)), .int (nI (U 19 10)), .int (nI (U 19 11)), .int (nI (U 19 12))] : List Value).set 11 (.int (nI x)))) = hX (vs U 19 11 x) := rfl
theorem hX_o19_12 (U : Nat → Nat → Nat) (x : Nat) : (hX U).set 19 (.inr (2, ([.ref 7, .ref 20, .ref 21, .ref 22, .ref 23, .ref 24, .ref 25, .ref 26, .int (nI (U 19 8)), .int (nI (U 19 9)), .int (nI (U 19 10)), .int (nI (U 19 11)), .int (nI (U 19 12))] : List Value).set 12 (.int (nI x)))) = hX (vs U 19 12 x) := rfl
theorem hX_a20 (U : Nat → Nat → Nat) (i x : Nat) : (hX U).set 20 (.inl (0, 50, .inl (upd (fun j => nI (U 20 j)) i (nI x)))) = hX (vs U 20 i x) := by rw [upd_vs]; rfl
theorem hX_a21 (U : Nat → Nat → Nat) (i x : Nat) : (hX U).set 21 (.inl (0, 4, .inl (upd (fun j => nI (U 21 j)) i (nI x)))) = hX (vs U 21 i x) := by rw [upd_vs]; rfl
theorem hX_a22 (U : Nat → Nat → Nat) (i x : Nat) : (hX U).set 22 (.inl (0, 4, .inl (upd (fun j => nI (U 22 j)) i (nI x)))) = hX (vs U 22 i x) := by rw [upd_vs]; rfl
theorem hX_a23 (U : Nat → Nat → Nat) (i x : Nat) : (hX U).set 23 (.inl (0, 4, .inl (upd (fun j => nI (U 23 j)) i (nI x)))) = hX (vs U 23 i x) := by rw [upd_vs]; rfl
theorem hX_a24 (U : Nat → Nat → Nat) (i x : Nat) : (hX U).set 24 (.inl (0, 4, .inl (upd (fun j => nI (U 24 j)) i (nI x)))) = hX (vs U 24 i x) := by rw [upd_vs]; rfl
theorem hX_a25 (U : Nat → Nat → Nat) (i x : Nat) : (hX U).set 25 (.inl (0, 50, .inl (upd (fun j => nI (U 25 j)) i (nI x)))) = hX (vs U 25 i x) := by rw [upd_vs]; rfl
theorem hX_a26 (U : Nat → Nat → Nat) (i x : Nat) : (hX U).set 26 (.inl (0, 16, .inl (upd (fun j => nI (U 26 j)) i (nI x)))) = hX (vs U 26 i x) := by rw [upd_vs]; rfl
theorem hX_o27_8 (U : Nat → Nat → Nat) (x : Nat) : (hX U).set 27 (.inr (2, ([.ref 13, .ref 28, .ref 29, .ref 30, .ref 31, .ref 32, .ref 33, .ref 34, .int (nI (U 27 8)), .int (nI (U 27 9)), .int (nI (U 27 10)), .int (nI (U 27 11)), .int (nI (U 27 12))] : List Value).set 8 (.int (nI x)))) = hX (vs U 27 8 x) := rfl
theorem hX_o27_9 (U : Nat → Nat → Nat) (x : Nat) : (hX U).set 27 (.inr (2, ([.ref 13, .ref 28, .ref 29, .ref 30, .ref 31, .ref 32, .ref 33, .ref 34, .int (nI (U 27 8)), .int (nI (U 27 9)), .int (nI (U 27 10)), .int (nI (U 27 11)), .int (nI (U 27 12))] : List Value).set 9 (.int (nI x)))) = hX (vs U 27 9 x) := rfl
theorem hX_o27_10 (U : Nat → Nat → Nat) (x : Nat) : (hX U).set 27 (.inr (2, ([.ref 13, .ref 28, .ref 29, .ref 30, .ref 31, .ref 32, .ref 33, .ref 34, .int (nI (U 27 8)), .int (nI (U 27 9)), .int (nI (U 27 10)), .int (nI (U 27 11)), .int (nI (U 27 12))] : List Value).set 10 (.int (nI x)))) = hX (vs U 27 10 x) := rfl
theorem hX_o27_11 (U : Nat → Nat → Nat) (x : Nat) : (hX U).set 27 (.inr (2, ([.ref 13, .ref 28, .ref 29, .ref 30, .ref 31, .ref 32, .ref 33, .ref 34, .int (nI (U 27 8)), .int (nI (U 27 9)), .int (nI (U 27 10)), .int (nI (U 27 11)), .int (nI (U 27 12))] : List Value).set 11 (.int (nI x)))) = hX (vs U 27 11 x) := rfl
theorem hX_o27_12 (U : Nat → Nat → Nat) (x : Nat) : (hX U).set 27 (.inr (2, ([.ref 13, .ref 28, .ref 29, .ref 30, .ref 31, .ref 32, .ref 33, .ref 34, .int (nI (U 27 8)), .int (nI (U 27 9)), .int (nI (U 27 10)), .int (nI (U 27 11)), .int (nI (U 27 12))] : List Value).set 12 (.int (nI x)))) = hX (vs U 27 12 x) := rfl
theorem hX_a28 (U : Nat → Nat → Nat) (i x : Nat) : (hX U).set 28 (.inl (0, 50, .inl (upd (fun j => nI (U 28 j)) i (nI x)))) = hX (vs U 28 i x) := by rw [upd_vs]; rfl
theorem hX_a29 (U : Nat → Nat → Nat) (i x : Nat) : (hX U).set 29 (.inl (0, 4, .inl (upd (fun j => nI (U 29 j)) i (nI x)))) = hX (vs U 29 i x) := by rw [upd_vs]; rfl
theorem hX_a30 (U : Nat → Nat → Nat) (i x : Nat) : (hX U).set 30 (.inl (0, 4, .inl (upd (fun j => nI (U 30 j)) i (nI x)))) = hX (vs U 30 i x) := by rw [upd_vs]; rfl
theorem hX_a31 (U : Nat → Nat → Nat) (i x : Nat) : (hX U).set 31 (.inl (0, 4, .inl (upd (fun j => nI (U 31 j)) i (nI x)))) = hX (vs U 31 i x) := by rw [upd_vs]; rfl
theorem hX_a32 (U : Nat → Nat → Nat) (i x : Nat) : (hX U).set 32 (.inl (0, 4, .inl (upd (fun j => nI (U 32 j)) i (nI x)))) = hX (vs U 32 i x) := by rw [upd_vs]; rfl
theorem hX_a33 (U : Nat → Nat → Nat) (i x : Nat) : (hX U).set 33 (.inl (0, 50, .inl (upd (fun j => nI (U 33 j)) i (nI x)))) = hX (vs U 33 i x) := by rw [upd_vs]; rfl
theorem hX_a34 (U : Nat → Nat → Nat) (i x : Nat) : (hX U).set 34 (.inl (0, 16, .inl (upd (fun j => nI (U 34 j)) i (nI x)))) = hX (vs U 34 i x) := by rw [upd_vs]; rfl
theorem hX_a35 (U : Nat → Nat → Nat) (i x : Nat) : (hX U).set 35 (.inl (0, 100, .inl (upd (fun j => nI (U 35 j)) i (nI x)))) = hX (vs U 35 i x) := by rw [upd_vs]; rfl
theorem hX_a36 (U : Nat → Nat → Nat) (i x : Nat) : (hX U).set 36 (.inl (0, 2500, .inl (upd (fun j => nI (U 36 j)) i (nI x)))) = hX (vs U 36 i x) := by rw [upd_vs]; rfl
theorem hX_a37 (U : Nat → Nat → Nat) (i x : Nat) : (hX U).set 37 (.inl (1, 2500, .inl (upd (fun j => nI (U 37 j)) i (nI x)))) = hX (vs U 37 i x) := by rw [upd_vs]; rfl
