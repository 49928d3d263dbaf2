theorem fl_s (f : Nat → Int32) (x : Int32) (k : Nat) : upd (fun j => if j < k then x else f j) k x = fun j => if j < k + 1 then x else f j := by
  funext j
  simp only [upd]
  by_cases q : j = k
  · subst q; simp
  · by_cases q2 : j < k
    · have : j < k + 1 := by omega
      simp [q, q2, this]
    · have : ¬ j < k + 1 := by omega
      simp [q, q2, this]

set_option maxRecDepth 100000 in
set_option maxHeartbeats 4000000 in
theorem x_fill_l (h : zh) (a n : Nat) (f : Nat → Int32) (x : Int32) (ha : h[a]? = some (.inl (0, n, .inl f))) (hn : n < 2 ^ 31) : ∀ (m k : Nat), k + m = n → Wp mJ7_fill_53178 (fun zr zq => zr = none ∧ zq = h.set a (.inl (0, n, .inl (fun j => if j < n then x else f j)))) 5 [.ref a, .int x, .int (nI k), .int (nI n)] [] (h.set a (.inl (0, n, .inl (fun j => if j < k then x else f j)))) := by
  have hl := (List.getElem?_eq_some_iff.mp ha).1
  intro m
  induction m with
  | zero =>
    intro k hk
    have e : k = n := by omega
    subst e
    refine Wp.iload_n (pc2 := 6) dJ7_fill_53178_5 rfl rfl ?_
    refine Wp.iload_n (pc2 := 7) dJ7_fill_53178_6 rfl rfl ?_
    refine Wp.icmpN_ge (pc2 := 10) 20 dJ7_fill_53178_7 rfl (by decide) (by omega) (by omega) (fun c => ?_) (fun c => absurd c (Nat.lt_irrefl _))
    exact Wp.retv dJ7_fill_53178_20 rfl ⟨rfl, rfl⟩
  | succ m ih =>
    intro k hk
    refine Wp.iload_n (pc2 := 6) dJ7_fill_53178_5 rfl rfl ?_
    refine Wp.iload_n (pc2 := 7) dJ7_fill_53178_6 rfl rfl ?_
    refine Wp.icmpN_ge (pc2 := 10) 20 dJ7_fill_53178_7 rfl (by decide) (by omega) (by omega) (fun c => ?_) (fun c => ?_)
    · exfalso; omega
    refine Wp.aload_n (pc2 := 11) dJ7_fill_53178_10 rfl rfl ?_
    refine Wp.iload_n (pc2 := 12) dJ7_fill_53178_11 rfl rfl ?_
    refine Wp.iload_n (pc2 := 13) dJ7_fill_53178_12 rfl rfl ?_
    refine Wp.iastN (pc2 := 14) dJ7_fill_53178_13 rfl (List.getElem?_set_self hl) (by omega) hn ?_
    rw [List.set_set, fl_s]
    refine Wp.iincN (pc2 := 17) dJ7_fill_53178_14 rfl rfl (by decide) rfl ?_
    refine Wp.goto (pc2 := 5) dJ7_fill_53178_17 (by decide) ?_
    exact ih (k + 1) (by omega)
set_option maxRecDepth 100000 in
set_option maxHeartbeats 4000000 in
theorem x_fill (h : zh) (a n : Nat) (f : Nat → Int32) (x : Int32) (ha : h[a]? = some (.inl (0, n, .inl f))) (hn : n < 2 ^ 31) : PM mJ7_fill_53178 [.ref a, .int x] h (fun zr zq => zr = none ∧ zq = h.set a (.inl (0, n, .inl (fun j => if j < n then x else f j)))) := by
  refine PM.of (by decide +kernel) (by simp [Value.category]) (Nat.le_of_ble_eq_true rfl) ?_
  refine Wp.iconN (pc2 := 1) 0 dJ7_fill_53178_0 rfl ?_
  refine Wp.istore_n (pc2 := 2) dJ7_fill_53178_1 rfl (by decide) rfl ?_
  refine Wp.aload_n (pc2 := 3) dJ7_fill_53178_2 rfl rfl ?_
  refine Wp.alen (pc2 := 4) dJ7_fill_53178_3 rfl ha (by decide) ?_
  refine Wp.istore_n (pc2 := 5) dJ7_fill_53178_4 rfl (by decide) rfl ?_
  have e : h = h.set a (.inl (0, n, .inl (fun j => if j < 0 then x else f j))) := by
    have e1 : (fun j => if j < 0 then x else f j) = f := by funext j; simp
    rw [e1]
    apply List.ext_getElem?
    intro i
    rw [List.getElem?_set]
    by_cases q : a = i
    · subst q
      rw [ha]; simp
      exact (List.getElem?_eq_some_iff.mp ha).1
    · simp [q]
  refine Wp.heq e ?_
  exact x_fill_l h a n f x ha hn n 0 (by omega)
/-- n numbers of cell c from off on are 0 -/
def zfl (V : zS) (c off n : Nat) : zS := fun a b => if a = c ∧ off ≤ b ∧ b < off + n then 0 else V a b
theorem zfl_o {V : zS} {c off n a b : Nat} (h : a ≠ c) : zfl V c off n a b = V a b := by unfold zfl; rw [if_neg (fun z => h z.1)]
theorem ca_fl {n off c : Nat} {V : zS} : (.inl (0, n, .inl (fun j => if j < n then nI 0 else nI (if j < n then V c (off + j) else 0))) : va_E) = ca n off (zfl V c off n c) := by
  unfold ca
  have e : (fun j => if j < n then nI 0 else nI (if j < n then V c (off + j) else 0)) = fun j => nI (if j < n then zfl V c off n c (off + j) else 0) := by
    funext j
    by_cases q : j < n
    · simp only [q, if_true]
      unfold zfl
      rw [if_pos ⟨rfl, by omega, by omega⟩]
    · simp [q]
  rw [e]
theorem ca_flo {n off c off' n' : Nat} {V : zS} (h : off + n ≤ off' ∨ off' + n' ≤ off) : ca n off (zfl V c off' n' c) = ca n off (V c) := by
  unfold ca
  have e : (fun j => nI (if j < n then zfl V c off' n' c (off + j) else 0)) = fun j => nI (if j < n then V c (off + j) else 0) := by
    funext j
    by_cases q : j < n
    · simp only [q, if_true]
      unfold zfl
      rw [if_neg (by omega)]
    · simp [q]
  rw [e]

theorem hC_z20 (V E : zS) : (hC V E).set 20 (.inl (0, 50, .inl (fun j => if j < 50 then nI 0 else nI (if j < 50 then V 18 (0 + j) else 0)))) = hC (zfl V 18 0 50) E := by
  have e2 : ca 50 50 (V 18) = ca 50 50 (zfl V 18 0 50 18) := (ca_flo (by omega)).symm
  rw [ca_fl]
  unfold hC
  rw [e2]
  rfl

theorem hC_z21 (V E : zS) : (hC V E).set 21 (.inl (0, 4, .inl (fun j => if j < 4 then nI 0 else nI (if j < 4 then V 13 (0 + j) else 0)))) = hC (zfl V 13 0 4) E := by
  have e2 : ca 4 4 (V 13) = ca 4 4 (zfl V 13 0 4 13) := (ca_flo (by omega)).symm
  rw [ca_fl]
  unfold hC
  rw [e2]
  rfl

theorem hC_z22 (V E : zS) : (hC V E).set 22 (.inl (0, 4, .inl (fun j => if j < 4 then nI 0 else nI (if j < 4 then V 14 (0 + j) else 0)))) = hC (zfl V 14 0 4) E := by
  have e2 : ca 4 4 (V 14) = ca 4 4 (zfl V 14 0 4 14) := (ca_flo (by omega)).symm
  rw [ca_fl]
  unfold hC
  rw [e2]
  rfl

theorem hC_z28 (V E : zS) : (hC V E).set 28 (.inl (0, 50, .inl (fun j => if j < 50 then nI 0 else nI (if j < 50 then V 18 (50 + j) else 0)))) = hC (zfl V 18 50 50) E := by
  have e2 : ca 50 0 (V 18) = ca 50 0 (zfl V 18 50 50 18) := (ca_flo (by omega)).symm
  rw [ca_fl]
  unfold hC
  rw [e2]
  rfl

theorem hC_z29 (V E : zS) : (hC V E).set 29 (.inl (0, 4, .inl (fun j => if j < 4 then nI 0 else nI (if j < 4 then V 13 (4 + j) else 0)))) = hC (zfl V 13 4 4) E := by
  have e2 : ca 4 0 (V 13) = ca 4 0 (zfl V 13 4 4 13) := (ca_flo (by omega)).symm
  rw [ca_fl]
  unfold hC
  rw [e2]
  rfl

theorem hC_z30 (V E : zS) : (hC V E).set 30 (.inl (0, 4, .inl (fun j => if j < 4 then nI 0 else nI (if j < 4 then V 14 (4 + j) else 0)))) = hC (zfl V 14 4 4) E := by
  have e2 : ca 4 0 (V 14) = ca 4 0 (zfl V 14 4 4 14) := (ca_flo (by omega)).symm
  rw [ca_fl]
  unfold hC
  rw [e2]
  rfl

/-- the tests of a table in the order of their numbers -/
def eOrd (E : zS) (c n : Nat) : zS := fun a b => if a = c ∧ b < n then b else E a b
def xBegin (V : zS) (t : Nat) : zS := vs (vs (vs (vs (vs (zfl (zfl (zfl V 18 (50 * t) 50) 13 (4 * t) 4) 14 (4 * t) 4) 9 t (V 3 t)) 12 t 0) 10 t 0) 15 t 0) 17 t 0
theorem eOrd_s (E : zS) (c n : Nat) : vs (eOrd E c n) c n n = eOrd E c (n + 1) := by
  funext a b
  unfold vs eOrd
  by_cases q : a = c
  · by_cases q2 : b = n
    · rw [if_pos q, if_pos q2, if_pos ⟨q, by omega⟩, q2]
    · rw [if_pos q, if_neg q2]
      by_cases q3 : b < n
      · rw [if_pos ⟨q, q3⟩, if_pos ⟨q, by omega⟩]
      · rw [if_neg (fun z => q3 z.2), if_neg (by omega)]
  · rw [if_neg q, if_neg (fun z => q z.1), if_neg (fun z => q z.1)]
theorem eOrd_0 (E : zS) (c : Nat) : eOrd E c 0 = E := by
  funext a b
  unfold eOrd
  rw [if_neg (by omega)]

set_option maxRecDepth 100000 in
set_option maxHeartbeats 4000000 in
theorem x_begin_l_0 (V E : zS) (hn : V 9 0 ≤ 4) : ∀ (n k : Nat), k + n = V 9 0 → Wp mX2_begin (fun zr zq => zr = none ∧ zq = hC (vs (vs (vs (vs V 12 0 0) 10 0 0) 15 0 0) 17 0 0) (eOrd E 23 (V 9 0))) 37 [.ref 19, .int (nI k)] [] (hC V (eOrd E 23 k)) := by
  intro n
  induction n with
  | zero =>
    intro k hk
    have e : k = V 9 0 := by omega
    subst e
    refine Wp.iload_n (pc2 := 38) dX2_begin_37 rfl rfl ?_
    refine Wp.aload_n (pc2 := 39) dX2_begin_38 rfl rfl ?_
    refine Wp.getf (pc2 := 42) fX2_49 dX2_begin_39 rfl rfl rfl ?_
    refine Wp.icmpN_ge (pc2 := 45) 58 dX2_begin_42 rfl (by decide) (by omega) (by omega) (fun c42 => ?_) (fun c42 => ?_)
    · refine Wp.aload_n (pc2 := 59) dX2_begin_58 rfl rfl ?_
      refine Wp.iconN (pc2 := 60) 0 dX2_begin_59 rfl ?_
      refine Wp.putf (pc2 := 63) gX2_50 dX2_begin_60 rfl rfl (Nat.le_of_ble_eq_true rfl) rfl rfl ?_
      refine Wp.heq (hC_o19_9 _ _ _) ?_
      refine Wp.aload_n (pc2 := 64) dX2_begin_63 rfl rfl ?_
      refine Wp.iconN (pc2 := 65) 0 dX2_begin_64 rfl ?_
      refine Wp.putf (pc2 := 68) gX2_54 dX2_begin_65 rfl rfl (Nat.le_of_ble_eq_true rfl) rfl rfl ?_
      refine Wp.heq (hC_o19_10 _ _ _) ?_
      refine Wp.aload_n (pc2 := 69) dX2_begin_68 rfl rfl ?_
      refine Wp.iconN (pc2 := 70) 0 dX2_begin_69 rfl ?_
      refine Wp.putf (pc2 := 73) gX2_57 dX2_begin_70 rfl rfl (Nat.le_of_ble_eq_true rfl) rfl rfl ?_
      refine Wp.heq (hC_o19_11 _ _ _) ?_
      refine Wp.aload_n (pc2 := 74) dX2_begin_73 rfl rfl ?_
      refine Wp.iconN (pc2 := 75) 0 dX2_begin_74 rfl ?_
      refine Wp.putf (pc2 := 78) gX2_60 dX2_begin_75 rfl rfl (Nat.le_of_ble_eq_true rfl) rfl rfl ?_
      refine Wp.heq (hC_o19_12 _ _ _) ?_
      refine Wp.retv dX2_begin_78 rfl ?_
      exact ⟨rfl, rfl⟩
    · exfalso; omega
  | succ n ih =>
    intro k hk
    refine Wp.iload_n (pc2 := 38) dX2_begin_37 rfl rfl ?_
    refine Wp.aload_n (pc2 := 39) dX2_begin_38 rfl rfl ?_
    refine Wp.getf (pc2 := 42) fX2_49 dX2_begin_39 rfl rfl rfl ?_
    refine Wp.icmpN_ge (pc2 := 45) 58 dX2_begin_42 rfl (by decide) (by omega) (by omega) (fun c42 => ?_) (fun c42 => ?_)
    · exfalso; omega
    · refine Wp.aload_n (pc2 := 46) dX2_begin_45 rfl rfl ?_
      refine Wp.getf (pc2 := 49) fX2_21 dX2_begin_46 rfl rfl rfl ?_
      refine Wp.iload_n (pc2 := 50) dX2_begin_49 rfl rfl ?_
      refine Wp.iload_n (pc2 := 51) dX2_begin_50 rfl rfl ?_
      refine Wp.iastN (pc2 := 52) dX2_begin_51 rfl rfl (by omega) (by decide) ?_
      refine Wp.heq (hC_a23 _ _ _ _) ?_
      refine Wp.iincN (pc2 := 55) dX2_begin_52 rfl rfl (by decide) rfl ?_
      refine Wp.goto (pc2 := 37) dX2_begin_55 (by decide) ?_
      rw [eOrd_s]
      exact ih (k + 1) (by omega)

set_option maxRecDepth 100000 in
set_option maxHeartbeats 4000000 in
theorem x_begin_l_1 (V E : zS) (hn : V 9 1 ≤ 4) : ∀ (n k : Nat), k + n = V 9 1 → Wp mX2_begin (fun zr zq => zr = none ∧ zq = hC (vs (vs (vs (vs V 12 1 0) 10 1 0) 15 1 0) 17 1 0) (eOrd E 31 (V 9 1))) 37 [.ref 27, .int (nI k)] [] (hC V (eOrd E 31 k)) := by
  intro n
  induction n with
  | zero =>
    intro k hk
    have e : k = V 9 1 := by omega
    subst e
    refine Wp.iload_n (pc2 := 38) dX2_begin_37 rfl rfl ?_
    refine Wp.aload_n (pc2 := 39) dX2_begin_38 rfl rfl ?_
    refine Wp.getf (pc2 := 42) fX2_49 dX2_begin_39 rfl rfl rfl ?_
    refine Wp.icmpN_ge (pc2 := 45) 58 dX2_begin_42 rfl (by decide) (by omega) (by omega) (fun c42 => ?_) (fun c42 => ?_)
    · refine Wp.aload_n (pc2 := 59) dX2_begin_58 rfl rfl ?_
      refine Wp.iconN (pc2 := 60) 0 dX2_begin_59 rfl ?_
      refine Wp.putf (pc2 := 63) gX2_50 dX2_begin_60 rfl rfl (Nat.le_of_ble_eq_true rfl) rfl rfl ?_
      refine Wp.heq (hC_o27_9 _ _ _) ?_
      refine Wp.aload_n (pc2 := 64) dX2_begin_63 rfl rfl ?_
      refine Wp.iconN (pc2 := 65) 0 dX2_begin_64 rfl ?_
      refine Wp.putf (pc2 := 68) gX2_54 dX2_begin_65 rfl rfl (Nat.le_of_ble_eq_true rfl) rfl rfl ?_
      refine Wp.heq (hC_o27_10 _ _ _) ?_
      refine Wp.aload_n (pc2 := 69) dX2_begin_68 rfl rfl ?_
      refine Wp.iconN (pc2 := 70) 0 dX2_begin_69 rfl ?_
      refine Wp.putf (pc2 := 73) gX2_57 dX2_begin_70 rfl rfl (Nat.le_of_ble_eq_true rfl) rfl rfl ?_
      refine Wp.heq (hC_o27_11 _ _ _) ?_
      refine Wp.aload_n (pc2 := 74) dX2_begin_73 rfl rfl ?_
      refine Wp.iconN (pc2 := 75) 0 dX2_begin_74 rfl ?_
      refine Wp.putf (pc2 := 78) gX2_60 dX2_begin_75 rfl rfl (Nat.le_of_ble_eq_true rfl) rfl rfl ?_
      refine Wp.heq (hC_o27_12 _ _ _) ?_
      refine Wp.retv dX2_begin_78 rfl ?_
      exact ⟨rfl, rfl⟩
    · exfalso; omega
  | succ n ih =>
    intro k hk
    refine Wp.iload_n (pc2 := 38) dX2_begin_37 rfl rfl ?_
    refine Wp.aload_n (pc2 := 39) dX2_begin_38 rfl rfl ?_
    refine Wp.getf (pc2 := 42) fX2_49 dX2_begin_39 rfl rfl rfl ?_
    refine Wp.icmpN_ge (pc2 := 45) 58 dX2_begin_42 rfl (by decide) (by omega) (by omega) (fun c42 => ?_) (fun c42 => ?_)
    · exfalso; omega
    · refine Wp.aload_n (pc2 := 46) dX2_begin_45 rfl rfl ?_
      refine Wp.getf (pc2 := 49) fX2_21 dX2_begin_46 rfl rfl rfl ?_
      refine Wp.iload_n (pc2 := 50) dX2_begin_49 rfl rfl ?_
      refine Wp.iload_n (pc2 := 51) dX2_begin_50 rfl rfl ?_
      refine Wp.iastN (pc2 := 52) dX2_begin_51 rfl rfl (by omega) (by decide) ?_
      refine Wp.heq (hC_a31 _ _ _ _) ?_
      refine Wp.iincN (pc2 := 55) dX2_begin_52 rfl rfl (by decide) rfl ?_
      refine Wp.goto (pc2 := 37) dX2_begin_55 (by decide) ?_
      rw [eOrd_s]
      exact ih (k + 1) (by omega)

set_option maxRecDepth 100000 in
set_option maxHeartbeats 4000000 in
theorem x_begin_0 (V E : zS) (hn : V 3 0 ≤ 4) : PM mX2_begin [.ref 19] (hC V E) (fun zr zq => zr = none ∧ zq = hC (xBegin V 0) (eOrd E (19 + 4) (V 3 0))) := by
  refine PM.of (by decide +kernel) (by simp [Value.category]) (Nat.le_of_ble_eq_true rfl) ?_
  refine Wp.aload_n (pc2 := 1) dX2_begin_0 rfl rfl ?_
  refine Wp.getf (pc2 := 4) fX2_9 dX2_begin_1 rfl rfl rfl ?_
  refine Wp.iconN (pc2 := 5) 0 dX2_begin_4 rfl ?_
  refine Wp.callS (pc2 := 8) kX2_begin_37 sJ7_fill_53178 (x_fill _ 20 50 _ (nI 0) rfl (by decide)) dX2_begin_5 rfl rfl rfl (Nat.le_of_ble_eq_true rfl) ?_
  rintro _ _ ⟨rfl, rfl⟩
  refine Wp.heq (hC_z20 _ _) ?_
  refine Wp.aload_n (pc2 := 9) dX2_begin_8 rfl rfl ?_
  refine Wp.getf (pc2 := 12) fX2_15 dX2_begin_9 rfl rfl rfl ?_
  refine Wp.iconN (pc2 := 13) 0 dX2_begin_12 rfl ?_
  refine Wp.callS (pc2 := 16) kX2_begin_37 sJ7_fill_53178 (x_fill _ 21 4 _ (nI 0) rfl (by decide)) dX2_begin_13 rfl rfl rfl (Nat.le_of_ble_eq_true rfl) ?_
  rintro _ _ ⟨rfl, rfl⟩
  refine Wp.heq (hC_z21 _ _) ?_
  refine Wp.aload_n (pc2 := 17) dX2_begin_16 rfl rfl ?_
  refine Wp.getf (pc2 := 20) fX2_18 dX2_begin_17 rfl rfl rfl ?_
  refine Wp.iconN (pc2 := 21) 0 dX2_begin_20 rfl ?_
  refine Wp.callS (pc2 := 24) kX2_begin_37 sJ7_fill_53178 (x_fill _ 22 4 _ (nI 0) rfl (by decide)) dX2_begin_21 rfl rfl rfl (Nat.le_of_ble_eq_true rfl) ?_
  rintro _ _ ⟨rfl, rfl⟩
  refine Wp.heq (hC_z22 _ _) ?_
  refine Wp.aload_n (pc2 := 25) dX2_begin_24 rfl rfl ?_
  refine Wp.aload_n (pc2 := 26) dX2_begin_25 rfl rfl ?_
  refine Wp.getf (pc2 := 29) fX2_33 dX2_begin_26 rfl rfl rfl ?_
  refine Wp.getf (pc2 := 32) fX2_43 dX2_begin_29 rfl rfl rfl ?_
  refine Wp.putf (pc2 := 35) gX2_49 dX2_begin_32 rfl rfl (Nat.le_of_ble_eq_true rfl) rfl rfl ?_
  refine Wp.heq (hC_o19_8 _ _ _) ?_
  refine Wp.iconN (pc2 := 36) 0 dX2_begin_35 rfl ?_
  refine Wp.istore_n (pc2 := 37) dX2_begin_36 rfl (by decide) rfl ?_
  refine Wp.heq (h' := hC (vs (zfl (zfl (zfl V 18 0 50) 13 0 4) 14 0 4) 9 0 (V 3 0)) (eOrd E 23 0)) (by rw [eOrd_0]; rfl) ?_
  refine Wp.mono (x_begin_l_0 (vs (zfl (zfl (zfl V 18 0 50) 13 0 4) 14 0 4) 9 0 (V 3 0)) E (by rw [vs_same]; exact hn) (V 3 0) 0 (by rw [vs_same]; omega)) ?_
  rintro _ _ ⟨rfl, rfl⟩
  rw [vs_same]
  exact ⟨rfl, rfl⟩
set_option maxRecDepth 100000 in
set_option maxHeartbeats 4000000 in
theorem x_begin_1 (V E : zS) (hn : V 3 1 ≤ 4) : PM mX2_begin [.ref 27] (hC V E) (fun zr zq => zr = none ∧ zq = hC (xBegin V 1) (eOrd E (27 + 4) (V 3 1))) := by
  refine PM.of (by decide +kernel) (by simp [Value.category]) (Nat.le_of_ble_eq_true rfl) ?_
  refine Wp.aload_n (pc2 := 1) dX2_begin_0 rfl rfl ?_
  refine Wp.getf (pc2 := 4) fX2_9 dX2_begin_1 rfl rfl rfl ?_
  refine Wp.iconN (pc2 := 5) 0 dX2_begin_4 rfl ?_
  refine Wp.callS (pc2 := 8) kX2_begin_37 sJ7_fill_53178 (x_fill _ 28 50 _ (nI 0) rfl (by decide)) dX2_begin_5 rfl rfl rfl (Nat.le_of_ble_eq_true rfl) ?_
  rintro _ _ ⟨rfl, rfl⟩
  refine Wp.heq (hC_z28 _ _) ?_
  refine Wp.aload_n (pc2 := 9) dX2_begin_8 rfl rfl ?_
  refine Wp.getf (pc2 := 12) fX2_15 dX2_begin_9 rfl rfl rfl ?_
  refine Wp.iconN (pc2 := 13) 0 dX2_begin_12 rfl ?_
  refine Wp.callS (pc2 := 16) kX2_begin_37 sJ7_fill_53178 (x_fill _ 29 4 _ (nI 0) rfl (by decide)) dX2_begin_13 rfl rfl rfl (Nat.le_of_ble_eq_true rfl) ?_
  rintro _ _ ⟨rfl, rfl⟩
  refine Wp.heq (hC_z29 _ _) ?_
  refine Wp.aload_n (pc2 := 17) dX2_begin_16 rfl rfl ?_
  refine Wp.getf (pc2 := 20) fX2_18 dX2_begin_17 rfl rfl rfl ?_
  refine Wp.iconN (pc2 := 21) 0 dX2_begin_20 rfl ?_
  refine Wp.callS (pc2 := 24) kX2_begin_37 sJ7_fill_53178 (x_fill _ 30 4 _ (nI 0) rfl (by decide)) dX2_begin_21 rfl rfl rfl (Nat.le_of_ble_eq_true rfl) ?_
  rintro _ _ ⟨rfl, rfl⟩
  refine Wp.heq (hC_z30 _ _) ?_
  refine Wp.aload_n (pc2 := 25) dX2_begin_24 rfl rfl ?_
  refine Wp.aload_n (pc2 := 26) dX2_begin_25 rfl rfl ?_
  refine Wp.getf (pc2 := 29) fX2_33 dX2_begin_26 rfl rfl rfl ?_
  refine Wp.getf (pc2 := 32) fX2_43 dX2_begin_29 rfl rfl rfl ?_
  refine Wp.putf (pc2 := 35) gX2_49 dX2_begin_32 rfl rfl (Nat.le_of_ble_eq_true rfl) rfl rfl ?_
  refine Wp.heq (hC_o27_8 _ _ _) ?_
  refine Wp.iconN (pc2 := 36) 0 dX2_begin_35 rfl ?_
  refine Wp.istore_n (pc2 := 37) dX2_begin_36 rfl (by decide) rfl ?_
  refine Wp.heq (h' := hC (vs (zfl (zfl (zfl V 18 50 50) 13 4 4) 14 4 4) 9 1 (V 3 1)) (eOrd E 31 0)) (by rw [eOrd_0]; rfl) ?_
  refine Wp.mono (x_begin_l_1 (vs (zfl (zfl (zfl V 18 50 50) 13 4 4) 14 4 4) 9 1 (V 3 1)) E (by rw [vs_same]; exact hn) (V 3 1) 0 (by rw [vs_same]; omega)) ?_
  rintro _ _ ⟨rfl, rfl⟩
  rw [vs_same]
  exact ⟨rfl, rfl⟩
theorem x_begin (t : Nat) (ht : t < 2) (V E : zS) (hn : V 3 t ≤ 4) : PM mX2_begin [.ref (19 + 8 * t)] (hC V E) (fun zr zq => zr = none ∧ zq = hC (xBegin V t) (eOrd E ((19 + 8 * t) + 4) (V 3 t))) := by
  rcases (show t = 0 ∨ t = 1 by omega) with rfl | rfl
  · exact x_begin_0 V E hn
  · exact x_begin_1 V E hn

set_option maxRecDepth 100000 in
set_option maxHeartbeats 4000000 in
theorem x_isReadOut_0 (V E : zS) (hV : BV V) : PM mX2_isReadOut [.ref 19] (hC V E) (fun zr zq => zbo (V 1 0 ≤ V 10 0) zr ∧ zq = hC V E) := by
  refine PM.of (by decide +kernel) (by simp [Value.category]) (Nat.le_of_ble_eq_true rfl) ?_
  refine Wp.aload_n (pc2 := 1) dX2_isReadOut_0 rfl rfl ?_
  refine Wp.getf (pc2 := 4) fX2_54 dX2_isReadOut_1 rfl rfl rfl ?_
  refine Wp.aload_n (pc2 := 5) dX2_isReadOut_4 rfl rfl ?_
  refine Wp.getf (pc2 := 8) fX2_33 dX2_isReadOut_5 rfl rfl rfl ?_
  refine Wp.getf (pc2 := 11) fX2_63 dX2_isReadOut_8 rfl rfl rfl ?_
  refine Wp.icmpN_lt (pc2 := 14) 18 dX2_isReadOut_11 rfl (by decide) (hV.l _ _) (hV.l _ _) (fun c11 => ?_) (fun c11 => ?_)
  · refine Wp.iconN (pc2 := 19) 0 dX2_isReadOut_18 rfl ?_
    refine Wp.ret dX2_isReadOut_19 rfl (by first | exact zb_nar true | exact zb_nar false) ?_
    first
      | exact ⟨zbo_t c11, rfl⟩
      | exact ⟨zbo_f (Nat.not_le.mpr c11), rfl⟩
  · refine Wp.iconN (pc2 := 15) 1 dX2_isReadOut_14 rfl ?_
    refine Wp.goto (pc2 := 19) dX2_isReadOut_15 (by decide) ?_
    refine Wp.ret dX2_isReadOut_19 rfl (by first | exact zb_nar true | exact zb_nar false) ?_
    first
      | exact ⟨zbo_t c11, rfl⟩
      | exact ⟨zbo_f (Nat.not_le.mpr c11), rfl⟩
set_option maxRecDepth 100000 in
set_option maxHeartbeats 4000000 in
theorem x_isReadOut_1 (V E : zS) (hV : BV V) : PM mX2_isReadOut [.ref 27] (hC V E) (fun zr zq => zbo (V 1 1 ≤ V 10 1) zr ∧ zq = hC V E) := by
  refine PM.of (by decide +kernel) (by simp [Value.category]) (Nat.le_of_ble_eq_true rfl) ?_
  refine Wp.aload_n (pc2 := 1) dX2_isReadOut_0 rfl rfl ?_
  refine Wp.getf (pc2 := 4) fX2_54 dX2_isReadOut_1 rfl rfl rfl ?_
  refine Wp.aload_n (pc2 := 5) dX2_isReadOut_4 rfl rfl ?_
  refine Wp.getf (pc2 := 8) fX2_33 dX2_isReadOut_5 rfl rfl rfl ?_
  refine Wp.getf (pc2 := 11) fX2_63 dX2_isReadOut_8 rfl rfl rfl ?_
  refine Wp.icmpN_lt (pc2 := 14) 18 dX2_isReadOut_11 rfl (by decide) (hV.l _ _) (hV.l _ _) (fun c11 => ?_) (fun c11 => ?_)
  · refine Wp.iconN (pc2 := 19) 0 dX2_isReadOut_18 rfl ?_
    refine Wp.ret dX2_isReadOut_19 rfl (by first | exact zb_nar true | exact zb_nar false) ?_
    first
      | exact ⟨zbo_t c11, rfl⟩
      | exact ⟨zbo_f (Nat.not_le.mpr c11), rfl⟩
  · refine Wp.iconN (pc2 := 15) 1 dX2_isReadOut_14 rfl ?_
    refine Wp.goto (pc2 := 19) dX2_isReadOut_15 (by decide) ?_
    refine Wp.ret dX2_isReadOut_19 rfl (by first | exact zb_nar true | exact zb_nar false) ?_
    first
      | exact ⟨zbo_t c11, rfl⟩
      | exact ⟨zbo_f (Nat.not_le.mpr c11), rfl⟩
theorem x_isReadOut (t : Nat) (ht : t < 2) (V E : zS) (hV : BV V) : PM mX2_isReadOut [.ref (19 + 8 * t)] (hC V E) (fun zr zq => zbo (V 1 t ≤ V 10 t) zr ∧ zq = hC V E) := by
  rcases (show t = 0 ∨ t = 1 by omega) with rfl | rfl
  · exact x_isReadOut_0 V E hV
  · exact x_isReadOut_1 V E hV

set_option maxRecDepth 100000 in
set_option maxHeartbeats 4000000 in
theorem x_hasPassed_0 (V E : zS) (r : Nat) (hr : r < 50) (h3 : V 18 (50 * 0 + r) ≤ 3) : PM mX2_hasPassed [.ref 19, .int (nI r)] (hC V E) (fun zr zq => zbo (2 ≤ V 18 (50 * 0 + r)) zr ∧ zq = hC V E) := by
  refine PM.of (by decide +kernel) (by simp [Value.category]) (Nat.le_of_ble_eq_true rfl) ?_
  have h3 : V 18 (0 + r) ≤ 3 := h3
  change Wp _ (fun zr zq => zbo (2 ≤ V 18 (0 + r)) zr ∧ zq = hC V E) _ _ _ _
  refine Wp.aload_n (pc2 := 1) dX2_hasPassed_0 rfl rfl ?_
  refine Wp.getf (pc2 := 4) fX2_9 dX2_hasPassed_1 rfl rfl rfl ?_
  refine Wp.iload_n (pc2 := 5) dX2_hasPassed_4 rfl rfl ?_
  refine Wp.cald (pc2 := 6) dX2_hasPassed_5 rfl rfl (by omega) (by decide) ?_
  refine Wp.iconN (pc2 := 7) 2 dX2_hasPassed_6 rfl ?_
  refine Wp.icmpN_eq (pc2 := 10) 20 dX2_hasPassed_7 rfl (by decide) (by omega) (by decide) (fun c7 => ?_) (fun c7 => ?_)
  · refine Wp.iconN (pc2 := 21) 1 dX2_hasPassed_20 rfl ?_
    refine Wp.goto (pc2 := 25) dX2_hasPassed_21 (by decide) ?_
    refine Wp.ret dX2_hasPassed_25 rfl (by first | exact zb_nar true | exact zb_nar false) ?_
    first
      | exact ⟨zbo_t (by omega), rfl⟩
      | exact ⟨zbo_f (by omega), rfl⟩
  · refine Wp.aload_n (pc2 := 11) dX2_hasPassed_10 rfl rfl ?_
    refine Wp.getf (pc2 := 14) fX2_9 dX2_hasPassed_11 rfl rfl rfl ?_
    refine Wp.iload_n (pc2 := 15) dX2_hasPassed_14 rfl rfl ?_
    refine Wp.cald (pc2 := 16) dX2_hasPassed_15 rfl rfl (by omega) (by decide) ?_
    refine Wp.iconN (pc2 := 17) 3 dX2_hasPassed_16 rfl ?_
    refine Wp.icmpN_ne (pc2 := 20) 24 dX2_hasPassed_17 rfl (by decide) (by omega) (by decide) (fun c17 => ?_) (fun c17 => ?_)
    · refine Wp.iconN (pc2 := 25) 0 dX2_hasPassed_24 rfl ?_
      refine Wp.ret dX2_hasPassed_25 rfl (by first | exact zb_nar true | exact zb_nar false) ?_
      first
        | exact ⟨zbo_t (by omega), rfl⟩
        | exact ⟨zbo_f (by omega), rfl⟩
    · refine Wp.iconN (pc2 := 21) 1 dX2_hasPassed_20 rfl ?_
      refine Wp.goto (pc2 := 25) dX2_hasPassed_21 (by decide) ?_
      refine Wp.ret dX2_hasPassed_25 rfl (by first | exact zb_nar true | exact zb_nar false) ?_
      first
        | exact ⟨zbo_t (by omega), rfl⟩
        | exact ⟨zbo_f (by omega), rfl⟩
set_option maxRecDepth 100000 in
set_option maxHeartbeats 4000000 in
theorem x_hasPassed_1 (V E : zS) (r : Nat) (hr : r < 50) (h3 : V 18 (50 * 1 + r) ≤ 3) : PM mX2_hasPassed [.ref 27, .int (nI r)] (hC V E) (fun zr zq => zbo (2 ≤ V 18 (50 * 1 + r)) zr ∧ zq = hC V E) := by
  refine PM.of (by decide +kernel) (by simp [Value.category]) (Nat.le_of_ble_eq_true rfl) ?_
  have h3 : V 18 (50 + r) ≤ 3 := h3
  change Wp _ (fun zr zq => zbo (2 ≤ V 18 (50 + r)) zr ∧ zq = hC V E) _ _ _ _
  refine Wp.aload_n (pc2 := 1) dX2_hasPassed_0 rfl rfl ?_
  refine Wp.getf (pc2 := 4) fX2_9 dX2_hasPassed_1 rfl rfl rfl ?_
  refine Wp.iload_n (pc2 := 5) dX2_hasPassed_4 rfl rfl ?_
  refine Wp.cald (pc2 := 6) dX2_hasPassed_5 rfl rfl (by omega) (by decide) ?_
  refine Wp.iconN (pc2 := 7) 2 dX2_hasPassed_6 rfl ?_
  refine Wp.icmpN_eq (pc2 := 10) 20 dX2_hasPassed_7 rfl (by decide) (by omega) (by decide) (fun c7 => ?_) (fun c7 => ?_)
  · refine Wp.iconN (pc2 := 21) 1 dX2_hasPassed_20 rfl ?_
    refine Wp.goto (pc2 := 25) dX2_hasPassed_21 (by decide) ?_
    refine Wp.ret dX2_hasPassed_25 rfl (by first | exact zb_nar true | exact zb_nar false) ?_
    first
      | exact ⟨zbo_t (by omega), rfl⟩
      | exact ⟨zbo_f (by omega), rfl⟩
  · refine Wp.aload_n (pc2 := 11) dX2_hasPassed_10 rfl rfl ?_
    refine Wp.getf (pc2 := 14) fX2_9 dX2_hasPassed_11 rfl rfl rfl ?_
    refine Wp.iload_n (pc2 := 15) dX2_hasPassed_14 rfl rfl ?_
    refine Wp.cald (pc2 := 16) dX2_hasPassed_15 rfl rfl (by omega) (by decide) ?_
    refine Wp.iconN (pc2 := 17) 3 dX2_hasPassed_16 rfl ?_
    refine Wp.icmpN_ne (pc2 := 20) 24 dX2_hasPassed_17 rfl (by decide) (by omega) (by decide) (fun c17 => ?_) (fun c17 => ?_)
    · refine Wp.iconN (pc2 := 25) 0 dX2_hasPassed_24 rfl ?_
      refine Wp.ret dX2_hasPassed_25 rfl (by first | exact zb_nar true | exact zb_nar false) ?_
      first
        | exact ⟨zbo_t (by omega), rfl⟩
        | exact ⟨zbo_f (by omega), rfl⟩
    · refine Wp.iconN (pc2 := 21) 1 dX2_hasPassed_20 rfl ?_
      refine Wp.goto (pc2 := 25) dX2_hasPassed_21 (by decide) ?_
      refine Wp.ret dX2_hasPassed_25 rfl (by first | exact zb_nar true | exact zb_nar false) ?_
      first
        | exact ⟨zbo_t (by omega), rfl⟩
        | exact ⟨zbo_f (by omega), rfl⟩
theorem x_hasPassed (t : Nat) (ht : t < 2) (V E : zS) (r : Nat) (hr : r < 50) (h3 : V 18 (50 * t + r) ≤ 3) : PM mX2_hasPassed [.ref (19 + 8 * t), .int (nI r)] (hC V E) (fun zr zq => zbo (2 ≤ V 18 (50 * t + r)) zr ∧ zq = hC V E) := by
  rcases (show t = 0 ∨ t = 1 by omega) with rfl | rfl
  · exact x_hasPassed_0 V E r hr h3
  · exact x_hasPassed_1 V E r hr h3

set_option maxRecDepth 100000 in
set_option maxHeartbeats 4000000 in
theorem x_wholeCost_0 (V E : zS) : PM mX2_wholeCost [.ref 19] (hC V E) (fun zr zq => zr = some (.int (nI (V 10 0 + V 15 0 + V 17 0))) ∧ zq = hC V E) := by
  refine PM.of (by decide +kernel) (by simp [Value.category]) (Nat.le_of_ble_eq_true rfl) ?_
  refine Wp.aload_n (pc2 := 1) dX2_wholeCost_0 rfl rfl ?_
  refine Wp.getf (pc2 := 4) fX2_54 dX2_wholeCost_1 rfl rfl rfl ?_
  refine Wp.aload_n (pc2 := 5) dX2_wholeCost_4 rfl rfl ?_
  refine Wp.getf (pc2 := 8) fX2_57 dX2_wholeCost_5 rfl rfl rfl ?_
  refine Wp.iaddN (pc2 := 9) dX2_wholeCost_8 rfl  ?_
  refine Wp.aload_n (pc2 := 10) dX2_wholeCost_9 rfl rfl ?_
  refine Wp.getf (pc2 := 13) fX2_60 dX2_wholeCost_10 rfl rfl rfl ?_
  refine Wp.iaddN (pc2 := 14) dX2_wholeCost_13 rfl  ?_
  refine Wp.ret dX2_wholeCost_14 rfl rfl ?_
  exact ⟨rfl, rfl⟩
set_option maxRecDepth 100000 in
set_option maxHeartbeats 4000000 in
theorem x_wholeCost_1 (V E : zS) : PM mX2_wholeCost [.ref 27] (hC V E) (fun zr zq => zr = some (.int (nI (V 10 1 + V 15 1 + V 17 1))) ∧ zq = hC V E) := by
  refine PM.of (by decide +kernel) (by simp [Value.category]) (Nat.le_of_ble_eq_true rfl) ?_
  refine Wp.aload_n (pc2 := 1) dX2_wholeCost_0 rfl rfl ?_
  refine Wp.getf (pc2 := 4) fX2_54 dX2_wholeCost_1 rfl rfl rfl ?_
  refine Wp.aload_n (pc2 := 5) dX2_wholeCost_4 rfl rfl ?_
  refine Wp.getf (pc2 := 8) fX2_57 dX2_wholeCost_5 rfl rfl rfl ?_
  refine Wp.iaddN (pc2 := 9) dX2_wholeCost_8 rfl  ?_
  refine Wp.aload_n (pc2 := 10) dX2_wholeCost_9 rfl rfl ?_
  refine Wp.getf (pc2 := 13) fX2_60 dX2_wholeCost_10 rfl rfl rfl ?_
  refine Wp.iaddN (pc2 := 14) dX2_wholeCost_13 rfl  ?_
  refine Wp.ret dX2_wholeCost_14 rfl rfl ?_
  exact ⟨rfl, rfl⟩
theorem x_wholeCost (t : Nat) (ht : t < 2) (V E : zS) : PM mX2_wholeCost [.ref (19 + 8 * t)] (hC V E) (fun zr zq => zr = some (.int (nI (V 10 t + V 15 t + V 17 t))) ∧ zq = hC V E) := by
  rcases (show t = 0 ∨ t = 1 by omega) with rfl | rfl
  · exact x_wholeCost_0 V E
  · exact x_wholeCost_1 V E

theorem mulb {a b A B : Nat} (ha : a ≤ A) (hb : b ≤ B) : a * b ≤ A * B := Nat.mul_le_mul ha hb

set_option maxRecDepth 100000 in
set_option maxHeartbeats 4000000 in
theorem x_gains (V E : zS) (h0 : V 17 0 ≤ 2500) (h1 : V 17 1 ≤ 2500) (w0 : V 10 0 + V 15 0 + V 17 0 ≤ 20000) (w1 : V 10 1 + V 15 1 + V 17 1 ≤ 20000) : PM mX2_gainsMoreThan [.ref 27, .ref 19] (hC V E) (fun zr zq => zbo ((V 17 0 + 1) * (V 10 1 + V 15 1 + V 17 1 + 1) < (V 17 1 + 1) * (V 10 0 + V 15 0 + V 17 0 + 1)) zr ∧ zq = hC V E) := by
  refine PM.of (by decide +kernel) (by simp [Value.category]) (Nat.le_of_ble_eq_true rfl) ?_
  refine Wp.aload_n (pc2 := 1) dX2_gainsMoreThan_0 rfl rfl ?_
  refine Wp.getf (pc2 := 4) fX2_60 dX2_gainsMoreThan_1 rfl rfl rfl ?_
  refine Wp.iconN (pc2 := 5) 1 dX2_gainsMoreThan_4 rfl ?_
  refine Wp.iaddN (pc2 := 6) dX2_gainsMoreThan_5 rfl  ?_
  refine Wp.aload_n (pc2 := 7) dX2_gainsMoreThan_6 rfl rfl ?_
  refine Wp.callV (pc2 := 10) kX2_gainsMoreThan_66 vX2_wholeCost (x_wholeCost_0 V E) dX2_gainsMoreThan_7 rfl rfl rfl rfl rfl (Nat.le_of_ble_eq_true rfl) ?_
  rintro _ _ ⟨rfl, rfl⟩
  refine Wp.iconN (pc2 := 11) 1 dX2_gainsMoreThan_10 rfl ?_
  refine Wp.iaddN (pc2 := 12) dX2_gainsMoreThan_11 rfl  ?_
  refine Wp.imulN (pc2 := 13) dX2_gainsMoreThan_12 rfl  ?_
  refine Wp.aload_n (pc2 := 14) dX2_gainsMoreThan_13 rfl rfl ?_
  refine Wp.getf (pc2 := 17) fX2_60 dX2_gainsMoreThan_14 rfl rfl rfl ?_
  refine Wp.iconN (pc2 := 18) 1 dX2_gainsMoreThan_17 rfl ?_
  refine Wp.iaddN (pc2 := 19) dX2_gainsMoreThan_18 rfl  ?_
  refine Wp.aload_n (pc2 := 20) dX2_gainsMoreThan_19 rfl rfl ?_
  refine Wp.callV (pc2 := 23) kX2_gainsMoreThan_66 vX2_wholeCost (x_wholeCost_1 V E) dX2_gainsMoreThan_20 rfl rfl rfl rfl rfl (Nat.le_of_ble_eq_true rfl) ?_
  rintro _ _ ⟨rfl, rfl⟩
  refine Wp.iconN (pc2 := 24) 1 dX2_gainsMoreThan_23 rfl ?_
  refine Wp.iaddN (pc2 := 25) dX2_gainsMoreThan_24 rfl  ?_
  refine Wp.imulN (pc2 := 26) dX2_gainsMoreThan_25 rfl  ?_
  have k1 := mulb (show V 17 1 + 1 ≤ 2501 by omega) (show V 10 0 + V 15 0 + V 17 0 + 1 ≤ 20001 by omega)
  have k2 := mulb (show V 17 0 + 1 ≤ 2501 by omega) (show V 10 1 + V 15 1 + V 17 1 + 1 ≤ 20001 by omega)
  refine Wp.icmpN_le (pc2 := 29) 33 dX2_gainsMoreThan_26 rfl (by decide) (by omega) (by omega) (fun c26 => ?_) (fun c26 => ?_)
  · refine Wp.iconN (pc2 := 34) 0 dX2_gainsMoreThan_33 rfl ?_
    refine Wp.ret dX2_gainsMoreThan_34 rfl (by first | exact zb_nar true | exact zb_nar false) ?_
    first
      | exact ⟨zbo_t c26, rfl⟩
      | exact ⟨zbo_f (Nat.not_lt.mpr c26), rfl⟩
  · refine Wp.iconN (pc2 := 30) 1 dX2_gainsMoreThan_29 rfl ?_
    refine Wp.goto (pc2 := 34) dX2_gainsMoreThan_30 (by decide) ?_
    refine Wp.ret dX2_gainsMoreThan_34 rfl (by first | exact zb_nar true | exact zb_nar false) ?_
    first
      | exact ⟨zbo_t c26, rfl⟩
      | exact ⟨zbo_f (Nat.not_lt.mpr c26), rfl⟩

set_option maxRecDepth 100000 in
set_option maxHeartbeats 4000000 in
theorem x_isAtPoint_0 (V E : zS) (hV : BV V) : PM mX2_isAtPoint [.ref 19] (hC V E) (fun zr zq => zbo (V 10 0 % 4 = 0 ∧ V 12 0 = 0) zr ∧ zq = hC V E) := by
  refine PM.of (by decide +kernel) (by simp [Value.category]) (Nat.le_of_ble_eq_true rfl) ?_
  refine Wp.aload_n (pc2 := 1) dX2_isAtPoint_0 rfl rfl ?_
  refine Wp.getf (pc2 := 4) fX2_54 dX2_isAtPoint_1 rfl rfl rfl ?_
  refine Wp.iconN (pc2 := 5) 4 dX2_isAtPoint_4 rfl ?_
  refine Wp.iremN (pc2 := 6) dX2_isAtPoint_5 rfl (hV.l _ _) (by decide) (by decide) ?_
  refine Wp.ifN_ne (pc2 := 9) 20 dX2_isAtPoint_6 rfl (by decide) (by have := hV 10 0; omega) (fun c6 => ?_) (fun c6 => ?_)
  · refine Wp.iconN (pc2 := 21) 0 dX2_isAtPoint_20 rfl ?_
    refine Wp.ret dX2_isAtPoint_21 rfl (by first | exact zb_nar true | exact zb_nar false) ?_
    first
      | exact ⟨zbo_t ⟨c6, c13⟩, rfl⟩
      | exact ⟨zbo_f (fun z => c13 z.2), rfl⟩
      | exact ⟨zbo_f (fun z => c6 z.1), rfl⟩
  · refine Wp.aload_n (pc2 := 10) dX2_isAtPoint_9 rfl rfl ?_
    refine Wp.getf (pc2 := 13) fX2_50 dX2_isAtPoint_10 rfl rfl rfl ?_
    refine Wp.ifN_ne (pc2 := 16) 20 dX2_isAtPoint_13 rfl (by decide) (hV.l _ _) (fun c13 => ?_) (fun c13 => ?_)
    · refine Wp.iconN (pc2 := 21) 0 dX2_isAtPoint_20 rfl ?_
      refine Wp.ret dX2_isAtPoint_21 rfl (by first | exact zb_nar true | exact zb_nar false) ?_
      first
        | exact ⟨zbo_t ⟨c6, c13⟩, rfl⟩
        | exact ⟨zbo_f (fun z => c13 z.2), rfl⟩
        | exact ⟨zbo_f (fun z => c6 z.1), rfl⟩
    · refine Wp.iconN (pc2 := 17) 1 dX2_isAtPoint_16 rfl ?_
      refine Wp.goto (pc2 := 21) dX2_isAtPoint_17 (by decide) ?_
      refine Wp.ret dX2_isAtPoint_21 rfl (by first | exact zb_nar true | exact zb_nar false) ?_
      first
        | exact ⟨zbo_t ⟨c6, c13⟩, rfl⟩
        | exact ⟨zbo_f (fun z => c13 z.2), rfl⟩
        | exact ⟨zbo_f (fun z => c6 z.1), rfl⟩
set_option maxRecDepth 100000 in
set_option maxHeartbeats 4000000 in
theorem x_isAtPoint_1 (V E : zS) (hV : BV V) : PM mX2_isAtPoint [.ref 27] (hC V E) (fun zr zq => zbo (V 10 1 % 4 = 0 ∧ V 12 1 = 0) zr ∧ zq = hC V E) := by
  refine PM.of (by decide +kernel) (by simp [Value.category]) (Nat.le_of_ble_eq_true rfl) ?_
  refine Wp.aload_n (pc2 := 1) dX2_isAtPoint_0 rfl rfl ?_
  refine Wp.getf (pc2 := 4) fX2_54 dX2_isAtPoint_1 rfl rfl rfl ?_
  refine Wp.iconN (pc2 := 5) 4 dX2_isAtPoint_4 rfl ?_
  refine Wp.iremN (pc2 := 6) dX2_isAtPoint_5 rfl (hV.l _ _) (by decide) (by decide) ?_
  refine Wp.ifN_ne (pc2 := 9) 20 dX2_isAtPoint_6 rfl (by decide) (by have := hV 10 1; omega) (fun c6 => ?_) (fun c6 => ?_)
  · refine Wp.iconN (pc2 := 21) 0 dX2_isAtPoint_20 rfl ?_
    refine Wp.ret dX2_isAtPoint_21 rfl (by first | exact zb_nar true | exact zb_nar false) ?_
    first
      | exact ⟨zbo_t ⟨c6, c13⟩, rfl⟩
      | exact ⟨zbo_f (fun z => c13 z.2), rfl⟩
      | exact ⟨zbo_f (fun z => c6 z.1), rfl⟩
  · refine Wp.aload_n (pc2 := 10) dX2_isAtPoint_9 rfl rfl ?_
    refine Wp.getf (pc2 := 13) fX2_50 dX2_isAtPoint_10 rfl rfl rfl ?_
    refine Wp.ifN_ne (pc2 := 16) 20 dX2_isAtPoint_13 rfl (by decide) (hV.l _ _) (fun c13 => ?_) (fun c13 => ?_)
    · refine Wp.iconN (pc2 := 21) 0 dX2_isAtPoint_20 rfl ?_
      refine Wp.ret dX2_isAtPoint_21 rfl (by first | exact zb_nar true | exact zb_nar false) ?_
      first
        | exact ⟨zbo_t ⟨c6, c13⟩, rfl⟩
        | exact ⟨zbo_f (fun z => c13 z.2), rfl⟩
        | exact ⟨zbo_f (fun z => c6 z.1), rfl⟩
    · refine Wp.iconN (pc2 := 17) 1 dX2_isAtPoint_16 rfl ?_
      refine Wp.goto (pc2 := 21) dX2_isAtPoint_17 (by decide) ?_
      refine Wp.ret dX2_isAtPoint_21 rfl (by first | exact zb_nar true | exact zb_nar false) ?_
      first
        | exact ⟨zbo_t ⟨c6, c13⟩, rfl⟩
        | exact ⟨zbo_f (fun z => c13 z.2), rfl⟩
        | exact ⟨zbo_f (fun z => c6 z.1), rfl⟩
theorem x_isAtPoint (t : Nat) (ht : t < 2) (V E : zS) (hV : BV V) : PM mX2_isAtPoint [.ref (19 + 8 * t)] (hC V E) (fun zr zq => zbo (V 10 t % 4 = 0 ∧ V 12 t = 0) zr ∧ zq = hC V E) := by
  rcases (show t = 0 ∨ t = 1 by omega) with rfl | rfl
  · exact x_isAtPoint_0 V E hV
  · exact x_isAtPoint_1 V E hV

theorem wgt_le {V : zS} {t a b : Nat} (h7 : V 7 (4 * t + a) ≤ 50) (h13 : V 13 (4 * t + a) ≤ 200) (h14 : V 14 (4 * t + b) ≤ 200) : wgt V t a b < 2 ^ 31 := by
  unfold wgt
  have k1 := mulb h7 (show V 13 (4 * t + a) + 2 ≤ 202 by omega)
  have k2 := mulb k1 (show V 14 (4 * t + b) + 1 ≤ 201 by omega)
  omega
/-- bounds of what a table's tests count -/
def wB (V : zS) (t : Nat) : Prop := ∀ k, k < 4 → V 7 (4 * t + k) ≤ 50 ∧ V 13 (4 * t + k) ≤ 200 ∧ V 14 (4 * t + k) ≤ 200

set_option maxRecDepth 100000 in
set_option maxHeartbeats 4000000 in
theorem x_cheaper_0 (V E : zS) (a b : Nat) (ha : a < 4) (hb : b < 4) (hw : wB V 0) : PM mX2_isCheaperToFail [.ref 19, .int (nI a), .int (nI b)] (hC V E) (fun zr zq => zbo (wgt V 0 a b < wgt V 0 b a) zr ∧ zq = hC V E) := by
  refine PM.of (by decide +kernel) (by simp [Value.category]) (Nat.le_of_ble_eq_true rfl) ?_
  have k1 : wgt V 0 a b < 2 ^ 31 := wgt_le (hw a ha).1 (hw a ha).2.1 (hw b hb).2.2
  have k2 : wgt V 0 b a < 2 ^ 31 := wgt_le (hw b hb).1 (hw b hb).2.1 (hw a ha).2.2
  refine Wp.aload_n (pc2 := 1) dX2_isCheaperToFail_0 rfl rfl ?_
  refine Wp.getf (pc2 := 4) fX2_33 dX2_isCheaperToFail_1 rfl rfl rfl ?_
  refine Wp.getf (pc2 := 7) fX2_70 dX2_isCheaperToFail_4 rfl rfl rfl ?_
  refine Wp.iload_n (pc2 := 8) dX2_isCheaperToFail_7 rfl rfl ?_
  refine Wp.cald (pc2 := 9) dX2_isCheaperToFail_8 rfl rfl (by omega) (by decide) ?_
  refine Wp.aload_n (pc2 := 10) dX2_isCheaperToFail_9 rfl rfl ?_
  refine Wp.getf (pc2 := 13) fX2_15 dX2_isCheaperToFail_10 rfl rfl rfl ?_
  refine Wp.iload_n (pc2 := 14) dX2_isCheaperToFail_13 rfl rfl ?_
  refine Wp.cald (pc2 := 15) dX2_isCheaperToFail_14 rfl rfl (by omega) (by decide) ?_
  refine Wp.iconN (pc2 := 16) 2 dX2_isCheaperToFail_15 rfl ?_
  refine Wp.iaddN (pc2 := 17) dX2_isCheaperToFail_16 rfl  ?_
  refine Wp.imulN (pc2 := 18) dX2_isCheaperToFail_17 rfl  ?_
  refine Wp.aload_n (pc2 := 19) dX2_isCheaperToFail_18 rfl rfl ?_
  refine Wp.getf (pc2 := 22) fX2_18 dX2_isCheaperToFail_19 rfl rfl rfl ?_
  refine Wp.iload_n (pc2 := 23) dX2_isCheaperToFail_22 rfl rfl ?_
  refine Wp.cald (pc2 := 24) dX2_isCheaperToFail_23 rfl rfl (by omega) (by decide) ?_
  refine Wp.iconN (pc2 := 25) 1 dX2_isCheaperToFail_24 rfl ?_
  refine Wp.iaddN (pc2 := 26) dX2_isCheaperToFail_25 rfl  ?_
  refine Wp.imulN (pc2 := 27) dX2_isCheaperToFail_26 rfl  ?_
  refine Wp.aload_n (pc2 := 28) dX2_isCheaperToFail_27 rfl rfl ?_
  refine Wp.getf (pc2 := 31) fX2_33 dX2_isCheaperToFail_28 rfl rfl rfl ?_
  refine Wp.getf (pc2 := 34) fX2_70 dX2_isCheaperToFail_31 rfl rfl rfl ?_
  refine Wp.iload_n (pc2 := 35) dX2_isCheaperToFail_34 rfl rfl ?_
  refine Wp.cald (pc2 := 36) dX2_isCheaperToFail_35 rfl rfl (by omega) (by decide) ?_
  refine Wp.aload_n (pc2 := 37) dX2_isCheaperToFail_36 rfl rfl ?_
  refine Wp.getf (pc2 := 40) fX2_15 dX2_isCheaperToFail_37 rfl rfl rfl ?_
  refine Wp.iload_n (pc2 := 41) dX2_isCheaperToFail_40 rfl rfl ?_
  refine Wp.cald (pc2 := 42) dX2_isCheaperToFail_41 rfl rfl (by omega) (by decide) ?_
  refine Wp.iconN (pc2 := 43) 2 dX2_isCheaperToFail_42 rfl ?_
  refine Wp.iaddN (pc2 := 44) dX2_isCheaperToFail_43 rfl  ?_
  refine Wp.imulN (pc2 := 45) dX2_isCheaperToFail_44 rfl  ?_
  refine Wp.aload_n (pc2 := 46) dX2_isCheaperToFail_45 rfl rfl ?_
  refine Wp.getf (pc2 := 49) fX2_18 dX2_isCheaperToFail_46 rfl rfl rfl ?_
  refine Wp.iload_n (pc2 := 50) dX2_isCheaperToFail_49 rfl rfl ?_
  refine Wp.cald (pc2 := 51) dX2_isCheaperToFail_50 rfl rfl (by omega) (by decide) ?_
  refine Wp.iconN (pc2 := 52) 1 dX2_isCheaperToFail_51 rfl ?_
  refine Wp.iaddN (pc2 := 53) dX2_isCheaperToFail_52 rfl  ?_
  refine Wp.imulN (pc2 := 54) dX2_isCheaperToFail_53 rfl  ?_
  refine Wp.icmpN_ge (pc2 := 57) 61 dX2_isCheaperToFail_54 rfl (by decide) k1 k2 (fun c54 => ?_) (fun c54 => ?_)
  · refine Wp.iconN (pc2 := 62) 0 dX2_isCheaperToFail_61 rfl ?_
    refine Wp.ret dX2_isCheaperToFail_62 rfl (by first | exact zb_nar true | exact zb_nar false) ?_
    first
      | exact ⟨zbo_t c54, rfl⟩
      | exact ⟨zbo_f (Nat.not_lt.mpr c54), rfl⟩
  · refine Wp.iconN (pc2 := 58) 1 dX2_isCheaperToFail_57 rfl ?_
    refine Wp.goto (pc2 := 62) dX2_isCheaperToFail_58 (by decide) ?_
    refine Wp.ret dX2_isCheaperToFail_62 rfl (by first | exact zb_nar true | exact zb_nar false) ?_
    first
      | exact ⟨zbo_t c54, rfl⟩
      | exact ⟨zbo_f (Nat.not_lt.mpr c54), rfl⟩
set_option maxRecDepth 100000 in
set_option maxHeartbeats 4000000 in
theorem x_cheaper_1 (V E : zS) (a b : Nat) (ha : a < 4) (hb : b < 4) (hw : wB V 1) : PM mX2_isCheaperToFail [.ref 27, .int (nI a), .int (nI b)] (hC V E) (fun zr zq => zbo (wgt V 1 a b < wgt V 1 b a) zr ∧ zq = hC V E) := by
  refine PM.of (by decide +kernel) (by simp [Value.category]) (Nat.le_of_ble_eq_true rfl) ?_
  have k1 : wgt V 1 a b < 2 ^ 31 := wgt_le (hw a ha).1 (hw a ha).2.1 (hw b hb).2.2
  have k2 : wgt V 1 b a < 2 ^ 31 := wgt_le (hw b hb).1 (hw b hb).2.1 (hw a ha).2.2
  refine Wp.aload_n (pc2 := 1) dX2_isCheaperToFail_0 rfl rfl ?_
  refine Wp.getf (pc2 := 4) fX2_33 dX2_isCheaperToFail_1 rfl rfl rfl ?_
  refine Wp.getf (pc2 := 7) fX2_70 dX2_isCheaperToFail_4 rfl rfl rfl ?_
  refine Wp.iload_n (pc2 := 8) dX2_isCheaperToFail_7 rfl rfl ?_
  refine Wp.cald (pc2 := 9) dX2_isCheaperToFail_8 rfl rfl (by omega) (by decide) ?_
  refine Wp.aload_n (pc2 := 10) dX2_isCheaperToFail_9 rfl rfl ?_
  refine Wp.getf (pc2 := 13) fX2_15 dX2_isCheaperToFail_10 rfl rfl rfl ?_
  refine Wp.iload_n (pc2 := 14) dX2_isCheaperToFail_13 rfl rfl ?_
  refine Wp.cald (pc2 := 15) dX2_isCheaperToFail_14 rfl rfl (by omega) (by decide) ?_
  refine Wp.iconN (pc2 := 16) 2 dX2_isCheaperToFail_15 rfl ?_
  refine Wp.iaddN (pc2 := 17) dX2_isCheaperToFail_16 rfl  ?_
  refine Wp.imulN (pc2 := 18) dX2_isCheaperToFail_17 rfl  ?_
  refine Wp.aload_n (pc2 := 19) dX2_isCheaperToFail_18 rfl rfl ?_
  refine Wp.getf (pc2 := 22) fX2_18 dX2_isCheaperToFail_19 rfl rfl rfl ?_
  refine Wp.iload_n (pc2 := 23) dX2_isCheaperToFail_22 rfl rfl ?_
  refine Wp.cald (pc2 := 24) dX2_isCheaperToFail_23 rfl rfl (by omega) (by decide) ?_
  refine Wp.iconN (pc2 := 25) 1 dX2_isCheaperToFail_24 rfl ?_
  refine Wp.iaddN (pc2 := 26) dX2_isCheaperToFail_25 rfl  ?_
  refine Wp.imulN (pc2 := 27) dX2_isCheaperToFail_26 rfl  ?_
  refine Wp.aload_n (pc2 := 28) dX2_isCheaperToFail_27 rfl rfl ?_
  refine Wp.getf (pc2 := 31) fX2_33 dX2_isCheaperToFail_28 rfl rfl rfl ?_
  refine Wp.getf (pc2 := 34) fX2_70 dX2_isCheaperToFail_31 rfl rfl rfl ?_
  refine Wp.iload_n (pc2 := 35) dX2_isCheaperToFail_34 rfl rfl ?_
  refine Wp.cald (pc2 := 36) dX2_isCheaperToFail_35 rfl rfl (by omega) (by decide) ?_
  refine Wp.aload_n (pc2 := 37) dX2_isCheaperToFail_36 rfl rfl ?_
  refine Wp.getf (pc2 := 40) fX2_15 dX2_isCheaperToFail_37 rfl rfl rfl ?_
  refine Wp.iload_n (pc2 := 41) dX2_isCheaperToFail_40 rfl rfl ?_
  refine Wp.cald (pc2 := 42) dX2_isCheaperToFail_41 rfl rfl (by omega) (by decide) ?_
  refine Wp.iconN (pc2 := 43) 2 dX2_isCheaperToFail_42 rfl ?_
  refine Wp.iaddN (pc2 := 44) dX2_isCheaperToFail_43 rfl  ?_
  refine Wp.imulN (pc2 := 45) dX2_isCheaperToFail_44 rfl  ?_
  refine Wp.aload_n (pc2 := 46) dX2_isCheaperToFail_45 rfl rfl ?_
  refine Wp.getf (pc2 := 49) fX2_18 dX2_isCheaperToFail_46 rfl rfl rfl ?_
  refine Wp.iload_n (pc2 := 50) dX2_isCheaperToFail_49 rfl rfl ?_
  refine Wp.cald (pc2 := 51) dX2_isCheaperToFail_50 rfl rfl (by omega) (by decide) ?_
  refine Wp.iconN (pc2 := 52) 1 dX2_isCheaperToFail_51 rfl ?_
  refine Wp.iaddN (pc2 := 53) dX2_isCheaperToFail_52 rfl  ?_
  refine Wp.imulN (pc2 := 54) dX2_isCheaperToFail_53 rfl  ?_
  refine Wp.icmpN_ge (pc2 := 57) 61 dX2_isCheaperToFail_54 rfl (by decide) k1 k2 (fun c54 => ?_) (fun c54 => ?_)
  · refine Wp.iconN (pc2 := 62) 0 dX2_isCheaperToFail_61 rfl ?_
    refine Wp.ret dX2_isCheaperToFail_62 rfl (by first | exact zb_nar true | exact zb_nar false) ?_
    first
      | exact ⟨zbo_t c54, rfl⟩
      | exact ⟨zbo_f (Nat.not_lt.mpr c54), rfl⟩
  · refine Wp.iconN (pc2 := 58) 1 dX2_isCheaperToFail_57 rfl ?_
    refine Wp.goto (pc2 := 62) dX2_isCheaperToFail_58 (by decide) ?_
    refine Wp.ret dX2_isCheaperToFail_62 rfl (by first | exact zb_nar true | exact zb_nar false) ?_
    first
      | exact ⟨zbo_t c54, rfl⟩
      | exact ⟨zbo_f (Nat.not_lt.mpr c54), rfl⟩
theorem x_cheaper (t : Nat) (ht : t < 2) (V E : zS) (a b : Nat) (ha : a < 4) (hb : b < 4) (hw : wB V t) : PM mX2_isCheaperToFail [.ref (19 + 8 * t), .int (nI a), .int (nI b)] (hC V E) (fun zr zq => zbo (wgt V t a b < wgt V t b a) zr ∧ zq = hC V E) := by
  rcases (show t = 0 ∨ t = 1 by omega) with rfl | rfl
  · exact x_cheaper_0 V E a b ha hb hw
  · exact x_cheaper_1 V E a b ha hb hw

set_option maxRecDepth 100000 in
set_option maxHeartbeats 4000000 in
theorem x_tryTests_l_0 (r : Nat) (hr : r < 50) : ∀ (n k : Nat) (V E : zS), BV V → tB V 0 n → V 9 0 = k + n → V 9 0 ≤ 4 → (∀ j, j < V 9 0 → E 23 j = V 11 (4 * 0 + j)) →
    Wp mX2_tryTests (fun zr zq => zr = some (.int (nI (zb (tst 0 r n k V).2))) ∧ zq = hC (tst 0 r n k V).1 E) 2 [.ref 19, .int (nI r), .int (nI k), .null] [] (hC V E) := by
  intro n
  induction n with
  | zero =>
    intro k V E hV hB h9 h94 hE
    refine Wp.iload_n (pc2 := 3) dX2_tryTests_2 rfl rfl ?_
    refine Wp.aload_n (pc2 := 4) dX2_tryTests_3 rfl rfl ?_
    refine Wp.getf (pc2 := 7) fX2_49 dX2_tryTests_4 rfl rfl rfl ?_
    refine Wp.icmpN_ge (pc2 := 10) 75 dX2_tryTests_7 rfl (by decide) (by omega) (by omega) (fun c7 => ?_) (fun c7 => ?_)
    · refine Wp.iconN (pc2 := 76) 1 dX2_tryTests_75 rfl ?_
      refine Wp.ret dX2_tryTests_76 rfl (zb_nar true) ?_
      exact ⟨rfl, rfl⟩
    · exfalso; omega
  | succ n ih =>
    intro k V E hV hB h9 h94 hE
    have hx4 := (hB.2.2 (4 * 0 + k) (by omega)).2.2
    have hx8 : 4 * 0 + V 11 (4 * 0 + k) < 8 := by omega
    have hB1 := tB_1 hB (show 4 * 0 + k < 8 by omega)
    have hV1 := BV_T1 hV hB (by omega) hx8
    have hEk := hE k (by omega)
    have hps : passB V 0 r (V 11 (4 * 0 + k)) = passB (mT1 V 0 k) 0 r (V 11 (4 * 0 + k)) := by
      unfold passB
      simp only [mT1_o (V := V) (t := 0) (k := k) (show (5 : Nat) ≠ 13 ∧ (5 : Nat) ≠ 15 by decide), mT1_o (V := V) (t := 0) (k := k) (show (2 : Nat) ≠ 13 ∧ (2 : Nat) ≠ 15 by decide), mT1_o (V := V) (t := 0) (k := k) (show (4 : Nat) ≠ 13 ∧ (4 : Nat) ≠ 15 by decide), mT1_o (V := V) (t := 0) (k := k) (show (6 : Nat) ≠ 13 ∧ (6 : Nat) ≠ 15 by decide)]
    refine Wp.iload_n (pc2 := 3) dX2_tryTests_2 rfl rfl ?_
    refine Wp.aload_n (pc2 := 4) dX2_tryTests_3 rfl rfl ?_
    refine Wp.getf (pc2 := 7) fX2_49 dX2_tryTests_4 rfl rfl rfl ?_
    refine Wp.icmpN_ge (pc2 := 10) 75 dX2_tryTests_7 rfl (by decide) (by omega) (by omega) (fun c7 => ?_) (fun c7 => ?_)
    · exfalso; omega
    · refine Wp.aload_n (pc2 := 11) dX2_tryTests_10 rfl rfl ?_
      refine Wp.getf (pc2 := 14) fX2_21 dX2_tryTests_11 rfl rfl rfl ?_
      refine Wp.iload_n (pc2 := 15) dX2_tryTests_14 rfl rfl ?_
      refine Wp.ialdN (pc2 := 16) dX2_tryTests_15 rfl rfl (by omega) (by decide) ?_
      rw [hEk]
      refine Wp.istore_n (pc2 := 17) dX2_tryTests_16 rfl (by decide) rfl ?_
      refine Wp.aload_n (pc2 := 18) dX2_tryTests_17 rfl rfl ?_
      refine Wp.getf (pc2 := 21) fX2_15 dX2_tryTests_18 rfl rfl rfl ?_
      refine Wp.iload_n (pc2 := 22) dX2_tryTests_21 rfl rfl ?_
      refine Wp.dup2 (pc2 := 23) dX2_tryTests_22 rfl rfl rfl ?_
      refine Wp.cald (pc2 := 24) dX2_tryTests_23 rfl rfl (by omega) (by decide) ?_
      refine Wp.iconN (pc2 := 25) 1 dX2_tryTests_24 rfl ?_
      refine Wp.iaddN (pc2 := 26) dX2_tryTests_25 rfl  ?_
      change Wp _ _ _ _ (.int (nI (V 13 (0 + V 11 (4 * 0 + k)) + 1)) :: _) _
      refine Wp.cast (pc2 := 27) dX2_tryTests_26 rfl rfl (by omega) (by decide) ?_
      refine Wp.heq (hC_a21 _ _ _ _ (by omega)) ?_
      refine Wp.aload_n (pc2 := 28) dX2_tryTests_27 rfl rfl ?_
      refine Wp.dup (pc2 := 29) dX2_tryTests_28 rfl rfl ?_
      refine Wp.getf (pc2 := 32) fX2_57 dX2_tryTests_29 rfl rfl rfl ?_
      refine Wp.aload_n (pc2 := 33) dX2_tryTests_32 rfl rfl ?_
      refine Wp.getf (pc2 := 36) fX2_33 dX2_tryTests_33 rfl rfl rfl ?_
      refine Wp.getf (pc2 := 39) fX2_70 dX2_tryTests_36 rfl rfl rfl ?_
      refine Wp.iload_n (pc2 := 40) dX2_tryTests_39 rfl rfl ?_
      refine Wp.cald (pc2 := 41) dX2_tryTests_40 rfl rfl (by omega) (by decide) ?_
      refine Wp.iaddN (pc2 := 42) dX2_tryTests_41 rfl  ?_
      change Wp _ _ _ _ (.int (nI (V 15 0 + V 7 (0 + V 11 (4 * 0 + k)))) :: _) _
      refine Wp.putf (pc2 := 45) gX2_57 dX2_tryTests_42 rfl rfl (Nat.le_of_ble_eq_true rfl) rfl rfl ?_
      refine Wp.heq (hC_o19_11 _ _ _) ?_
      change Wp _ _ _ _ _ (hC (mT1 V 0 k) E)
      refine Wp.aload_n (pc2 := 46) dX2_tryTests_45 rfl rfl ?_
      refine Wp.getf (pc2 := 49) fX2_33 dX2_tryTests_46 rfl rfl rfl ?_
      refine Wp.iload_n (pc2 := 50) dX2_tryTests_49 rfl rfl ?_
      refine Wp.iload_n (pc2 := 51) dX2_tryTests_50 rfl rfl ?_
      refine Wp.callV (pc2 := 54) kX2_tryTests_73 vX3_passes (x_passes_0 (mT1 V 0 k) E r (V 11 (4 * 0 + k)) hV1 hr hx4 (by rw [mT1_o (by decide)]; exact (hB.2.2 _ hx8).2.1)) dX2_tryTests_51 rfl rfl rfl rfl rfl (Nat.le_of_ble_eq_true rfl) ?_
      rintro _ _ ⟨⟨b, rfl, hb⟩, rfl⟩
      refine Wp.ifN_ne (pc2 := 57) 69 dX2_tryTests_54 rfl (by decide) (zb_lt _) (fun c54 => ?_) (fun c54 => ?_)
      · refine Wp.iincN (pc2 := 72) dX2_tryTests_69 rfl rfl (by decide) rfl ?_
        refine Wp.goto (pc2 := 2) dX2_tryTests_72 (by decide) ?_
        have hp : passB V 0 r (V 11 (4 * 0 + k)) = true := by rw [hps]; exact passB_iff.mpr (zby hb c54)
        rw [tst_t hp]
        refine Wp.fg [.ref 19, .int (nI r), .int (nI (k + 1)), .null] (And.intro (Or.inr rfl) (And.intro (Or.inr rfl) (And.intro (Or.inr rfl) (And.intro (Or.inl rfl) trivial)))) ?_
        exact ih (k + 1) (mT1 V 0 k) E hV1 hB1 (by rw [mT1_o (by decide)]; omega) (by rw [mT1_o (by decide)]; exact h94) (fun j hj => by rw [mT1_o (by decide)] at hj ⊢; exact hE j hj)
      · refine Wp.aload_n (pc2 := 58) dX2_tryTests_57 rfl rfl ?_
        refine Wp.getf (pc2 := 61) fX2_18 dX2_tryTests_58 rfl rfl rfl ?_
        refine Wp.iload_n (pc2 := 62) dX2_tryTests_61 rfl rfl ?_
        refine Wp.dup2 (pc2 := 63) dX2_tryTests_62 rfl rfl rfl ?_
        refine Wp.cald (pc2 := 64) dX2_tryTests_63 rfl rfl (by omega) (by decide) ?_
        refine Wp.iconN (pc2 := 65) 1 dX2_tryTests_64 rfl ?_
        refine Wp.iaddN (pc2 := 66) dX2_tryTests_65 rfl  ?_
        change Wp _ _ _ _ (.int (nI (mT1 V 0 k 14 (0 + mT1 V 0 k 11 (4 * 0 + k)) + 1)) :: .int (nI (mT1 V 0 k 11 (4 * 0 + k))) :: _) _
        refine Wp.cast (pc2 := 67) dX2_tryTests_66 rfl rfl (show mT1 V 0 k 11 (4 * 0 + k) < 4 by rw [mT1_o (by decide)]; exact hx4) (by decide) ?_
        refine Wp.heq (hC_a22 _ _ _ _ (show mT1 V 0 k 11 (4 * 0 + k) < 4 by rw [mT1_o (by decide)]; exact hx4)) ?_
        refine Wp.iconN (pc2 := 68) 0 dX2_tryTests_67 rfl ?_
        refine Wp.ret dX2_tryTests_68 rfl (zb_nar false) ?_
        have hp : ¬ passB V 0 r (V 11 (4 * 0 + k)) = true := by rw [hps]; exact fun z => zbn hb c54 (passB_iff.mp z)
        rw [tst_f hp]
        exact ⟨rfl, rfl⟩

set_option maxRecDepth 100000 in
set_option maxHeartbeats 4000000 in
theorem x_tryTests_l_1 (r : Nat) (hr : r < 50) : ∀ (n k : Nat) (V E : zS), BV V → tB V 1 n → V 9 1 = k + n → V 9 1 ≤ 4 → (∀ j, j < V 9 1 → E 31 j = V 11 (4 * 1 + j)) →
    Wp mX2_tryTests (fun zr zq => zr = some (.int (nI (zb (tst 1 r n k V).2))) ∧ zq = hC (tst 1 r n k V).1 E) 2 [.ref 27, .int (nI r), .int (nI k), .null] [] (hC V E) := by
  intro n
  induction n with
  | zero =>
    intro k V E hV hB h9 h94 hE
    refine Wp.iload_n (pc2 := 3) dX2_tryTests_2 rfl rfl ?_
    refine Wp.aload_n (pc2 := 4) dX2_tryTests_3 rfl rfl ?_
    refine Wp.getf (pc2 := 7) fX2_49 dX2_tryTests_4 rfl rfl rfl ?_
    refine Wp.icmpN_ge (pc2 := 10) 75 dX2_tryTests_7 rfl (by decide) (by omega) (by omega) (fun c7 => ?_) (fun c7 => ?_)
    · refine Wp.iconN (pc2 := 76) 1 dX2_tryTests_75 rfl ?_
      refine Wp.ret dX2_tryTests_76 rfl (zb_nar true) ?_
      exact ⟨rfl, rfl⟩
    · exfalso; omega
  | succ n ih =>
    intro k V E hV hB h9 h94 hE
    have hx4 := (hB.2.2 (4 * 1 + k) (by omega)).2.2
    have hx8 : 4 * 1 + V 11 (4 * 1 + k) < 8 := by omega
    have hB1 := tB_1 hB (show 4 * 1 + k < 8 by omega)
    have hV1 := BV_T1 hV hB (by omega) hx8
    have hEk := hE k (by omega)
    have hps : passB V 1 r (V 11 (4 * 1 + k)) = passB (mT1 V 1 k) 1 r (V 11 (4 * 1 + k)) := by
      unfold passB
      simp only [mT1_o (V := V) (t := 1) (k := k) (show (5 : Nat) ≠ 13 ∧ (5 : Nat) ≠ 15 by decide), mT1_o (V := V) (t := 1) (k := k) (show (2 : Nat) ≠ 13 ∧ (2 : Nat) ≠ 15 by decide), mT1_o (V := V) (t := 1) (k := k) (show (4 : Nat) ≠ 13 ∧ (4 : Nat) ≠ 15 by decide), mT1_o (V := V) (t := 1) (k := k) (show (6 : Nat) ≠ 13 ∧ (6 : Nat) ≠ 15 by decide)]
    refine Wp.iload_n (pc2 := 3) dX2_tryTests_2 rfl rfl ?_
    refine Wp.aload_n (pc2 := 4) dX2_tryTests_3 rfl rfl ?_
    refine Wp.getf (pc2 := 7) fX2_49 dX2_tryTests_4 rfl rfl rfl ?_
    refine Wp.icmpN_ge (pc2 := 10) 75 dX2_tryTests_7 rfl (by decide) (by omega) (by omega) (fun c7 => ?_) (fun c7 => ?_)
    · exfalso; omega
    · refine Wp.aload_n (pc2 := 11) dX2_tryTests_10 rfl rfl ?_
      refine Wp.getf (pc2 := 14) fX2_21 dX2_tryTests_11 rfl rfl rfl ?_
      refine Wp.iload_n (pc2 := 15) dX2_tryTests_14 rfl rfl ?_
      refine Wp.ialdN (pc2 := 16) dX2_tryTests_15 rfl rfl (by omega) (by decide) ?_
      rw [hEk]
      refine Wp.istore_n (pc2 := 17) dX2_tryTests_16 rfl (by decide) rfl ?_
      refine Wp.aload_n (pc2 := 18) dX2_tryTests_17 rfl rfl ?_
      refine Wp.getf (pc2 := 21) fX2_15 dX2_tryTests_18 rfl rfl rfl ?_
      refine Wp.iload_n (pc2 := 22) dX2_tryTests_21 rfl rfl ?_
      refine Wp.dup2 (pc2 := 23) dX2_tryTests_22 rfl rfl rfl ?_
      refine Wp.cald (pc2 := 24) dX2_tryTests_23 rfl rfl (by omega) (by decide) ?_
      refine Wp.iconN (pc2 := 25) 1 dX2_tryTests_24 rfl ?_
      refine Wp.iaddN (pc2 := 26) dX2_tryTests_25 rfl  ?_
      change Wp _ _ _ _ (.int (nI (V 13 (4 + V 11 (4 * 1 + k)) + 1)) :: _) _
      refine Wp.cast (pc2 := 27) dX2_tryTests_26 rfl rfl (by omega) (by decide) ?_
      refine Wp.heq (hC_a29 _ _ _ _ (by omega)) ?_
      refine Wp.aload_n (pc2 := 28) dX2_tryTests_27 rfl rfl ?_
      refine Wp.dup (pc2 := 29) dX2_tryTests_28 rfl rfl ?_
      refine Wp.getf (pc2 := 32) fX2_57 dX2_tryTests_29 rfl rfl rfl ?_
      refine Wp.aload_n (pc2 := 33) dX2_tryTests_32 rfl rfl ?_
      refine Wp.getf (pc2 := 36) fX2_33 dX2_tryTests_33 rfl rfl rfl ?_
      refine Wp.getf (pc2 := 39) fX2_70 dX2_tryTests_36 rfl rfl rfl ?_
      refine Wp.iload_n (pc2 := 40) dX2_tryTests_39 rfl rfl ?_
      refine Wp.cald (pc2 := 41) dX2_tryTests_40 rfl rfl (by omega) (by decide) ?_
      refine Wp.iaddN (pc2 := 42) dX2_tryTests_41 rfl  ?_
      change Wp _ _ _ _ (.int (nI (V 15 1 + V 7 (4 + V 11 (4 * 1 + k)))) :: _) _
      refine Wp.putf (pc2 := 45) gX2_57 dX2_tryTests_42 rfl rfl (Nat.le_of_ble_eq_true rfl) rfl rfl ?_
      refine Wp.heq (hC_o27_11 _ _ _) ?_
      change Wp _ _ _ _ _ (hC (mT1 V 1 k) E)
      refine Wp.aload_n (pc2 := 46) dX2_tryTests_45 rfl rfl ?_
      refine Wp.getf (pc2 := 49) fX2_33 dX2_tryTests_46 rfl rfl rfl ?_
      refine Wp.iload_n (pc2 := 50) dX2_tryTests_49 rfl rfl ?_
      refine Wp.iload_n (pc2 := 51) dX2_tryTests_50 rfl rfl ?_
      refine Wp.callV (pc2 := 54) kX2_tryTests_73 vX3_passes (x_passes_1 (mT1 V 1 k) E r (V 11 (4 * 1 + k)) hV1 hr hx4 (by rw [mT1_o (by decide)]; exact (hB.2.2 _ hx8).2.1)) dX2_tryTests_51 rfl rfl rfl rfl rfl (Nat.le_of_ble_eq_true rfl) ?_
      rintro _ _ ⟨⟨b, rfl, hb⟩, rfl⟩
      refine Wp.ifN_ne (pc2 := 57) 69 dX2_tryTests_54 rfl (by decide) (zb_lt _) (fun c54 => ?_) (fun c54 => ?_)
      · refine Wp.iincN (pc2 := 72) dX2_tryTests_69 rfl rfl (by decide) rfl ?_
        refine Wp.goto (pc2 := 2) dX2_tryTests_72 (by decide) ?_
        have hp : passB V 1 r (V 11 (4 * 1 + k)) = true := by rw [hps]; exact passB_iff.mpr (zby hb c54)
        rw [tst_t hp]
        refine Wp.fg [.ref 27, .int (nI r), .int (nI (k + 1)), .null] (And.intro (Or.inr rfl) (And.intro (Or.inr rfl) (And.intro (Or.inr rfl) (And.intro (Or.inl rfl) trivial)))) ?_
        exact ih (k + 1) (mT1 V 1 k) E hV1 hB1 (by rw [mT1_o (by decide)]; omega) (by rw [mT1_o (by decide)]; exact h94) (fun j hj => by rw [mT1_o (by decide)] at hj ⊢; exact hE j hj)
      · refine Wp.aload_n (pc2 := 58) dX2_tryTests_57 rfl rfl ?_
        refine Wp.getf (pc2 := 61) fX2_18 dX2_tryTests_58 rfl rfl rfl ?_
        refine Wp.iload_n (pc2 := 62) dX2_tryTests_61 rfl rfl ?_
        refine Wp.dup2 (pc2 := 63) dX2_tryTests_62 rfl rfl rfl ?_
        refine Wp.cald (pc2 := 64) dX2_tryTests_63 rfl rfl (by omega) (by decide) ?_
        refine Wp.iconN (pc2 := 65) 1 dX2_tryTests_64 rfl ?_
        refine Wp.iaddN (pc2 := 66) dX2_tryTests_65 rfl  ?_
        change Wp _ _ _ _ (.int (nI (mT1 V 1 k 14 (4 + mT1 V 1 k 11 (4 * 1 + k)) + 1)) :: .int (nI (mT1 V 1 k 11 (4 * 1 + k))) :: _) _
        refine Wp.cast (pc2 := 67) dX2_tryTests_66 rfl rfl (show mT1 V 1 k 11 (4 * 1 + k) < 4 by rw [mT1_o (by decide)]; exact hx4) (by decide) ?_
        refine Wp.heq (hC_a30 _ _ _ _ (show mT1 V 1 k 11 (4 * 1 + k) < 4 by rw [mT1_o (by decide)]; exact hx4)) ?_
        refine Wp.iconN (pc2 := 68) 0 dX2_tryTests_67 rfl ?_
        refine Wp.ret dX2_tryTests_68 rfl (zb_nar false) ?_
        have hp : ¬ passB V 1 r (V 11 (4 * 1 + k)) = true := by rw [hps]; exact fun z => zbn hb c54 (passB_iff.mp z)
        rw [tst_f hp]
        exact ⟨rfl, rfl⟩

set_option maxRecDepth 100000 in
set_option maxHeartbeats 4000000 in
theorem x_tryTests_0 (V E : zS) (r : Nat) (hr : r < 50) (hV : BV V) (hB : tB V 0 (V 9 0)) (h94 : V 9 0 ≤ 4) (hE : ∀ j, j < V 9 0 → E (19 + 4) j = V 11 (4 * 0 + j)) : PM mX2_tryTests [.ref 19, .int (nI r)] (hC V E) (fun zr zq => zr = some (.int (nI (zb (tst 0 r (V 9 0) 0 V).2))) ∧ zq = hC (tst 0 r (V 9 0) 0 V).1 E) := by
  refine PM.of (by decide +kernel) (by simp [Value.category]) (Nat.le_of_ble_eq_true rfl) ?_
  refine Wp.iconN (pc2 := 1) 0 dX2_tryTests_0 rfl ?_
  refine Wp.istore_n (pc2 := 2) dX2_tryTests_1 rfl (by decide) rfl ?_
  exact x_tryTests_l_0 r hr (V 9 0) 0 V E hV hB (by omega) h94 hE
set_option maxRecDepth 100000 in
set_option maxHeartbeats 4000000 in
theorem x_tryTests_1 (V E : zS) (r : Nat) (hr : r < 50) (hV : BV V) (hB : tB V 1 (V 9 1)) (h94 : V 9 1 ≤ 4) (hE : ∀ j, j < V 9 1 → E (27 + 4) j = V 11 (4 * 1 + j)) : PM mX2_tryTests [.ref 27, .int (nI r)] (hC V E) (fun zr zq => zr = some (.int (nI (zb (tst 1 r (V 9 1) 0 V).2))) ∧ zq = hC (tst 1 r (V 9 1) 0 V).1 E) := by
  refine PM.of (by decide +kernel) (by simp [Value.category]) (Nat.le_of_ble_eq_true rfl) ?_
  refine Wp.iconN (pc2 := 1) 0 dX2_tryTests_0 rfl ?_
  refine Wp.istore_n (pc2 := 2) dX2_tryTests_1 rfl (by decide) rfl ?_
  exact x_tryTests_l_1 r hr (V 9 1) 0 V E hV hB (by omega) h94 hE
theorem x_tryTests (t : Nat) (ht : t < 2) (V E : zS) (r : Nat) (hr : r < 50) (hV : BV V) (hB : tB V t (V 9 t)) (h94 : V 9 t ≤ 4) (hE : ∀ j, j < V 9 t → E ((19 + 8 * t) + 4) j = V 11 (4 * t + j)) : PM mX2_tryTests [.ref (19 + 8 * t), .int (nI r)] (hC V E) (fun zr zq => zr = some (.int (nI (zb (tst t r (V 9 t) 0 V).2))) ∧ zq = hC (tst t r (V 9 t) 0 V).1 E) := by
  rcases (show t = 0 ∨ t = 1 by omega) with rfl | rfl
  · exact x_tryTests_0 V E r hr hV hB h94 hE
  · exact x_tryTests_1 V E r hr hV hB h94 hE

