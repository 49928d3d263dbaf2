theorem BV.up {V : zS} (h : BV V) {k i x : Nat} (hx : x < 2 ^ 20) : BV (vs V k i x) := by
  intro a b
  unfold vs
  split
  · split
    · exact hx
    · exact h a b
  · exact h a b
theorem vs_same (V : zS) (k i x : Nat) : vs V k i x k i = x := by simp [vs]
theorem vs_k (V : zS) {k i x a b : Nat} (h : a ≠ k) : vs V k i x a b = V a b := by simp [vs, h]
theorem vs_i (V : zS) {k i x b : Nat} (h : b ≠ i) : vs V k i x k b = V k b := by simp [vs, h]
theorem vs_at (V : zS) (k i x b : Nat) : vs V k i x k b = if b = i then x else V k b := by simp [vs]
/-- zo among numbers -/
theorem zo_toInt {n : Nat} (h : n < 2 ^ 30) : (zo n).toInt = (n : Int) - 1 := by
  have e : zo n = nI n - nI 1 := rfl
  rw [e, pk_sub_toInt h (by decide)]; rfl
theorem zo_s (n : Nat) : zo (n + 1) = nI n := nI_pred n
theorem zo_m1 {n : Nat} (h : n < 2 ^ 30) : zo n = -1 ↔ n = 0 := by
  rw [← Int32.toInt_inj, zo_toInt h, show (-1 : Int32).toInt = -1 by decide]; omega
theorem zo_le {c b : Nat} (hc : c < 2 ^ 30) (hb : b < 2 ^ 30) : nI c ≤ zo b ↔ c < b := by
  rw [Int32.le_iff_toInt_le, nI_toInt (by omega), zo_toInt hb]; omega
theorem nI_m1 {n : Nat} (h : n < 2 ^ 31) : ¬ nI n = -1 := by
  rw [← Int32.toInt_inj, nI_toInt h, show (-1 : Int32).toInt = -1 by decide]; omega

def mTold (V : zS) (t k w : Nat) : Nat := if w = 0 then V 13 (4 * t + k) else if w = 1 then V 14 (4 * t + k) else V 7 (4 * t + k)

set_option maxRecDepth 100000 in
set_option maxHeartbeats 4000000 in
theorem m_told_ok (V : zS) (t k w : Nat) (ht : t < 2) (ha : V 3 t ≤ 4) (hk : k < V 3 t) (hw : w < 3) : PM mX5_told [.ref 0, .int (nI t), .int (nI k), .int (nI w)] (hM V) (fun zr zq => zr = some (.int (nI (mTold V t k w))) ∧ zq = hM V) := by
  refine PM.of (by decide +kernel) (by simp [Value.category]) (Nat.le_of_ble_eq_true rfl) ?_
  refine Wp.iload_n (pc2 := 1) dX5_told_0 rfl rfl ?_
  refine Wp.callS (pc2 := 4) kX5_told_85 sX5_isTable (m_isTable_t _ t ht) dX5_told_1 rfl rfl rfl (Nat.le_of_ble_eq_true rfl) ?_
  rintro _ _ ⟨rfl, rfl⟩
  refine Wp.ifN_eq (pc2 := 7) 23 dX5_told_4 rfl (by decide) (by omega) (fun c4 => ?_) (fun c4 => ?_)
  · exfalso; omega
  · refine Wp.iload_n (pc2 := 8) dX5_told_7 rfl rfl ?_
    refine Wp.iconN (pc2 := 9) 0 dX5_told_8 rfl ?_
    refine Wp.aload_n (pc2 := 10) dX5_told_9 rfl rfl ?_
    refine Wp.getf (pc2 := 13) fX5_16 dX5_told_10 rfl rfl rfl ?_
    refine Wp.iload_n (pc2 := 14) dX5_told_13 rfl rfl ?_
    refine Wp.ialdN (pc2 := 15) dX5_told_14 rfl rfl (by omega) (by decide) ?_
    refine Wp.iconN (pc2 := 16) 1 dX5_told_15 rfl ?_
    refine Wp.isub (pc2 := 17) dX5_told_16 rfl ?_
    refine Wp.callS (pc2 := 20) kX5_told_81 sX5_in (m_in_t _ _ _ _ ((rg_sub (by omega)).mpr ⟨k, hk, rfl⟩)) dX5_told_17 rfl rfl rfl (Nat.le_of_ble_eq_true rfl) ?_
    rintro _ _ ⟨rfl, rfl⟩
    refine Wp.ifN_ne (pc2 := 23) 25 dX5_told_20 rfl (by decide) (by omega) (fun c20 => ?_) (fun c20 => ?_)
    · refine Wp.iconN (pc2 := 26) 4 dX5_told_25 rfl ?_
      refine Wp.iload_n (pc2 := 27) dX5_told_26 rfl rfl ?_
      refine Wp.imulN (pc2 := 28) dX5_told_27 rfl  ?_
      refine Wp.iload_n (pc2 := 29) dX5_told_28 rfl rfl ?_
      refine Wp.iaddN (pc2 := 30) dX5_told_29 rfl  ?_
      refine Wp.istore (pc2 := 32) dX5_told_30 rfl (by decide) rfl ?_
      refine Wp.iload_n (pc2 := 33) dX5_told_32 rfl rfl ?_
      rcases (show w = 0 ∨ w = 1 ∨ w = 2 by omega) with rfl | rfl | rfl
      · refine Wp.tableIn (pc2 := 60) dX5_told_33 (by decide) (by decide) rfl (by decide) ?_
        refine Wp.aload_n (pc2 := 61) dX5_told_60 rfl rfl ?_
        refine Wp.getf (pc2 := 64) fX5_54 dX5_told_61 rfl rfl rfl ?_
        refine Wp.iload (pc2 := 66) dX5_told_64 rfl rfl ?_
        refine Wp.ialdN (pc2 := 67) dX5_told_66 rfl rfl (by omega) (by decide) ?_
        refine Wp.ret dX5_told_67 rfl rfl ?_
        exact ⟨rfl, rfl⟩
      · refine Wp.tableIn (pc2 := 68) dX5_told_33 (by decide) (by decide) rfl (by decide) ?_
        refine Wp.aload_n (pc2 := 69) dX5_told_68 rfl rfl ?_
        refine Wp.getf (pc2 := 72) fX5_57 dX5_told_69 rfl rfl rfl ?_
        refine Wp.iload (pc2 := 74) dX5_told_72 rfl rfl ?_
        refine Wp.ialdN (pc2 := 75) dX5_told_74 rfl rfl (by omega) (by decide) ?_
        refine Wp.ret dX5_told_75 rfl rfl ?_
        exact ⟨rfl, rfl⟩
      · refine Wp.tableIn (pc2 := 76) dX5_told_33 (by decide) (by decide) rfl (by decide) ?_
        refine Wp.aload_n (pc2 := 77) dX5_told_76 rfl rfl ?_
        refine Wp.getf (pc2 := 80) fX5_28 dX5_told_77 rfl rfl rfl ?_
        refine Wp.iload (pc2 := 82) dX5_told_80 rfl rfl ?_
        refine Wp.ialdN (pc2 := 83) dX5_told_82 rfl rfl (by omega) (by decide) ?_
        refine Wp.ret dX5_told_83 rfl rfl ?_
        exact ⟨rfl, rfl⟩
    · exfalso; omega

set_option maxRecDepth 100000 in
set_option maxHeartbeats 4000000 in
theorem m_told_no (V : zS) (t k w : Int32) (ha : ∀ t, t < 2 → V 3 t ≤ 4) (hno : ¬ ∃ t' k' w' : Nat, (t' < 2 ∧ t = nI t') ∧ (k' < V 3 t' ∧ k = nI k') ∧ (w' < 3 ∧ w = nI w')) : PM mX5_told [.ref 0, .int t, .int k, .int w] (hM V) (fun zr zq => zr = some (.int (-1)) ∧ zq = hM V) := by
  refine PM.of (by decide +kernel) (by simp [Value.category]) (Nat.le_of_ble_eq_true rfl) ?_
  refine Wp.iload_n (pc2 := 1) dX5_told_0 rfl rfl ?_
  refine Wp.callS (pc2 := 4) kX5_told_85 sX5_isTable (m_isTable _ t) dX5_told_1 rfl rfl rfl (Nat.le_of_ble_eq_true rfl) ?_
  rintro _ _ ⟨⟨b, rfl, hb⟩, rfl⟩
  refine Wp.ifN_eq (pc2 := 7) 23 dX5_told_4 rfl (by decide) (zb_lt _) (fun c4 => ?_) (fun c4 => ?_)
  · refine Wp.icon (pc2 := 24) dX5_told_23 rfl (-1) (by decide +kernel) ?_
    refine Wp.ret dX5_told_24 rfl rfl ?_
    exact ⟨rfl, rfl⟩
  · obtain ⟨t', ht, rfl⟩ := rg_t.mp (zby hb c4)
    have ha1 := ha t' ht
    refine Wp.iload_n (pc2 := 8) dX5_told_7 rfl rfl ?_
    refine Wp.iconN (pc2 := 9) 0 dX5_told_8 rfl ?_
    refine Wp.aload_n (pc2 := 10) dX5_told_9 rfl rfl ?_
    refine Wp.getf (pc2 := 13) fX5_16 dX5_told_10 rfl rfl rfl ?_
    refine Wp.iload_n (pc2 := 14) dX5_told_13 rfl rfl ?_
    refine Wp.ialdN (pc2 := 15) dX5_told_14 rfl rfl (by omega) (by decide) ?_
    refine Wp.iconN (pc2 := 16) 1 dX5_told_15 rfl ?_
    refine Wp.isub (pc2 := 17) dX5_told_16 rfl ?_
    refine Wp.callS (pc2 := 20) kX5_told_81 sX5_in (m_in _ k _ _) dX5_told_17 rfl rfl rfl (Nat.le_of_ble_eq_true rfl) ?_
    rintro _ _ ⟨⟨b, rfl, hb⟩, rfl⟩
    refine Wp.ifN_ne (pc2 := 23) 25 dX5_told_20 rfl (by decide) (zb_lt _) (fun c20 => ?_) (fun c20 => ?_)
    · obtain ⟨k1, hk1, rfl⟩ := (rg_sub (by omega)).mp (zby hb c20)
      refine Wp.iconN (pc2 := 26) 4 dX5_told_25 rfl ?_
      refine Wp.iload_n (pc2 := 27) dX5_told_26 rfl rfl ?_
      refine Wp.imulN (pc2 := 28) dX5_told_27 rfl  ?_
      refine Wp.iload_n (pc2 := 29) dX5_told_28 rfl rfl ?_
      refine Wp.iaddN (pc2 := 30) dX5_told_29 rfl  ?_
      refine Wp.istore (pc2 := 32) dX5_told_30 rfl (by decide) rfl ?_
      refine Wp.iload_n (pc2 := 33) dX5_told_32 rfl rfl ?_
      have hw : w.toInt < 0 ∨ 2 < w.toInt := by
        rcases Classical.em (w.toInt < 0 ∨ 2 < w.toInt) with q | q
        · exact q
        · exact absurd ⟨t', k1, w.toInt.toNat, ⟨ht, rfl⟩, ⟨hk1, rfl⟩, by omega, Int32.toInt_inj.mp (by rw [nI_toInt (by omega)]; omega)⟩ hno
      refine Wp.tableOut (pc2 := 84) dX5_told_33 hw (by decide) ?_
      refine Wp.icon (pc2 := 85) dX5_told_84 rfl (-1) (by decide +kernel) ?_
      refine Wp.ret dX5_told_85 rfl rfl ?_
      exact ⟨rfl, rfl⟩
    · refine Wp.icon (pc2 := 24) dX5_told_23 rfl (-1) (by decide +kernel) ?_
      refine Wp.ret dX5_told_24 rfl rfl ?_
      exact ⟨rfl, rfl⟩

/-- how many rows are in memory -/
def cntM (V : zS) : Nat → Nat
  | 0 => 0
  | n + 1 => cntM V n + (if V 18 n = 2 then 1 else 0)
theorem cntM_le (V : zS) : ∀ n, cntM V n ≤ n
  | 0 => Nat.le_refl 0
  | n + 1 => by
    have := cntM_le V n
    unfold cntM
    split <;> omega

set_option maxRecDepth 100000 in
set_option maxHeartbeats 4000000 in
theorem m_inMemory_l (V : zS) (hV : BV V) : ∀ (n k : Nat), k ≤ 100 → 100 < k + n → Wp mX5_inMemory (fun zr zq => zr = some (.int (nI (cntM V 100))) ∧ zq = hM V) 4 [.ref 0, .int (nI (cntM V k)), .int (nI k)] [] (hM V) := by
  intro n
  induction n with
  | zero => intro k h1 h2; omega
  | succ n ih =>
    intro k h1 h2
    refine Wp.iload_n (pc2 := 5) dX5_inMemory_4 rfl rfl ?_
    refine Wp.bipN (pc2 := 7) 100 dX5_inMemory_5 rfl (by decide +kernel) ?_
    refine Wp.icmpN_ge (pc2 := 10) 34 dX5_inMemory_7 rfl (by decide) (by omega) (by omega) (fun c7 => ?_) (fun c7 => ?_)
    · refine Wp.iload_n (pc2 := 35) dX5_inMemory_34 rfl rfl ?_
      refine Wp.ret dX5_inMemory_35 rfl rfl ?_
      have e : k = 100 := by omega
      subst e
      exact ⟨rfl, rfl⟩
    · refine Wp.iload_n (pc2 := 11) dX5_inMemory_10 rfl rfl ?_
      refine Wp.aload_n (pc2 := 12) dX5_inMemory_11 rfl rfl ?_
      refine Wp.getf (pc2 := 15) fX5_69 dX5_inMemory_12 rfl rfl rfl ?_
      refine Wp.iload_n (pc2 := 16) dX5_inMemory_15 rfl rfl ?_
      refine Wp.ialdN (pc2 := 17) dX5_inMemory_16 rfl rfl (by omega) (by decide) ?_
      refine Wp.iconN (pc2 := 18) 2 dX5_inMemory_17 rfl ?_
      refine Wp.icmpN_ne (pc2 := 21) 25 dX5_inMemory_18 rfl (by decide) (hV.l _ _) (by decide) (fun c18 => ?_) (fun c18 => ?_)
      · refine Wp.iconN (pc2 := 26) 0 dX5_inMemory_25 rfl ?_
        refine Wp.iaddN (pc2 := 27) dX5_inMemory_26 rfl  ?_
        refine Wp.istore_n (pc2 := 28) dX5_inMemory_27 rfl (by decide) rfl ?_
        refine Wp.iincN (pc2 := 31) dX5_inMemory_28 rfl rfl (by decide) rfl ?_
        refine Wp.goto (pc2 := 4) dX5_inMemory_31 (by decide) ?_
        refine Wp.leq (L' := [.ref 0, .int (nI (cntM V (k + 1))), .int (nI (k + 1))]) ?_ (ih (k + 1) (by omega) (by omega))
        first
          | (have e : cntM V (k + 1) = cntM V k + 1 := by (show _ + _ = _; rw [if_pos c18])
             rw [e]; rfl)
          | (have e : cntM V (k + 1) = cntM V k + 0 := by (show _ + _ = _; rw [if_neg c18])
             rw [e]; rfl)
      · refine Wp.iconN (pc2 := 22) 1 dX5_inMemory_21 rfl ?_
        refine Wp.goto (pc2 := 26) dX5_inMemory_22 (by decide) ?_
        refine Wp.iaddN (pc2 := 27) dX5_inMemory_26 rfl  ?_
        refine Wp.istore_n (pc2 := 28) dX5_inMemory_27 rfl (by decide) rfl ?_
        refine Wp.iincN (pc2 := 31) dX5_inMemory_28 rfl rfl (by decide) rfl ?_
        refine Wp.goto (pc2 := 4) dX5_inMemory_31 (by decide) ?_
        refine Wp.leq (L' := [.ref 0, .int (nI (cntM V (k + 1))), .int (nI (k + 1))]) ?_ (ih (k + 1) (by omega) (by omega))
        first
          | (have e : cntM V (k + 1) = cntM V k + 1 := by (show _ + _ = _; rw [if_pos c18])
             rw [e]; rfl)
          | (have e : cntM V (k + 1) = cntM V k + 0 := by (show _ + _ = _; rw [if_neg c18])
             rw [e]; rfl)

set_option maxRecDepth 100000 in
set_option maxHeartbeats 4000000 in
theorem m_inMemory (V : zS) (hV : BV V) : PM mX5_inMemory [.ref 0] (hM V) (fun zr zq => zr = some (.int (nI (cntM V 100))) ∧ zq = hM V) := by
  refine PM.of (by decide +kernel) (by simp [Value.category]) (Nat.le_of_ble_eq_true rfl) ?_
  refine Wp.iconN (pc2 := 1) 0 dX5_inMemory_0 rfl ?_
  refine Wp.istore_n (pc2 := 2) dX5_inMemory_1 rfl (by decide) rfl ?_
  refine Wp.iconN (pc2 := 3) 0 dX5_inMemory_2 rfl ?_
  refine Wp.istore_n (pc2 := 4) dX5_inMemory_3 rfl (by decide) rfl ?_
  exact m_inMemory_l V hV 101 0 (by omega) (by omega)

def mCount (V : zS) (w : Nat) : Nat := if w = 0 then V 0 10 else if w = 1 then V 0 27 else if w = 2 then V 0 26 else if w = 3 then cntM V 100 else if w = 4 then V 0 28 else if w = 5 then V 10 0 else if w = 6 then V 10 1 else if w = 7 then V 0 30 else if w = 8 then V 0 31 else V 0 8

set_option maxRecDepth 100000 in
set_option maxHeartbeats 4000000 in
theorem m_count_ok (V : zS) (w : Nat) (hV : BV V) (hw : w < 10) : PM mX5_count [.ref 0, .int (nI w)] (hM V) (fun zr zq => zr = some (.int (nI (mCount V w))) ∧ zq = hM V) := by
  refine PM.of (by decide +kernel) (by simp [Value.category]) (Nat.le_of_ble_eq_true rfl) ?_
  refine Wp.iload_n (pc2 := 1) dX5_count_0 rfl rfl ?_
  rcases (show w = 0 ∨ w = 1 ∨ w = 2 ∨ w = 3 ∨ w = 4 ∨ w = 5 ∨ w = 6 ∨ w = 7 ∨ w = 8 ∨ w = 9 by omega) with rfl | rfl | rfl | rfl | rfl | rfl | rfl | rfl | rfl | rfl
  · refine Wp.tableIn (pc2 := 56) dX5_count_1 (by decide) (by decide) rfl (by decide) ?_
    refine Wp.aload_n (pc2 := 57) dX5_count_56 rfl rfl ?_
    refine Wp.getf (pc2 := 60) fX5_89 dX5_count_57 rfl rfl rfl ?_
    refine Wp.ret dX5_count_60 rfl rfl ?_
    exact ⟨rfl, rfl⟩
  · refine Wp.tableIn (pc2 := 61) dX5_count_1 (by decide) (by decide) rfl (by decide) ?_
    refine Wp.aload_n (pc2 := 62) dX5_count_61 rfl rfl ?_
    refine Wp.getf (pc2 := 65) fX5_106 dX5_count_62 rfl rfl rfl ?_
    refine Wp.ret dX5_count_65 rfl rfl ?_
    exact ⟨rfl, rfl⟩
  · refine Wp.tableIn (pc2 := 66) dX5_count_1 (by decide) (by decide) rfl (by decide) ?_
    refine Wp.aload_n (pc2 := 67) dX5_count_66 rfl rfl ?_
    refine Wp.getf (pc2 := 70) fX5_103 dX5_count_67 rfl rfl rfl ?_
    refine Wp.ret dX5_count_70 rfl rfl ?_
    exact ⟨rfl, rfl⟩
  · refine Wp.tableIn (pc2 := 71) dX5_count_1 (by decide) (by decide) rfl (by decide) ?_
    refine Wp.aload_n (pc2 := 72) dX5_count_71 rfl rfl ?_
    refine Wp.callV (pc2 := 75) kX5_count_155 vX5_inMemory (m_inMemory V hV) dX5_count_72 rfl rfl rfl rfl rfl (Nat.le_of_ble_eq_true rfl) ?_
    rintro _ _ ⟨rfl, rfl⟩
    refine Wp.ret dX5_count_75 rfl rfl ?_
    exact ⟨rfl, rfl⟩
  · refine Wp.tableIn (pc2 := 76) dX5_count_1 (by decide) (by decide) rfl (by decide) ?_
    refine Wp.aload_n (pc2 := 77) dX5_count_76 rfl rfl ?_
    refine Wp.getf (pc2 := 80) fX5_109 dX5_count_77 rfl rfl rfl ?_
    refine Wp.ret dX5_count_80 rfl rfl ?_
    exact ⟨rfl, rfl⟩
  · refine Wp.tableIn (pc2 := 81) dX5_count_1 (by decide) (by decide) rfl (by decide) ?_
    refine Wp.aload_n (pc2 := 82) dX5_count_81 rfl rfl ?_
    refine Wp.getf (pc2 := 85) fX5_44 dX5_count_82 rfl rfl rfl ?_
    refine Wp.iconN (pc2 := 86) 0 dX5_count_85 rfl ?_
    refine Wp.ialdN (pc2 := 87) dX5_count_86 rfl rfl (by omega) (by decide) ?_
    refine Wp.ret dX5_count_87 rfl rfl ?_
    exact ⟨rfl, rfl⟩
  · refine Wp.tableIn (pc2 := 88) dX5_count_1 (by decide) (by decide) rfl (by decide) ?_
    refine Wp.aload_n (pc2 := 89) dX5_count_88 rfl rfl ?_
    refine Wp.getf (pc2 := 92) fX5_44 dX5_count_89 rfl rfl rfl ?_
    refine Wp.iconN (pc2 := 93) 1 dX5_count_92 rfl ?_
    refine Wp.ialdN (pc2 := 94) dX5_count_93 rfl rfl (by omega) (by decide) ?_
    refine Wp.ret dX5_count_94 rfl rfl ?_
    exact ⟨rfl, rfl⟩
  · refine Wp.tableIn (pc2 := 95) dX5_count_1 (by decide) (by decide) rfl (by decide) ?_
    refine Wp.aload_n (pc2 := 96) dX5_count_95 rfl rfl ?_
    refine Wp.getf (pc2 := 99) fX5_115 dX5_count_96 rfl rfl rfl ?_
    refine Wp.ret dX5_count_99 rfl rfl ?_
    exact ⟨rfl, rfl⟩
  · refine Wp.tableIn (pc2 := 100) dX5_count_1 (by decide) (by decide) rfl (by decide) ?_
    refine Wp.aload_n (pc2 := 101) dX5_count_100 rfl rfl ?_
    refine Wp.getf (pc2 := 104) fX5_118 dX5_count_101 rfl rfl rfl ?_
    refine Wp.ret dX5_count_104 rfl rfl ?_
    exact ⟨rfl, rfl⟩
  · refine Wp.tableIn (pc2 := 105) dX5_count_1 (by decide) (by decide) rfl (by decide) ?_
    refine Wp.aload_n (pc2 := 106) dX5_count_105 rfl rfl ?_
    refine Wp.getf (pc2 := 109) fX5_34 dX5_count_106 rfl rfl rfl ?_
    refine Wp.ret dX5_count_109 rfl rfl ?_
    exact ⟨rfl, rfl⟩

set_option maxRecDepth 100000 in
set_option maxHeartbeats 4000000 in
theorem m_count_no (V : zS) (w : Int32) (hno : ¬ rg w 10) : PM mX5_count [.ref 0, .int w] (hM V) (fun zr zq => zr = some (.int (-1)) ∧ zq = hM V) := by
  refine PM.of (by decide +kernel) (by simp [Value.category]) (Nat.le_of_ble_eq_true rfl) ?_
  refine Wp.iload_n (pc2 := 1) dX5_count_0 rfl rfl ?_
  have hw : w.toInt < 0 ∨ 9 < w.toInt := by
    rcases Classical.em (w.toInt < 0 ∨ 9 < w.toInt) with q | q
    · exact q
    · exact absurd ⟨w.toInt.toNat, by omega, Int32.toInt_inj.mp (by rw [nI_toInt (by omega)]; omega)⟩ hno
  refine Wp.tableOut (pc2 := 110) dX5_count_1 hw (by decide) ?_
  refine Wp.icon (pc2 := 111) dX5_count_110 rfl (-1) (by decide +kernel) ?_
  refine Wp.ret dX5_count_111 rfl rfl ?_
  exact ⟨rfl, rfl⟩

/-- a pair that could be given and wasn't -/
def cand (V : zS) (p : Nat) : Prop := V 20 p = 0 ∧ p / 50 < V 1 0 ∧ p % 50 < V 1 1 ∧ 2 ≤ V 18 (p / 50) ∧ 2 ≤ V 18 (50 + p % 50) ∧ alike V (p / 50) (p % 50)
def lackQ (V : zS) (zr : Option Value) (zq : zh) : Prop := zq = hM V ∧ ((∃ p, p < 2500 ∧ zr = some (.int (nI p)) ∧ cand V p ∧ ∀ q, q < p → ¬ cand V q) ∨ (zr = some (.int (-1)) ∧ ∀ q, q < 2500 → ¬ cand V q))

set_option maxRecDepth 100000 in
set_option maxHeartbeats 4000000 in
theorem m_lacking_l (V : zS) (hV : BV V) (h0 : V 8 0 < 3) (h1 : V 8 1 < 3) : ∀ (n p : Nat), p ≤ 2500 → 2500 < p + n → (∀ q, q < p → ¬ cand V q) → Wp mX5_lacking (lackQ V) 2 [.ref 0, .int (nI p), .null, .null] [] (hM V) := by
  intro n
  induction n with
  | zero => intro p hp1 hp2; omega
  | succ n ih =>
    intro p hp1 hp2 hq
    refine Wp.iload_n (pc2 := 3) dX5_lacking_2 rfl rfl ?_
    refine Wp.sipN (pc2 := 6) 2500 dX5_lacking_3 rfl (by decide +kernel) ?_
    refine Wp.icmpN_ge (pc2 := 9) 88 dX5_lacking_6 rfl (by decide) (by omega) (by omega) (fun c6 => ?_) (fun c6 => ?_)
    · refine Wp.icon (pc2 := 89) dX5_lacking_88 rfl (-1) (by decide +kernel) ?_
      refine Wp.ret dX5_lacking_89 rfl rfl ?_
      have e : p = 2500 := by omega
      subst e
      exact ⟨rfl, Or.inr ⟨rfl, hq⟩⟩
    · refine Wp.iload_n (pc2 := 10) dX5_lacking_9 rfl rfl ?_
      refine Wp.bipN (pc2 := 12) 50 dX5_lacking_10 rfl (by decide +kernel) ?_
      refine Wp.idivN (pc2 := 13) dX5_lacking_12 rfl (by omega) (by decide) (by decide) ?_
      refine Wp.istore_n (pc2 := 14) dX5_lacking_13 rfl (by decide) rfl ?_
      refine Wp.iload_n (pc2 := 15) dX5_lacking_14 rfl rfl ?_
      refine Wp.bipN (pc2 := 17) 50 dX5_lacking_15 rfl (by decide +kernel) ?_
      refine Wp.iremN (pc2 := 18) dX5_lacking_17 rfl (by omega) (by decide) (by decide) ?_
      refine Wp.istore_n (pc2 := 19) dX5_lacking_18 rfl (by decide) rfl ?_
      refine Wp.aload_n (pc2 := 20) dX5_lacking_19 rfl rfl ?_
      refine Wp.getf (pc2 := 23) fX5_75 dX5_lacking_20 rfl rfl rfl ?_
      refine Wp.iload_n (pc2 := 24) dX5_lacking_23 rfl rfl ?_
      refine Wp.zaldN (pc2 := 25) dX5_lacking_24 rfl rfl (by omega) (by decide) ?_
      refine Wp.ifN_ne (pc2 := 28) 82 dX5_lacking_25 rfl (by decide) (hV.l _ _) (fun c25 => ?_) (fun c25 => ?_)
      · refine Wp.iincN (pc2 := 85) dX5_lacking_82 rfl rfl (by decide) rfl ?_
        refine Wp.goto (pc2 := 2) dX5_lacking_85 (by decide) ?_
        have hnc : ¬ cand V p := by
          first
            | exact fun z => c25 z.1
            | exact fun z => absurd z.2.1 (Nat.not_lt.mpr c35)
            | exact fun z => absurd z.2.2.1 (Nat.not_lt.mpr c45)
            | exact fun z => absurd z.2.2.2.1 (Nat.not_le.mpr c55)
            | exact fun z => absurd z.2.2.2.2.1 (Nat.not_le.mpr c68)
            | exact fun z => zbn hb c77 z.2.2.2.2.2
        refine Wp.fg [.ref 0, .int (nI (p + 1)), .null, .null] (And.intro (Or.inr rfl) (And.intro (Or.inr rfl) (And.intro (Or.inl rfl) (And.intro (Or.inl rfl) trivial)))) ?_
        exact ih (p + 1) (by omega) (by omega) (lt_s (p := fun q => ¬ cand V q) hq hnc)
      · refine Wp.iload_n (pc2 := 29) dX5_lacking_28 rfl rfl ?_
        refine Wp.aload_n (pc2 := 30) dX5_lacking_29 rfl rfl ?_
        refine Wp.getf (pc2 := 33) fX5_7 dX5_lacking_30 rfl rfl rfl ?_
        refine Wp.iconN (pc2 := 34) 0 dX5_lacking_33 rfl ?_
        refine Wp.ialdN (pc2 := 35) dX5_lacking_34 rfl rfl (by omega) (by decide) ?_
        refine Wp.icmpN_ge (pc2 := 38) 82 dX5_lacking_35 rfl (by decide) (by omega) (hV.l _ _) (fun c35 => ?_) (fun c35 => ?_)
        · refine Wp.iincN (pc2 := 85) dX5_lacking_82 rfl rfl (by decide) rfl ?_
          refine Wp.goto (pc2 := 2) dX5_lacking_85 (by decide) ?_
          have hnc : ¬ cand V p := by
            first
              | exact fun z => c25 z.1
              | exact fun z => absurd z.2.1 (Nat.not_lt.mpr c35)
              | exact fun z => absurd z.2.2.1 (Nat.not_lt.mpr c45)
              | exact fun z => absurd z.2.2.2.1 (Nat.not_le.mpr c55)
              | exact fun z => absurd z.2.2.2.2.1 (Nat.not_le.mpr c68)
              | exact fun z => zbn hb c77 z.2.2.2.2.2
          refine Wp.fg [.ref 0, .int (nI (p + 1)), .null, .null] (And.intro (Or.inr rfl) (And.intro (Or.inr rfl) (And.intro (Or.inl rfl) (And.intro (Or.inl rfl) trivial)))) ?_
          exact ih (p + 1) (by omega) (by omega) (lt_s (p := fun q => ¬ cand V q) hq hnc)
        · refine Wp.iload_n (pc2 := 39) dX5_lacking_38 rfl rfl ?_
          refine Wp.aload_n (pc2 := 40) dX5_lacking_39 rfl rfl ?_
          refine Wp.getf (pc2 := 43) fX5_7 dX5_lacking_40 rfl rfl rfl ?_
          refine Wp.iconN (pc2 := 44) 1 dX5_lacking_43 rfl ?_
          refine Wp.ialdN (pc2 := 45) dX5_lacking_44 rfl rfl (by omega) (by decide) ?_
          refine Wp.icmpN_ge (pc2 := 48) 82 dX5_lacking_45 rfl (by decide) (by omega) (hV.l _ _) (fun c45 => ?_) (fun c45 => ?_)
          · refine Wp.iincN (pc2 := 85) dX5_lacking_82 rfl rfl (by decide) rfl ?_
            refine Wp.goto (pc2 := 2) dX5_lacking_85 (by decide) ?_
            have hnc : ¬ cand V p := by
              first
                | exact fun z => c25 z.1
                | exact fun z => absurd z.2.1 (Nat.not_lt.mpr c35)
                | exact fun z => absurd z.2.2.1 (Nat.not_lt.mpr c45)
                | exact fun z => absurd z.2.2.2.1 (Nat.not_le.mpr c55)
                | exact fun z => absurd z.2.2.2.2.1 (Nat.not_le.mpr c68)
                | exact fun z => zbn hb c77 z.2.2.2.2.2
            refine Wp.fg [.ref 0, .int (nI (p + 1)), .null, .null] (And.intro (Or.inr rfl) (And.intro (Or.inr rfl) (And.intro (Or.inl rfl) (And.intro (Or.inl rfl) trivial)))) ?_
            exact ih (p + 1) (by omega) (by omega) (lt_s (p := fun q => ¬ cand V q) hq hnc)
          · refine Wp.aload_n (pc2 := 49) dX5_lacking_48 rfl rfl ?_
            refine Wp.getf (pc2 := 52) fX5_69 dX5_lacking_49 rfl rfl rfl ?_
            refine Wp.iload_n (pc2 := 53) dX5_lacking_52 rfl rfl ?_
            refine Wp.ialdN (pc2 := 54) dX5_lacking_53 rfl rfl (by omega) (by decide) ?_
            refine Wp.iconN (pc2 := 55) 2 dX5_lacking_54 rfl ?_
            refine Wp.icmpN_lt (pc2 := 58) 82 dX5_lacking_55 rfl (by decide) (hV.l _ _) (by decide) (fun c55 => ?_) (fun c55 => ?_)
            · refine Wp.iincN (pc2 := 85) dX5_lacking_82 rfl rfl (by decide) rfl ?_
              refine Wp.goto (pc2 := 2) dX5_lacking_85 (by decide) ?_
              have hnc : ¬ cand V p := by
                first
                  | exact fun z => c25 z.1
                  | exact fun z => absurd z.2.1 (Nat.not_lt.mpr c35)
                  | exact fun z => absurd z.2.2.1 (Nat.not_lt.mpr c45)
                  | exact fun z => absurd z.2.2.2.1 (Nat.not_le.mpr c55)
                  | exact fun z => absurd z.2.2.2.2.1 (Nat.not_le.mpr c68)
                  | exact fun z => zbn hb c77 z.2.2.2.2.2
              refine Wp.fg [.ref 0, .int (nI (p + 1)), .null, .null] (And.intro (Or.inr rfl) (And.intro (Or.inr rfl) (And.intro (Or.inl rfl) (And.intro (Or.inl rfl) trivial)))) ?_
              exact ih (p + 1) (by omega) (by omega) (lt_s (p := fun q => ¬ cand V q) hq hnc)
            · refine Wp.aload_n (pc2 := 59) dX5_lacking_58 rfl rfl ?_
              refine Wp.getf (pc2 := 62) fX5_69 dX5_lacking_59 rfl rfl rfl ?_
              refine Wp.bipN (pc2 := 64) 50 dX5_lacking_62 rfl (by decide +kernel) ?_
              refine Wp.iload_n (pc2 := 65) dX5_lacking_64 rfl rfl ?_
              refine Wp.iaddN (pc2 := 66) dX5_lacking_65 rfl  ?_
              refine Wp.ialdN (pc2 := 67) dX5_lacking_66 rfl rfl (by omega) (by decide) ?_
              refine Wp.iconN (pc2 := 68) 2 dX5_lacking_67 rfl ?_
              refine Wp.icmpN_lt (pc2 := 71) 82 dX5_lacking_68 rfl (by decide) (hV.l _ _) (by decide) (fun c68 => ?_) (fun c68 => ?_)
              · refine Wp.iincN (pc2 := 85) dX5_lacking_82 rfl rfl (by decide) rfl ?_
                refine Wp.goto (pc2 := 2) dX5_lacking_85 (by decide) ?_
                have hnc : ¬ cand V p := by
                  first
                    | exact fun z => c25 z.1
                    | exact fun z => absurd z.2.1 (Nat.not_lt.mpr c35)
                    | exact fun z => absurd z.2.2.1 (Nat.not_lt.mpr c45)
                    | exact fun z => absurd z.2.2.2.1 (Nat.not_le.mpr c55)
                    | exact fun z => absurd z.2.2.2.2.1 (Nat.not_le.mpr c68)
                    | exact fun z => zbn hb c77 z.2.2.2.2.2
                refine Wp.fg [.ref 0, .int (nI (p + 1)), .null, .null] (And.intro (Or.inr rfl) (And.intro (Or.inr rfl) (And.intro (Or.inl rfl) (And.intro (Or.inl rfl) trivial)))) ?_
                exact ih (p + 1) (by omega) (by omega) (lt_s (p := fun q => ¬ cand V q) hq hnc)
              · refine Wp.aload_n (pc2 := 72) dX5_lacking_71 rfl rfl ?_
                refine Wp.iload_n (pc2 := 73) dX5_lacking_72 rfl rfl ?_
                refine Wp.iload_n (pc2 := 74) dX5_lacking_73 rfl rfl ?_
                refine Wp.callV (pc2 := 77) kX5_lacking_124 vX5_isAlike (m_isAlike V (p / 50) (p % 50) hV (by omega) (by omega) h0 h1) dX5_lacking_74 rfl rfl rfl rfl rfl (Nat.le_of_ble_eq_true rfl) ?_
                rintro _ _ ⟨⟨b, rfl, hb⟩, rfl⟩
                refine Wp.ifN_eq (pc2 := 80) 82 dX5_lacking_77 rfl (by decide) (zb_lt _) (fun c77 => ?_) (fun c77 => ?_)
                · refine Wp.iincN (pc2 := 85) dX5_lacking_82 rfl rfl (by decide) rfl ?_
                  refine Wp.goto (pc2 := 2) dX5_lacking_85 (by decide) ?_
                  have hnc : ¬ cand V p := by
                    first
                      | exact fun z => c25 z.1
                      | exact fun z => absurd z.2.1 (Nat.not_lt.mpr c35)
                      | exact fun z => absurd z.2.2.1 (Nat.not_lt.mpr c45)
                      | exact fun z => absurd z.2.2.2.1 (Nat.not_le.mpr c55)
                      | exact fun z => absurd z.2.2.2.2.1 (Nat.not_le.mpr c68)
                      | exact fun z => zbn hb c77 z.2.2.2.2.2
                  refine Wp.fg [.ref 0, .int (nI (p + 1)), .null, .null] (And.intro (Or.inr rfl) (And.intro (Or.inr rfl) (And.intro (Or.inl rfl) (And.intro (Or.inl rfl) trivial)))) ?_
                  exact ih (p + 1) (by omega) (by omega) (lt_s (p := fun q => ¬ cand V q) hq hnc)
                · refine Wp.iload_n (pc2 := 81) dX5_lacking_80 rfl rfl ?_
                  refine Wp.ret dX5_lacking_81 rfl rfl ?_
                  exact ⟨rfl, Or.inl ⟨p, by omega, rfl, ⟨c25, c35, c45, c55, c68, zby hb c77⟩, hq⟩⟩

set_option maxRecDepth 100000 in
set_option maxHeartbeats 4000000 in
theorem m_lacking (V : zS) (hV : BV V) (h0 : V 8 0 < 3) (h1 : V 8 1 < 3) : PM mX5_lacking [.ref 0] (hM V) (lackQ V) := by
  refine PM.of (by decide +kernel) (by simp [Value.category]) (Nat.le_of_ble_eq_true rfl) ?_
  refine Wp.iconN (pc2 := 1) 0 dX5_lacking_0 rfl ?_
  refine Wp.istore_n (pc2 := 2) dX5_lacking_1 rfl (by decide) rfl ?_
  exact m_lacking_l V hV h0 h1 2501 0 (by omega) (by omega) lt_0

def endP (V : zS) : Prop := V 10 0 = V 1 0 ∧ V 10 1 = V 1 1 ∧ ∀ q, q < 2500 → ¬ cand V q
noncomputable def mEnds (V : zS) : zS := @ite _ (endP V) (Classical.propDecidable _) (vs V 0 10 2) V
theorem mEnds_t {V : zS} (h : endP V) : mEnds V = vs V 0 10 2 := if_pos h
theorem mEnds_f {V : zS} (h : ¬ endP V) : mEnds V = V := if_neg h

set_option maxRecDepth 100000 in
set_option maxHeartbeats 4000000 in
theorem m_ends (V : zS) (hV : BV V) (h0 : V 8 0 < 3) (h1 : V 8 1 < 3) : PM mX5_ends [.ref 0] (hM V) (fun zr zq => zr = none ∧ zq = hM (mEnds V)) := by
  refine PM.of (by decide +kernel) (by simp [Value.category]) (Nat.le_of_ble_eq_true rfl) ?_
  refine Wp.aload_n (pc2 := 1) dX5_ends_0 rfl rfl ?_
  refine Wp.iconN (pc2 := 2) 0 dX5_ends_1 rfl ?_
  refine Wp.callV (pc2 := 5) kX5_ends_128 vX5_isReadOut (m_isReadOut V 0 hV (by omega)) dX5_ends_2 rfl rfl rfl rfl rfl (Nat.le_of_ble_eq_true rfl) ?_
  rintro _ _ ⟨⟨b1, rfl, hb1⟩, rfl⟩
  refine Wp.ifN_eq (pc2 := 8) 29 dX5_ends_5 rfl (by decide) (zb_lt _) (fun c5 => ?_) (fun c5 => ?_)
  · refine Wp.retv dX5_ends_29 rfl ?_
    first
      | (rw [mEnds_f (fun z => zbn hb1 c5 z.1)]; exact ⟨rfl, rfl⟩)
      | (rw [mEnds_f (fun z => zbn hb2 c13 z.2.1)]; exact ⟨rfl, rfl⟩)
      | (rw [mEnds_t ⟨zby hb1 c5, zby hb2 c13, hz⟩]; exact ⟨rfl, rfl⟩)
      | exact absurd rfl c21
  · refine Wp.aload_n (pc2 := 9) dX5_ends_8 rfl rfl ?_
    refine Wp.iconN (pc2 := 10) 1 dX5_ends_9 rfl ?_
    refine Wp.callV (pc2 := 13) kX5_ends_128 vX5_isReadOut (m_isReadOut V 1 hV (by omega)) dX5_ends_10 rfl rfl rfl rfl rfl (Nat.le_of_ble_eq_true rfl) ?_
    rintro _ _ ⟨⟨b2, rfl, hb2⟩, rfl⟩
    refine Wp.ifN_eq (pc2 := 16) 29 dX5_ends_13 rfl (by decide) (zb_lt _) (fun c13 => ?_) (fun c13 => ?_)
    · refine Wp.retv dX5_ends_29 rfl ?_
      first
        | (rw [mEnds_f (fun z => zbn hb1 c5 z.1)]; exact ⟨rfl, rfl⟩)
        | (rw [mEnds_f (fun z => zbn hb2 c13 z.2.1)]; exact ⟨rfl, rfl⟩)
        | (rw [mEnds_t ⟨zby hb1 c5, zby hb2 c13, hz⟩]; exact ⟨rfl, rfl⟩)
        | exact absurd rfl c21
    · refine Wp.aload_n (pc2 := 17) dX5_ends_16 rfl rfl ?_
      refine Wp.callV (pc2 := 20) kX5_ends_131 vX5_lacking (m_lacking V hV h0 h1) dX5_ends_17 rfl rfl rfl rfl rfl (Nat.le_of_ble_eq_true rfl) ?_
      rintro _ _ ⟨rfl, hz⟩
      rcases hz with ⟨p, hp, rfl, hz, -⟩ | ⟨rfl, hz⟩
      · refine Wp.icon (pc2 := 21) dX5_ends_20 rfl (-1) (by decide +kernel) ?_
        refine Wp.icmp_ne (pc2 := 24) 29 dX5_ends_21 rfl (by decide) (fun c => ?_) (fun c => absurd c (nI_m1 (by omega)))
        refine Wp.retv dX5_ends_29 rfl ?_
        rw [mEnds_f (fun z => z.2.2 p hp hz)]
        exact ⟨rfl, rfl⟩
      refine Wp.icon (pc2 := 21) dX5_ends_20 rfl (-1) (by decide +kernel) ?_
      refine Wp.icmp_ne (pc2 := 24) 29 dX5_ends_21 rfl (by decide)  (fun c21 => ?_) (fun c21 => ?_)
      · refine Wp.retv dX5_ends_29 rfl ?_
        first
          | (rw [mEnds_f (fun z => zbn hb1 c5 z.1)]; exact ⟨rfl, rfl⟩)
          | (rw [mEnds_f (fun z => zbn hb2 c13 z.2.1)]; exact ⟨rfl, rfl⟩)
          | (rw [mEnds_t ⟨zby hb1 c5, zby hb2 c13, hz⟩]; exact ⟨rfl, rfl⟩)
          | exact absurd rfl c21
      · refine Wp.aload_n (pc2 := 25) dX5_ends_24 rfl rfl ?_
        refine Wp.iconN (pc2 := 26) 2 dX5_ends_25 rfl ?_
        refine Wp.putf (pc2 := 29) gX5_89 dX5_ends_26 rfl rfl (Nat.le_of_ble_eq_true rfl) rfl rfl ?_
        refine Wp.heq (hM_o0_10 _ _) ?_
        refine Wp.retv dX5_ends_29 rfl ?_
        first
          | (rw [mEnds_f (fun z => zbn hb1 c5 z.1)]; exact ⟨rfl, rfl⟩)
          | (rw [mEnds_f (fun z => zbn hb2 c13 z.2.1)]; exact ⟨rfl, rfl⟩)
          | (rw [mEnds_t ⟨zby hb1 c5, zby hb2 c13, hz⟩]; exact ⟨rfl, rfl⟩)
          | exact absurd rfl c21

theorem lgle {a b : Nat} (ha : a < 2 ^ 62) (hb : b < 2 ^ 62) : lg_cmp (lN a) (lN b) ≤ 0 ↔ a ≤ b := by
  unfold lg_cmp
  have h1 := pk_lLT (a := b) (b := a) (by omega) (by omega)
  have h2 := pk_lEQ (a := a) (b := b) (by omega) (by omega)
  by_cases q : b < a
  · have : lN a > lN b := h1.mpr q
    rw [if_pos this]
    constructor
    · intro z; exact absurd z (by decide)
    · intro z; omega
  · rw [if_neg (fun z => q (h1.mp z))]
    constructor
    · intro _; omega
    · intro _
      split <;> decide
theorem lglt {a b : Nat} (ha : a < 2 ^ 62) (hb : b < 2 ^ 62) : lg_cmp (lN a) (lN b) < 0 ↔ a < b := by
  unfold lg_cmp
  have h1 := pk_lLT (a := b) (b := a) (by omega) (by omega)
  have h2 := pk_lEQ (a := a) (b := b) (by omega) (by omega)
  by_cases q : b < a
  · have : lN a > lN b := h1.mpr q
    rw [if_pos this]
    constructor
    · intro z; exact absurd z (by decide)
    · intro z; omega
  · rw [if_neg (fun z => q (h1.mp z))]
    by_cases q2 : a = b
    · rw [if_pos (h2.mpr q2)]
      constructor
      · intro z; exact absurd z (by decide)
      · intro z; omega
    · rw [if_neg (fun z => q2 (h2.mp z))]
      constructor
      · intro _; omega
      · intro _; decide
theorem lgeq {a b : Nat} (ha : a < 2 ^ 62) (hb : b < 2 ^ 62) : lg_cmp (lN a) (lN b) = 0 ↔ a = b := by
  unfold lg_cmp
  have h1 := pk_lLT (a := b) (b := a) (by omega) (by omega)
  have h2 := pk_lEQ (a := a) (b := b) (by omega) (by omega)
  by_cases q : b < a
  · have : lN a > lN b := h1.mpr q
    rw [if_pos this]
    constructor
    · intro z; exact absurd z (by decide)
    · intro z; omega
  · rw [if_neg (fun z => q (h1.mp z))]
    by_cases q2 : a = b
    · rw [if_pos (h2.mpr q2)]
      exact ⟨fun _ => q2, fun _ => rfl⟩
    · rw [if_neg (fun z => q2 (h2.mp z))]
      constructor
      · intro z; exact absurd z (by decide)
      · intro z; exact absurd z q2
theorem Wp.i2lN {M : zm_I} {Q : Option Value → zh → Prop} {pc pc2 : Nat} {L st : List Value} {h : zh} {a : Nat} (d : decode (zm_c M) pc = .ok (.i2l, 1)) (hp : pc + 1 = pc2) (ha : a < 2 ^ 31) (k : Wp M Q pc2 L (.long (lN a) :: st) h) : Wp M Q pc L (.int (nI a) :: st) h := Wp.i2l d hp _ (nI_l ha) k
theorem Wp.lmulN {M : zm_I} {Q : Option Value → zh → Prop} {pc pc2 : Nat} {L st : List Value} {h : zh} {a b : Nat} (d : decode (zm_c M) pc = .ok (.lmul, 1)) (hp : pc + 1 = pc2) (k : Wp M Q pc2 L (.long (lN (a * b)) :: st) h) : Wp M Q pc L (.long (lN b) :: .long (lN a) :: st) h := Wp.lmul d hp (by rw [lN_mul]; exact k)
/-- which table is read next -/
def mChoose (V : zS) : Nat := if V 10 0 = V 1 0 then 1 else if V 10 1 = V 1 1 then 0 else if V 0 9 ≠ 0 then V 0 9 - 1 else if (V 17 0 + 1) * (V 16 1 + 1) < (V 17 1 + 1) * (V 16 0 + 1) then 1 else 0
theorem mul20 {a b : Nat} (ha : a < 2 ^ 20) (hb : b < 2 ^ 20) : (a + 1) * (b + 1) < 2 ^ 62 := by
  have h := Nat.mul_le_mul (show a + 1 ≤ 2 ^ 20 by omega) (show b + 1 ≤ 2 ^ 20 by omega)
  have : (2 : Nat) ^ 20 * 2 ^ 20 < 2 ^ 62 := by decide
  omega

set_option maxRecDepth 100000 in
set_option maxHeartbeats 4000000 in
theorem m_choose (V : zS) (hV : BV V) (hf : V 0 9 < 3) : PM mX5_choose [.ref 0] (hM V) (fun zr zq => zr = some (.int (nI (mChoose V))) ∧ zq = hM V) := by
  refine PM.of (by decide +kernel) (by simp [Value.category]) (Nat.le_of_ble_eq_true rfl) ?_
  refine Wp.aload_n (pc2 := 1) dX5_choose_0 rfl rfl ?_
  refine Wp.iconN (pc2 := 2) 0 dX5_choose_1 rfl ?_
  refine Wp.callV (pc2 := 5) kX5_choose_128 vX5_isReadOut (m_isReadOut V 0 hV (by omega)) dX5_choose_2 rfl rfl rfl rfl rfl (Nat.le_of_ble_eq_true rfl) ?_
  rintro _ _ ⟨⟨b1, rfl, hb1⟩, rfl⟩
  refine Wp.ifN_eq (pc2 := 8) 10 dX5_choose_5 rfl (by decide) (zb_lt _) (fun c5 => ?_) (fun c5 => ?_)
  · refine Wp.aload_n (pc2 := 11) dX5_choose_10 rfl rfl ?_
    refine Wp.iconN (pc2 := 12) 1 dX5_choose_11 rfl ?_
    refine Wp.callV (pc2 := 15) kX5_choose_128 vX5_isReadOut (m_isReadOut V 1 hV (by omega)) dX5_choose_12 rfl rfl rfl rfl rfl (Nat.le_of_ble_eq_true rfl) ?_
    rintro _ _ ⟨⟨b2, rfl, hb2⟩, rfl⟩
    refine Wp.ifN_eq (pc2 := 18) 20 dX5_choose_15 rfl (by decide) (zb_lt _) (fun c15 => ?_) (fun c15 => ?_)
    · refine Wp.aload_n (pc2 := 21) dX5_choose_20 rfl rfl ?_
      refine Wp.getf (pc2 := 24) fX5_38 dX5_choose_21 rfl rfl rfl ?_
      refine Wp.icon (pc2 := 25) dX5_choose_24 rfl (-1) (by decide +kernel) ?_
      refine Wp.icmp_eq (pc2 := 28) 33 dX5_choose_25 rfl (by decide)  (fun c25 => ?_) (fun c25 => ?_)
      · refine Wp.aload_n (pc2 := 34) dX5_choose_33 rfl rfl ?_
        refine Wp.getf (pc2 := 37) fX5_66 dX5_choose_34 rfl rfl rfl ?_
        refine Wp.iconN (pc2 := 38) 0 dX5_choose_37 rfl ?_
        refine Wp.ialdN (pc2 := 39) dX5_choose_38 rfl rfl (by omega) (by decide) ?_
        refine Wp.iconN (pc2 := 40) 1 dX5_choose_39 rfl ?_
        refine Wp.iaddN (pc2 := 41) dX5_choose_40 rfl  ?_
        refine Wp.i2lN (pc2 := 42) dX5_choose_41 rfl (by have := hV 17 0; have := hV 17 1; have := hV 16 0; have := hV 16 1; omega) ?_
        refine Wp.aload_n (pc2 := 43) dX5_choose_42 rfl rfl ?_
        refine Wp.getf (pc2 := 46) fX5_63 dX5_choose_43 rfl rfl rfl ?_
        refine Wp.iconN (pc2 := 47) 1 dX5_choose_46 rfl ?_
        refine Wp.ialdN (pc2 := 48) dX5_choose_47 rfl rfl (by omega) (by decide) ?_
        refine Wp.iconN (pc2 := 49) 1 dX5_choose_48 rfl ?_
        refine Wp.iaddN (pc2 := 50) dX5_choose_49 rfl  ?_
        refine Wp.i2lN (pc2 := 51) dX5_choose_50 rfl (by have := hV 17 0; have := hV 17 1; have := hV 16 0; have := hV 16 1; omega) ?_
        refine Wp.lmulN (pc2 := 52) dX5_choose_51 rfl ?_
        refine Wp.lstore_n (pc2 := 53) dX5_choose_52 rfl (by decide) rfl ?_
        refine Wp.aload_n (pc2 := 54) dX5_choose_53 rfl rfl ?_
        refine Wp.getf (pc2 := 57) fX5_66 dX5_choose_54 rfl rfl rfl ?_
        refine Wp.iconN (pc2 := 58) 1 dX5_choose_57 rfl ?_
        refine Wp.ialdN (pc2 := 59) dX5_choose_58 rfl rfl (by omega) (by decide) ?_
        refine Wp.iconN (pc2 := 60) 1 dX5_choose_59 rfl ?_
        refine Wp.iaddN (pc2 := 61) dX5_choose_60 rfl  ?_
        refine Wp.i2lN (pc2 := 62) dX5_choose_61 rfl (by have := hV 17 0; have := hV 17 1; have := hV 16 0; have := hV 16 1; omega) ?_
        refine Wp.aload_n (pc2 := 63) dX5_choose_62 rfl rfl ?_
        refine Wp.getf (pc2 := 66) fX5_63 dX5_choose_63 rfl rfl rfl ?_
        refine Wp.iconN (pc2 := 67) 0 dX5_choose_66 rfl ?_
        refine Wp.ialdN (pc2 := 68) dX5_choose_67 rfl rfl (by omega) (by decide) ?_
        refine Wp.iconN (pc2 := 69) 1 dX5_choose_68 rfl ?_
        refine Wp.iaddN (pc2 := 70) dX5_choose_69 rfl  ?_
        refine Wp.i2lN (pc2 := 71) dX5_choose_70 rfl (by have := hV 17 0; have := hV 17 1; have := hV 16 0; have := hV 16 1; omega) ?_
        refine Wp.lmulN (pc2 := 72) dX5_choose_71 rfl ?_
        refine Wp.lstore_n (pc2 := 73) dX5_choose_72 rfl (by decide) rfl ?_
        refine Wp.lload_n (pc2 := 74) dX5_choose_73 rfl rfl ?_
        refine Wp.lload_n (pc2 := 75) dX5_choose_74 rfl rfl ?_
        refine Wp.lcmp (pc2 := 76) dX5_choose_75 rfl ?_
        refine Wp.if_le (pc2 := 79) 83 dX5_choose_76 rfl (by decide)  (fun c76 => ?_) (fun c76 => ?_)
        · refine Wp.iconN (pc2 := 84) 0 dX5_choose_83 rfl ?_
          refine Wp.ret dX5_choose_84 rfl rfl ?_
          unfold mChoose
          have q : ¬ V 0 9 ≠ 0 := fun z => z ((zo_m1 (by omega)).mp c25)
          rw [if_neg (zbn hb1 c5), if_neg (zbn hb2 c15), if_neg q]
          have k1 := mul20 (hV 17 0) (hV 16 1)
          have k2 := mul20 (hV 17 1) (hV 16 0)
          first
            | (have c := (lgle k2 k1).mp c76
               rw [if_neg (by omega)]; exact ⟨rfl, rfl⟩)
            | (have c : ¬ (V 17 1 + 1) * (V 16 0 + 1) ≤ (V 17 0 + 1) * (V 16 1 + 1) := fun z => c76 ((lgle k2 k1).mpr z)
               rw [if_pos (by omega)]; exact ⟨rfl, rfl⟩)
        · refine Wp.iconN (pc2 := 80) 1 dX5_choose_79 rfl ?_
          refine Wp.goto (pc2 := 84) dX5_choose_80 (by decide) ?_
          refine Wp.ret dX5_choose_84 rfl rfl ?_
          unfold mChoose
          have q : ¬ V 0 9 ≠ 0 := fun z => z ((zo_m1 (by omega)).mp c25)
          rw [if_neg (zbn hb1 c5), if_neg (zbn hb2 c15), if_neg q]
          have k1 := mul20 (hV 17 0) (hV 16 1)
          have k2 := mul20 (hV 17 1) (hV 16 0)
          first
            | (have c := (lgle k2 k1).mp c76
               rw [if_neg (by omega)]; exact ⟨rfl, rfl⟩)
            | (have c : ¬ (V 17 1 + 1) * (V 16 0 + 1) ≤ (V 17 0 + 1) * (V 16 1 + 1) := fun z => c76 ((lgle k2 k1).mpr z)
               rw [if_pos (by omega)]; exact ⟨rfl, rfl⟩)
      · refine Wp.aload_n (pc2 := 29) dX5_choose_28 rfl rfl ?_
        refine Wp.getf (pc2 := 32) fX5_38 dX5_choose_29 rfl rfl rfl ?_
        refine Wp.ret dX5_choose_32 rfl rfl ?_
        unfold mChoose
        have q : V 0 9 ≠ 0 := fun z => c25 ((zo_m1 (by omega)).mpr z)
        rw [if_neg (zbn hb1 c5), if_neg (zbn hb2 c15), if_pos q]
        obtain ⟨f, hf2⟩ : ∃ f, V 0 9 = f + 1 := ⟨V 0 9 - 1, by omega⟩
        rw [hf2, zo_s]
        exact ⟨rfl, rfl⟩
    · refine Wp.iconN (pc2 := 19) 0 dX5_choose_18 rfl ?_
      refine Wp.ret dX5_choose_19 rfl rfl ?_
      unfold mChoose
      rw [if_neg (zbn hb1 c5), if_pos (zby hb2 c15)]
      exact ⟨rfl, rfl⟩
  · refine Wp.iconN (pc2 := 9) 1 dX5_choose_8 rfl ?_
    refine Wp.ret dX5_choose_9 rfl rfl ?_
    unfold mChoose
    rw [if_pos (zby hb1 c5)]
    exact ⟨rfl, rfl⟩

