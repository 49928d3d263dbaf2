/-- a boolean answer that says P -/
def zbo (P : Prop) (r : Option Value) : Prop := ∃ b : Bool, r = some (.int (nI (zb b))) ∧ (b = true ↔ P)
theorem zbo_t {P : Prop} (h : P) : zbo P (some (.int (nI 1))) := ⟨true, rfl, ⟨fun _ => h, fun _ => rfl⟩⟩
theorem zbo_f {P : Prop} (h : ¬ P) : zbo P (some (.int (nI 0))) := ⟨false, rfl, ⟨fun q => Bool.noConfusion q, fun q => absurd q h⟩⟩
theorem zby {P : Prop} {b : Bool} (hb : b = true ↔ P) (h : zb b ≠ 0) : P := hb.mp (zb_1 h)
theorem zbn {P : Prop} {b : Bool} (hb : b = true ↔ P) (h : zb b = 0) : ¬ P := fun q => by rw [zb_0 h] at hb; exact absurd (hb.mpr q) (by decide)
abbrev zS : Type := Nat → Nat → Nat
/-- all numbers of a picture are small -/
def BV (V : zS) : Prop := ∀ k j, V k j < 2 ^ 20
theorem BV.l {V : zS} (h : BV V) (k j : Nat) : V k j < 2 ^ 31 := Nat.lt_trans (h k j) (by decide)

theorem zi_01 (t : Int32) : (nI 0 ≤ t ∧ t ≤ nI 1) ↔ (t = 0 ∨ t = 1) := by
  have e0 : nI 0 = 0 := by decide
  have e1 : nI 1 = 1 := by decide
  rw [e0, e1, Int32.le_iff_toInt_le, Int32.le_iff_toInt_le]
  have h0 : (0 : Int32).toInt = 0 := by decide
  have h1 : (1 : Int32).toInt = 1 := by decide
  constructor
  · intro h
    rcases (show t.toInt = 0 ∨ t.toInt = 1 by omega) with q | q
    · exact Or.inl (Int32.toInt_inj.mp (by omega))
    · exact Or.inr (Int32.toInt_inj.mp (by omega))
  · rintro (rfl | rfl) <;> constructor <;> decide

set_option maxRecDepth 100000 in
set_option maxHeartbeats 4000000 in
theorem m_in (h : zh) (v lo hi : Int32) : PM mX5_in [.int v, .int lo, .int hi] h (fun zr zq => zbo (lo ≤ v ∧ v ≤ hi) zr ∧ zq = h) := by
  refine PM.of (by decide +kernel) (by simp [Value.category]) (Nat.le_of_ble_eq_true rfl) ?_
  refine Wp.iload_n (pc2 := 1) dX5_in_0 rfl rfl ?_
  refine Wp.iload_n (pc2 := 2) dX5_in_1 rfl rfl ?_
  refine Wp.icmp_lt (pc2 := 5) 14 dX5_in_2 rfl (by decide)  (fun c2 => ?_) (fun c2 => ?_)
  · refine Wp.iconN (pc2 := 15) 0 dX5_in_14 rfl ?_
    refine Wp.ret dX5_in_15 rfl (by first | exact zb_nar true | exact zb_nar false) ?_
    first
      | exact ⟨zbo_t ⟨Int32.not_lt.mp c2, Int32.not_lt.mp c7⟩, rfl⟩
      | exact ⟨zbo_f (fun q => absurd q.2 (Int32.not_le.mpr c7)), rfl⟩
      | exact ⟨zbo_f (fun q => absurd q.1 (Int32.not_le.mpr c2)), rfl⟩
  · refine Wp.iload_n (pc2 := 6) dX5_in_5 rfl rfl ?_
    refine Wp.iload_n (pc2 := 7) dX5_in_6 rfl rfl ?_
    refine Wp.icmp_gt (pc2 := 10) 14 dX5_in_7 rfl (by decide)  (fun c7 => ?_) (fun c7 => ?_)
    · refine Wp.iconN (pc2 := 15) 0 dX5_in_14 rfl ?_
      refine Wp.ret dX5_in_15 rfl (by first | exact zb_nar true | exact zb_nar false) ?_
      first
        | exact ⟨zbo_t ⟨Int32.not_lt.mp c2, Int32.not_lt.mp c7⟩, rfl⟩
        | exact ⟨zbo_f (fun q => absurd q.2 (Int32.not_le.mpr c7)), rfl⟩
        | exact ⟨zbo_f (fun q => absurd q.1 (Int32.not_le.mpr c2)), rfl⟩
    · refine Wp.iconN (pc2 := 11) 1 dX5_in_10 rfl ?_
      refine Wp.goto (pc2 := 15) dX5_in_11 (by decide) ?_
      refine Wp.ret dX5_in_15 rfl (by first | exact zb_nar true | exact zb_nar false) ?_
      first
        | exact ⟨zbo_t ⟨Int32.not_lt.mp c2, Int32.not_lt.mp c7⟩, rfl⟩
        | exact ⟨zbo_f (fun q => absurd q.2 (Int32.not_le.mpr c7)), rfl⟩
        | exact ⟨zbo_f (fun q => absurd q.1 (Int32.not_le.mpr c2)), rfl⟩

set_option maxRecDepth 100000 in
set_option maxHeartbeats 4000000 in
theorem m_isTable (h : zh) (t : Int32) : PM mX5_isTable [.int t] h (fun zr zq => zbo (t = 0 ∨ t = 1) zr ∧ zq = h) := by
  refine PM.of (by decide +kernel) (by simp [Value.category]) (Nat.le_of_ble_eq_true rfl) ?_
  refine Wp.iload_n (pc2 := 1) dX5_isTable_0 rfl rfl ?_
  refine Wp.iconN (pc2 := 2) 0 dX5_isTable_1 rfl ?_
  refine Wp.iconN (pc2 := 3) 1 dX5_isTable_2 rfl ?_
  refine Wp.callS (pc2 := 6) kX5_isTable_81 sX5_in (m_in h t (nI 0) (nI 1)) dX5_isTable_3 rfl rfl rfl (Nat.le_of_ble_eq_true rfl) ?_
  rintro _ _ ⟨⟨b, rfl, hb⟩, rfl⟩
  refine Wp.ret dX5_isTable_6 rfl (zb_nar b) ?_
  refine ⟨⟨b, rfl, hb.trans ?_⟩, rfl⟩
  rw [zi_01]

set_option maxRecDepth 100000 in
set_option maxHeartbeats 4000000 in
theorem m_cell (V : zS) (t r c : Nat) (hi : 3 * (50 * t + r) + c < 300) : PM mX5_cell [.ref 0, .int (nI t), .int (nI r), .int (nI c)] (hM V) (fun zr zq => zr = some (.int (nI (V 2 (3 * (50 * t + r) + c)))) ∧ zq = hM V) := by
  refine PM.of (by decide +kernel) (by simp [Value.category]) (Nat.le_of_ble_eq_true rfl) ?_
  refine Wp.aload_n (pc2 := 1) dX5_cell_0 rfl rfl ?_
  refine Wp.getf (pc2 := 4) fX5_13 dX5_cell_1 rfl rfl rfl ?_
  refine Wp.iconN (pc2 := 5) 3 dX5_cell_4 rfl ?_
  refine Wp.bipN (pc2 := 7) 50 dX5_cell_5 rfl (by decide +kernel) ?_
  refine Wp.iload_n (pc2 := 8) dX5_cell_7 rfl rfl ?_
  refine Wp.imulN (pc2 := 9) dX5_cell_8 rfl  ?_
  refine Wp.iload_n (pc2 := 10) dX5_cell_9 rfl rfl ?_
  refine Wp.iaddN (pc2 := 11) dX5_cell_10 rfl  ?_
  refine Wp.imulN (pc2 := 12) dX5_cell_11 rfl  ?_
  refine Wp.iload_n (pc2 := 13) dX5_cell_12 rfl rfl ?_
  refine Wp.iaddN (pc2 := 14) dX5_cell_13 rfl  ?_
  refine Wp.ialdN (pc2 := 15) dX5_cell_14 rfl rfl (by omega) (by decide) ?_
  refine Wp.ret dX5_cell_15 rfl rfl ?_
  exact ⟨rfl, rfl⟩

/-- two rows are alike in the join -/
def alike (V : zS) (a b : Nat) : Prop := V 2 (3 * (50 * 0 + a) + V 8 0) = V 2 (3 * (50 * 1 + b) + V 8 1)

set_option maxRecDepth 100000 in
set_option maxHeartbeats 4000000 in
theorem m_isAlike (V : zS) (a b : Nat) (hV : BV V) (ha : a < 50) (hb : b < 50) (h0 : V 8 0 < 3) (h1 : V 8 1 < 3) : PM mX5_isAlike [.ref 0, .int (nI a), .int (nI b)] (hM V) (fun zr zq => zbo (alike V a b) zr ∧ zq = hM V) := by
  refine PM.of (by decide +kernel) (by simp [Value.category]) (Nat.le_of_ble_eq_true rfl) ?_
  refine Wp.aload_n (pc2 := 1) dX5_isAlike_0 rfl rfl ?_
  refine Wp.iconN (pc2 := 2) 0 dX5_isAlike_1 rfl ?_
  refine Wp.iload_n (pc2 := 3) dX5_isAlike_2 rfl rfl ?_
  refine Wp.aload_n (pc2 := 4) dX5_isAlike_3 rfl rfl ?_
  refine Wp.getf (pc2 := 7) fX5_31 dX5_isAlike_4 rfl rfl rfl ?_
  refine Wp.iconN (pc2 := 8) 0 dX5_isAlike_7 rfl ?_
  refine Wp.ialdN (pc2 := 9) dX5_isAlike_8 rfl rfl (by omega) (by decide) ?_
  refine Wp.callV (pc2 := 12) kX5_isAlike_92 vX5_cell (m_cell V 0 a (V 8 0) (by omega)) dX5_isAlike_9 rfl rfl rfl rfl rfl (Nat.le_of_ble_eq_true rfl) ?_
  rintro _ _ ⟨rfl, rfl⟩
  refine Wp.aload_n (pc2 := 13) dX5_isAlike_12 rfl rfl ?_
  refine Wp.iconN (pc2 := 14) 1 dX5_isAlike_13 rfl ?_
  refine Wp.iload_n (pc2 := 15) dX5_isAlike_14 rfl rfl ?_
  refine Wp.aload_n (pc2 := 16) dX5_isAlike_15 rfl rfl ?_
  refine Wp.getf (pc2 := 19) fX5_31 dX5_isAlike_16 rfl rfl rfl ?_
  refine Wp.iconN (pc2 := 20) 1 dX5_isAlike_19 rfl ?_
  refine Wp.ialdN (pc2 := 21) dX5_isAlike_20 rfl rfl (by omega) (by decide) ?_
  refine Wp.callV (pc2 := 24) kX5_isAlike_92 vX5_cell (m_cell V 1 b (V 8 1) (by omega)) dX5_isAlike_21 rfl rfl rfl rfl rfl (Nat.le_of_ble_eq_true rfl) ?_
  rintro _ _ ⟨rfl, rfl⟩
  refine Wp.icmpN_ne (pc2 := 27) 31 dX5_isAlike_24 rfl (by decide) (hV.l _ _) (hV.l _ _) (fun c24 => ?_) (fun c24 => ?_)
  · refine Wp.iconN (pc2 := 32) 0 dX5_isAlike_31 rfl ?_
    refine Wp.ret dX5_isAlike_32 rfl (by first | exact zb_nar true | exact zb_nar false) ?_
    first
      | exact ⟨zbo_t c24, rfl⟩
      | exact ⟨zbo_f c24, rfl⟩
  · refine Wp.iconN (pc2 := 28) 1 dX5_isAlike_27 rfl ?_
    refine Wp.goto (pc2 := 32) dX5_isAlike_28 (by decide) ?_
    refine Wp.ret dX5_isAlike_32 rfl (by first | exact zb_nar true | exact zb_nar false) ?_
    first
      | exact ⟨zbo_t c24, rfl⟩
      | exact ⟨zbo_f c24, rfl⟩

/-- a row's number against a test -/
def passP (V : zS) (t r k : Nat) : Prop := if V 5 (4 * t + k) = 0 then V 2 (3 * (50 * t + r) + V 4 (4 * t + k)) < V 6 (4 * t + k) else if V 5 (4 * t + k) = 1 then V 2 (3 * (50 * t + r) + V 4 (4 * t + k)) = V 6 (4 * t + k) else V 6 (4 * t + k) < V 2 (3 * (50 * t + r) + V 4 (4 * t + k))

set_option maxRecDepth 100000 in
set_option maxHeartbeats 4000000 in
theorem m_passes (V : zS) (t r k : Nat) (hV : BV V) (ht : t < 2) (hr : r < 50) (hk : k < 4) (h0 : V 4 (4 * t + k) < 3) : PM mX5_passes [.ref 0, .int (nI t), .int (nI r), .int (nI k)] (hM V) (fun zr zq => zbo (passP V t r k) zr ∧ zq = hM V) := by
  refine PM.of (by decide +kernel) (by simp [Value.category]) (Nat.le_of_ble_eq_true rfl) ?_
  refine Wp.iconN (pc2 := 1) 4 dX5_passes_0 rfl ?_
  refine Wp.iload_n (pc2 := 2) dX5_passes_1 rfl rfl ?_
  refine Wp.imulN (pc2 := 3) dX5_passes_2 rfl  ?_
  refine Wp.iload_n (pc2 := 4) dX5_passes_3 rfl rfl ?_
  refine Wp.iaddN (pc2 := 5) dX5_passes_4 rfl  ?_
  refine Wp.istore (pc2 := 7) dX5_passes_5 rfl (by decide) rfl ?_
  refine Wp.aload_n (pc2 := 8) dX5_passes_7 rfl rfl ?_
  refine Wp.iload_n (pc2 := 9) dX5_passes_8 rfl rfl ?_
  refine Wp.iload_n (pc2 := 10) dX5_passes_9 rfl rfl ?_
  refine Wp.aload_n (pc2 := 11) dX5_passes_10 rfl rfl ?_
  refine Wp.getf (pc2 := 14) fX5_19 dX5_passes_11 rfl rfl rfl ?_
  refine Wp.iload (pc2 := 16) dX5_passes_14 rfl rfl ?_
  refine Wp.ialdN (pc2 := 17) dX5_passes_16 rfl rfl (by omega) (by decide) ?_
  refine Wp.callV (pc2 := 20) kX5_passes_92 vX5_cell (m_cell V t r (V 4 (4 * t + k)) (by omega)) dX5_passes_17 rfl rfl rfl rfl rfl (Nat.le_of_ble_eq_true rfl) ?_
  rintro _ _ ⟨rfl, rfl⟩
  refine Wp.istore (pc2 := 22) dX5_passes_20 rfl (by decide) rfl ?_
  refine Wp.aload_n (pc2 := 23) dX5_passes_22 rfl rfl ?_
  refine Wp.getf (pc2 := 26) fX5_22 dX5_passes_23 rfl rfl rfl ?_
  refine Wp.iload (pc2 := 28) dX5_passes_26 rfl rfl ?_
  refine Wp.ialdN (pc2 := 29) dX5_passes_28 rfl rfl (by omega) (by decide) ?_
  refine Wp.ifN_ne (pc2 := 32) 52 dX5_passes_29 rfl (by decide) (hV.l _ _) (fun c29 => ?_) (fun c29 => ?_)
  · refine Wp.aload_n (pc2 := 53) dX5_passes_52 rfl rfl ?_
    refine Wp.getf (pc2 := 56) fX5_22 dX5_passes_53 rfl rfl rfl ?_
    refine Wp.iload (pc2 := 58) dX5_passes_56 rfl rfl ?_
    refine Wp.ialdN (pc2 := 59) dX5_passes_58 rfl rfl (by omega) (by decide) ?_
    refine Wp.iconN (pc2 := 60) 1 dX5_passes_59 rfl ?_
    refine Wp.icmpN_ne (pc2 := 63) 83 dX5_passes_60 rfl (by decide) (hV.l _ _) (by decide) (fun c60 => ?_) (fun c60 => ?_)
    · refine Wp.iload (pc2 := 85) dX5_passes_83 rfl rfl ?_
      refine Wp.aload_n (pc2 := 86) dX5_passes_85 rfl rfl ?_
      refine Wp.getf (pc2 := 89) fX5_25 dX5_passes_86 rfl rfl rfl ?_
      refine Wp.iload (pc2 := 91) dX5_passes_89 rfl rfl ?_
      refine Wp.ialdN (pc2 := 92) dX5_passes_91 rfl rfl (by omega) (by decide) ?_
      refine Wp.icmpN_le (pc2 := 95) 99 dX5_passes_92 rfl (by decide) (hV.l _ _) (hV.l _ _) (fun c92 => ?_) (fun c92 => ?_)
      · refine Wp.iconN (pc2 := 100) 0 dX5_passes_99 rfl ?_
        refine Wp.ret dX5_passes_100 rfl (by first | exact zb_nar true | exact zb_nar false) ?_
        unfold passP
        first
          | (rw [if_pos c29]; first | exact ⟨zbo_t c41, rfl⟩ | exact ⟨zbo_f (Nat.not_lt.mpr c41), rfl⟩)
          | (rw [if_neg c29, if_pos c60]; first | exact ⟨zbo_t c72, rfl⟩ | exact ⟨zbo_f c72, rfl⟩)
          | (rw [if_neg c29, if_neg c60]; first | exact ⟨zbo_t c92, rfl⟩ | exact ⟨zbo_f (Nat.not_lt.mpr c92), rfl⟩)
      · refine Wp.iconN (pc2 := 96) 1 dX5_passes_95 rfl ?_
        refine Wp.goto (pc2 := 100) dX5_passes_96 (by decide) ?_
        refine Wp.ret dX5_passes_100 rfl (by first | exact zb_nar true | exact zb_nar false) ?_
        unfold passP
        first
          | (rw [if_pos c29]; first | exact ⟨zbo_t c41, rfl⟩ | exact ⟨zbo_f (Nat.not_lt.mpr c41), rfl⟩)
          | (rw [if_neg c29, if_pos c60]; first | exact ⟨zbo_t c72, rfl⟩ | exact ⟨zbo_f c72, rfl⟩)
          | (rw [if_neg c29, if_neg c60]; first | exact ⟨zbo_t c92, rfl⟩ | exact ⟨zbo_f (Nat.not_lt.mpr c92), rfl⟩)
    · refine Wp.iload (pc2 := 65) dX5_passes_63 rfl rfl ?_
      refine Wp.aload_n (pc2 := 66) dX5_passes_65 rfl rfl ?_
      refine Wp.getf (pc2 := 69) fX5_25 dX5_passes_66 rfl rfl rfl ?_
      refine Wp.iload (pc2 := 71) dX5_passes_69 rfl rfl ?_
      refine Wp.ialdN (pc2 := 72) dX5_passes_71 rfl rfl (by omega) (by decide) ?_
      refine Wp.icmpN_ne (pc2 := 75) 79 dX5_passes_72 rfl (by decide) (hV.l _ _) (hV.l _ _) (fun c72 => ?_) (fun c72 => ?_)
      · refine Wp.iconN (pc2 := 80) 0 dX5_passes_79 rfl ?_
        refine Wp.goto (pc2 := 100) dX5_passes_80 (by decide) ?_
        refine Wp.ret dX5_passes_100 rfl (by first | exact zb_nar true | exact zb_nar false) ?_
        unfold passP
        first
          | (rw [if_pos c29]; first | exact ⟨zbo_t c41, rfl⟩ | exact ⟨zbo_f (Nat.not_lt.mpr c41), rfl⟩)
          | (rw [if_neg c29, if_pos c60]; first | exact ⟨zbo_t c72, rfl⟩ | exact ⟨zbo_f c72, rfl⟩)
          | (rw [if_neg c29, if_neg c60]; first | exact ⟨zbo_t c92, rfl⟩ | exact ⟨zbo_f (Nat.not_lt.mpr c92), rfl⟩)
      · refine Wp.iconN (pc2 := 76) 1 dX5_passes_75 rfl ?_
        refine Wp.goto (pc2 := 100) dX5_passes_76 (by decide) ?_
        refine Wp.ret dX5_passes_100 rfl (by first | exact zb_nar true | exact zb_nar false) ?_
        unfold passP
        first
          | (rw [if_pos c29]; first | exact ⟨zbo_t c41, rfl⟩ | exact ⟨zbo_f (Nat.not_lt.mpr c41), rfl⟩)
          | (rw [if_neg c29, if_pos c60]; first | exact ⟨zbo_t c72, rfl⟩ | exact ⟨zbo_f c72, rfl⟩)
          | (rw [if_neg c29, if_neg c60]; first | exact ⟨zbo_t c92, rfl⟩ | exact ⟨zbo_f (Nat.not_lt.mpr c92), rfl⟩)
  · refine Wp.iload (pc2 := 34) dX5_passes_32 rfl rfl ?_
    refine Wp.aload_n (pc2 := 35) dX5_passes_34 rfl rfl ?_
    refine Wp.getf (pc2 := 38) fX5_25 dX5_passes_35 rfl rfl rfl ?_
    refine Wp.iload (pc2 := 40) dX5_passes_38 rfl rfl ?_
    refine Wp.ialdN (pc2 := 41) dX5_passes_40 rfl rfl (by omega) (by decide) ?_
    refine Wp.icmpN_ge (pc2 := 44) 48 dX5_passes_41 rfl (by decide) (hV.l _ _) (hV.l _ _) (fun c41 => ?_) (fun c41 => ?_)
    · refine Wp.iconN (pc2 := 49) 0 dX5_passes_48 rfl ?_
      refine Wp.goto (pc2 := 100) dX5_passes_49 (by decide) ?_
      refine Wp.ret dX5_passes_100 rfl (by first | exact zb_nar true | exact zb_nar false) ?_
      unfold passP
      first
        | (rw [if_pos c29]; first | exact ⟨zbo_t c41, rfl⟩ | exact ⟨zbo_f (Nat.not_lt.mpr c41), rfl⟩)
        | (rw [if_neg c29, if_pos c60]; first | exact ⟨zbo_t c72, rfl⟩ | exact ⟨zbo_f c72, rfl⟩)
        | (rw [if_neg c29, if_neg c60]; first | exact ⟨zbo_t c92, rfl⟩ | exact ⟨zbo_f (Nat.not_lt.mpr c92), rfl⟩)
    · refine Wp.iconN (pc2 := 45) 1 dX5_passes_44 rfl ?_
      refine Wp.goto (pc2 := 100) dX5_passes_45 (by decide) ?_
      refine Wp.ret dX5_passes_100 rfl (by first | exact zb_nar true | exact zb_nar false) ?_
      unfold passP
      first
        | (rw [if_pos c29]; first | exact ⟨zbo_t c41, rfl⟩ | exact ⟨zbo_f (Nat.not_lt.mpr c41), rfl⟩)
        | (rw [if_neg c29, if_pos c60]; first | exact ⟨zbo_t c72, rfl⟩ | exact ⟨zbo_f c72, rfl⟩)
        | (rw [if_neg c29, if_neg c60]; first | exact ⟨zbo_t c92, rfl⟩ | exact ⟨zbo_f (Nat.not_lt.mpr c92), rfl⟩)

set_option maxRecDepth 100000 in
set_option maxHeartbeats 4000000 in
theorem m_isReadOut (V : zS) (t : Nat) (hV : BV V) (ht : t < 2) : PM mX5_isReadOut [.ref 0, .int (nI t)] (hM V) (fun zr zq => zbo (V 10 t = V 1 t) zr ∧ zq = hM V) := by
  refine PM.of (by decide +kernel) (by simp [Value.category]) (Nat.le_of_ble_eq_true rfl) ?_
  refine Wp.aload_n (pc2 := 1) dX5_isReadOut_0 rfl rfl ?_
  refine Wp.getf (pc2 := 4) fX5_44 dX5_isReadOut_1 rfl rfl rfl ?_
  refine Wp.iload_n (pc2 := 5) dX5_isReadOut_4 rfl rfl ?_
  refine Wp.ialdN (pc2 := 6) dX5_isReadOut_5 rfl rfl (by omega) (by decide) ?_
  refine Wp.aload_n (pc2 := 7) dX5_isReadOut_6 rfl rfl ?_
  refine Wp.getf (pc2 := 10) fX5_7 dX5_isReadOut_7 rfl rfl rfl ?_
  refine Wp.iload_n (pc2 := 11) dX5_isReadOut_10 rfl rfl ?_
  refine Wp.ialdN (pc2 := 12) dX5_isReadOut_11 rfl rfl (by omega) (by decide) ?_
  refine Wp.icmpN_ne (pc2 := 15) 19 dX5_isReadOut_12 rfl (by decide) (hV.l _ _) (hV.l _ _) (fun c12 => ?_) (fun c12 => ?_)
  · refine Wp.iconN (pc2 := 20) 0 dX5_isReadOut_19 rfl ?_
    refine Wp.ret dX5_isReadOut_20 rfl (by first | exact zb_nar true | exact zb_nar false) ?_
    first
      | exact ⟨zbo_t c12, rfl⟩
      | exact ⟨zbo_f c12, rfl⟩
  · refine Wp.iconN (pc2 := 16) 1 dX5_isReadOut_15 rfl ?_
    refine Wp.goto (pc2 := 20) dX5_isReadOut_16 (by decide) ?_
    refine Wp.ret dX5_isReadOut_20 rfl (by first | exact zb_nar true | exact zb_nar false) ?_
    first
      | exact ⟨zbo_t c12, rfl⟩
      | exact ⟨zbo_f c12, rfl⟩

/-- giving the pair a, b -/
def mGive (V : zS) (a b : Nat) : zS := vs (vs (vs V 20 (50 * a + b) 1) 21 (V 0 26) (50 * a + b)) 0 26 (V 0 26 + 1)

set_option maxRecDepth 100000 in
set_option maxHeartbeats 4000000 in
theorem m_gives (V : zS) (a b : Nat) (ha : 50 * a + b < 2500) (hg : V 0 26 < 2500) : PM mX5_gives [.ref 0, .int (nI a), .int (nI b)] (hM V) (fun zr zq => zr = none ∧ zq = hM (mGive V a b)) := by
  refine PM.of (by decide +kernel) (by simp [Value.category]) (Nat.le_of_ble_eq_true rfl) ?_
  refine Wp.aload_n (pc2 := 1) dX5_gives_0 rfl rfl ?_
  refine Wp.getf (pc2 := 4) fX5_75 dX5_gives_1 rfl rfl rfl ?_
  refine Wp.bipN (pc2 := 6) 50 dX5_gives_4 rfl (by decide +kernel) ?_
  refine Wp.iload_n (pc2 := 7) dX5_gives_6 rfl rfl ?_
  refine Wp.imulN (pc2 := 8) dX5_gives_7 rfl  ?_
  refine Wp.iload_n (pc2 := 9) dX5_gives_8 rfl rfl ?_
  refine Wp.iaddN (pc2 := 10) dX5_gives_9 rfl  ?_
  refine Wp.iconN (pc2 := 11) 1 dX5_gives_10 rfl ?_
  refine Wp.zastN (pc2 := 12) dX5_gives_11 rfl rfl (by omega) (by decide) (by decide +kernel) ?_
  refine Wp.heq (hM_a20 _ _ _) ?_
  refine Wp.aload_n (pc2 := 13) dX5_gives_12 rfl rfl ?_
  refine Wp.getf (pc2 := 16) fX5_78 dX5_gives_13 rfl rfl rfl ?_
  refine Wp.aload_n (pc2 := 17) dX5_gives_16 rfl rfl ?_
  refine Wp.getf (pc2 := 20) fX5_103 dX5_gives_17 rfl rfl rfl ?_
  refine Wp.bipN (pc2 := 22) 50 dX5_gives_20 rfl (by decide +kernel) ?_
  refine Wp.iload_n (pc2 := 23) dX5_gives_22 rfl rfl ?_
  refine Wp.imulN (pc2 := 24) dX5_gives_23 rfl  ?_
  refine Wp.iload_n (pc2 := 25) dX5_gives_24 rfl rfl ?_
  refine Wp.iaddN (pc2 := 26) dX5_gives_25 rfl  ?_
  change Wp _ _ _ _ (_ :: .int (nI (V 0 26)) :: _) _
  refine Wp.iastN (pc2 := 27) dX5_gives_26 rfl rfl (by omega) (by decide) ?_
  refine Wp.heq (hM_a21 _ _ _) ?_
  refine Wp.aload_n (pc2 := 28) dX5_gives_27 rfl rfl ?_
  refine Wp.dup (pc2 := 29) dX5_gives_28 rfl rfl ?_
  refine Wp.getf (pc2 := 32) fX5_103 dX5_gives_29 rfl rfl rfl ?_
  refine Wp.iconN (pc2 := 33) 1 dX5_gives_32 rfl ?_
  refine Wp.iaddN (pc2 := 34) dX5_gives_33 rfl  ?_
  refine Wp.putf (pc2 := 37) gX5_103 dX5_gives_34 rfl rfl (Nat.le_of_ble_eq_true rfl) rfl rfl ?_
  refine Wp.heq (hM_o0_26 _ _) ?_
  refine Wp.retv dX5_gives_37 rfl ?_
  exact ⟨rfl, rfl⟩

