/-- what the class's cells show of V -/
def vis (V W : zS) : Prop := (∀ s, s = 8 ∨ s = 9 ∨ s = 10 ∨ s = 23 ∨ s = 26 ∨ s = 28 ∨ s = 29 ∨ s = 30 ∨ s = 31 → V 0 s = W 0 s) ∧ (∀ c t, (c = 1 ∨ c = 3 ∨ c = 9 ∨ c = 10 ∨ c = 12 ∨ c = 15 ∨ c = 17) → t < 2 → V c t = W c t) ∧ (∀ c j, (c = 8 ∨ c = 20 ∨ c = 21 ∨ c = 22) → V c j = W c j) ∧ (∀ j, j < 300 → V 2 j = W 2 j) ∧ (∀ c j, (c = 4 ∨ c = 5 ∨ c = 6 ∨ c = 7 ∨ c = 13 ∨ c = 14) → j < 8 → V c j = W c j) ∧ ∀ j, j < 100 → V 18 j = W 18 j
theorem ca_congr {n off : Nat} {f g : Nat → Nat} (h : ∀ j, j < n → f (off + j) = g (off + j)) : ca n off f = ca n off g := by
  unfold ca
  have e : (fun j => nI (if j < n then f (off + j) else 0)) = fun j => nI (if j < n then g (off + j) else 0) := by
    funext j
    by_cases q : j < n
    · simp only [q, if_true]; rw [h j q]
    · simp [q]
  rw [e]

theorem hC_congr {V W E : zS} (h : vis V W) : hC V E = hC W E := by
  have a0_6 : V 0 10 = W 0 10 := h.1 10 (by omega)
  have a0_7 : V 0 9 = W 0 9 := h.1 9 (by omega)
  have a0_8 : V 0 29 = W 0 29 := h.1 29 (by omega)
  have a0_9 : V 0 30 = W 0 30 := h.1 30 (by omega)
  have a0_10 : V 0 31 = W 0 31 := h.1 31 (by omega)
  have a3 : V 8 = W 8 := funext (fun j => h.2.2.1 8 j (by omega))
  have a4_1 : V 0 8 = W 0 8 := h.1 8 (by omega)
  have a4_2 : V 0 23 = W 0 23 := h.1 23 (by omega)
  have a4_3 : V 0 28 = W 0 28 := h.1 28 (by omega)
  have a5_2 : V 0 26 = W 0 26 := h.1 26 (by omega)
  have a7_5 : V 1 0 = W 1 0 := h.2.1 1 0 (by omega) (by omega)
  have a7_6 : V 3 0 = W 3 0 := h.2.1 3 0 (by omega) (by omega)
  have a8 : ca 150 0 (V 2) = ca 150 0 (W 2) := ca_congr (fun j hj => h.2.2.2.1 _ (by omega))
  have a9 : ca 4 0 (V 4) = ca 4 0 (W 4) := ca_congr (fun j hj => h.2.2.2.2.1 4 _ (by omega) (by omega))
  have a10 : ca 4 0 (V 5) = ca 4 0 (W 5) := ca_congr (fun j hj => h.2.2.2.2.1 5 _ (by omega) (by omega))
  have a11 : ca 4 0 (V 6) = ca 4 0 (W 6) := ca_congr (fun j hj => h.2.2.2.2.1 6 _ (by omega) (by omega))
  have a12 : ca 4 0 (V 7) = ca 4 0 (W 7) := ca_congr (fun j hj => h.2.2.2.2.1 7 _ (by omega) (by omega))
  have a13_5 : V 1 1 = W 1 1 := h.2.1 1 1 (by omega) (by omega)
  have a13_6 : V 3 1 = W 3 1 := h.2.1 3 1 (by omega) (by omega)
  have a14 : ca 150 150 (V 2) = ca 150 150 (W 2) := ca_congr (fun j hj => h.2.2.2.1 _ (by omega))
  have a15 : ca 4 4 (V 4) = ca 4 4 (W 4) := ca_congr (fun j hj => h.2.2.2.2.1 4 _ (by omega) (by omega))
  have a16 : ca 4 4 (V 5) = ca 4 4 (W 5) := ca_congr (fun j hj => h.2.2.2.2.1 5 _ (by omega) (by omega))
  have a17 : ca 4 4 (V 6) = ca 4 4 (W 6) := ca_congr (fun j hj => h.2.2.2.2.1 6 _ (by omega) (by omega))
  have a18 : ca 4 4 (V 7) = ca 4 4 (W 7) := ca_congr (fun j hj => h.2.2.2.2.1 7 _ (by omega) (by omega))
  have a19_8 : V 9 0 = W 9 0 := h.2.1 9 0 (by omega) (by omega)
  have a19_9 : V 12 0 = W 12 0 := h.2.1 12 0 (by omega) (by omega)
  have a19_10 : V 10 0 = W 10 0 := h.2.1 10 0 (by omega) (by omega)
  have a19_11 : V 15 0 = W 15 0 := h.2.1 15 0 (by omega) (by omega)
  have a19_12 : V 17 0 = W 17 0 := h.2.1 17 0 (by omega) (by omega)
  have a20 : ca 50 0 (V 18) = ca 50 0 (W 18) := ca_congr (fun j hj => h.2.2.2.2.2 _ (by omega))
  have a21 : ca 4 0 (V 13) = ca 4 0 (W 13) := ca_congr (fun j hj => h.2.2.2.2.1 13 _ (by omega) (by omega))
  have a22 : ca 4 0 (V 14) = ca 4 0 (W 14) := ca_congr (fun j hj => h.2.2.2.2.1 14 _ (by omega) (by omega))
  have a27_8 : V 9 1 = W 9 1 := h.2.1 9 1 (by omega) (by omega)
  have a27_9 : V 12 1 = W 12 1 := h.2.1 12 1 (by omega) (by omega)
  have a27_10 : V 10 1 = W 10 1 := h.2.1 10 1 (by omega) (by omega)
  have a27_11 : V 15 1 = W 15 1 := h.2.1 15 1 (by omega) (by omega)
  have a27_12 : V 17 1 = W 17 1 := h.2.1 17 1 (by omega) (by omega)
  have a28 : ca 50 50 (V 18) = ca 50 50 (W 18) := ca_congr (fun j hj => h.2.2.2.2.2 _ (by omega))
  have a29 : ca 4 4 (V 13) = ca 4 4 (W 13) := ca_congr (fun j hj => h.2.2.2.2.1 13 _ (by omega) (by omega))
  have a30 : ca 4 4 (V 14) = ca 4 4 (W 14) := ca_congr (fun j hj => h.2.2.2.2.1 14 _ (by omega) (by omega))
  have a35 : V 22 = W 22 := funext (fun j => h.2.2.1 22 j (by omega))
  have a36 : V 21 = W 21 := funext (fun j => h.2.2.1 21 j (by omega))
  have a37 : V 20 = W 20 := funext (fun j => h.2.2.1 20 j (by omega))
  unfold hC
  simp only [a0_6, a0_7, a0_8, a0_9, a0_10, a3, a4_1, a4_2, a4_3, a5_2, a7_5, a7_6, a8, a9, a10, a11, a12, a13_5, a13_6, a14, a15, a16, a17, a18, a19_8, a19_9, a19_10, a19_11, a19_12, a20, a21, a22, a27_8, a27_9, a27_10, a27_11, a27_12, a28, a29, a30, a35, a36, a37]

theorem rg_lt {x : Int32} {n : Nat} (hn : n < 2 ^ 31) (h1 : ¬ x < 0) (h2 : ¬ nI n ≤ x) : rg x n := by
  obtain ⟨j, hj, rfl⟩ := nI_of h1
  exact ⟨j, Nat.lt_of_not_le (fun z => h2 (nI_le z hj)), rfl⟩
theorem rg_not1 {x : Int32} {n : Nat} (hn : n < 2 ^ 31) (h : x < 0) : ¬ rg x n := by
  rintro ⟨j, hj, rfl⟩
  exact nI_pos (by omega) h
theorem rg_not2 {x : Int32} {n : Nat} (hn : n < 2 ^ 31) (h : nI n ≤ x) : ¬ rg x n := by
  rintro ⟨j, hj, rfl⟩
  exact absurd h (nI_ge hj hn)
theorem rg_lt' {x : Int32} {n : Nat} (hn : n < 2 ^ 31) (h1 : ¬ x < 0) (h2 : x < nI n) : rg x n := rg_lt hn h1 (Int32.not_le.mpr h2)
theorem rg_le {x : Int32} {n : Nat} (hn : n < 2 ^ 31) (h1 : ¬ x < 0) (h2 : x ≤ nI n) : rg x (n + 1) := (rg_in hn).mp ⟨Int32.not_lt.mp h1, h2⟩

set_option maxRecDepth 100000 in
set_option maxHeartbeats 4000000 in
theorem x_isTable (h : zh) (x : Int32) : PM mX4_isTable [.int x] h (fun zr zq => zbo (rg x 2) zr ∧ zq = h) := by
  refine PM.of (by decide +kernel) (by simp [Value.category]) (Nat.le_of_ble_eq_true rfl) ?_
  refine Wp.iload_n (pc2 := 1) dX4_isTable_0 rfl rfl ?_
  refine Wp.if_lt (pc2 := 4) 13 dX4_isTable_1 rfl (by decide)  (fun c1 => ?_) (fun c1 => ?_)
  · refine Wp.iconN (pc2 := 14) 0 dX4_isTable_13 rfl ?_
    refine Wp.ret dX4_isTable_14 rfl (by first | exact zb_nar true | exact zb_nar false) ?_
    first
      | exact ⟨zbo_t (rg_lt (by decide) c1 c6), rfl⟩
      | exact ⟨zbo_f (rg_not1 (by decide) c1), rfl⟩
      | exact ⟨zbo_f (rg_not2 (by decide) c6), rfl⟩
  · refine Wp.iload_n (pc2 := 5) dX4_isTable_4 rfl rfl ?_
    refine Wp.iconN (pc2 := 6) 2 dX4_isTable_5 rfl ?_
    refine Wp.icmp_ge (pc2 := 9) 13 dX4_isTable_6 rfl (by decide)  (fun c6 => ?_) (fun c6 => ?_)
    · refine Wp.iconN (pc2 := 14) 0 dX4_isTable_13 rfl ?_
      refine Wp.ret dX4_isTable_14 rfl (by first | exact zb_nar true | exact zb_nar false) ?_
      first
        | exact ⟨zbo_t (rg_lt (by decide) c1 c6), rfl⟩
        | exact ⟨zbo_f (rg_not1 (by decide) c1), rfl⟩
        | exact ⟨zbo_f (rg_not2 (by decide) c6), rfl⟩
    · refine Wp.iconN (pc2 := 10) 1 dX4_isTable_9 rfl ?_
      refine Wp.goto (pc2 := 14) dX4_isTable_10 (by decide) ?_
      refine Wp.ret dX4_isTable_14 rfl (by first | exact zb_nar true | exact zb_nar false) ?_
      first
        | exact ⟨zbo_t (rg_lt (by decide) c1 c6), rfl⟩
        | exact ⟨zbo_f (rg_not1 (by decide) c1), rfl⟩
        | exact ⟨zbo_f (rg_not2 (by decide) c6), rfl⟩

theorem x_isTable_t (h : zh) (x : Nat) (hx : x < 2) : PM mX4_isTable [.int (nI x)] h (fun zr zq => zr = some (.int (nI 1)) ∧ zq = h) :=
  (x_isTable h (nI x)).mono (by
    rintro _ _ ⟨⟨b, rfl, hb⟩, rfl⟩
    rw [hb.mpr ⟨x, hx, rfl⟩]; exact ⟨rfl, rfl⟩)

set_option maxRecDepth 100000 in
set_option maxHeartbeats 4000000 in
theorem x_isColumn (h : zh) (x : Int32) : PM mX4_isColumn [.int x] h (fun zr zq => zbo (rg x 3) zr ∧ zq = h) := by
  refine PM.of (by decide +kernel) (by simp [Value.category]) (Nat.le_of_ble_eq_true rfl) ?_
  refine Wp.iload_n (pc2 := 1) dX4_isColumn_0 rfl rfl ?_
  refine Wp.if_lt (pc2 := 4) 13 dX4_isColumn_1 rfl (by decide)  (fun c1 => ?_) (fun c1 => ?_)
  · refine Wp.iconN (pc2 := 14) 0 dX4_isColumn_13 rfl ?_
    refine Wp.ret dX4_isColumn_14 rfl (by first | exact zb_nar true | exact zb_nar false) ?_
    first
      | exact ⟨zbo_t (rg_lt (by decide) c1 c6), rfl⟩
      | exact ⟨zbo_f (rg_not1 (by decide) c1), rfl⟩
      | exact ⟨zbo_f (rg_not2 (by decide) c6), rfl⟩
  · refine Wp.iload_n (pc2 := 5) dX4_isColumn_4 rfl rfl ?_
    refine Wp.iconN (pc2 := 6) 3 dX4_isColumn_5 rfl ?_
    refine Wp.icmp_ge (pc2 := 9) 13 dX4_isColumn_6 rfl (by decide)  (fun c6 => ?_) (fun c6 => ?_)
    · refine Wp.iconN (pc2 := 14) 0 dX4_isColumn_13 rfl ?_
      refine Wp.ret dX4_isColumn_14 rfl (by first | exact zb_nar true | exact zb_nar false) ?_
      first
        | exact ⟨zbo_t (rg_lt (by decide) c1 c6), rfl⟩
        | exact ⟨zbo_f (rg_not1 (by decide) c1), rfl⟩
        | exact ⟨zbo_f (rg_not2 (by decide) c6), rfl⟩
    · refine Wp.iconN (pc2 := 10) 1 dX4_isColumn_9 rfl ?_
      refine Wp.goto (pc2 := 14) dX4_isColumn_10 (by decide) ?_
      refine Wp.ret dX4_isColumn_14 rfl (by first | exact zb_nar true | exact zb_nar false) ?_
      first
        | exact ⟨zbo_t (rg_lt (by decide) c1 c6), rfl⟩
        | exact ⟨zbo_f (rg_not1 (by decide) c1), rfl⟩
        | exact ⟨zbo_f (rg_not2 (by decide) c6), rfl⟩

theorem x_isColumn_t (h : zh) (x : Nat) (hx : x < 3) : PM mX4_isColumn [.int (nI x)] h (fun zr zq => zr = some (.int (nI 1)) ∧ zq = h) :=
  (x_isColumn h (nI x)).mono (by
    rintro _ _ ⟨⟨b, rfl, hb⟩, rfl⟩
    rw [hb.mpr ⟨x, hx, rfl⟩]; exact ⟨rfl, rfl⟩)

set_option maxRecDepth 100000 in
set_option maxHeartbeats 4000000 in
theorem x_isValue (h : zh) (x : Int32) : PM mX4_isValue [.int x] h (fun zr zq => zbo (rg x 100) zr ∧ zq = h) := by
  refine PM.of (by decide +kernel) (by simp [Value.category]) (Nat.le_of_ble_eq_true rfl) ?_
  refine Wp.iload_n (pc2 := 1) dX4_isValue_0 rfl rfl ?_
  refine Wp.if_lt (pc2 := 4) 14 dX4_isValue_1 rfl (by decide)  (fun c1 => ?_) (fun c1 => ?_)
  · refine Wp.iconN (pc2 := 15) 0 dX4_isValue_14 rfl ?_
    refine Wp.ret dX4_isValue_15 rfl (by first | exact zb_nar true | exact zb_nar false) ?_
    first
      | exact ⟨zbo_t (rg_lt (by decide) c1 c7), rfl⟩
      | exact ⟨zbo_f (rg_not1 (by decide) c1), rfl⟩
      | exact ⟨zbo_f (rg_not2 (by decide) c7), rfl⟩
  · refine Wp.iload_n (pc2 := 5) dX4_isValue_4 rfl rfl ?_
    refine Wp.bipN (pc2 := 7) 100 dX4_isValue_5 rfl (by decide +kernel) ?_
    refine Wp.icmp_ge (pc2 := 10) 14 dX4_isValue_7 rfl (by decide)  (fun c7 => ?_) (fun c7 => ?_)
    · refine Wp.iconN (pc2 := 15) 0 dX4_isValue_14 rfl ?_
      refine Wp.ret dX4_isValue_15 rfl (by first | exact zb_nar true | exact zb_nar false) ?_
      first
        | exact ⟨zbo_t (rg_lt (by decide) c1 c7), rfl⟩
        | exact ⟨zbo_f (rg_not1 (by decide) c1), rfl⟩
        | exact ⟨zbo_f (rg_not2 (by decide) c7), rfl⟩
    · refine Wp.iconN (pc2 := 11) 1 dX4_isValue_10 rfl ?_
      refine Wp.goto (pc2 := 15) dX4_isValue_11 (by decide) ?_
      refine Wp.ret dX4_isValue_15 rfl (by first | exact zb_nar true | exact zb_nar false) ?_
      first
        | exact ⟨zbo_t (rg_lt (by decide) c1 c7), rfl⟩
        | exact ⟨zbo_f (rg_not1 (by decide) c1), rfl⟩
        | exact ⟨zbo_f (rg_not2 (by decide) c7), rfl⟩

theorem x_isValue_t (h : zh) (x : Nat) (hx : x < 100) : PM mX4_isValue [.int (nI x)] h (fun zr zq => zr = some (.int (nI 1)) ∧ zq = h) :=
  (x_isValue h (nI x)).mono (by
    rintro _ _ ⟨⟨b, rfl, hb⟩, rfl⟩
    rw [hb.mpr ⟨x, hx, rfl⟩]; exact ⟨rfl, rfl⟩)

set_option maxRecDepth 100000 in
set_option maxHeartbeats 4000000 in
theorem x_joinValue_0 (V E : zS) (r : Nat) (hr : r < 50) (hj : V 8 0 < 3) : PM mX4_joinValue [.ref 0, .int (nI 0), .int (nI r)] (hC V E) (fun zr zq => zr = some (.int (nI (V 2 (3 * (50 * 0 + r) + V 8 0)))) ∧ zq = hC V E) := by
  refine PM.of (by decide +kernel) (by simp [Value.category]) (Nat.le_of_ble_eq_true rfl) ?_
  refine Wp.aload_n (pc2 := 1) dX4_joinValue_0 rfl rfl ?_
  refine Wp.getf (pc2 := 4) fX4_12 dX4_joinValue_1 rfl rfl rfl ?_
  refine Wp.iload_n (pc2 := 5) dX4_joinValue_4 rfl rfl ?_
  refine Wp.aald (pc2 := 6) dX4_joinValue_5 rfl rfl (by decide) (by omega) (by decide) rfl ?_
  refine Wp.iload_n (pc2 := 7) dX4_joinValue_6 rfl rfl ?_
  refine Wp.aload_n (pc2 := 8) dX4_joinValue_7 rfl rfl ?_
  refine Wp.getf (pc2 := 11) fX4_25 dX4_joinValue_8 rfl rfl rfl ?_
  refine Wp.iload_n (pc2 := 12) dX4_joinValue_11 rfl rfl ?_
  refine Wp.ialdN (pc2 := 13) dX4_joinValue_12 rfl rfl (by omega) (by decide) ?_
  refine Wp.callV (pc2 := 16) kX4_joinValue_144 vX3_valueAt (x_valueAt_0 V E r (V 8 0) (by omega)) dX4_joinValue_13 rfl rfl rfl rfl rfl (Nat.le_of_ble_eq_true rfl) ?_
  rintro _ _ ⟨rfl, rfl⟩
  refine Wp.ret dX4_joinValue_16 rfl rfl ?_
  exact ⟨rfl, rfl⟩
set_option maxRecDepth 100000 in
set_option maxHeartbeats 4000000 in
theorem x_joinValue_1 (V E : zS) (r : Nat) (hr : r < 50) (hj : V 8 1 < 3) : PM mX4_joinValue [.ref 0, .int (nI 1), .int (nI r)] (hC V E) (fun zr zq => zr = some (.int (nI (V 2 (3 * (50 * 1 + r) + V 8 1)))) ∧ zq = hC V E) := by
  refine PM.of (by decide +kernel) (by simp [Value.category]) (Nat.le_of_ble_eq_true rfl) ?_
  refine Wp.aload_n (pc2 := 1) dX4_joinValue_0 rfl rfl ?_
  refine Wp.getf (pc2 := 4) fX4_12 dX4_joinValue_1 rfl rfl rfl ?_
  refine Wp.iload_n (pc2 := 5) dX4_joinValue_4 rfl rfl ?_
  refine Wp.aald (pc2 := 6) dX4_joinValue_5 rfl rfl (by decide) (by omega) (by decide) rfl ?_
  refine Wp.iload_n (pc2 := 7) dX4_joinValue_6 rfl rfl ?_
  refine Wp.aload_n (pc2 := 8) dX4_joinValue_7 rfl rfl ?_
  refine Wp.getf (pc2 := 11) fX4_25 dX4_joinValue_8 rfl rfl rfl ?_
  refine Wp.iload_n (pc2 := 12) dX4_joinValue_11 rfl rfl ?_
  refine Wp.ialdN (pc2 := 13) dX4_joinValue_12 rfl rfl (by omega) (by decide) ?_
  refine Wp.callV (pc2 := 16) kX4_joinValue_144 vX3_valueAt (x_valueAt_1 V E r (V 8 1) (by omega)) dX4_joinValue_13 rfl rfl rfl rfl rfl (Nat.le_of_ble_eq_true rfl) ?_
  rintro _ _ ⟨rfl, rfl⟩
  refine Wp.ret dX4_joinValue_16 rfl rfl ?_
  exact ⟨rfl, rfl⟩
theorem x_joinValue (t : Nat) (ht : t < 2) (V E : zS) (r : Nat) (hr : r < 50) (hj : V 8 t < 3) : PM mX4_joinValue [.ref 0, .int (nI t), .int (nI r)] (hC V E) (fun zr zq => zr = some (.int (nI (V 2 (3 * (50 * t + r) + V 8 t)))) ∧ zq = hC V E) := by
  rcases (show t = 0 ∨ t = 1 by omega) with rfl | rfl
  · exact x_joinValue_0 V E r hr hj
  · exact x_joinValue_1 V E r hr hj

set_option maxRecDepth 100000 in
set_option maxHeartbeats 4000000 in
theorem x_row_ok_0 (V E : zS) (a b c : Nat) (hV : BV V) (ha : a < 100) (hb : b < 100) (hc : c < 100) (hn : V 1 0 < 50) (hs : V 0 10 ≠ 1) : PM mX4_row [.ref 0, .int (nI 0), .int (nI a), .int (nI b), .int (nI c)] (hC V E) (fun zr zq => zr = some (.int (nI (V 1 0))) ∧ zq = hC (mRow V 0 a b c) E) := by
  refine PM.of (by decide +kernel) (by simp [Value.category]) (Nat.le_of_ble_eq_true rfl) ?_
  refine Wp.aload_n (pc2 := 1) dX4_row_0 rfl rfl ?_
  refine Wp.getf (pc2 := 4) fX4_46 dX4_row_1 rfl rfl rfl ?_
  refine Wp.iconN (pc2 := 5) 1 dX4_row_4 rfl ?_
  refine Wp.icmpN_eq (pc2 := 8) 37 dX4_row_5 rfl (by decide) (hV.l _ _) (by decide) (fun c5 => ?_) (fun c5 => ?_)
  · exfalso; omega
  · refine Wp.iload_n (pc2 := 9) dX4_row_8 rfl rfl ?_
    refine Wp.callS (pc2 := 12) kX4_row_53 sX4_isTable (x_isTable_t _ 0 (by decide)) dX4_row_9 rfl rfl rfl (Nat.le_of_ble_eq_true rfl) ?_
    rintro _ _ ⟨rfl, rfl⟩
    refine Wp.ifN_eq (pc2 := 15) 37 dX4_row_12 rfl (by decide) (by omega) (fun c12 => ?_) (fun c12 => ?_)
    · exfalso; omega
    · refine Wp.iload_n (pc2 := 16) dX4_row_15 rfl rfl ?_
      refine Wp.callS (pc2 := 19) kX4_row_57 sX4_isValue (x_isValue_t _ a ha) dX4_row_16 rfl rfl rfl (Nat.le_of_ble_eq_true rfl) ?_
      rintro _ _ ⟨rfl, rfl⟩
      refine Wp.ifN_eq (pc2 := 22) 37 dX4_row_19 rfl (by decide) (by omega) (fun c19 => ?_) (fun c19 => ?_)
      · exfalso; omega
      · refine Wp.iload_n (pc2 := 23) dX4_row_22 rfl rfl ?_
        refine Wp.callS (pc2 := 26) kX4_row_57 sX4_isValue (x_isValue_t _ b hb) dX4_row_23 rfl rfl rfl (Nat.le_of_ble_eq_true rfl) ?_
        rintro _ _ ⟨rfl, rfl⟩
        refine Wp.ifN_eq (pc2 := 29) 37 dX4_row_26 rfl (by decide) (by omega) (fun c26 => ?_) (fun c26 => ?_)
        · exfalso; omega
        · refine Wp.iload (pc2 := 31) dX4_row_29 rfl rfl ?_
          refine Wp.callS (pc2 := 34) kX4_row_57 sX4_isValue (x_isValue_t _ c hc) dX4_row_31 rfl rfl rfl (Nat.le_of_ble_eq_true rfl) ?_
          rintro _ _ ⟨rfl, rfl⟩
          refine Wp.ifN_ne (pc2 := 37) 39 dX4_row_34 rfl (by decide) (by omega) (fun c34 => ?_) (fun c34 => ?_)
          · refine Wp.aload_n (pc2 := 40) dX4_row_39 rfl rfl ?_
            refine Wp.getf (pc2 := 43) fX4_12 dX4_row_40 rfl rfl rfl ?_
            refine Wp.iload_n (pc2 := 44) dX4_row_43 rfl rfl ?_
            refine Wp.aald (pc2 := 45) dX4_row_44 rfl rfl (by decide) (by omega) (by decide) rfl ?_
            refine Wp.iload_n (pc2 := 46) dX4_row_45 rfl rfl ?_
            refine Wp.iload_n (pc2 := 47) dX4_row_46 rfl rfl ?_
            refine Wp.iload (pc2 := 49) dX4_row_47 rfl rfl ?_
            refine Wp.callV (pc2 := 52) kX4_row_60 vX3_addRow (x_addRow_ok_0 V E a b c hn) dX4_row_49 rfl rfl rfl rfl rfl (Nat.le_of_ble_eq_true rfl) ?_
            rintro _ _ ⟨rfl, rfl⟩
            refine Wp.ret dX4_row_52 rfl rfl ?_
            exact ⟨rfl, rfl⟩
          · exfalso; omega
set_option maxRecDepth 100000 in
set_option maxHeartbeats 4000000 in
theorem x_row_ok_1 (V E : zS) (a b c : Nat) (hV : BV V) (ha : a < 100) (hb : b < 100) (hc : c < 100) (hn : V 1 1 < 50) (hs : V 0 10 ≠ 1) : PM mX4_row [.ref 0, .int (nI 1), .int (nI a), .int (nI b), .int (nI c)] (hC V E) (fun zr zq => zr = some (.int (nI (V 1 1))) ∧ zq = hC (mRow V 1 a b c) E) := by
  refine PM.of (by decide +kernel) (by simp [Value.category]) (Nat.le_of_ble_eq_true rfl) ?_
  refine Wp.aload_n (pc2 := 1) dX4_row_0 rfl rfl ?_
  refine Wp.getf (pc2 := 4) fX4_46 dX4_row_1 rfl rfl rfl ?_
  refine Wp.iconN (pc2 := 5) 1 dX4_row_4 rfl ?_
  refine Wp.icmpN_eq (pc2 := 8) 37 dX4_row_5 rfl (by decide) (hV.l _ _) (by decide) (fun c5 => ?_) (fun c5 => ?_)
  · exfalso; omega
  · refine Wp.iload_n (pc2 := 9) dX4_row_8 rfl rfl ?_
    refine Wp.callS (pc2 := 12) kX4_row_53 sX4_isTable (x_isTable_t _ 1 (by decide)) dX4_row_9 rfl rfl rfl (Nat.le_of_ble_eq_true rfl) ?_
    rintro _ _ ⟨rfl, rfl⟩
    refine Wp.ifN_eq (pc2 := 15) 37 dX4_row_12 rfl (by decide) (by omega) (fun c12 => ?_) (fun c12 => ?_)
    · exfalso; omega
    · refine Wp.iload_n (pc2 := 16) dX4_row_15 rfl rfl ?_
      refine Wp.callS (pc2 := 19) kX4_row_57 sX4_isValue (x_isValue_t _ a ha) dX4_row_16 rfl rfl rfl (Nat.le_of_ble_eq_true rfl) ?_
      rintro _ _ ⟨rfl, rfl⟩
      refine Wp.ifN_eq (pc2 := 22) 37 dX4_row_19 rfl (by decide) (by omega) (fun c19 => ?_) (fun c19 => ?_)
      · exfalso; omega
      · refine Wp.iload_n (pc2 := 23) dX4_row_22 rfl rfl ?_
        refine Wp.callS (pc2 := 26) kX4_row_57 sX4_isValue (x_isValue_t _ b hb) dX4_row_23 rfl rfl rfl (Nat.le_of_ble_eq_true rfl) ?_
        rintro _ _ ⟨rfl, rfl⟩
        refine Wp.ifN_eq (pc2 := 29) 37 dX4_row_26 rfl (by decide) (by omega) (fun c26 => ?_) (fun c26 => ?_)
        · exfalso; omega
        · refine Wp.iload (pc2 := 31) dX4_row_29 rfl rfl ?_
          refine Wp.callS (pc2 := 34) kX4_row_57 sX4_isValue (x_isValue_t _ c hc) dX4_row_31 rfl rfl rfl (Nat.le_of_ble_eq_true rfl) ?_
          rintro _ _ ⟨rfl, rfl⟩
          refine Wp.ifN_ne (pc2 := 37) 39 dX4_row_34 rfl (by decide) (by omega) (fun c34 => ?_) (fun c34 => ?_)
          · refine Wp.aload_n (pc2 := 40) dX4_row_39 rfl rfl ?_
            refine Wp.getf (pc2 := 43) fX4_12 dX4_row_40 rfl rfl rfl ?_
            refine Wp.iload_n (pc2 := 44) dX4_row_43 rfl rfl ?_
            refine Wp.aald (pc2 := 45) dX4_row_44 rfl rfl (by decide) (by omega) (by decide) rfl ?_
            refine Wp.iload_n (pc2 := 46) dX4_row_45 rfl rfl ?_
            refine Wp.iload_n (pc2 := 47) dX4_row_46 rfl rfl ?_
            refine Wp.iload (pc2 := 49) dX4_row_47 rfl rfl ?_
            refine Wp.callV (pc2 := 52) kX4_row_60 vX3_addRow (x_addRow_ok_1 V E a b c hn) dX4_row_49 rfl rfl rfl rfl rfl (Nat.le_of_ble_eq_true rfl) ?_
            rintro _ _ ⟨rfl, rfl⟩
            refine Wp.ret dX4_row_52 rfl rfl ?_
            exact ⟨rfl, rfl⟩
          · exfalso; omega
theorem x_row_ok (t : Nat) (ht : t < 2) (V E : zS) (a b c : Nat) (hV : BV V) (ha : a < 100) (hb : b < 100) (hc : c < 100) (hn : V 1 t < 50) (hs : V 0 10 ≠ 1) : PM mX4_row [.ref 0, .int (nI t), .int (nI a), .int (nI b), .int (nI c)] (hC V E) (fun zr zq => zr = some (.int (nI (V 1 t))) ∧ zq = hC (mRow V t a b c) E) := by
  rcases (show t = 0 ∨ t = 1 by omega) with rfl | rfl
  · exact x_row_ok_0 V E a b c hV ha hb hc hn hs
  · exact x_row_ok_1 V E a b c hV ha hb hc hn hs

set_option maxRecDepth 100000 in
set_option maxHeartbeats 4000000 in
theorem x_row_no (V E : zS) (t c0 c1 c2 : Int32) (hV : BV V) (h50 : ∀ t, t < 2 → V 1 t ≤ 50) (hno : ¬ ∃ t' a b c : Nat, (t' < 2 ∧ t = nI t') ∧ (a < 100 ∧ c0 = nI a) ∧ (b < 100 ∧ c1 = nI b) ∧ (c < 100 ∧ c2 = nI c) ∧ V 1 t' ≠ 50 ∧ V 0 10 ≠ 1) : PM mX4_row [.ref 0, .int t, .int c0, .int c1, .int c2] (hC V E) (fun zr zq => zr = some (.int (-1)) ∧ zq = hC V E) := by
  refine PM.of (by decide +kernel) (by simp [Value.category]) (Nat.le_of_ble_eq_true rfl) ?_
  refine Wp.aload_n (pc2 := 1) dX4_row_0 rfl rfl ?_
  refine Wp.getf (pc2 := 4) fX4_46 dX4_row_1 rfl rfl rfl ?_
  refine Wp.iconN (pc2 := 5) 1 dX4_row_4 rfl ?_
  refine Wp.icmpN_eq (pc2 := 8) 37 dX4_row_5 rfl (by decide) (hV.l _ _) (by decide) (fun c5 => ?_) (fun c5 => ?_)
  · refine Wp.icon (pc2 := 38) dX4_row_37 rfl (-1) (by decide +kernel) ?_
    refine Wp.ret dX4_row_38 rfl rfl ?_
    exact ⟨rfl, rfl⟩
  · refine Wp.iload_n (pc2 := 9) dX4_row_8 rfl rfl ?_
    refine Wp.callS (pc2 := 12) kX4_row_53 sX4_isTable (x_isTable _ t) dX4_row_9 rfl rfl rfl (Nat.le_of_ble_eq_true rfl) ?_
    rintro _ _ ⟨⟨b, rfl, hb⟩, rfl⟩
    refine Wp.ifN_eq (pc2 := 15) 37 dX4_row_12 rfl (by decide) (zb_lt _) (fun c12 => ?_) (fun c12 => ?_)
    · refine Wp.icon (pc2 := 38) dX4_row_37 rfl (-1) (by decide +kernel) ?_
      refine Wp.ret dX4_row_38 rfl rfl ?_
      exact ⟨rfl, rfl⟩
    · obtain ⟨t', ht, rfl⟩ := zby hb c12
      have h50t := h50 t' ht
      refine Wp.iload_n (pc2 := 16) dX4_row_15 rfl rfl ?_
      refine Wp.callS (pc2 := 19) kX4_row_57 sX4_isValue (x_isValue _ c0) dX4_row_16 rfl rfl rfl (Nat.le_of_ble_eq_true rfl) ?_
      rintro _ _ ⟨⟨b, rfl, hb⟩, rfl⟩
      refine Wp.ifN_eq (pc2 := 22) 37 dX4_row_19 rfl (by decide) (zb_lt _) (fun c19 => ?_) (fun c19 => ?_)
      · refine Wp.icon (pc2 := 38) dX4_row_37 rfl (-1) (by decide +kernel) ?_
        refine Wp.ret dX4_row_38 rfl rfl ?_
        exact ⟨rfl, rfl⟩
      · obtain ⟨a, ha, rfl⟩ := zby hb c19
        refine Wp.iload_n (pc2 := 23) dX4_row_22 rfl rfl ?_
        refine Wp.callS (pc2 := 26) kX4_row_57 sX4_isValue (x_isValue _ c1) dX4_row_23 rfl rfl rfl (Nat.le_of_ble_eq_true rfl) ?_
        rintro _ _ ⟨⟨b, rfl, hb⟩, rfl⟩
        refine Wp.ifN_eq (pc2 := 29) 37 dX4_row_26 rfl (by decide) (zb_lt _) (fun c26 => ?_) (fun c26 => ?_)
        · refine Wp.icon (pc2 := 38) dX4_row_37 rfl (-1) (by decide +kernel) ?_
          refine Wp.ret dX4_row_38 rfl rfl ?_
          exact ⟨rfl, rfl⟩
        · obtain ⟨b1, hb1, rfl⟩ := zby hb c26
          refine Wp.iload (pc2 := 31) dX4_row_29 rfl rfl ?_
          refine Wp.callS (pc2 := 34) kX4_row_57 sX4_isValue (x_isValue _ c2) dX4_row_31 rfl rfl rfl (Nat.le_of_ble_eq_true rfl) ?_
          rintro _ _ ⟨⟨b, rfl, hb⟩, rfl⟩
          refine Wp.ifN_ne (pc2 := 37) 39 dX4_row_34 rfl (by decide) (zb_lt _) (fun c34 => ?_) (fun c34 => ?_)
          · obtain ⟨c1, hc1, rfl⟩ := zby hb c34
            have h5 : V 1 t' = 50 := Classical.byContradiction (fun z => hno ⟨t', a, b1, c1, ⟨ht, rfl⟩, ⟨ha, rfl⟩, ⟨hb1, rfl⟩, ⟨hc1, rfl⟩, z, c5⟩)
            rcases (show t' = 0 ∨ t' = 1 by omega) with rfl | rfl
            · refine Wp.aload_n (pc2 := 40) dX4_row_39 rfl rfl ?_
              refine Wp.getf (pc2 := 43) fX4_12 dX4_row_40 rfl rfl rfl ?_
              refine Wp.iload_n (pc2 := 44) dX4_row_43 rfl rfl ?_
              refine Wp.aald (pc2 := 45) dX4_row_44 rfl rfl (by decide) (by omega) (by decide) rfl ?_
              refine Wp.iload_n (pc2 := 46) dX4_row_45 rfl rfl ?_
              refine Wp.iload_n (pc2 := 47) dX4_row_46 rfl rfl ?_
              refine Wp.iload (pc2 := 49) dX4_row_47 rfl rfl ?_
              refine Wp.callV (pc2 := 52) kX4_row_60 vX3_addRow (x_addRow_no_0 V E a b1 c1 h5) dX4_row_49 rfl rfl rfl rfl rfl (Nat.le_of_ble_eq_true rfl) ?_
              rintro _ _ ⟨rfl, rfl⟩
              refine Wp.ret dX4_row_52 rfl rfl ?_
              exact ⟨rfl, rfl⟩
            · refine Wp.aload_n (pc2 := 40) dX4_row_39 rfl rfl ?_
              refine Wp.getf (pc2 := 43) fX4_12 dX4_row_40 rfl rfl rfl ?_
              refine Wp.iload_n (pc2 := 44) dX4_row_43 rfl rfl ?_
              refine Wp.aald (pc2 := 45) dX4_row_44 rfl rfl (by decide) (by omega) (by decide) rfl ?_
              refine Wp.iload_n (pc2 := 46) dX4_row_45 rfl rfl ?_
              refine Wp.iload_n (pc2 := 47) dX4_row_46 rfl rfl ?_
              refine Wp.iload (pc2 := 49) dX4_row_47 rfl rfl ?_
              refine Wp.callV (pc2 := 52) kX4_row_60 vX3_addRow (x_addRow_no_1 V E a b1 c1 h5) dX4_row_49 rfl rfl rfl rfl rfl (Nat.le_of_ble_eq_true rfl) ?_
              rintro _ _ ⟨rfl, rfl⟩
              refine Wp.ret dX4_row_52 rfl rfl ?_
              exact ⟨rfl, rfl⟩
          · refine Wp.icon (pc2 := 38) dX4_row_37 rfl (-1) (by decide +kernel) ?_
            refine Wp.ret dX4_row_38 rfl rfl ?_
            exact ⟨rfl, rfl⟩

set_option maxRecDepth 100000 in
set_option maxHeartbeats 4000000 in
theorem x_test_ok_0 (V E : zS) (w p : Nat) (hV : BV V) (hw : w < 2 ^ 31) (h1 : w / 1000 < 3) (h2 : w / 100 % 10 ≤ 2) (hp : 1 ≤ p ∧ p ≤ 50) (hn : V 3 0 < 4) (hs : V 0 10 ≠ 1) : PM mX4_test [.ref 0, .int (nI 0), .int (nI w), .int (nI p)] (hC V E) (fun zr zq => zr = some (.int (nI (V 3 0))) ∧ zq = hC (mTest V 0 w p) E) := by
  refine PM.of (by decide +kernel) (by simp [Value.category]) (Nat.le_of_ble_eq_true rfl) ?_
  refine Wp.aload_n (pc2 := 1) dX4_test_0 rfl rfl ?_
  refine Wp.getf (pc2 := 4) fX4_46 dX4_test_1 rfl rfl rfl ?_
  refine Wp.iconN (pc2 := 5) 1 dX4_test_4 rfl ?_
  refine Wp.icmpN_eq (pc2 := 8) 26 dX4_test_5 rfl (by decide) (hV.l _ _) (by decide) (fun c5 => ?_) (fun c5 => ?_)
  · exfalso; omega
  · refine Wp.iload_n (pc2 := 9) dX4_test_8 rfl rfl ?_
    refine Wp.callS (pc2 := 12) kX4_test_53 sX4_isTable (x_isTable_t _ 0 (by decide)) dX4_test_9 rfl rfl rfl (Nat.le_of_ble_eq_true rfl) ?_
    rintro _ _ ⟨rfl, rfl⟩
    refine Wp.ifN_eq (pc2 := 15) 26 dX4_test_12 rfl (by decide) (by omega) (fun c12 => ?_) (fun c12 => ?_)
    · exfalso; omega
    · refine Wp.iload_n (pc2 := 16) dX4_test_15 rfl rfl ?_
      refine Wp.iconN (pc2 := 17) 1 dX4_test_16 rfl ?_
      refine Wp.icmpN_lt (pc2 := 20) 26 dX4_test_17 rfl (by decide) (by omega) (by decide) (fun c17 => ?_) (fun c17 => ?_)
      · exfalso; omega
      · refine Wp.iload_n (pc2 := 21) dX4_test_20 rfl rfl ?_
        refine Wp.bipN (pc2 := 23) 50 dX4_test_21 rfl (by decide +kernel) ?_
        refine Wp.icmpN_le (pc2 := 26) 28 dX4_test_23 rfl (by decide) (by omega) (by decide) (fun c23 => ?_) (fun c23 => ?_)
        · refine Wp.iload_n (pc2 := 29) dX4_test_28 rfl rfl ?_
          refine Wp.sipN (pc2 := 32) 1000 dX4_test_29 rfl (by decide +kernel) ?_
          refine Wp.idivN (pc2 := 33) dX4_test_32 rfl hw (by decide) (by decide) ?_
          refine Wp.istore (pc2 := 35) dX4_test_33 rfl (by decide) rfl ?_
          refine Wp.iload_n (pc2 := 36) dX4_test_35 rfl rfl ?_
          refine Wp.bipN (pc2 := 38) 100 dX4_test_36 rfl (by decide +kernel) ?_
          refine Wp.idivN (pc2 := 39) dX4_test_38 rfl hw (by decide) (by decide) ?_
          refine Wp.bipN (pc2 := 41) 10 dX4_test_39 rfl (by decide +kernel) ?_
          refine Wp.iremN (pc2 := 42) dX4_test_41 rfl (by omega) (by decide) (by decide) ?_
          refine Wp.istore (pc2 := 44) dX4_test_42 rfl (by decide) rfl ?_
          refine Wp.iload_n (pc2 := 45) dX4_test_44 rfl rfl ?_
          refine Wp.ifN_lt (pc2 := 48) 62 dX4_test_45 rfl (by decide) hw (fun c45 => ?_) (fun c45 => ?_)
          · exact absurd c45 id
          · refine Wp.iload (pc2 := 50) dX4_test_48 rfl rfl ?_
            refine Wp.callS (pc2 := 53) kX4_test_64 sX4_isColumn (x_isColumn_t _ (w / 1000) h1) dX4_test_50 rfl rfl rfl (Nat.le_of_ble_eq_true rfl) ?_
            rintro _ _ ⟨rfl, rfl⟩
            refine Wp.ifN_eq (pc2 := 56) 62 dX4_test_53 rfl (by decide) (by omega) (fun c53 => ?_) (fun c53 => ?_)
            · exfalso; omega
            · refine Wp.iload (pc2 := 58) dX4_test_56 rfl rfl ?_
              refine Wp.iconN (pc2 := 59) 3 dX4_test_58 rfl ?_
              refine Wp.icmpN_lt (pc2 := 62) 64 dX4_test_59 rfl (by decide) (by omega) (by decide) (fun c59 => ?_) (fun c59 => ?_)
              · refine Wp.aload_n (pc2 := 65) dX4_test_64 rfl rfl ?_
                refine Wp.getf (pc2 := 68) fX4_12 dX4_test_65 rfl rfl rfl ?_
                refine Wp.iload_n (pc2 := 69) dX4_test_68 rfl rfl ?_
                refine Wp.aald (pc2 := 70) dX4_test_69 rfl rfl (by decide) (by omega) (by decide) rfl ?_
                refine Wp.iload (pc2 := 72) dX4_test_70 rfl rfl ?_
                refine Wp.iload (pc2 := 74) dX4_test_72 rfl rfl ?_
                refine Wp.iload_n (pc2 := 75) dX4_test_74 rfl rfl ?_
                refine Wp.bipN (pc2 := 77) 100 dX4_test_75 rfl (by decide +kernel) ?_
                refine Wp.iremN (pc2 := 78) dX4_test_77 rfl hw (by decide) (by decide) ?_
                refine Wp.iload_n (pc2 := 79) dX4_test_78 rfl rfl ?_
                refine Wp.callV (pc2 := 82) kX4_test_67 vX3_addTest (x_addTest_ok_0 V E w p hn) dX4_test_79 rfl rfl rfl rfl rfl (Nat.le_of_ble_eq_true rfl) ?_
                rintro _ _ ⟨rfl, rfl⟩
                refine Wp.ret dX4_test_82 rfl rfl ?_
                exact ⟨rfl, rfl⟩
              · exfalso; omega
        · exfalso; omega
set_option maxRecDepth 100000 in
set_option maxHeartbeats 4000000 in
theorem x_test_ok_1 (V E : zS) (w p : Nat) (hV : BV V) (hw : w < 2 ^ 31) (h1 : w / 1000 < 3) (h2 : w / 100 % 10 ≤ 2) (hp : 1 ≤ p ∧ p ≤ 50) (hn : V 3 1 < 4) (hs : V 0 10 ≠ 1) : PM mX4_test [.ref 0, .int (nI 1), .int (nI w), .int (nI p)] (hC V E) (fun zr zq => zr = some (.int (nI (V 3 1))) ∧ zq = hC (mTest V 1 w p) E) := by
  refine PM.of (by decide +kernel) (by simp [Value.category]) (Nat.le_of_ble_eq_true rfl) ?_
  refine Wp.aload_n (pc2 := 1) dX4_test_0 rfl rfl ?_
  refine Wp.getf (pc2 := 4) fX4_46 dX4_test_1 rfl rfl rfl ?_
  refine Wp.iconN (pc2 := 5) 1 dX4_test_4 rfl ?_
  refine Wp.icmpN_eq (pc2 := 8) 26 dX4_test_5 rfl (by decide) (hV.l _ _) (by decide) (fun c5 => ?_) (fun c5 => ?_)
  · exfalso; omega
  · refine Wp.iload_n (pc2 := 9) dX4_test_8 rfl rfl ?_
    refine Wp.callS (pc2 := 12) kX4_test_53 sX4_isTable (x_isTable_t _ 1 (by decide)) dX4_test_9 rfl rfl rfl (Nat.le_of_ble_eq_true rfl) ?_
    rintro _ _ ⟨rfl, rfl⟩
    refine Wp.ifN_eq (pc2 := 15) 26 dX4_test_12 rfl (by decide) (by omega) (fun c12 => ?_) (fun c12 => ?_)
    · exfalso; omega
    · refine Wp.iload_n (pc2 := 16) dX4_test_15 rfl rfl ?_
      refine Wp.iconN (pc2 := 17) 1 dX4_test_16 rfl ?_
      refine Wp.icmpN_lt (pc2 := 20) 26 dX4_test_17 rfl (by decide) (by omega) (by decide) (fun c17 => ?_) (fun c17 => ?_)
      · exfalso; omega
      · refine Wp.iload_n (pc2 := 21) dX4_test_20 rfl rfl ?_
        refine Wp.bipN (pc2 := 23) 50 dX4_test_21 rfl (by decide +kernel) ?_
        refine Wp.icmpN_le (pc2 := 26) 28 dX4_test_23 rfl (by decide) (by omega) (by decide) (fun c23 => ?_) (fun c23 => ?_)
        · refine Wp.iload_n (pc2 := 29) dX4_test_28 rfl rfl ?_
          refine Wp.sipN (pc2 := 32) 1000 dX4_test_29 rfl (by decide +kernel) ?_
          refine Wp.idivN (pc2 := 33) dX4_test_32 rfl hw (by decide) (by decide) ?_
          refine Wp.istore (pc2 := 35) dX4_test_33 rfl (by decide) rfl ?_
          refine Wp.iload_n (pc2 := 36) dX4_test_35 rfl rfl ?_
          refine Wp.bipN (pc2 := 38) 100 dX4_test_36 rfl (by decide +kernel) ?_
          refine Wp.idivN (pc2 := 39) dX4_test_38 rfl hw (by decide) (by decide) ?_
          refine Wp.bipN (pc2 := 41) 10 dX4_test_39 rfl (by decide +kernel) ?_
          refine Wp.iremN (pc2 := 42) dX4_test_41 rfl (by omega) (by decide) (by decide) ?_
          refine Wp.istore (pc2 := 44) dX4_test_42 rfl (by decide) rfl ?_
          refine Wp.iload_n (pc2 := 45) dX4_test_44 rfl rfl ?_
          refine Wp.ifN_lt (pc2 := 48) 62 dX4_test_45 rfl (by decide) hw (fun c45 => ?_) (fun c45 => ?_)
          · exact absurd c45 id
          · refine Wp.iload (pc2 := 50) dX4_test_48 rfl rfl ?_
            refine Wp.callS (pc2 := 53) kX4_test_64 sX4_isColumn (x_isColumn_t _ (w / 1000) h1) dX4_test_50 rfl rfl rfl (Nat.le_of_ble_eq_true rfl) ?_
            rintro _ _ ⟨rfl, rfl⟩
            refine Wp.ifN_eq (pc2 := 56) 62 dX4_test_53 rfl (by decide) (by omega) (fun c53 => ?_) (fun c53 => ?_)
            · exfalso; omega
            · refine Wp.iload (pc2 := 58) dX4_test_56 rfl rfl ?_
              refine Wp.iconN (pc2 := 59) 3 dX4_test_58 rfl ?_
              refine Wp.icmpN_lt (pc2 := 62) 64 dX4_test_59 rfl (by decide) (by omega) (by decide) (fun c59 => ?_) (fun c59 => ?_)
              · refine Wp.aload_n (pc2 := 65) dX4_test_64 rfl rfl ?_
                refine Wp.getf (pc2 := 68) fX4_12 dX4_test_65 rfl rfl rfl ?_
                refine Wp.iload_n (pc2 := 69) dX4_test_68 rfl rfl ?_
                refine Wp.aald (pc2 := 70) dX4_test_69 rfl rfl (by decide) (by omega) (by decide) rfl ?_
                refine Wp.iload (pc2 := 72) dX4_test_70 rfl rfl ?_
                refine Wp.iload (pc2 := 74) dX4_test_72 rfl rfl ?_
                refine Wp.iload_n (pc2 := 75) dX4_test_74 rfl rfl ?_
                refine Wp.bipN (pc2 := 77) 100 dX4_test_75 rfl (by decide +kernel) ?_
                refine Wp.iremN (pc2 := 78) dX4_test_77 rfl hw (by decide) (by decide) ?_
                refine Wp.iload_n (pc2 := 79) dX4_test_78 rfl rfl ?_
                refine Wp.callV (pc2 := 82) kX4_test_67 vX3_addTest (x_addTest_ok_1 V E w p hn) dX4_test_79 rfl rfl rfl rfl rfl (Nat.le_of_ble_eq_true rfl) ?_
                rintro _ _ ⟨rfl, rfl⟩
                refine Wp.ret dX4_test_82 rfl rfl ?_
                exact ⟨rfl, rfl⟩
              · exfalso; omega
        · exfalso; omega
theorem x_test_ok (t : Nat) (ht : t < 2) (V E : zS) (w p : Nat) (hV : BV V) (hw : w < 2 ^ 31) (h1 : w / 1000 < 3) (h2 : w / 100 % 10 ≤ 2) (hp : 1 ≤ p ∧ p ≤ 50) (hn : V 3 t < 4) (hs : V 0 10 ≠ 1) : PM mX4_test [.ref 0, .int (nI t), .int (nI w), .int (nI p)] (hC V E) (fun zr zq => zr = some (.int (nI (V 3 t))) ∧ zq = hC (mTest V t w p) E) := by
  rcases (show t = 0 ∨ t = 1 by omega) with rfl | rfl
  · exact x_test_ok_0 V E w p hV hw h1 h2 hp hn hs
  · exact x_test_ok_1 V E w p hV hw h1 h2 hp hn hs

theorem nz1000 : ¬ (1000 : Int32) = 0 := by decide
theorem nz100 : ¬ (100 : Int32) = 0 := by decide
theorem nz10 : ¬ (10 : Int32) = 0 := by decide
theorem rg_b {x : Int32} {n : Nat} (hn : n < 2 ^ 31) (h1 : ¬ x < nI 1) (h2 : x ≤ nI n) : ∃ j : Nat, (1 ≤ j ∧ j ≤ n) ∧ x = nI j := (rg_1 hn).mp ⟨Int32.not_lt.mp h1, h2⟩

set_option maxRecDepth 100000 in
set_option maxHeartbeats 4000000 in
theorem x_test_no (V E : zS) (t what price : Int32) (hV : BV V) (h4 : ∀ t, t < 2 → V 3 t ≤ 4) (hno : ¬ ∃ t' w p : Nat, (t' < 2 ∧ t = nI t') ∧ (w < 2 ^ 31 ∧ what = nI w) ∧ ((1 ≤ p ∧ p ≤ 50) ∧ price = nI p) ∧ w / 1000 < 3 ∧ w / 100 % 10 ≤ 2 ∧ V 3 t' ≠ 4 ∧ V 0 10 ≠ 1) : PM mX4_test [.ref 0, .int t, .int what, .int price] (hC V E) (fun zr zq => zr = some (.int (-1)) ∧ zq = hC V E) := by
  refine PM.of (by decide +kernel) (by simp [Value.category]) (Nat.le_of_ble_eq_true rfl) ?_
  refine Wp.aload_n (pc2 := 1) dX4_test_0 rfl rfl ?_
  refine Wp.getf (pc2 := 4) fX4_46 dX4_test_1 rfl rfl rfl ?_
  refine Wp.iconN (pc2 := 5) 1 dX4_test_4 rfl ?_
  refine Wp.icmpN_eq (pc2 := 8) 26 dX4_test_5 rfl (by decide) (hV.l _ _) (by decide) (fun c5 => ?_) (fun c5 => ?_)
  · refine Wp.icon (pc2 := 27) dX4_test_26 rfl (-1) (by decide +kernel) ?_
    refine Wp.ret dX4_test_27 rfl rfl ?_
    exact ⟨rfl, rfl⟩
  · refine Wp.iload_n (pc2 := 9) dX4_test_8 rfl rfl ?_
    refine Wp.callS (pc2 := 12) kX4_test_53 sX4_isTable (x_isTable _ t) dX4_test_9 rfl rfl rfl (Nat.le_of_ble_eq_true rfl) ?_
    rintro _ _ ⟨⟨b, rfl, hb⟩, rfl⟩
    refine Wp.ifN_eq (pc2 := 15) 26 dX4_test_12 rfl (by decide) (zb_lt _) (fun c12 => ?_) (fun c12 => ?_)
    · refine Wp.icon (pc2 := 27) dX4_test_26 rfl (-1) (by decide +kernel) ?_
      refine Wp.ret dX4_test_27 rfl rfl ?_
      exact ⟨rfl, rfl⟩
    · obtain ⟨t', ht, rfl⟩ := zby hb c12
      have h4t := h4 t' ht
      refine Wp.iload_n (pc2 := 16) dX4_test_15 rfl rfl ?_
      refine Wp.iconN (pc2 := 17) 1 dX4_test_16 rfl ?_
      refine Wp.icmp_lt (pc2 := 20) 26 dX4_test_17 rfl (by decide)  (fun c17 => ?_) (fun c17 => ?_)
      · refine Wp.icon (pc2 := 27) dX4_test_26 rfl (-1) (by decide +kernel) ?_
        refine Wp.ret dX4_test_27 rfl rfl ?_
        exact ⟨rfl, rfl⟩
      · refine Wp.iload_n (pc2 := 21) dX4_test_20 rfl rfl ?_
        refine Wp.bipN (pc2 := 23) 50 dX4_test_21 rfl (by decide +kernel) ?_
        refine Wp.icmp_le (pc2 := 26) 28 dX4_test_23 rfl (by decide)  (fun c23 => ?_) (fun c23 => ?_)
        · obtain ⟨p1, hp1, rfl⟩ := rg_b (by decide) c17 c23
          by_cases hneg : what < 0
          · refine Wp.iload_n (pc2 := 29) dX4_test_28 rfl rfl ?_
            refine Wp.sipush (pc2 := 32) dX4_test_29 rfl (1000) (by decide +kernel) ?_
            refine Wp.idiv (pc2 := 33) dX4_test_32 rfl nz1000 ?_
            refine Wp.istore (pc2 := 35) dX4_test_33 rfl (by decide) rfl ?_
            refine Wp.iload_n (pc2 := 36) dX4_test_35 rfl rfl ?_
            refine Wp.bipush (pc2 := 38) dX4_test_36 rfl (100) (by decide +kernel) ?_
            refine Wp.idiv (pc2 := 39) dX4_test_38 rfl nz100 ?_
            refine Wp.bipush (pc2 := 41) dX4_test_39 rfl (10) (by decide +kernel) ?_
            refine Wp.irem (pc2 := 42) dX4_test_41 rfl nz10 ?_
            refine Wp.istore (pc2 := 44) dX4_test_42 rfl (by decide) rfl ?_
            refine Wp.iload_n (pc2 := 45) dX4_test_44 rfl rfl ?_
            refine Wp.if_lt (pc2 := 48) 62 dX4_test_45 rfl (by decide)  (fun c45 => ?_) (fun c45 => ?_)
            · refine Wp.icon (pc2 := 63) dX4_test_62 rfl (-1) (by decide +kernel) ?_
              refine Wp.ret dX4_test_63 rfl rfl ?_
              exact ⟨rfl, rfl⟩
            · exact absurd hneg c45
          · obtain ⟨w, hw, rfl⟩ := nI_of hneg
            refine Wp.iload_n (pc2 := 29) dX4_test_28 rfl rfl ?_
            refine Wp.sipN (pc2 := 32) 1000 dX4_test_29 rfl (by decide +kernel) ?_
            refine Wp.idivN (pc2 := 33) dX4_test_32 rfl hw (by decide) (by decide) ?_
            refine Wp.istore (pc2 := 35) dX4_test_33 rfl (by decide) rfl ?_
            refine Wp.iload_n (pc2 := 36) dX4_test_35 rfl rfl ?_
            refine Wp.bipN (pc2 := 38) 100 dX4_test_36 rfl (by decide +kernel) ?_
            refine Wp.idivN (pc2 := 39) dX4_test_38 rfl hw (by decide) (by decide) ?_
            refine Wp.bipN (pc2 := 41) 10 dX4_test_39 rfl (by decide +kernel) ?_
            refine Wp.iremN (pc2 := 42) dX4_test_41 rfl (by omega) (by decide) (by decide) ?_
            refine Wp.istore (pc2 := 44) dX4_test_42 rfl (by decide) rfl ?_
            refine Wp.iload_n (pc2 := 45) dX4_test_44 rfl rfl ?_
            refine Wp.ifN_lt (pc2 := 48) 62 dX4_test_45 rfl (by decide) hw (fun c45 => ?_) (fun c45 => ?_)
            · refine Wp.icon (pc2 := 63) dX4_test_62 rfl (-1) (by decide +kernel) ?_
              refine Wp.ret dX4_test_63 rfl rfl ?_
              exact ⟨rfl, rfl⟩
            · refine Wp.iload (pc2 := 50) dX4_test_48 rfl rfl ?_
              refine Wp.callS (pc2 := 53) kX4_test_64 sX4_isColumn (x_isColumn _ (nI (w / 1000))) dX4_test_50 rfl rfl rfl (Nat.le_of_ble_eq_true rfl) ?_
              rintro _ _ ⟨⟨b, rfl, hb⟩, rfl⟩
              refine Wp.ifN_eq (pc2 := 56) 62 dX4_test_53 rfl (by decide) (zb_lt _) (fun c53 => ?_) (fun c53 => ?_)
              · refine Wp.icon (pc2 := 63) dX4_test_62 rfl (-1) (by decide +kernel) ?_
                refine Wp.ret dX4_test_63 rfl rfl ?_
                exact ⟨rfl, rfl⟩
              · refine Wp.iload (pc2 := 58) dX4_test_56 rfl rfl ?_
                refine Wp.iconN (pc2 := 59) 3 dX4_test_58 rfl ?_
                refine Wp.icmpN_lt (pc2 := 62) 64 dX4_test_59 rfl (by decide) (by omega) (by decide) (fun c59 => ?_) (fun c59 => ?_)
                · obtain ⟨k, hk, ek⟩ := zby hb c53
                  have ek2 : w / 1000 = k := (nI_eq (by omega) (by omega)).mp ek
                  have h5 : V 3 t' = 4 := Classical.byContradiction (fun z => hno ⟨t', w, p1, ⟨ht, rfl⟩, ⟨hw, rfl⟩, ⟨hp1, rfl⟩, by omega, by omega, z, c5⟩)
                  rcases (show t' = 0 ∨ t' = 1 by omega) with rfl | rfl
                  · refine Wp.aload_n (pc2 := 65) dX4_test_64 rfl rfl ?_
                    refine Wp.getf (pc2 := 68) fX4_12 dX4_test_65 rfl rfl rfl ?_
                    refine Wp.iload_n (pc2 := 69) dX4_test_68 rfl rfl ?_
                    refine Wp.aald (pc2 := 70) dX4_test_69 rfl rfl (by decide) (by omega) (by decide) rfl ?_
                    refine Wp.iload (pc2 := 72) dX4_test_70 rfl rfl ?_
                    refine Wp.iload (pc2 := 74) dX4_test_72 rfl rfl ?_
                    refine Wp.iload_n (pc2 := 75) dX4_test_74 rfl rfl ?_
                    refine Wp.bipN (pc2 := 77) 100 dX4_test_75 rfl (by decide +kernel) ?_
                    refine Wp.iremN (pc2 := 78) dX4_test_77 rfl hw (by decide) (by decide) ?_
                    refine Wp.iload_n (pc2 := 79) dX4_test_78 rfl rfl ?_
                    refine Wp.callV (pc2 := 82) kX4_test_67 vX3_addTest (x_addTest_no_0 V E (w / 1000) (w / 100 % 10) (w % 100) p1 h5) dX4_test_79 rfl rfl rfl rfl rfl (Nat.le_of_ble_eq_true rfl) ?_
                    rintro _ _ ⟨rfl, rfl⟩
                    refine Wp.ret dX4_test_82 rfl rfl ?_
                    exact ⟨rfl, rfl⟩
                  · refine Wp.aload_n (pc2 := 65) dX4_test_64 rfl rfl ?_
                    refine Wp.getf (pc2 := 68) fX4_12 dX4_test_65 rfl rfl rfl ?_
                    refine Wp.iload_n (pc2 := 69) dX4_test_68 rfl rfl ?_
                    refine Wp.aald (pc2 := 70) dX4_test_69 rfl rfl (by decide) (by omega) (by decide) rfl ?_
                    refine Wp.iload (pc2 := 72) dX4_test_70 rfl rfl ?_
                    refine Wp.iload (pc2 := 74) dX4_test_72 rfl rfl ?_
                    refine Wp.iload_n (pc2 := 75) dX4_test_74 rfl rfl ?_
                    refine Wp.bipN (pc2 := 77) 100 dX4_test_75 rfl (by decide +kernel) ?_
                    refine Wp.iremN (pc2 := 78) dX4_test_77 rfl hw (by decide) (by decide) ?_
                    refine Wp.iload_n (pc2 := 79) dX4_test_78 rfl rfl ?_
                    refine Wp.callV (pc2 := 82) kX4_test_67 vX3_addTest (x_addTest_no_1 V E (w / 1000) (w / 100 % 10) (w % 100) p1 h5) dX4_test_79 rfl rfl rfl rfl rfl (Nat.le_of_ble_eq_true rfl) ?_
                    rintro _ _ ⟨rfl, rfl⟩
                    refine Wp.ret dX4_test_82 rfl rfl ?_
                    exact ⟨rfl, rfl⟩
                · refine Wp.icon (pc2 := 63) dX4_test_62 rfl (-1) (by decide +kernel) ?_
                  refine Wp.ret dX4_test_63 rfl rfl ?_
                  exact ⟨rfl, rfl⟩
        · refine Wp.icon (pc2 := 27) dX4_test_26 rfl (-1) (by decide +kernel) ?_
          refine Wp.ret dX4_test_27 rfl rfl ?_
          exact ⟨rfl, rfl⟩

set_option maxRecDepth 100000 in
set_option maxHeartbeats 4000000 in
theorem x_join_ok (V E : zS) (a b : Nat) (hV : BV V) (ha : a < 3) (hb : b < 3) (hs : V 0 10 ≠ 1) : PM mX4_join [.ref 0, .int (nI a), .int (nI b)] (hC V E) (fun zr zq => zr = some (.int (nI 1)) ∧ zq = hC (vs (vs V 8 0 a) 8 1 b) E) := by
  refine PM.of (by decide +kernel) (by simp [Value.category]) (Nat.le_of_ble_eq_true rfl) ?_
  refine Wp.aload_n (pc2 := 1) dX4_join_0 rfl rfl ?_
  refine Wp.getf (pc2 := 4) fX4_46 dX4_join_1 rfl rfl rfl ?_
  refine Wp.iconN (pc2 := 5) 1 dX4_join_4 rfl ?_
  refine Wp.icmpN_eq (pc2 := 8) 22 dX4_join_5 rfl (by decide) (hV.l _ _) (by decide) (fun c5 => ?_) (fun c5 => ?_)
  · exfalso; omega
  · refine Wp.iload_n (pc2 := 9) dX4_join_8 rfl rfl ?_
    refine Wp.callS (pc2 := 12) kX4_join_64 sX4_isColumn (x_isColumn_t _ a ha) dX4_join_9 rfl rfl rfl (Nat.le_of_ble_eq_true rfl) ?_
    rintro _ _ ⟨rfl, rfl⟩
    refine Wp.ifN_eq (pc2 := 15) 22 dX4_join_12 rfl (by decide) (by omega) (fun c12 => ?_) (fun c12 => ?_)
    · exfalso; omega
    · refine Wp.iload_n (pc2 := 16) dX4_join_15 rfl rfl ?_
      refine Wp.callS (pc2 := 19) kX4_join_64 sX4_isColumn (x_isColumn_t _ b hb) dX4_join_16 rfl rfl rfl (Nat.le_of_ble_eq_true rfl) ?_
      rintro _ _ ⟨rfl, rfl⟩
      refine Wp.ifN_ne (pc2 := 22) 24 dX4_join_19 rfl (by decide) (by omega) (fun c19 => ?_) (fun c19 => ?_)
      · refine Wp.aload_n (pc2 := 25) dX4_join_24 rfl rfl ?_
        refine Wp.getf (pc2 := 28) fX4_25 dX4_join_25 rfl rfl rfl ?_
        refine Wp.iconN (pc2 := 29) 0 dX4_join_28 rfl ?_
        refine Wp.iload_n (pc2 := 30) dX4_join_29 rfl rfl ?_
        refine Wp.iastN (pc2 := 31) dX4_join_30 rfl rfl (by omega) (by decide) ?_
        refine Wp.heq (hC_a3 _ _ _ _) ?_
        refine Wp.aload_n (pc2 := 32) dX4_join_31 rfl rfl ?_
        refine Wp.getf (pc2 := 35) fX4_25 dX4_join_32 rfl rfl rfl ?_
        refine Wp.iconN (pc2 := 36) 1 dX4_join_35 rfl ?_
        refine Wp.iload_n (pc2 := 37) dX4_join_36 rfl rfl ?_
        refine Wp.iastN (pc2 := 38) dX4_join_37 rfl rfl (by omega) (by decide) ?_
        refine Wp.heq (hC_a3 _ _ _ _) ?_
        refine Wp.iconN (pc2 := 39) 1 dX4_join_38 rfl ?_
        refine Wp.ret dX4_join_39 rfl (zb_nar true) ?_
        exact ⟨rfl, rfl⟩
      · exfalso; omega

set_option maxRecDepth 100000 in
set_option maxHeartbeats 4000000 in
theorem x_join_no (V E : zS) (c0 c1 : Int32) (hV : BV V) (hno : ¬ ∃ a b : Nat, (a < 3 ∧ c0 = nI a) ∧ (b < 3 ∧ c1 = nI b) ∧ V 0 10 ≠ 1) : PM mX4_join [.ref 0, .int c0, .int c1] (hC V E) (fun zr zq => zr = some (.int (nI 0)) ∧ zq = hC V E) := by
  refine PM.of (by decide +kernel) (by simp [Value.category]) (Nat.le_of_ble_eq_true rfl) ?_
  refine Wp.aload_n (pc2 := 1) dX4_join_0 rfl rfl ?_
  refine Wp.getf (pc2 := 4) fX4_46 dX4_join_1 rfl rfl rfl ?_
  refine Wp.iconN (pc2 := 5) 1 dX4_join_4 rfl ?_
  refine Wp.icmpN_eq (pc2 := 8) 22 dX4_join_5 rfl (by decide) (hV.l _ _) (by decide) (fun c5 => ?_) (fun c5 => ?_)
  · refine Wp.iconN (pc2 := 23) 0 dX4_join_22 rfl ?_
    refine Wp.ret dX4_join_23 rfl (zb_nar false) ?_
    exact ⟨rfl, rfl⟩
  · refine Wp.iload_n (pc2 := 9) dX4_join_8 rfl rfl ?_
    refine Wp.callS (pc2 := 12) kX4_join_64 sX4_isColumn (x_isColumn _ c0) dX4_join_9 rfl rfl rfl (Nat.le_of_ble_eq_true rfl) ?_
    rintro _ _ ⟨⟨b, rfl, hb⟩, rfl⟩
    refine Wp.ifN_eq (pc2 := 15) 22 dX4_join_12 rfl (by decide) (zb_lt _) (fun c12 => ?_) (fun c12 => ?_)
    · refine Wp.iconN (pc2 := 23) 0 dX4_join_22 rfl ?_
      refine Wp.ret dX4_join_23 rfl (zb_nar false) ?_
      exact ⟨rfl, rfl⟩
    · obtain ⟨a, ha, rfl⟩ := zby hb c12
      refine Wp.iload_n (pc2 := 16) dX4_join_15 rfl rfl ?_
      refine Wp.callS (pc2 := 19) kX4_join_64 sX4_isColumn (x_isColumn _ c1) dX4_join_16 rfl rfl rfl (Nat.le_of_ble_eq_true rfl) ?_
      rintro _ _ ⟨⟨b, rfl, hb⟩, rfl⟩
      refine Wp.ifN_ne (pc2 := 22) 24 dX4_join_19 rfl (by decide) (zb_lt _) (fun c19 => ?_) (fun c19 => ?_)
      · obtain ⟨b1, hb1, rfl⟩ := zby hb c19
        exact absurd ⟨a, b1, ⟨ha, rfl⟩, ⟨hb1, rfl⟩, c5⟩ hno
      · refine Wp.iconN (pc2 := 23) 0 dX4_join_22 rfl ?_
        refine Wp.ret dX4_join_23 rfl (zb_nar false) ?_
        exact ⟨rfl, rfl⟩

set_option maxRecDepth 100000 in
set_option maxHeartbeats 4000000 in
theorem x_stop_ok (V E : zS) (hV : BV V) (hs : V 0 10 = 1) : PM mX4_stop [.ref 0] (hC V E) (fun zr zq => zr = some (.int (nI 1)) ∧ zq = hC (vs V 0 10 0) E) := by
  refine PM.of (by decide +kernel) (by simp [Value.category]) (Nat.le_of_ble_eq_true rfl) ?_
  refine Wp.aload_n (pc2 := 1) dX4_stop_0 rfl rfl ?_
  refine Wp.getf (pc2 := 4) fX4_46 dX4_stop_1 rfl rfl rfl ?_
  refine Wp.iconN (pc2 := 5) 1 dX4_stop_4 rfl ?_
  refine Wp.icmpN_eq (pc2 := 8) 10 dX4_stop_5 rfl (by decide) (hV.l _ _) (by decide) (fun c5 => ?_) (fun c5 => ?_)
  · refine Wp.aload_n (pc2 := 11) dX4_stop_10 rfl rfl ?_
    refine Wp.iconN (pc2 := 12) 0 dX4_stop_11 rfl ?_
    refine Wp.putf (pc2 := 15) gX4_46 dX4_stop_12 rfl rfl (Nat.le_of_ble_eq_true rfl) rfl rfl ?_
    refine Wp.heq (hC_o0_6 _ _ _) ?_
    refine Wp.iconN (pc2 := 16) 1 dX4_stop_15 rfl ?_
    refine Wp.ret dX4_stop_16 rfl (zb_nar true) ?_
    exact ⟨rfl, rfl⟩
  · exfalso; omega

set_option maxRecDepth 100000 in
set_option maxHeartbeats 4000000 in
theorem x_stop_no (V E : zS) (hV : BV V) (hs : V 0 10 ≠ 1) : PM mX4_stop [.ref 0] (hC V E) (fun zr zq => zr = some (.int (nI 0)) ∧ zq = hC V E) := by
  refine PM.of (by decide +kernel) (by simp [Value.category]) (Nat.le_of_ble_eq_true rfl) ?_
  refine Wp.aload_n (pc2 := 1) dX4_stop_0 rfl rfl ?_
  refine Wp.getf (pc2 := 4) fX4_46 dX4_stop_1 rfl rfl rfl ?_
  refine Wp.iconN (pc2 := 5) 1 dX4_stop_4 rfl ?_
  refine Wp.icmpN_eq (pc2 := 8) 10 dX4_stop_5 rfl (by decide) (hV.l _ _) (by decide) (fun c5 => ?_) (fun c5 => ?_)
  · exfalso; omega
  · refine Wp.iconN (pc2 := 9) 0 dX4_stop_8 rfl ?_
    refine Wp.ret dX4_stop_9 rfl (zb_nar false) ?_
    exact ⟨rfl, rfl⟩

theorem zo_rg {n : Nat} (hn : n < 3) (h : ¬ zo n = -1) : rg (zo n) 2 := by
  have := zo_ne (by omega) h
  exact ⟨n - 1, by omega, by rw [show n = (n - 1) + 1 by omega, zo_s]; rfl⟩

set_option maxRecDepth 100000 in
set_option maxHeartbeats 4000000 in
theorem x_force_ok (V E : zS) (n : Nat) (hn : n < 3) : PM mX4_force [.ref 0, .int (zo n)] (hC V E) (fun zr zq => zr = some (.int (nI 1)) ∧ zq = hC (vs V 0 9 n) E) := by
  refine PM.of (by decide +kernel) (by simp [Value.category]) (Nat.le_of_ble_eq_true rfl) ?_
  refine Wp.iload_n (pc2 := 1) dX4_force_0 rfl rfl ?_
  refine Wp.icon (pc2 := 2) dX4_force_1 rfl (-1) (by decide +kernel) ?_
  refine Wp.icmp_eq (pc2 := 5) 14 dX4_force_2 rfl (by decide)  (fun c2 => ?_) (fun c2 => ?_)
  · refine Wp.aload_n (pc2 := 15) dX4_force_14 rfl rfl ?_
    refine Wp.iload_n (pc2 := 16) dX4_force_15 rfl rfl ?_
    refine Wp.putf (pc2 := 19) gX4_50 dX4_force_16 rfl rfl (Nat.le_of_ble_eq_true rfl) rfl rfl ?_
    refine Wp.heq (hC_o0_7 _ _ _) ?_
    refine Wp.iconN (pc2 := 20) 1 dX4_force_19 rfl ?_
    refine Wp.ret dX4_force_20 rfl (zb_nar true) ?_
    exact ⟨rfl, rfl⟩
  · refine Wp.iload_n (pc2 := 6) dX4_force_5 rfl rfl ?_
    refine Wp.callS (pc2 := 9) kX4_force_53 sX4_isTable (x_isTable _ (zo n)) dX4_force_6 rfl rfl rfl (Nat.le_of_ble_eq_true rfl) ?_
    rintro _ _ ⟨⟨b, rfl, hb⟩, rfl⟩
    refine Wp.ifN_ne (pc2 := 12) 14 dX4_force_9 rfl (by decide) (zb_lt _) (fun c9 => ?_) (fun c9 => ?_)
    · refine Wp.aload_n (pc2 := 15) dX4_force_14 rfl rfl ?_
      refine Wp.iload_n (pc2 := 16) dX4_force_15 rfl rfl ?_
      refine Wp.putf (pc2 := 19) gX4_50 dX4_force_16 rfl rfl (Nat.le_of_ble_eq_true rfl) rfl rfl ?_
      refine Wp.heq (hC_o0_7 _ _ _) ?_
      refine Wp.iconN (pc2 := 20) 1 dX4_force_19 rfl ?_
      refine Wp.ret dX4_force_20 rfl (zb_nar true) ?_
      exact ⟨rfl, rfl⟩
    · exact absurd (zo_rg hn c2) (zbn hb c9)

set_option maxRecDepth 100000 in
set_option maxHeartbeats 4000000 in
theorem x_force_no (V E : zS) (x : Int32) (hno : ¬ ∃ n : Nat, n < 3 ∧ x = zo n) : PM mX4_force [.ref 0, .int x] (hC V E) (fun zr zq => zr = some (.int (nI 0)) ∧ zq = hC V E) := by
  refine PM.of (by decide +kernel) (by simp [Value.category]) (Nat.le_of_ble_eq_true rfl) ?_
  refine Wp.iload_n (pc2 := 1) dX4_force_0 rfl rfl ?_
  refine Wp.icon (pc2 := 2) dX4_force_1 rfl (-1) (by decide +kernel) ?_
  refine Wp.icmp_eq (pc2 := 5) 14 dX4_force_2 rfl (by decide)  (fun c2 => ?_) (fun c2 => ?_)
  · exact absurd ⟨0, by decide, c2⟩ hno
  · refine Wp.iload_n (pc2 := 6) dX4_force_5 rfl rfl ?_
    refine Wp.callS (pc2 := 9) kX4_force_53 sX4_isTable (x_isTable _ x) dX4_force_6 rfl rfl rfl (Nat.le_of_ble_eq_true rfl) ?_
    rintro _ _ ⟨⟨b, rfl, hb⟩, rfl⟩
    refine Wp.ifN_ne (pc2 := 12) 14 dX4_force_9 rfl (by decide) (zb_lt _) (fun c9 => ?_) (fun c9 => ?_)
    · obtain ⟨j, hj, rfl⟩ := zby hb c9
      exact absurd ⟨j + 1, by omega, (zo_s j).symm⟩ hno
    · refine Wp.iconN (pc2 := 13) 0 dX4_force_12 rfl ?_
      refine Wp.ret dX4_force_13 rfl (zb_nar false) ?_
      exact ⟨rfl, rfl⟩

set_option maxRecDepth 100000 in
set_option maxHeartbeats 4000000 in
theorem x_ordered_ok_0 (V E : zS) (k : Nat) (hb : V 9 0 ≤ 4) (hk : k < V 9 0) (hE : E (19 + 4) k = V 11 (4 * 0 + k)) : PM mX4_ordered [.ref 0, .int (nI 0), .int (nI k)] (hC V E) (fun zr zq => zr = some (.int (nI (V 11 (4 * 0 + k)))) ∧ zq = hC V E) := by
  refine PM.of (by decide +kernel) (by simp [Value.category]) (Nat.le_of_ble_eq_true rfl) ?_
  refine Wp.iload_n (pc2 := 1) dX4_ordered_0 rfl rfl ?_
  refine Wp.callS (pc2 := 4) kX4_ordered_53 sX4_isTable (x_isTable_t _ 0 (by decide)) dX4_ordered_1 rfl rfl rfl (Nat.le_of_ble_eq_true rfl) ?_
  rintro _ _ ⟨rfl, rfl⟩
  refine Wp.ifN_eq (pc2 := 7) 24 dX4_ordered_4 rfl (by decide) (by omega) (fun c4 => ?_) (fun c4 => ?_)
  · exfalso; omega
  · refine Wp.iload_n (pc2 := 8) dX4_ordered_7 rfl rfl ?_
    refine Wp.ifN_lt (pc2 := 11) 24 dX4_ordered_8 rfl (by decide) (by omega) (fun c8 => ?_) (fun c8 => ?_)
    · exact absurd c8 id
    · refine Wp.iload_n (pc2 := 12) dX4_ordered_11 rfl rfl ?_
      refine Wp.aload_n (pc2 := 13) dX4_ordered_12 rfl rfl ?_
      refine Wp.getf (pc2 := 16) fX4_21 dX4_ordered_13 rfl rfl rfl ?_
      refine Wp.iload_n (pc2 := 17) dX4_ordered_16 rfl rfl ?_
      refine Wp.aald (pc2 := 18) dX4_ordered_17 rfl rfl (by decide) (by omega) (by decide) rfl ?_
      refine Wp.getf (pc2 := 21) fX4_115 dX4_ordered_18 rfl rfl rfl ?_
      refine Wp.icmpN_lt (pc2 := 24) 26 dX4_ordered_21 rfl (by decide) (by omega) (by omega) (fun c21 => ?_) (fun c21 => ?_)
      · refine Wp.aload_n (pc2 := 27) dX4_ordered_26 rfl rfl ?_
        refine Wp.getf (pc2 := 30) fX4_21 dX4_ordered_27 rfl rfl rfl ?_
        refine Wp.iload_n (pc2 := 31) dX4_ordered_30 rfl rfl ?_
        refine Wp.aald (pc2 := 32) dX4_ordered_31 rfl rfl (by decide) (by omega) (by decide) rfl ?_
        refine Wp.getf (pc2 := 35) fX4_118 dX4_ordered_32 rfl rfl rfl ?_
        refine Wp.iload_n (pc2 := 36) dX4_ordered_35 rfl rfl ?_
        refine Wp.ialdN (pc2 := 37) dX4_ordered_36 rfl rfl (by omega) (by decide) ?_
        refine Wp.ret dX4_ordered_37 rfl rfl ?_
        refine ⟨?_, rfl⟩
        rw [← hE]
      · exfalso; omega
set_option maxRecDepth 100000 in
set_option maxHeartbeats 4000000 in
theorem x_ordered_ok_1 (V E : zS) (k : Nat) (hb : V 9 1 ≤ 4) (hk : k < V 9 1) (hE : E (27 + 4) k = V 11 (4 * 1 + k)) : PM mX4_ordered [.ref 0, .int (nI 1), .int (nI k)] (hC V E) (fun zr zq => zr = some (.int (nI (V 11 (4 * 1 + k)))) ∧ zq = hC V E) := by
  refine PM.of (by decide +kernel) (by simp [Value.category]) (Nat.le_of_ble_eq_true rfl) ?_
  refine Wp.iload_n (pc2 := 1) dX4_ordered_0 rfl rfl ?_
  refine Wp.callS (pc2 := 4) kX4_ordered_53 sX4_isTable (x_isTable_t _ 1 (by decide)) dX4_ordered_1 rfl rfl rfl (Nat.le_of_ble_eq_true rfl) ?_
  rintro _ _ ⟨rfl, rfl⟩
  refine Wp.ifN_eq (pc2 := 7) 24 dX4_ordered_4 rfl (by decide) (by omega) (fun c4 => ?_) (fun c4 => ?_)
  · exfalso; omega
  · refine Wp.iload_n (pc2 := 8) dX4_ordered_7 rfl rfl ?_
    refine Wp.ifN_lt (pc2 := 11) 24 dX4_ordered_8 rfl (by decide) (by omega) (fun c8 => ?_) (fun c8 => ?_)
    · exact absurd c8 id
    · refine Wp.iload_n (pc2 := 12) dX4_ordered_11 rfl rfl ?_
      refine Wp.aload_n (pc2 := 13) dX4_ordered_12 rfl rfl ?_
      refine Wp.getf (pc2 := 16) fX4_21 dX4_ordered_13 rfl rfl rfl ?_
      refine Wp.iload_n (pc2 := 17) dX4_ordered_16 rfl rfl ?_
      refine Wp.aald (pc2 := 18) dX4_ordered_17 rfl rfl (by decide) (by omega) (by decide) rfl ?_
      refine Wp.getf (pc2 := 21) fX4_115 dX4_ordered_18 rfl rfl rfl ?_
      refine Wp.icmpN_lt (pc2 := 24) 26 dX4_ordered_21 rfl (by decide) (by omega) (by omega) (fun c21 => ?_) (fun c21 => ?_)
      · refine Wp.aload_n (pc2 := 27) dX4_ordered_26 rfl rfl ?_
        refine Wp.getf (pc2 := 30) fX4_21 dX4_ordered_27 rfl rfl rfl ?_
        refine Wp.iload_n (pc2 := 31) dX4_ordered_30 rfl rfl ?_
        refine Wp.aald (pc2 := 32) dX4_ordered_31 rfl rfl (by decide) (by omega) (by decide) rfl ?_
        refine Wp.getf (pc2 := 35) fX4_118 dX4_ordered_32 rfl rfl rfl ?_
        refine Wp.iload_n (pc2 := 36) dX4_ordered_35 rfl rfl ?_
        refine Wp.ialdN (pc2 := 37) dX4_ordered_36 rfl rfl (by omega) (by decide) ?_
        refine Wp.ret dX4_ordered_37 rfl rfl ?_
        refine ⟨?_, rfl⟩
        rw [← hE]
      · exfalso; omega
theorem x_ordered_ok (t : Nat) (ht : t < 2) (V E : zS) (k : Nat) (hb : V 9 t ≤ 4) (hk : k < V 9 t) (hE : E ((19 + 8 * t) + 4) k = V 11 (4 * t + k)) : PM mX4_ordered [.ref 0, .int (nI t), .int (nI k)] (hC V E) (fun zr zq => zr = some (.int (nI (V 11 (4 * t + k)))) ∧ zq = hC V E) := by
  rcases (show t = 0 ∨ t = 1 by omega) with rfl | rfl
  · exact x_ordered_ok_0 V E k hb hk hE
  · exact x_ordered_ok_1 V E k hb hk hE

set_option maxRecDepth 100000 in
set_option maxHeartbeats 4000000 in
theorem x_ordered_no (V E : zS) (t k : Int32) (hb4 : ∀ t, t < 2 → V 9 t ≤ 4) (hno : ¬ ∃ t' k' : Nat, (t' < 2 ∧ t = nI t') ∧ (k' < V 9 t' ∧ k = nI k')) : PM mX4_ordered [.ref 0, .int t, .int k] (hC V E) (fun zr zq => zr = some (.int (-1)) ∧ zq = hC V E) := by
  refine PM.of (by decide +kernel) (by simp [Value.category]) (Nat.le_of_ble_eq_true rfl) ?_
  refine Wp.iload_n (pc2 := 1) dX4_ordered_0 rfl rfl ?_
  refine Wp.callS (pc2 := 4) kX4_ordered_53 sX4_isTable (x_isTable _ t) dX4_ordered_1 rfl rfl rfl (Nat.le_of_ble_eq_true rfl) ?_
  rintro _ _ ⟨⟨b, rfl, hb⟩, rfl⟩
  refine Wp.ifN_eq (pc2 := 7) 24 dX4_ordered_4 rfl (by decide) (zb_lt _) (fun c4 => ?_) (fun c4 => ?_)
  · refine Wp.icon (pc2 := 25) dX4_ordered_24 rfl (-1) (by decide +kernel) ?_
    refine Wp.ret dX4_ordered_25 rfl rfl ?_
    exact ⟨rfl, rfl⟩
  · obtain ⟨t', ht, rfl⟩ := zby hb c4
    have hbt := hb4 t' ht
    refine Wp.iload_n (pc2 := 8) dX4_ordered_7 rfl rfl ?_
    refine Wp.if_lt (pc2 := 11) 24 dX4_ordered_8 rfl (by decide)  (fun c8 => ?_) (fun c8 => ?_)
    · refine Wp.icon (pc2 := 25) dX4_ordered_24 rfl (-1) (by decide +kernel) ?_
      refine Wp.ret dX4_ordered_25 rfl rfl ?_
      exact ⟨rfl, rfl⟩
    · obtain ⟨k1, hk1, rfl⟩ := nI_of c8
      rcases (show t' = 0 ∨ t' = 1 by omega) with rfl | rfl
      · refine Wp.iload_n (pc2 := 12) dX4_ordered_11 rfl rfl ?_
        refine Wp.aload_n (pc2 := 13) dX4_ordered_12 rfl rfl ?_
        refine Wp.getf (pc2 := 16) fX4_21 dX4_ordered_13 rfl rfl rfl ?_
        refine Wp.iload_n (pc2 := 17) dX4_ordered_16 rfl rfl ?_
        refine Wp.aald (pc2 := 18) dX4_ordered_17 rfl rfl (by decide) (by omega) (by decide) rfl ?_
        refine Wp.getf (pc2 := 21) fX4_115 dX4_ordered_18 rfl rfl rfl ?_
        refine Wp.icmpN_lt (pc2 := 24) 26 dX4_ordered_21 rfl (by decide) (by omega) (by omega) (fun c21 => ?_) (fun c21 => ?_)
        · exact absurd ⟨0, k1, ⟨by decide, rfl⟩, ⟨c21, rfl⟩⟩ hno
        · refine Wp.icon (pc2 := 25) dX4_ordered_24 rfl (-1) (by decide +kernel) ?_
          refine Wp.ret dX4_ordered_25 rfl rfl ?_
          exact ⟨rfl, rfl⟩
      · refine Wp.iload_n (pc2 := 12) dX4_ordered_11 rfl rfl ?_
        refine Wp.aload_n (pc2 := 13) dX4_ordered_12 rfl rfl ?_
        refine Wp.getf (pc2 := 16) fX4_21 dX4_ordered_13 rfl rfl rfl ?_
        refine Wp.iload_n (pc2 := 17) dX4_ordered_16 rfl rfl ?_
        refine Wp.aald (pc2 := 18) dX4_ordered_17 rfl rfl (by decide) (by omega) (by decide) rfl ?_
        refine Wp.getf (pc2 := 21) fX4_115 dX4_ordered_18 rfl rfl rfl ?_
        refine Wp.icmpN_lt (pc2 := 24) 26 dX4_ordered_21 rfl (by decide) (by omega) (by omega) (fun c21 => ?_) (fun c21 => ?_)
        · exact absurd ⟨1, k1, ⟨by decide, rfl⟩, ⟨c21, rfl⟩⟩ hno
        · refine Wp.icon (pc2 := 25) dX4_ordered_24 rfl (-1) (by decide +kernel) ?_
          refine Wp.ret dX4_ordered_25 rfl rfl ?_
          exact ⟨rfl, rfl⟩

set_option maxRecDepth 100000 in
set_option maxHeartbeats 4000000 in
theorem x_where_ok_0 (V E : zS) (k : Nat) (hb : V 1 0 ≤ 50) (hk : k < V 1 0) : PM mX4_where [.ref 0, .int (nI 0), .int (nI k)] (hC V E) (fun zr zq => zr = some (.int (nI (V 18 (50 * 0 + k)))) ∧ zq = hC V E) := by
  refine PM.of (by decide +kernel) (by simp [Value.category]) (Nat.le_of_ble_eq_true rfl) ?_
  refine Wp.iload_n (pc2 := 1) dX4_where_0 rfl rfl ?_
  refine Wp.callS (pc2 := 4) kX4_where_53 sX4_isTable (x_isTable_t _ 0 (by decide)) dX4_where_1 rfl rfl rfl (Nat.le_of_ble_eq_true rfl) ?_
  rintro _ _ ⟨rfl, rfl⟩
  refine Wp.ifN_eq (pc2 := 7) 24 dX4_where_4 rfl (by decide) (by omega) (fun c4 => ?_) (fun c4 => ?_)
  · exfalso; omega
  · refine Wp.iload_n (pc2 := 8) dX4_where_7 rfl rfl ?_
    refine Wp.ifN_lt (pc2 := 11) 24 dX4_where_8 rfl (by decide) (by omega) (fun c8 => ?_) (fun c8 => ?_)
    · exact absurd c8 id
    · refine Wp.iload_n (pc2 := 12) dX4_where_11 rfl rfl ?_
      refine Wp.aload_n (pc2 := 13) dX4_where_12 rfl rfl ?_
      refine Wp.getf (pc2 := 16) fX4_12 dX4_where_13 rfl rfl rfl ?_
      refine Wp.iload_n (pc2 := 17) dX4_where_16 rfl rfl ?_
      refine Wp.aald (pc2 := 18) dX4_where_17 rfl rfl (by decide) (by omega) (by decide) rfl ?_
      refine Wp.getf (pc2 := 21) fX4_138 dX4_where_18 rfl rfl rfl ?_
      refine Wp.icmpN_lt (pc2 := 24) 26 dX4_where_21 rfl (by decide) (by omega) (by omega) (fun c21 => ?_) (fun c21 => ?_)
      · refine Wp.aload_n (pc2 := 27) dX4_where_26 rfl rfl ?_
        refine Wp.getf (pc2 := 30) fX4_21 dX4_where_27 rfl rfl rfl ?_
        refine Wp.iload_n (pc2 := 31) dX4_where_30 rfl rfl ?_
        refine Wp.aald (pc2 := 32) dX4_where_31 rfl rfl (by decide) (by omega) (by decide) rfl ?_
        refine Wp.getf (pc2 := 35) fX4_141 dX4_where_32 rfl rfl rfl ?_
        refine Wp.iload_n (pc2 := 36) dX4_where_35 rfl rfl ?_
        refine Wp.cald (pc2 := 37) dX4_where_36 rfl rfl (by omega) (by decide) ?_
        refine Wp.ret dX4_where_37 rfl rfl ?_
        exact ⟨rfl, rfl⟩
      · exfalso; omega
set_option maxRecDepth 100000 in
set_option maxHeartbeats 4000000 in
theorem x_where_ok_1 (V E : zS) (k : Nat) (hb : V 1 1 ≤ 50) (hk : k < V 1 1) : PM mX4_where [.ref 0, .int (nI 1), .int (nI k)] (hC V E) (fun zr zq => zr = some (.int (nI (V 18 (50 * 1 + k)))) ∧ zq = hC V E) := by
  refine PM.of (by decide +kernel) (by simp [Value.category]) (Nat.le_of_ble_eq_true rfl) ?_
  refine Wp.iload_n (pc2 := 1) dX4_where_0 rfl rfl ?_
  refine Wp.callS (pc2 := 4) kX4_where_53 sX4_isTable (x_isTable_t _ 1 (by decide)) dX4_where_1 rfl rfl rfl (Nat.le_of_ble_eq_true rfl) ?_
  rintro _ _ ⟨rfl, rfl⟩
  refine Wp.ifN_eq (pc2 := 7) 24 dX4_where_4 rfl (by decide) (by omega) (fun c4 => ?_) (fun c4 => ?_)
  · exfalso; omega
  · refine Wp.iload_n (pc2 := 8) dX4_where_7 rfl rfl ?_
    refine Wp.ifN_lt (pc2 := 11) 24 dX4_where_8 rfl (by decide) (by omega) (fun c8 => ?_) (fun c8 => ?_)
    · exact absurd c8 id
    · refine Wp.iload_n (pc2 := 12) dX4_where_11 rfl rfl ?_
      refine Wp.aload_n (pc2 := 13) dX4_where_12 rfl rfl ?_
      refine Wp.getf (pc2 := 16) fX4_12 dX4_where_13 rfl rfl rfl ?_
      refine Wp.iload_n (pc2 := 17) dX4_where_16 rfl rfl ?_
      refine Wp.aald (pc2 := 18) dX4_where_17 rfl rfl (by decide) (by omega) (by decide) rfl ?_
      refine Wp.getf (pc2 := 21) fX4_138 dX4_where_18 rfl rfl rfl ?_
      refine Wp.icmpN_lt (pc2 := 24) 26 dX4_where_21 rfl (by decide) (by omega) (by omega) (fun c21 => ?_) (fun c21 => ?_)
      · refine Wp.aload_n (pc2 := 27) dX4_where_26 rfl rfl ?_
        refine Wp.getf (pc2 := 30) fX4_21 dX4_where_27 rfl rfl rfl ?_
        refine Wp.iload_n (pc2 := 31) dX4_where_30 rfl rfl ?_
        refine Wp.aald (pc2 := 32) dX4_where_31 rfl rfl (by decide) (by omega) (by decide) rfl ?_
        refine Wp.getf (pc2 := 35) fX4_141 dX4_where_32 rfl rfl rfl ?_
        refine Wp.iload_n (pc2 := 36) dX4_where_35 rfl rfl ?_
        refine Wp.cald (pc2 := 37) dX4_where_36 rfl rfl (by omega) (by decide) ?_
        refine Wp.ret dX4_where_37 rfl rfl ?_
        exact ⟨rfl, rfl⟩
      · exfalso; omega
theorem x_where_ok (t : Nat) (ht : t < 2) (V E : zS) (k : Nat) (hb : V 1 t ≤ 50) (hk : k < V 1 t) : PM mX4_where [.ref 0, .int (nI t), .int (nI k)] (hC V E) (fun zr zq => zr = some (.int (nI (V 18 (50 * t + k)))) ∧ zq = hC V E) := by
  rcases (show t = 0 ∨ t = 1 by omega) with rfl | rfl
  · exact x_where_ok_0 V E k hb hk
  · exact x_where_ok_1 V E k hb hk

set_option maxRecDepth 100000 in
set_option maxHeartbeats 4000000 in
theorem x_where_no (V E : zS) (t k : Int32) (hb4 : ∀ t, t < 2 → V 1 t ≤ 50) (hno : ¬ ∃ t' k' : Nat, (t' < 2 ∧ t = nI t') ∧ (k' < V 1 t' ∧ k = nI k')) : PM mX4_where [.ref 0, .int t, .int k] (hC V E) (fun zr zq => zr = some (.int (-1)) ∧ zq = hC V E) := by
  refine PM.of (by decide +kernel) (by simp [Value.category]) (Nat.le_of_ble_eq_true rfl) ?_
  refine Wp.iload_n (pc2 := 1) dX4_where_0 rfl rfl ?_
  refine Wp.callS (pc2 := 4) kX4_where_53 sX4_isTable (x_isTable _ t) dX4_where_1 rfl rfl rfl (Nat.le_of_ble_eq_true rfl) ?_
  rintro _ _ ⟨⟨b, rfl, hb⟩, rfl⟩
  refine Wp.ifN_eq (pc2 := 7) 24 dX4_where_4 rfl (by decide) (zb_lt _) (fun c4 => ?_) (fun c4 => ?_)
  · refine Wp.icon (pc2 := 25) dX4_where_24 rfl (-1) (by decide +kernel) ?_
    refine Wp.ret dX4_where_25 rfl rfl ?_
    exact ⟨rfl, rfl⟩
  · obtain ⟨t', ht, rfl⟩ := zby hb c4
    have hbt := hb4 t' ht
    refine Wp.iload_n (pc2 := 8) dX4_where_7 rfl rfl ?_
    refine Wp.if_lt (pc2 := 11) 24 dX4_where_8 rfl (by decide)  (fun c8 => ?_) (fun c8 => ?_)
    · refine Wp.icon (pc2 := 25) dX4_where_24 rfl (-1) (by decide +kernel) ?_
      refine Wp.ret dX4_where_25 rfl rfl ?_
      exact ⟨rfl, rfl⟩
    · obtain ⟨k1, hk1, rfl⟩ := nI_of c8
      rcases (show t' = 0 ∨ t' = 1 by omega) with rfl | rfl
      · refine Wp.iload_n (pc2 := 12) dX4_where_11 rfl rfl ?_
        refine Wp.aload_n (pc2 := 13) dX4_where_12 rfl rfl ?_
        refine Wp.getf (pc2 := 16) fX4_12 dX4_where_13 rfl rfl rfl ?_
        refine Wp.iload_n (pc2 := 17) dX4_where_16 rfl rfl ?_
        refine Wp.aald (pc2 := 18) dX4_where_17 rfl rfl (by decide) (by omega) (by decide) rfl ?_
        refine Wp.getf (pc2 := 21) fX4_138 dX4_where_18 rfl rfl rfl ?_
        refine Wp.icmpN_lt (pc2 := 24) 26 dX4_where_21 rfl (by decide) (by omega) (by omega) (fun c21 => ?_) (fun c21 => ?_)
        · exact absurd ⟨0, k1, ⟨by decide, rfl⟩, ⟨c21, rfl⟩⟩ hno
        · refine Wp.icon (pc2 := 25) dX4_where_24 rfl (-1) (by decide +kernel) ?_
          refine Wp.ret dX4_where_25 rfl rfl ?_
          exact ⟨rfl, rfl⟩
      · refine Wp.iload_n (pc2 := 12) dX4_where_11 rfl rfl ?_
        refine Wp.aload_n (pc2 := 13) dX4_where_12 rfl rfl ?_
        refine Wp.getf (pc2 := 16) fX4_12 dX4_where_13 rfl rfl rfl ?_
        refine Wp.iload_n (pc2 := 17) dX4_where_16 rfl rfl ?_
        refine Wp.aald (pc2 := 18) dX4_where_17 rfl rfl (by decide) (by omega) (by decide) rfl ?_
        refine Wp.getf (pc2 := 21) fX4_138 dX4_where_18 rfl rfl rfl ?_
        refine Wp.icmpN_lt (pc2 := 24) 26 dX4_where_21 rfl (by decide) (by omega) (by omega) (fun c21 => ?_) (fun c21 => ?_)
        · exact absurd ⟨1, k1, ⟨by decide, rfl⟩, ⟨c21, rfl⟩⟩ hno
        · refine Wp.icon (pc2 := 25) dX4_where_24 rfl (-1) (by decide +kernel) ?_
          refine Wp.ret dX4_where_25 rfl rfl ?_
          exact ⟨rfl, rfl⟩

set_option maxRecDepth 100000 in
set_option maxHeartbeats 4000000 in
theorem x_given_ok (V E : zS) (i t : Nat) (hV : BV V) (ht : t < 2) (ha : V 0 26 ≤ 2500) (hk : i < V 0 26) : PM mX4_given [.ref 0, .int (nI i), .int (nI t)] (hC V E) (fun zr zq => zr = some (.int (nI (mGiven V i t))) ∧ zq = hC V E) := by
  refine PM.of (by decide +kernel) (by simp [Value.category]) (Nat.le_of_ble_eq_true rfl) ?_
  refine Wp.iload_n (pc2 := 1) dX4_given_0 rfl rfl ?_
  refine Wp.callS (pc2 := 4) kX4_given_53 sX4_isTable (x_isTable_t _ t ht) dX4_given_1 rfl rfl rfl (Nat.le_of_ble_eq_true rfl) ?_
  rintro _ _ ⟨rfl, rfl⟩
  refine Wp.ifN_eq (pc2 := 7) 22 dX4_given_4 rfl (by decide) (by omega) (fun c4 => ?_) (fun c4 => ?_)
  · exfalso; omega
  · refine Wp.iload_n (pc2 := 8) dX4_given_7 rfl rfl ?_
    refine Wp.ifN_lt (pc2 := 11) 22 dX4_given_8 rfl (by decide) (by omega) (fun c8 => ?_) (fun c8 => ?_)
    · exact absurd c8 id
    · refine Wp.iload_n (pc2 := 12) dX4_given_11 rfl rfl ?_
      refine Wp.aload_n (pc2 := 13) dX4_given_12 rfl rfl ?_
      refine Wp.getf (pc2 := 16) fX4_39 dX4_given_13 rfl rfl rfl ?_
      refine Wp.getf (pc2 := 19) fX4_131 dX4_given_16 rfl rfl rfl ?_
      refine Wp.icmpN_lt (pc2 := 22) 24 dX4_given_19 rfl (by decide) (by omega) (by omega) (fun c19 => ?_) (fun c19 => ?_)
      · refine Wp.aload_n (pc2 := 25) dX4_given_24 rfl rfl ?_
        refine Wp.getf (pc2 := 28) fX4_39 dX4_given_25 rfl rfl rfl ?_
        refine Wp.iload_n (pc2 := 29) dX4_given_28 rfl rfl ?_
        refine Wp.iload_n (pc2 := 30) dX4_given_29 rfl rfl ?_
        refine Wp.callV (pc2 := 33) kX4_given_134 vX1_rowOf (x_pRowOf V E i t hV (by omega) ht) dX4_given_30 rfl rfl rfl rfl rfl (Nat.le_of_ble_eq_true rfl) ?_
        rintro _ _ ⟨rfl, rfl⟩
        refine Wp.ret dX4_given_33 rfl rfl ?_
        exact ⟨rfl, rfl⟩
      · exfalso; omega

set_option maxRecDepth 100000 in
set_option maxHeartbeats 4000000 in
theorem x_given_no (V E : zS) (i t : Int32) (ha : V 0 26 ≤ 2500) (hno : ¬ ∃ i' t' : Nat, (i' < V 0 26 ∧ i = nI i') ∧ (t' < 2 ∧ t = nI t')) : PM mX4_given [.ref 0, .int i, .int t] (hC V E) (fun zr zq => zr = some (.int (-1)) ∧ zq = hC V E) := by
  refine PM.of (by decide +kernel) (by simp [Value.category]) (Nat.le_of_ble_eq_true rfl) ?_
  refine Wp.iload_n (pc2 := 1) dX4_given_0 rfl rfl ?_
  refine Wp.callS (pc2 := 4) kX4_given_53 sX4_isTable (x_isTable _ t) dX4_given_1 rfl rfl rfl (Nat.le_of_ble_eq_true rfl) ?_
  rintro _ _ ⟨⟨b, rfl, hb⟩, rfl⟩
  refine Wp.ifN_eq (pc2 := 7) 22 dX4_given_4 rfl (by decide) (zb_lt _) (fun c4 => ?_) (fun c4 => ?_)
  · refine Wp.icon (pc2 := 23) dX4_given_22 rfl (-1) (by decide +kernel) ?_
    refine Wp.ret dX4_given_23 rfl rfl ?_
    exact ⟨rfl, rfl⟩
  · obtain ⟨t', ht, rfl⟩ := zby hb c4
    refine Wp.iload_n (pc2 := 8) dX4_given_7 rfl rfl ?_
    refine Wp.if_lt (pc2 := 11) 22 dX4_given_8 rfl (by decide)  (fun c8 => ?_) (fun c8 => ?_)
    · refine Wp.icon (pc2 := 23) dX4_given_22 rfl (-1) (by decide +kernel) ?_
      refine Wp.ret dX4_given_23 rfl rfl ?_
      exact ⟨rfl, rfl⟩
    · obtain ⟨i1, hi1, rfl⟩ := nI_of c8
      refine Wp.iload_n (pc2 := 12) dX4_given_11 rfl rfl ?_
      refine Wp.aload_n (pc2 := 13) dX4_given_12 rfl rfl ?_
      refine Wp.getf (pc2 := 16) fX4_39 dX4_given_13 rfl rfl rfl ?_
      refine Wp.getf (pc2 := 19) fX4_131 dX4_given_16 rfl rfl rfl ?_
      refine Wp.icmpN_lt (pc2 := 22) 24 dX4_given_19 rfl (by decide) (by omega) (by omega) (fun c19 => ?_) (fun c19 => ?_)
      · exact absurd ⟨i1, t', ⟨c19, rfl⟩, ⟨ht, rfl⟩⟩ hno
      · refine Wp.icon (pc2 := 23) dX4_given_22 rfl (-1) (by decide +kernel) ?_
        refine Wp.ret dX4_given_23 rfl rfl ?_
        exact ⟨rfl, rfl⟩

set_option maxRecDepth 100000 in
set_option maxHeartbeats 4000000 in
theorem x_told_ok_0 (V E : zS) (k w : Nat) (hb : V 3 0 ≤ 4) (hk : k < V 3 0) (hw : w < 3) : PM mX4_told [.ref 0, .int (nI 0), .int (nI k), .int (nI w)] (hC V E) (fun zr zq => zr = some (.int (nI (mTold V 0 k w))) ∧ zq = hC V E) := by
  refine PM.of (by decide +kernel) (by simp [Value.category]) (Nat.le_of_ble_eq_true rfl) ?_
  refine Wp.iload_n (pc2 := 1) dX4_told_0 rfl rfl ?_
  refine Wp.callS (pc2 := 4) kX4_told_53 sX4_isTable (x_isTable_t _ 0 (by decide)) dX4_told_1 rfl rfl rfl (Nat.le_of_ble_eq_true rfl) ?_
  rintro _ _ ⟨rfl, rfl⟩
  refine Wp.ifN_eq (pc2 := 7) 24 dX4_told_4 rfl (by decide) (by omega) (fun c4 => ?_) (fun c4 => ?_)
  · exfalso; omega
  · refine Wp.iload_n (pc2 := 8) dX4_told_7 rfl rfl ?_
    refine Wp.ifN_lt (pc2 := 11) 24 dX4_told_8 rfl (by decide) (by omega) (fun c8 => ?_) (fun c8 => ?_)
    · exact absurd c8 id
    · refine Wp.iload_n (pc2 := 12) dX4_told_11 rfl rfl ?_
      refine Wp.aload_n (pc2 := 13) dX4_told_12 rfl rfl ?_
      refine Wp.getf (pc2 := 16) fX4_12 dX4_told_13 rfl rfl rfl ?_
      refine Wp.iload_n (pc2 := 17) dX4_told_16 rfl rfl ?_
      refine Wp.aald (pc2 := 18) dX4_told_17 rfl rfl (by decide) (by omega) (by decide) rfl ?_
      refine Wp.getf (pc2 := 21) fX4_121 dX4_told_18 rfl rfl rfl ?_
      refine Wp.icmpN_lt (pc2 := 24) 26 dX4_told_21 rfl (by decide) (by omega) (by omega) (fun c21 => ?_) (fun c21 => ?_)
      · refine Wp.iload_n (pc2 := 27) dX4_told_26 rfl rfl ?_
        rcases (show w = 0 ∨ w = 1 ∨ w = 2 by omega) with rfl | rfl | rfl
        · refine Wp.tableIn (pc2 := 52) dX4_told_27 (by decide) (by decide) rfl (by decide) ?_
          refine Wp.aload_n (pc2 := 53) dX4_told_52 rfl rfl ?_
          refine Wp.getf (pc2 := 56) fX4_21 dX4_told_53 rfl rfl rfl ?_
          refine Wp.iload_n (pc2 := 57) dX4_told_56 rfl rfl ?_
          refine Wp.aald (pc2 := 58) dX4_told_57 rfl rfl (by decide) (by omega) (by decide) rfl ?_
          refine Wp.getf (pc2 := 61) fX4_122 dX4_told_58 rfl rfl rfl ?_
          refine Wp.iload_n (pc2 := 62) dX4_told_61 rfl rfl ?_
          refine Wp.cald (pc2 := 63) dX4_told_62 rfl rfl (by omega) (by decide) ?_
          refine Wp.ret dX4_told_63 rfl rfl ?_
          exact ⟨rfl, rfl⟩
        · refine Wp.tableIn (pc2 := 64) dX4_told_27 (by decide) (by decide) rfl (by decide) ?_
          refine Wp.aload_n (pc2 := 65) dX4_told_64 rfl rfl ?_
          refine Wp.getf (pc2 := 68) fX4_21 dX4_told_65 rfl rfl rfl ?_
          refine Wp.iload_n (pc2 := 69) dX4_told_68 rfl rfl ?_
          refine Wp.aald (pc2 := 70) dX4_told_69 rfl rfl (by decide) (by omega) (by decide) rfl ?_
          refine Wp.getf (pc2 := 73) fX4_125 dX4_told_70 rfl rfl rfl ?_
          refine Wp.iload_n (pc2 := 74) dX4_told_73 rfl rfl ?_
          refine Wp.cald (pc2 := 75) dX4_told_74 rfl rfl (by omega) (by decide) ?_
          refine Wp.ret dX4_told_75 rfl rfl ?_
          exact ⟨rfl, rfl⟩
        · refine Wp.tableIn (pc2 := 76) dX4_told_27 (by decide) (by decide) rfl (by decide) ?_
          refine Wp.aload_n (pc2 := 77) dX4_told_76 rfl rfl ?_
          refine Wp.getf (pc2 := 80) fX4_12 dX4_told_77 rfl rfl rfl ?_
          refine Wp.iload_n (pc2 := 81) dX4_told_80 rfl rfl ?_
          refine Wp.aald (pc2 := 82) dX4_told_81 rfl rfl (by decide) (by omega) (by decide) rfl ?_
          refine Wp.getf (pc2 := 85) fX4_128 dX4_told_82 rfl rfl rfl ?_
          refine Wp.iload_n (pc2 := 86) dX4_told_85 rfl rfl ?_
          refine Wp.cald (pc2 := 87) dX4_told_86 rfl rfl (by omega) (by decide) ?_
          refine Wp.ret dX4_told_87 rfl rfl ?_
          exact ⟨rfl, rfl⟩
      · exfalso; omega
set_option maxRecDepth 100000 in
set_option maxHeartbeats 4000000 in
theorem x_told_ok_1 (V E : zS) (k w : Nat) (hb : V 3 1 ≤ 4) (hk : k < V 3 1) (hw : w < 3) : PM mX4_told [.ref 0, .int (nI 1), .int (nI k), .int (nI w)] (hC V E) (fun zr zq => zr = some (.int (nI (mTold V 1 k w))) ∧ zq = hC V E) := by
  refine PM.of (by decide +kernel) (by simp [Value.category]) (Nat.le_of_ble_eq_true rfl) ?_
  refine Wp.iload_n (pc2 := 1) dX4_told_0 rfl rfl ?_
  refine Wp.callS (pc2 := 4) kX4_told_53 sX4_isTable (x_isTable_t _ 1 (by decide)) dX4_told_1 rfl rfl rfl (Nat.le_of_ble_eq_true rfl) ?_
  rintro _ _ ⟨rfl, rfl⟩
  refine Wp.ifN_eq (pc2 := 7) 24 dX4_told_4 rfl (by decide) (by omega) (fun c4 => ?_) (fun c4 => ?_)
  · exfalso; omega
  · refine Wp.iload_n (pc2 := 8) dX4_told_7 rfl rfl ?_
    refine Wp.ifN_lt (pc2 := 11) 24 dX4_told_8 rfl (by decide) (by omega) (fun c8 => ?_) (fun c8 => ?_)
    · exact absurd c8 id
    · refine Wp.iload_n (pc2 := 12) dX4_told_11 rfl rfl ?_
      refine Wp.aload_n (pc2 := 13) dX4_told_12 rfl rfl ?_
      refine Wp.getf (pc2 := 16) fX4_12 dX4_told_13 rfl rfl rfl ?_
      refine Wp.iload_n (pc2 := 17) dX4_told_16 rfl rfl ?_
      refine Wp.aald (pc2 := 18) dX4_told_17 rfl rfl (by decide) (by omega) (by decide) rfl ?_
      refine Wp.getf (pc2 := 21) fX4_121 dX4_told_18 rfl rfl rfl ?_
      refine Wp.icmpN_lt (pc2 := 24) 26 dX4_told_21 rfl (by decide) (by omega) (by omega) (fun c21 => ?_) (fun c21 => ?_)
      · refine Wp.iload_n (pc2 := 27) dX4_told_26 rfl rfl ?_
        rcases (show w = 0 ∨ w = 1 ∨ w = 2 by omega) with rfl | rfl | rfl
        · refine Wp.tableIn (pc2 := 52) dX4_told_27 (by decide) (by decide) rfl (by decide) ?_
          refine Wp.aload_n (pc2 := 53) dX4_told_52 rfl rfl ?_
          refine Wp.getf (pc2 := 56) fX4_21 dX4_told_53 rfl rfl rfl ?_
          refine Wp.iload_n (pc2 := 57) dX4_told_56 rfl rfl ?_
          refine Wp.aald (pc2 := 58) dX4_told_57 rfl rfl (by decide) (by omega) (by decide) rfl ?_
          refine Wp.getf (pc2 := 61) fX4_122 dX4_told_58 rfl rfl rfl ?_
          refine Wp.iload_n (pc2 := 62) dX4_told_61 rfl rfl ?_
          refine Wp.cald (pc2 := 63) dX4_told_62 rfl rfl (by omega) (by decide) ?_
          refine Wp.ret dX4_told_63 rfl rfl ?_
          exact ⟨rfl, rfl⟩
        · refine Wp.tableIn (pc2 := 64) dX4_told_27 (by decide) (by decide) rfl (by decide) ?_
          refine Wp.aload_n (pc2 := 65) dX4_told_64 rfl rfl ?_
          refine Wp.getf (pc2 := 68) fX4_21 dX4_told_65 rfl rfl rfl ?_
          refine Wp.iload_n (pc2 := 69) dX4_told_68 rfl rfl ?_
          refine Wp.aald (pc2 := 70) dX4_told_69 rfl rfl (by decide) (by omega) (by decide) rfl ?_
          refine Wp.getf (pc2 := 73) fX4_125 dX4_told_70 rfl rfl rfl ?_
          refine Wp.iload_n (pc2 := 74) dX4_told_73 rfl rfl ?_
          refine Wp.cald (pc2 := 75) dX4_told_74 rfl rfl (by omega) (by decide) ?_
          refine Wp.ret dX4_told_75 rfl rfl ?_
          exact ⟨rfl, rfl⟩
        · refine Wp.tableIn (pc2 := 76) dX4_told_27 (by decide) (by decide) rfl (by decide) ?_
          refine Wp.aload_n (pc2 := 77) dX4_told_76 rfl rfl ?_
          refine Wp.getf (pc2 := 80) fX4_12 dX4_told_77 rfl rfl rfl ?_
          refine Wp.iload_n (pc2 := 81) dX4_told_80 rfl rfl ?_
          refine Wp.aald (pc2 := 82) dX4_told_81 rfl rfl (by decide) (by omega) (by decide) rfl ?_
          refine Wp.getf (pc2 := 85) fX4_128 dX4_told_82 rfl rfl rfl ?_
          refine Wp.iload_n (pc2 := 86) dX4_told_85 rfl rfl ?_
          refine Wp.cald (pc2 := 87) dX4_told_86 rfl rfl (by omega) (by decide) ?_
          refine Wp.ret dX4_told_87 rfl rfl ?_
          exact ⟨rfl, rfl⟩
      · exfalso; omega
theorem x_told_ok (t : Nat) (ht : t < 2) (V E : zS) (k w : Nat) (hb : V 3 t ≤ 4) (hk : k < V 3 t) (hw : w < 3) : PM mX4_told [.ref 0, .int (nI t), .int (nI k), .int (nI w)] (hC V E) (fun zr zq => zr = some (.int (nI (mTold V t k w))) ∧ zq = hC V E) := by
  rcases (show t = 0 ∨ t = 1 by omega) with rfl | rfl
  · exact x_told_ok_0 V E k w hb hk hw
  · exact x_told_ok_1 V E k w hb hk hw

set_option maxRecDepth 100000 in
set_option maxHeartbeats 4000000 in
theorem x_told_no (V E : zS) (t k w : Int32) (hb4 : ∀ t, t < 2 → V 3 t ≤ 4) (hno : ¬ ∃ t' k' w' : Nat, (t' < 2 ∧ t = nI t') ∧ (k' < V 3 t' ∧ k = nI k') ∧ (w' < 3 ∧ w = nI w')) : PM mX4_told [.ref 0, .int t, .int k, .int w] (hC V E) (fun zr zq => zr = some (.int (-1)) ∧ zq = hC V E) := by
  refine PM.of (by decide +kernel) (by simp [Value.category]) (Nat.le_of_ble_eq_true rfl) ?_
  refine Wp.iload_n (pc2 := 1) dX4_told_0 rfl rfl ?_
  refine Wp.callS (pc2 := 4) kX4_told_53 sX4_isTable (x_isTable _ t) dX4_told_1 rfl rfl rfl (Nat.le_of_ble_eq_true rfl) ?_
  rintro _ _ ⟨⟨b, rfl, hb⟩, rfl⟩
  refine Wp.ifN_eq (pc2 := 7) 24 dX4_told_4 rfl (by decide) (zb_lt _) (fun c4 => ?_) (fun c4 => ?_)
  · refine Wp.icon (pc2 := 25) dX4_told_24 rfl (-1) (by decide +kernel) ?_
    refine Wp.ret dX4_told_25 rfl rfl ?_
    exact ⟨rfl, rfl⟩
  · obtain ⟨t', ht, rfl⟩ := zby hb c4
    have hbt := hb4 t' ht
    refine Wp.iload_n (pc2 := 8) dX4_told_7 rfl rfl ?_
    refine Wp.if_lt (pc2 := 11) 24 dX4_told_8 rfl (by decide)  (fun c8 => ?_) (fun c8 => ?_)
    · refine Wp.icon (pc2 := 25) dX4_told_24 rfl (-1) (by decide +kernel) ?_
      refine Wp.ret dX4_told_25 rfl rfl ?_
      exact ⟨rfl, rfl⟩
    · obtain ⟨k1, hk1, rfl⟩ := nI_of c8
      rcases (show t' = 0 ∨ t' = 1 by omega) with rfl | rfl
      · refine Wp.iload_n (pc2 := 12) dX4_told_11 rfl rfl ?_
        refine Wp.aload_n (pc2 := 13) dX4_told_12 rfl rfl ?_
        refine Wp.getf (pc2 := 16) fX4_12 dX4_told_13 rfl rfl rfl ?_
        refine Wp.iload_n (pc2 := 17) dX4_told_16 rfl rfl ?_
        refine Wp.aald (pc2 := 18) dX4_told_17 rfl rfl (by decide) (by omega) (by decide) rfl ?_
        refine Wp.getf (pc2 := 21) fX4_121 dX4_told_18 rfl rfl rfl ?_
        refine Wp.icmpN_lt (pc2 := 24) 26 dX4_told_21 rfl (by decide) (by omega) (by omega) (fun c21 => ?_) (fun c21 => ?_)
        · refine Wp.iload_n (pc2 := 27) dX4_told_26 rfl rfl ?_
          have hw : w.toInt < 0 ∨ 2 < w.toInt := by
            rcases Classical.em (w.toInt < 0 ∨ 2 < w.toInt) with q | q
            · exact q
            · exact absurd ⟨0, k1, w.toInt.toNat, ⟨by decide, rfl⟩, ⟨c21, rfl⟩, by omega, Int32.toInt_inj.mp (by rw [nI_toInt (by omega)]; omega)⟩ hno
          refine Wp.tableOut (pc2 := 88) dX4_told_27 hw (by decide) ?_
          refine Wp.icon (pc2 := 89) dX4_told_88 rfl (-1) (by decide +kernel) ?_
          refine Wp.ret dX4_told_89 rfl rfl ?_
          exact ⟨rfl, rfl⟩
        · refine Wp.icon (pc2 := 25) dX4_told_24 rfl (-1) (by decide +kernel) ?_
          refine Wp.ret dX4_told_25 rfl rfl ?_
          exact ⟨rfl, rfl⟩
      · refine Wp.iload_n (pc2 := 12) dX4_told_11 rfl rfl ?_
        refine Wp.aload_n (pc2 := 13) dX4_told_12 rfl rfl ?_
        refine Wp.getf (pc2 := 16) fX4_12 dX4_told_13 rfl rfl rfl ?_
        refine Wp.iload_n (pc2 := 17) dX4_told_16 rfl rfl ?_
        refine Wp.aald (pc2 := 18) dX4_told_17 rfl rfl (by decide) (by omega) (by decide) rfl ?_
        refine Wp.getf (pc2 := 21) fX4_121 dX4_told_18 rfl rfl rfl ?_
        refine Wp.icmpN_lt (pc2 := 24) 26 dX4_told_21 rfl (by decide) (by omega) (by omega) (fun c21 => ?_) (fun c21 => ?_)
        · refine Wp.iload_n (pc2 := 27) dX4_told_26 rfl rfl ?_
          have hw : w.toInt < 0 ∨ 2 < w.toInt := by
            rcases Classical.em (w.toInt < 0 ∨ 2 < w.toInt) with q | q
            · exact q
            · exact absurd ⟨1, k1, w.toInt.toNat, ⟨by decide, rfl⟩, ⟨c21, rfl⟩, by omega, Int32.toInt_inj.mp (by rw [nI_toInt (by omega)]; omega)⟩ hno
          refine Wp.tableOut (pc2 := 88) dX4_told_27 hw (by decide) ?_
          refine Wp.icon (pc2 := 89) dX4_told_88 rfl (-1) (by decide +kernel) ?_
          refine Wp.ret dX4_told_89 rfl rfl ?_
          exact ⟨rfl, rfl⟩
        · refine Wp.icon (pc2 := 25) dX4_told_24 rfl (-1) (by decide +kernel) ?_
          refine Wp.ret dX4_told_25 rfl rfl ?_
          exact ⟨rfl, rfl⟩

set_option maxRecDepth 100000 in
set_option maxHeartbeats 4000000 in
theorem x_cost_ok_0 (V E : zS) : PM mX4_cost [.ref 0, .int (nI 0)] (hC V E) (fun zr zq => zr = some (.int (nI (V 15 0))) ∧ zq = hC V E) := by
  refine PM.of (by decide +kernel) (by simp [Value.category]) (Nat.le_of_ble_eq_true rfl) ?_
  refine Wp.iload_n (pc2 := 1) dX4_cost_0 rfl rfl ?_
  refine Wp.callS (pc2 := 4) kX4_cost_53 sX4_isTable (x_isTable_t _ 0 (by decide)) dX4_cost_1 rfl rfl rfl (Nat.le_of_ble_eq_true rfl) ?_
  rintro _ _ ⟨rfl, rfl⟩
  refine Wp.ifN_eq (pc2 := 7) 19 dX4_cost_4 rfl (by decide) (by omega) (fun c4 => ?_) (fun c4 => ?_)
  · exfalso; omega
  · refine Wp.aload_n (pc2 := 8) dX4_cost_7 rfl rfl ?_
    refine Wp.getf (pc2 := 11) fX4_21 dX4_cost_8 rfl rfl rfl ?_
    refine Wp.iload_n (pc2 := 12) dX4_cost_11 rfl rfl ?_
    refine Wp.aald (pc2 := 13) dX4_cost_12 rfl rfl (by decide) (by omega) (by decide) rfl ?_
    refine Wp.getf (pc2 := 16) fX4_163 dX4_cost_13 rfl rfl rfl ?_
    refine Wp.goto (pc2 := 20) dX4_cost_16 (by decide) ?_
    refine Wp.ret dX4_cost_20 rfl rfl ?_
    exact ⟨rfl, rfl⟩
set_option maxRecDepth 100000 in
set_option maxHeartbeats 4000000 in
theorem x_cost_ok_1 (V E : zS) : PM mX4_cost [.ref 0, .int (nI 1)] (hC V E) (fun zr zq => zr = some (.int (nI (V 15 1))) ∧ zq = hC V E) := by
  refine PM.of (by decide +kernel) (by simp [Value.category]) (Nat.le_of_ble_eq_true rfl) ?_
  refine Wp.iload_n (pc2 := 1) dX4_cost_0 rfl rfl ?_
  refine Wp.callS (pc2 := 4) kX4_cost_53 sX4_isTable (x_isTable_t _ 1 (by decide)) dX4_cost_1 rfl rfl rfl (Nat.le_of_ble_eq_true rfl) ?_
  rintro _ _ ⟨rfl, rfl⟩
  refine Wp.ifN_eq (pc2 := 7) 19 dX4_cost_4 rfl (by decide) (by omega) (fun c4 => ?_) (fun c4 => ?_)
  · exfalso; omega
  · refine Wp.aload_n (pc2 := 8) dX4_cost_7 rfl rfl ?_
    refine Wp.getf (pc2 := 11) fX4_21 dX4_cost_8 rfl rfl rfl ?_
    refine Wp.iload_n (pc2 := 12) dX4_cost_11 rfl rfl ?_
    refine Wp.aald (pc2 := 13) dX4_cost_12 rfl rfl (by decide) (by omega) (by decide) rfl ?_
    refine Wp.getf (pc2 := 16) fX4_163 dX4_cost_13 rfl rfl rfl ?_
    refine Wp.goto (pc2 := 20) dX4_cost_16 (by decide) ?_
    refine Wp.ret dX4_cost_20 rfl rfl ?_
    exact ⟨rfl, rfl⟩
theorem x_cost_ok (t : Nat) (ht : t < 2) (V E : zS) : PM mX4_cost [.ref 0, .int (nI t)] (hC V E) (fun zr zq => zr = some (.int (nI (V 15 t))) ∧ zq = hC V E) := by
  rcases (show t = 0 ∨ t = 1 by omega) with rfl | rfl
  · exact x_cost_ok_0 V E
  · exact x_cost_ok_1 V E

set_option maxRecDepth 100000 in
set_option maxHeartbeats 4000000 in
theorem x_cost_no (V E : zS) (t : Int32) (hno : ¬ rg t 2) : PM mX4_cost [.ref 0, .int t] (hC V E) (fun zr zq => zr = some (.int (-1)) ∧ zq = hC V E) := by
  refine PM.of (by decide +kernel) (by simp [Value.category]) (Nat.le_of_ble_eq_true rfl) ?_
  refine Wp.iload_n (pc2 := 1) dX4_cost_0 rfl rfl ?_
  refine Wp.callS (pc2 := 4) kX4_cost_53 sX4_isTable (x_isTable _ t) dX4_cost_1 rfl rfl rfl (Nat.le_of_ble_eq_true rfl) ?_
  rintro _ _ ⟨⟨b, rfl, hb⟩, rfl⟩
  refine Wp.ifN_eq (pc2 := 7) 19 dX4_cost_4 rfl (by decide) (zb_lt _) (fun c4 => ?_) (fun c4 => ?_)
  · refine Wp.icon (pc2 := 20) dX4_cost_19 rfl (-1) (by decide +kernel) ?_
    refine Wp.ret dX4_cost_20 rfl rfl ?_
    exact ⟨rfl, rfl⟩
  · exact absurd (zby hb c4) hno

set_option maxRecDepth 100000 in
set_option maxHeartbeats 4000000 in
theorem x_sum_l_0 (V E : zS) (c : Nat) (hV : BV V) (hc : c < 3) (hg : GI V) : ∀ (n k : Nat), k + n = V 0 26 → Wp mX4_sum (fun zr zq => zr = some (.int (nI (mSum V 0 c (V 0 26)))) ∧ zq = hC V E) 21 [.ref 0, .int (nI 0), .int (nI c), .int (nI (mSum V 0 c k)), .int (nI k)] [] (hC V E) := by
  have h26 := GI_le hg
  intro n
  induction n with
  | zero =>
    intro k hk
    have e : k = V 0 26 := by omega
    subst e
    refine Wp.iload (pc2 := 23) dX4_sum_21 rfl rfl ?_
    refine Wp.aload_n (pc2 := 24) dX4_sum_23 rfl rfl ?_
    refine Wp.getf (pc2 := 27) fX4_39 dX4_sum_24 rfl rfl rfl ?_
    refine Wp.getf (pc2 := 30) fX4_131 dX4_sum_27 rfl rfl rfl ?_
    refine Wp.icmpN_ge (pc2 := 33) 62 dX4_sum_30 rfl (by decide) (by omega) (by omega) (fun c30 => ?_) (fun c30 => ?_)
    · refine Wp.iload_n (pc2 := 63) dX4_sum_62 rfl rfl ?_
      refine Wp.ret dX4_sum_63 rfl rfl ?_
      exact ⟨rfl, rfl⟩
    · exfalso; omega
  | succ n ih =>
    intro k hk
    have hl := mGiven_lt (t := 0) (hg.1 k (by omega)).1
    refine Wp.iload (pc2 := 23) dX4_sum_21 rfl rfl ?_
    refine Wp.aload_n (pc2 := 24) dX4_sum_23 rfl rfl ?_
    refine Wp.getf (pc2 := 27) fX4_39 dX4_sum_24 rfl rfl rfl ?_
    refine Wp.getf (pc2 := 30) fX4_131 dX4_sum_27 rfl rfl rfl ?_
    refine Wp.icmpN_ge (pc2 := 33) 62 dX4_sum_30 rfl (by decide) (by omega) (by omega) (fun c30 => ?_) (fun c30 => ?_)
    · exfalso; omega
    · refine Wp.iload_n (pc2 := 34) dX4_sum_33 rfl rfl ?_
      refine Wp.aload_n (pc2 := 35) dX4_sum_34 rfl rfl ?_
      refine Wp.getf (pc2 := 38) fX4_12 dX4_sum_35 rfl rfl rfl ?_
      refine Wp.iload_n (pc2 := 39) dX4_sum_38 rfl rfl ?_
      refine Wp.aald (pc2 := 40) dX4_sum_39 rfl rfl (by decide) (by omega) (by decide) rfl ?_
      refine Wp.aload_n (pc2 := 41) dX4_sum_40 rfl rfl ?_
      refine Wp.getf (pc2 := 44) fX4_39 dX4_sum_41 rfl rfl rfl ?_
      refine Wp.iload (pc2 := 46) dX4_sum_44 rfl rfl ?_
      refine Wp.iload_n (pc2 := 47) dX4_sum_46 rfl rfl ?_
      refine Wp.callV (pc2 := 50) kX4_sum_134 vX1_rowOf (x_pRowOf V E k 0 hV (by omega) (by decide)) dX4_sum_47 rfl rfl rfl rfl rfl (Nat.le_of_ble_eq_true rfl) ?_
      rintro _ _ ⟨rfl, rfl⟩
      refine Wp.iload_n (pc2 := 51) dX4_sum_50 rfl rfl ?_
      refine Wp.callV (pc2 := 54) kX4_sum_144 vX3_valueAt (x_valueAt_0 V E (mGiven V k 0) c (by omega)) dX4_sum_51 rfl rfl rfl rfl rfl (Nat.le_of_ble_eq_true rfl) ?_
      rintro _ _ ⟨rfl, rfl⟩
      refine Wp.iaddN (pc2 := 55) dX4_sum_54 rfl  ?_
      refine Wp.istore_n (pc2 := 56) dX4_sum_55 rfl (by decide) rfl ?_
      refine Wp.iincN (pc2 := 59) dX4_sum_56 rfl rfl (by decide) rfl ?_
      refine Wp.goto (pc2 := 21) dX4_sum_59 (by decide) ?_
      exact ih (k + 1) (by omega)

set_option maxRecDepth 100000 in
set_option maxHeartbeats 4000000 in
theorem x_sum_l_1 (V E : zS) (c : Nat) (hV : BV V) (hc : c < 3) (hg : GI V) : ∀ (n k : Nat), k + n = V 0 26 → Wp mX4_sum (fun zr zq => zr = some (.int (nI (mSum V 1 c (V 0 26)))) ∧ zq = hC V E) 21 [.ref 0, .int (nI 1), .int (nI c), .int (nI (mSum V 1 c k)), .int (nI k)] [] (hC V E) := by
  have h26 := GI_le hg
  intro n
  induction n with
  | zero =>
    intro k hk
    have e : k = V 0 26 := by omega
    subst e
    refine Wp.iload (pc2 := 23) dX4_sum_21 rfl rfl ?_
    refine Wp.aload_n (pc2 := 24) dX4_sum_23 rfl rfl ?_
    refine Wp.getf (pc2 := 27) fX4_39 dX4_sum_24 rfl rfl rfl ?_
    refine Wp.getf (pc2 := 30) fX4_131 dX4_sum_27 rfl rfl rfl ?_
    refine Wp.icmpN_ge (pc2 := 33) 62 dX4_sum_30 rfl (by decide) (by omega) (by omega) (fun c30 => ?_) (fun c30 => ?_)
    · refine Wp.iload_n (pc2 := 63) dX4_sum_62 rfl rfl ?_
      refine Wp.ret dX4_sum_63 rfl rfl ?_
      exact ⟨rfl, rfl⟩
    · exfalso; omega
  | succ n ih =>
    intro k hk
    have hl := mGiven_lt (t := 1) (hg.1 k (by omega)).1
    refine Wp.iload (pc2 := 23) dX4_sum_21 rfl rfl ?_
    refine Wp.aload_n (pc2 := 24) dX4_sum_23 rfl rfl ?_
    refine Wp.getf (pc2 := 27) fX4_39 dX4_sum_24 rfl rfl rfl ?_
    refine Wp.getf (pc2 := 30) fX4_131 dX4_sum_27 rfl rfl rfl ?_
    refine Wp.icmpN_ge (pc2 := 33) 62 dX4_sum_30 rfl (by decide) (by omega) (by omega) (fun c30 => ?_) (fun c30 => ?_)
    · exfalso; omega
    · refine Wp.iload_n (pc2 := 34) dX4_sum_33 rfl rfl ?_
      refine Wp.aload_n (pc2 := 35) dX4_sum_34 rfl rfl ?_
      refine Wp.getf (pc2 := 38) fX4_12 dX4_sum_35 rfl rfl rfl ?_
      refine Wp.iload_n (pc2 := 39) dX4_sum_38 rfl rfl ?_
      refine Wp.aald (pc2 := 40) dX4_sum_39 rfl rfl (by decide) (by omega) (by decide) rfl ?_
      refine Wp.aload_n (pc2 := 41) dX4_sum_40 rfl rfl ?_
      refine Wp.getf (pc2 := 44) fX4_39 dX4_sum_41 rfl rfl rfl ?_
      refine Wp.iload (pc2 := 46) dX4_sum_44 rfl rfl ?_
      refine Wp.iload_n (pc2 := 47) dX4_sum_46 rfl rfl ?_
      refine Wp.callV (pc2 := 50) kX4_sum_134 vX1_rowOf (x_pRowOf V E k 1 hV (by omega) (by decide)) dX4_sum_47 rfl rfl rfl rfl rfl (Nat.le_of_ble_eq_true rfl) ?_
      rintro _ _ ⟨rfl, rfl⟩
      refine Wp.iload_n (pc2 := 51) dX4_sum_50 rfl rfl ?_
      refine Wp.callV (pc2 := 54) kX4_sum_144 vX3_valueAt (x_valueAt_1 V E (mGiven V k 1) c (by omega)) dX4_sum_51 rfl rfl rfl rfl rfl (Nat.le_of_ble_eq_true rfl) ?_
      rintro _ _ ⟨rfl, rfl⟩
      refine Wp.iaddN (pc2 := 55) dX4_sum_54 rfl  ?_
      refine Wp.istore_n (pc2 := 56) dX4_sum_55 rfl (by decide) rfl ?_
      refine Wp.iincN (pc2 := 59) dX4_sum_56 rfl rfl (by decide) rfl ?_
      refine Wp.goto (pc2 := 21) dX4_sum_59 (by decide) ?_
      exact ih (k + 1) (by omega)

set_option maxRecDepth 100000 in
set_option maxHeartbeats 4000000 in
theorem x_sum_ok_0 (V E : zS) (c : Nat) (hV : BV V) (hc : c < 3) (hg : GI V) : PM mX4_sum [.ref 0, .int (nI 0), .int (nI c)] (hC V E) (fun zr zq => zr = some (.int (nI (mSum V 0 c (V 0 26)))) ∧ zq = hC V E) := by
  refine PM.of (by decide +kernel) (by simp [Value.category]) (Nat.le_of_ble_eq_true rfl) ?_
  refine Wp.iload_n (pc2 := 1) dX4_sum_0 rfl rfl ?_
  refine Wp.callS (pc2 := 4) kX4_sum_53 sX4_isTable (x_isTable_t _ 0 (by decide)) dX4_sum_1 rfl rfl rfl (Nat.le_of_ble_eq_true rfl) ?_
  rintro _ _ ⟨rfl, rfl⟩
  refine Wp.ifN_eq (pc2 := 7) 14 dX4_sum_4 rfl (by decide) (by omega) (fun c4 => ?_) (fun c4 => ?_)
  · exfalso; omega
  · refine Wp.iload_n (pc2 := 8) dX4_sum_7 rfl rfl ?_
    refine Wp.callS (pc2 := 11) kX4_sum_64 sX4_isColumn (x_isColumn_t _ c hc) dX4_sum_8 rfl rfl rfl (Nat.le_of_ble_eq_true rfl) ?_
    rintro _ _ ⟨rfl, rfl⟩
    refine Wp.ifN_ne (pc2 := 14) 16 dX4_sum_11 rfl (by decide) (by omega) (fun c11 => ?_) (fun c11 => ?_)
    · refine Wp.iconN (pc2 := 17) 0 dX4_sum_16 rfl ?_
      refine Wp.istore_n (pc2 := 18) dX4_sum_17 rfl (by decide) rfl ?_
      refine Wp.iconN (pc2 := 19) 0 dX4_sum_18 rfl ?_
      refine Wp.istore (pc2 := 21) dX4_sum_19 rfl (by decide) rfl ?_
      exact x_sum_l_0 V E c hV hc hg (V 0 26) 0 (by omega)
    · exfalso; omega
set_option maxRecDepth 100000 in
set_option maxHeartbeats 4000000 in
theorem x_sum_ok_1 (V E : zS) (c : Nat) (hV : BV V) (hc : c < 3) (hg : GI V) : PM mX4_sum [.ref 0, .int (nI 1), .int (nI c)] (hC V E) (fun zr zq => zr = some (.int (nI (mSum V 1 c (V 0 26)))) ∧ zq = hC V E) := by
  refine PM.of (by decide +kernel) (by simp [Value.category]) (Nat.le_of_ble_eq_true rfl) ?_
  refine Wp.iload_n (pc2 := 1) dX4_sum_0 rfl rfl ?_
  refine Wp.callS (pc2 := 4) kX4_sum_53 sX4_isTable (x_isTable_t _ 1 (by decide)) dX4_sum_1 rfl rfl rfl (Nat.le_of_ble_eq_true rfl) ?_
  rintro _ _ ⟨rfl, rfl⟩
  refine Wp.ifN_eq (pc2 := 7) 14 dX4_sum_4 rfl (by decide) (by omega) (fun c4 => ?_) (fun c4 => ?_)
  · exfalso; omega
  · refine Wp.iload_n (pc2 := 8) dX4_sum_7 rfl rfl ?_
    refine Wp.callS (pc2 := 11) kX4_sum_64 sX4_isColumn (x_isColumn_t _ c hc) dX4_sum_8 rfl rfl rfl (Nat.le_of_ble_eq_true rfl) ?_
    rintro _ _ ⟨rfl, rfl⟩
    refine Wp.ifN_ne (pc2 := 14) 16 dX4_sum_11 rfl (by decide) (by omega) (fun c11 => ?_) (fun c11 => ?_)
    · refine Wp.iconN (pc2 := 17) 0 dX4_sum_16 rfl ?_
      refine Wp.istore_n (pc2 := 18) dX4_sum_17 rfl (by decide) rfl ?_
      refine Wp.iconN (pc2 := 19) 0 dX4_sum_18 rfl ?_
      refine Wp.istore (pc2 := 21) dX4_sum_19 rfl (by decide) rfl ?_
      exact x_sum_l_1 V E c hV hc hg (V 0 26) 0 (by omega)
    · exfalso; omega
theorem x_sum_ok (t : Nat) (ht : t < 2) (V E : zS) (c : Nat) (hV : BV V) (hc : c < 3) (hg : GI V) : PM mX4_sum [.ref 0, .int (nI t), .int (nI c)] (hC V E) (fun zr zq => zr = some (.int (nI (mSum V t c (V 0 26)))) ∧ zq = hC V E) := by
  rcases (show t = 0 ∨ t = 1 by omega) with rfl | rfl
  · exact x_sum_ok_0 V E c hV hc hg
  · exact x_sum_ok_1 V E c hV hc hg

set_option maxRecDepth 100000 in
set_option maxHeartbeats 4000000 in
theorem x_sum_no (V E : zS) (t c : Int32) (hno : ¬ (rg t 2 ∧ rg c 3)) : PM mX4_sum [.ref 0, .int t, .int c] (hC V E) (fun zr zq => zr = some (.int (-1)) ∧ zq = hC V E) := by
  refine PM.of (by decide +kernel) (by simp [Value.category]) (Nat.le_of_ble_eq_true rfl) ?_
  refine Wp.iload_n (pc2 := 1) dX4_sum_0 rfl rfl ?_
  refine Wp.callS (pc2 := 4) kX4_sum_53 sX4_isTable (x_isTable _ t) dX4_sum_1 rfl rfl rfl (Nat.le_of_ble_eq_true rfl) ?_
  rintro _ _ ⟨⟨b1, rfl, hb1⟩, rfl⟩
  refine Wp.ifN_eq (pc2 := 7) 14 dX4_sum_4 rfl (by decide) (zb_lt _) (fun c4 => ?_) (fun c4 => ?_)
  · refine Wp.icon (pc2 := 15) dX4_sum_14 rfl (-1) (by decide +kernel) ?_
    refine Wp.ret dX4_sum_15 rfl rfl ?_
    exact ⟨rfl, rfl⟩
  · refine Wp.iload_n (pc2 := 8) dX4_sum_7 rfl rfl ?_
    refine Wp.callS (pc2 := 11) kX4_sum_64 sX4_isColumn (x_isColumn _ c) dX4_sum_8 rfl rfl rfl (Nat.le_of_ble_eq_true rfl) ?_
    rintro _ _ ⟨⟨b2, rfl, hb2⟩, rfl⟩
    refine Wp.ifN_ne (pc2 := 14) 16 dX4_sum_11 rfl (by decide) (zb_lt _) (fun c11 => ?_) (fun c11 => ?_)
    · exact absurd ⟨zby hb1 c4, zby hb2 c11⟩ hno
    · refine Wp.icon (pc2 := 15) dX4_sum_14 rfl (-1) (by decide +kernel) ?_
      refine Wp.ret dX4_sum_15 rfl rfl ?_
      exact ⟨rfl, rfl⟩

set_option maxRecDepth 100000 in
set_option maxHeartbeats 4000000 in
theorem x_count_ok (V E : zS) (w : Nat) (hw : w < 10) (hq : QI V) (h27 : V 0 27 = V 10 0 + V 15 0 + V 17 0 + (V 10 1 + V 15 1 + V 17 1) + E 0 2) : PM mX4_count [.ref 0, .int (nI w)] (hC V E) (fun zr zq => zr = some (.int (nI (mCount V w))) ∧ zq = hC V E) := by
  refine PM.of (by decide +kernel) (by simp [Value.category]) (Nat.le_of_ble_eq_true rfl) ?_
  refine Wp.iload_n (pc2 := 1) dX4_count_0 rfl rfl ?_
  rcases (show w = 0 ∨ w = 1 ∨ w = 2 ∨ w = 3 ∨ w = 4 ∨ w = 5 ∨ w = 6 ∨ w = 7 ∨ w = 8 ∨ w = 9 by omega) with rfl | rfl | rfl | rfl | rfl | rfl | rfl | rfl | rfl | rfl
  · refine Wp.tableIn (pc2 := 56) dX4_count_1 (by decide) (by decide) rfl (by decide) ?_
    refine Wp.aload_n (pc2 := 57) dX4_count_56 rfl rfl ?_
    refine Wp.getf (pc2 := 60) fX4_46 dX4_count_57 rfl rfl rfl ?_
    refine Wp.ret dX4_count_60 rfl rfl ?_
    exact ⟨rfl, rfl⟩
  · refine Wp.tableIn (pc2 := 61) dX4_count_1 (by decide) (by decide) rfl (by decide) ?_
    refine Wp.aload_n (pc2 := 62) dX4_count_61 rfl rfl ?_
    refine Wp.getf (pc2 := 65) fX4_21 dX4_count_62 rfl rfl rfl ?_
    refine Wp.iconN (pc2 := 66) 0 dX4_count_65 rfl ?_
    refine Wp.aald (pc2 := 67) dX4_count_66 rfl rfl (by decide) (by omega) (by decide) rfl ?_
    refine Wp.callV (pc2 := 70) kX4_count_166 vX2_wholeCost (x_wholeCost_0 V E) dX4_count_67 rfl rfl rfl rfl rfl (Nat.le_of_ble_eq_true rfl) ?_
    rintro _ _ ⟨rfl, rfl⟩
    refine Wp.aload_n (pc2 := 71) dX4_count_70 rfl rfl ?_
    refine Wp.getf (pc2 := 74) fX4_21 dX4_count_71 rfl rfl rfl ?_
    refine Wp.iconN (pc2 := 75) 1 dX4_count_74 rfl ?_
    refine Wp.aald (pc2 := 76) dX4_count_75 rfl rfl (by decide) (by omega) (by decide) rfl ?_
    refine Wp.callV (pc2 := 79) kX4_count_166 vX2_wholeCost (x_wholeCost_1 V E) dX4_count_76 rfl rfl rfl rfl rfl (Nat.le_of_ble_eq_true rfl) ?_
    rintro _ _ ⟨rfl, rfl⟩
    refine Wp.iaddN (pc2 := 80) dX4_count_79 rfl  ?_
    refine Wp.aload_n (pc2 := 81) dX4_count_80 rfl rfl ?_
    refine Wp.getf (pc2 := 84) fX4_87 dX4_count_81 rfl rfl rfl ?_
    refine Wp.iaddN (pc2 := 85) dX4_count_84 rfl  ?_
    refine Wp.ret dX4_count_85 rfl rfl ?_
    refine ⟨?_, rfl⟩
    rw [show mCount V 1 = V 0 27 from rfl, h27]
  · refine Wp.tableIn (pc2 := 86) dX4_count_1 (by decide) (by decide) rfl (by decide) ?_
    refine Wp.aload_n (pc2 := 87) dX4_count_86 rfl rfl ?_
    refine Wp.getf (pc2 := 90) fX4_39 dX4_count_87 rfl rfl rfl ?_
    refine Wp.getf (pc2 := 93) fX4_131 dX4_count_90 rfl rfl rfl ?_
    refine Wp.ret dX4_count_93 rfl rfl ?_
    exact ⟨rfl, rfl⟩
  · refine Wp.tableIn (pc2 := 94) dX4_count_1 (by decide) (by decide) rfl (by decide) ?_
    refine Wp.aload_n (pc2 := 95) dX4_count_94 rfl rfl ?_
    refine Wp.getf (pc2 := 98) fX4_32 dX4_count_95 rfl rfl rfl ?_
    refine Wp.callV (pc2 := 101) kX4_count_169 vX0_size (x_mSize V E hq.1) dX4_count_98 rfl rfl rfl rfl rfl (Nat.le_of_ble_eq_true rfl) ?_
    rintro _ _ ⟨rfl, rfl⟩
    refine Wp.ret dX4_count_101 rfl rfl ?_
    refine ⟨?_, rfl⟩
    rw [show mCount V 3 = cntM V 100 from rfl, QI_cnt _ hq rfl]
  · refine Wp.tableIn (pc2 := 102) dX4_count_1 (by decide) (by decide) rfl (by decide) ?_
    refine Wp.aload_n (pc2 := 103) dX4_count_102 rfl rfl ?_
    refine Wp.getf (pc2 := 106) fX4_32 dX4_count_103 rfl rfl rfl ?_
    refine Wp.getf (pc2 := 109) fX4_171 dX4_count_106 rfl rfl rfl ?_
    refine Wp.ret dX4_count_109 rfl rfl ?_
    exact ⟨rfl, rfl⟩
  · refine Wp.tableIn (pc2 := 110) dX4_count_1 (by decide) (by decide) rfl (by decide) ?_
    refine Wp.aload_n (pc2 := 111) dX4_count_110 rfl rfl ?_
    refine Wp.getf (pc2 := 114) fX4_21 dX4_count_111 rfl rfl rfl ?_
    refine Wp.iconN (pc2 := 115) 0 dX4_count_114 rfl ?_
    refine Wp.aald (pc2 := 116) dX4_count_115 rfl rfl (by decide) (by omega) (by decide) rfl ?_
    refine Wp.getf (pc2 := 119) fX4_174 dX4_count_116 rfl rfl rfl ?_
    refine Wp.ret dX4_count_119 rfl rfl ?_
    exact ⟨rfl, rfl⟩
  · refine Wp.tableIn (pc2 := 120) dX4_count_1 (by decide) (by decide) rfl (by decide) ?_
    refine Wp.aload_n (pc2 := 121) dX4_count_120 rfl rfl ?_
    refine Wp.getf (pc2 := 124) fX4_21 dX4_count_121 rfl rfl rfl ?_
    refine Wp.iconN (pc2 := 125) 1 dX4_count_124 rfl ?_
    refine Wp.aald (pc2 := 126) dX4_count_125 rfl rfl (by decide) (by omega) (by decide) rfl ?_
    refine Wp.getf (pc2 := 129) fX4_174 dX4_count_126 rfl rfl rfl ?_
    refine Wp.ret dX4_count_129 rfl rfl ?_
    exact ⟨rfl, rfl⟩
  · refine Wp.tableIn (pc2 := 130) dX4_count_1 (by decide) (by decide) rfl (by decide) ?_
    refine Wp.aload_n (pc2 := 131) dX4_count_130 rfl rfl ?_
    refine Wp.getf (pc2 := 134) fX4_81 dX4_count_131 rfl rfl rfl ?_
    refine Wp.ret dX4_count_134 rfl rfl ?_
    exact ⟨rfl, rfl⟩
  · refine Wp.tableIn (pc2 := 135) dX4_count_1 (by decide) (by decide) rfl (by decide) ?_
    refine Wp.aload_n (pc2 := 136) dX4_count_135 rfl rfl ?_
    refine Wp.getf (pc2 := 139) fX4_84 dX4_count_136 rfl rfl rfl ?_
    refine Wp.ret dX4_count_139 rfl rfl ?_
    exact ⟨rfl, rfl⟩
  · refine Wp.tableIn (pc2 := 140) dX4_count_1 (by decide) (by decide) rfl (by decide) ?_
    refine Wp.aload_n (pc2 := 141) dX4_count_140 rfl rfl ?_
    refine Wp.getf (pc2 := 144) fX4_32 dX4_count_141 rfl rfl rfl ?_
    refine Wp.getf (pc2 := 147) fX4_102 dX4_count_144 rfl rfl rfl ?_
    refine Wp.ret dX4_count_147 rfl rfl ?_
    exact ⟨rfl, rfl⟩

set_option maxRecDepth 100000 in
set_option maxHeartbeats 4000000 in
theorem x_count_no (V E : zS) (w : Int32) (hno : ¬ rg w 10) : PM mX4_count [.ref 0, .int w] (hC V E) (fun zr zq => zr = some (.int (-1)) ∧ zq = hC V E) := by
  refine PM.of (by decide +kernel) (by simp [Value.category]) (Nat.le_of_ble_eq_true rfl) ?_
  refine Wp.iload_n (pc2 := 1) dX4_count_0 rfl rfl ?_
  have hw : w.toInt < 0 ∨ 9 < w.toInt := by
    rcases Classical.em (w.toInt < 0 ∨ 9 < w.toInt) with q | q
    · exact q
    · exact absurd ⟨w.toInt.toNat, by omega, Int32.toInt_inj.mp (by rw [nI_toInt (by omega)]; omega)⟩ hno
  refine Wp.tableOut (pc2 := 148) dX4_count_1 hw (by decide) ?_
  refine Wp.icon (pc2 := 149) dX4_count_148 rfl (-1) (by decide +kernel) ?_
  refine Wp.ret dX4_count_149 rfl rfl ?_
  exact ⟨rfl, rfl⟩

