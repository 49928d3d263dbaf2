set_option maxRecDepth 100000 in
set_option maxHeartbeats 4000000 in
theorem x_order_none_0 (V E : zS) (hV : BV V) (hs : V 0 10 = 1) : PM mX4_order [.ref 0, .int (nI 0), .int (-1)] (hC V E) (fun zr zq => zr = some (.int (nI 1)) ∧ zq = hC (vs V 12 0 0) E) := by
  refine PM.of (by decide +kernel) (by simp [Value.category]) (Nat.le_of_ble_eq_true rfl) ?_
  refine Wp.aload_n (pc2 := 1) dX4_order_0 rfl rfl ?_
  refine Wp.getf (pc2 := 4) fX4_46 dX4_order_1 rfl rfl rfl ?_
  refine Wp.iconN (pc2 := 5) 1 dX4_order_4 rfl ?_
  refine Wp.icmpN_ne (pc2 := 8) 15 dX4_order_5 rfl (by decide) (hV.l _ _) (by decide) (fun c5 => ?_) (fun c5 => ?_)
  · exfalso; omega
  · refine Wp.iload_n (pc2 := 9) dX4_order_8 rfl rfl ?_
    refine Wp.callS (pc2 := 12) kX4_order_53 sX4_isTable (x_isTable_t _ 0 (by decide)) dX4_order_9 rfl rfl rfl (Nat.le_of_ble_eq_true rfl) ?_
    rintro _ _ ⟨rfl, rfl⟩
    refine Wp.ifN_ne (pc2 := 15) 17 dX4_order_12 rfl (by decide) (by omega) (fun c12 => ?_) (fun c12 => ?_)
    · refine Wp.aload_n (pc2 := 18) dX4_order_17 rfl rfl ?_
      refine Wp.getf (pc2 := 21) fX4_21 dX4_order_18 rfl rfl rfl ?_
      refine Wp.iload_n (pc2 := 22) dX4_order_21 rfl rfl ?_
      refine Wp.aald (pc2 := 23) dX4_order_22 rfl rfl (by decide) (by omega) (by decide) rfl ?_
      refine Wp.astore_n (pc2 := 24) dX4_order_23 rfl (by decide) rfl ?_
      refine Wp.iload_n (pc2 := 25) dX4_order_24 rfl rfl ?_
      refine Wp.icon (pc2 := 26) dX4_order_25 rfl (-1) (by decide +kernel) ?_
      refine Wp.icmp_ne (pc2 := 29) 36 dX4_order_26 rfl (by decide)  (fun c26 => ?_) (fun c26 => ?_)
      · exact absurd rfl c26
      · refine Wp.aload_n (pc2 := 30) dX4_order_29 rfl rfl ?_
        refine Wp.iconN (pc2 := 31) 0 dX4_order_30 rfl ?_
        refine Wp.putf (pc2 := 34) gX4_108 dX4_order_31 rfl rfl (Nat.le_of_ble_eq_true rfl) (zb_nar false) (zb_fits false) ?_
        refine Wp.heq (hC_o19_9 _ _ _) ?_
        refine Wp.iconN (pc2 := 35) 1 dX4_order_34 rfl ?_
        refine Wp.ret dX4_order_35 rfl (zb_nar true) ?_
        exact ⟨rfl, rfl⟩
    · exfalso; omega
set_option maxRecDepth 100000 in
set_option maxHeartbeats 4000000 in
theorem x_order_none_1 (V E : zS) (hV : BV V) (hs : V 0 10 = 1) : PM mX4_order [.ref 0, .int (nI 1), .int (-1)] (hC V E) (fun zr zq => zr = some (.int (nI 1)) ∧ zq = hC (vs V 12 1 0) E) := by
  refine PM.of (by decide +kernel) (by simp [Value.category]) (Nat.le_of_ble_eq_true rfl) ?_
  refine Wp.aload_n (pc2 := 1) dX4_order_0 rfl rfl ?_
  refine Wp.getf (pc2 := 4) fX4_46 dX4_order_1 rfl rfl rfl ?_
  refine Wp.iconN (pc2 := 5) 1 dX4_order_4 rfl ?_
  refine Wp.icmpN_ne (pc2 := 8) 15 dX4_order_5 rfl (by decide) (hV.l _ _) (by decide) (fun c5 => ?_) (fun c5 => ?_)
  · exfalso; omega
  · refine Wp.iload_n (pc2 := 9) dX4_order_8 rfl rfl ?_
    refine Wp.callS (pc2 := 12) kX4_order_53 sX4_isTable (x_isTable_t _ 1 (by decide)) dX4_order_9 rfl rfl rfl (Nat.le_of_ble_eq_true rfl) ?_
    rintro _ _ ⟨rfl, rfl⟩
    refine Wp.ifN_ne (pc2 := 15) 17 dX4_order_12 rfl (by decide) (by omega) (fun c12 => ?_) (fun c12 => ?_)
    · refine Wp.aload_n (pc2 := 18) dX4_order_17 rfl rfl ?_
      refine Wp.getf (pc2 := 21) fX4_21 dX4_order_18 rfl rfl rfl ?_
      refine Wp.iload_n (pc2 := 22) dX4_order_21 rfl rfl ?_
      refine Wp.aald (pc2 := 23) dX4_order_22 rfl rfl (by decide) (by omega) (by decide) rfl ?_
      refine Wp.astore_n (pc2 := 24) dX4_order_23 rfl (by decide) rfl ?_
      refine Wp.iload_n (pc2 := 25) dX4_order_24 rfl rfl ?_
      refine Wp.icon (pc2 := 26) dX4_order_25 rfl (-1) (by decide +kernel) ?_
      refine Wp.icmp_ne (pc2 := 29) 36 dX4_order_26 rfl (by decide)  (fun c26 => ?_) (fun c26 => ?_)
      · exact absurd rfl c26
      · refine Wp.aload_n (pc2 := 30) dX4_order_29 rfl rfl ?_
        refine Wp.iconN (pc2 := 31) 0 dX4_order_30 rfl ?_
        refine Wp.putf (pc2 := 34) gX4_108 dX4_order_31 rfl rfl (Nat.le_of_ble_eq_true rfl) (zb_nar false) (zb_fits false) ?_
        refine Wp.heq (hC_o27_9 _ _ _) ?_
        refine Wp.iconN (pc2 := 35) 1 dX4_order_34 rfl ?_
        refine Wp.ret dX4_order_35 rfl (zb_nar true) ?_
        exact ⟨rfl, rfl⟩
    · exfalso; omega
theorem x_order_none (t : Nat) (ht : t < 2) (V E : zS) (hV : BV V) (hs : V 0 10 = 1) : PM mX4_order [.ref 0, .int (nI t), .int (-1)] (hC V E) (fun zr zq => zr = some (.int (nI 1)) ∧ zq = hC (vs V 12 t 0) E) := by
  rcases (show t = 0 ∨ t = 1 by omega) with rfl | rfl
  · exact x_order_none_0 V E hV hs
  · exact x_order_none_1 V E hV hs

set_option maxRecDepth 100000 in
set_option maxHeartbeats 4000000 in
theorem x_order_ok_0 (V E : zS) (d : Nat) (hV : BV V) (hE : BL E) (hd : d < 2 ^ 31) (hn : V 9 0 ≤ 4) (hs : V 0 10 = 1) (hok : dOK (V 9 0) d) : PM mX4_order [.ref 0, .int (nI 0), .int (nI d)] (hC V E) (fun zr zq => zr = some (.int (nI 1)) ∧ ∃ E', BL E' ∧ zq = hC (mOrder V 0 d) E' ∧ (∀ j, j < V 9 0 → E' (19 + 4) j = dg d j) ∧ ∀ a b, a ≠ 19 + 4 → a ≠ 19 + 5 → E' a b = E a b) := by
  refine PM.of (by decide +kernel) (by simp [Value.category]) (Nat.le_of_ble_eq_true rfl) ?_
  refine Wp.aload_n (pc2 := 1) dX4_order_0 rfl rfl ?_
  refine Wp.getf (pc2 := 4) fX4_46 dX4_order_1 rfl rfl rfl ?_
  refine Wp.iconN (pc2 := 5) 1 dX4_order_4 rfl ?_
  refine Wp.icmpN_ne (pc2 := 8) 15 dX4_order_5 rfl (by decide) (hV.l _ _) (by decide) (fun c5 => ?_) (fun c5 => ?_)
  · exfalso; omega
  · refine Wp.iload_n (pc2 := 9) dX4_order_8 rfl rfl ?_
    refine Wp.callS (pc2 := 12) kX4_order_53 sX4_isTable (x_isTable_t _ 0 (by decide)) dX4_order_9 rfl rfl rfl (Nat.le_of_ble_eq_true rfl) ?_
    rintro _ _ ⟨rfl, rfl⟩
    refine Wp.ifN_ne (pc2 := 15) 17 dX4_order_12 rfl (by decide) (by omega) (fun c12 => ?_) (fun c12 => ?_)
    · refine Wp.aload_n (pc2 := 18) dX4_order_17 rfl rfl ?_
      refine Wp.getf (pc2 := 21) fX4_21 dX4_order_18 rfl rfl rfl ?_
      refine Wp.iload_n (pc2 := 22) dX4_order_21 rfl rfl ?_
      refine Wp.aald (pc2 := 23) dX4_order_22 rfl rfl (by decide) (by omega) (by decide) rfl ?_
      refine Wp.astore_n (pc2 := 24) dX4_order_23 rfl (by decide) rfl ?_
      refine Wp.iload_n (pc2 := 25) dX4_order_24 rfl rfl ?_
      refine Wp.icon (pc2 := 26) dX4_order_25 rfl (-1) (by decide +kernel) ?_
      refine Wp.icmp_ne (pc2 := 29) 36 dX4_order_26 rfl (by decide)  (fun c26 => ?_) (fun c26 => ?_)
      · refine Wp.aload_n (pc2 := 37) dX4_order_36 rfl rfl ?_
        refine Wp.iload_n (pc2 := 38) dX4_order_37 rfl rfl ?_
        refine Wp.callV (pc2 := 41) kX4_order_112 vX2_forceOrder (x_forceOrder_ok_0 V E d hE hd hn hok) dX4_order_38 rfl rfl rfl rfl rfl (Nat.le_of_ble_eq_true rfl) ?_
        rintro _ _ ⟨rfl, E', q1, rfl, q2, q3⟩
        refine Wp.ret dX4_order_41 rfl (zb_nar true) ?_
        exact ⟨rfl, E', q1, rfl, q2, q3⟩
      · exact absurd c26 (nI_m1 hd)
    · exfalso; omega
set_option maxRecDepth 100000 in
set_option maxHeartbeats 4000000 in
theorem x_order_ok_1 (V E : zS) (d : Nat) (hV : BV V) (hE : BL E) (hd : d < 2 ^ 31) (hn : V 9 1 ≤ 4) (hs : V 0 10 = 1) (hok : dOK (V 9 1) d) : PM mX4_order [.ref 0, .int (nI 1), .int (nI d)] (hC V E) (fun zr zq => zr = some (.int (nI 1)) ∧ ∃ E', BL E' ∧ zq = hC (mOrder V 1 d) E' ∧ (∀ j, j < V 9 1 → E' (27 + 4) j = dg d j) ∧ ∀ a b, a ≠ 27 + 4 → a ≠ 27 + 5 → E' a b = E a b) := by
  refine PM.of (by decide +kernel) (by simp [Value.category]) (Nat.le_of_ble_eq_true rfl) ?_
  refine Wp.aload_n (pc2 := 1) dX4_order_0 rfl rfl ?_
  refine Wp.getf (pc2 := 4) fX4_46 dX4_order_1 rfl rfl rfl ?_
  refine Wp.iconN (pc2 := 5) 1 dX4_order_4 rfl ?_
  refine Wp.icmpN_ne (pc2 := 8) 15 dX4_order_5 rfl (by decide) (hV.l _ _) (by decide) (fun c5 => ?_) (fun c5 => ?_)
  · exfalso; omega
  · refine Wp.iload_n (pc2 := 9) dX4_order_8 rfl rfl ?_
    refine Wp.callS (pc2 := 12) kX4_order_53 sX4_isTable (x_isTable_t _ 1 (by decide)) dX4_order_9 rfl rfl rfl (Nat.le_of_ble_eq_true rfl) ?_
    rintro _ _ ⟨rfl, rfl⟩
    refine Wp.ifN_ne (pc2 := 15) 17 dX4_order_12 rfl (by decide) (by omega) (fun c12 => ?_) (fun c12 => ?_)
    · refine Wp.aload_n (pc2 := 18) dX4_order_17 rfl rfl ?_
      refine Wp.getf (pc2 := 21) fX4_21 dX4_order_18 rfl rfl rfl ?_
      refine Wp.iload_n (pc2 := 22) dX4_order_21 rfl rfl ?_
      refine Wp.aald (pc2 := 23) dX4_order_22 rfl rfl (by decide) (by omega) (by decide) rfl ?_
      refine Wp.astore_n (pc2 := 24) dX4_order_23 rfl (by decide) rfl ?_
      refine Wp.iload_n (pc2 := 25) dX4_order_24 rfl rfl ?_
      refine Wp.icon (pc2 := 26) dX4_order_25 rfl (-1) (by decide +kernel) ?_
      refine Wp.icmp_ne (pc2 := 29) 36 dX4_order_26 rfl (by decide)  (fun c26 => ?_) (fun c26 => ?_)
      · refine Wp.aload_n (pc2 := 37) dX4_order_36 rfl rfl ?_
        refine Wp.iload_n (pc2 := 38) dX4_order_37 rfl rfl ?_
        refine Wp.callV (pc2 := 41) kX4_order_112 vX2_forceOrder (x_forceOrder_ok_1 V E d hE hd hn hok) dX4_order_38 rfl rfl rfl rfl rfl (Nat.le_of_ble_eq_true rfl) ?_
        rintro _ _ ⟨rfl, E', q1, rfl, q2, q3⟩
        refine Wp.ret dX4_order_41 rfl (zb_nar true) ?_
        exact ⟨rfl, E', q1, rfl, q2, q3⟩
      · exact absurd c26 (nI_m1 hd)
    · exfalso; omega
theorem x_order_ok (t : Nat) (ht : t < 2) (V E : zS) (d : Nat) (hV : BV V) (hE : BL E) (hd : d < 2 ^ 31) (hn : V 9 t ≤ 4) (hs : V 0 10 = 1) (hok : dOK (V 9 t) d) : PM mX4_order [.ref 0, .int (nI t), .int (nI d)] (hC V E) (fun zr zq => zr = some (.int (nI 1)) ∧ ∃ E', BL E' ∧ zq = hC (mOrder V t d) E' ∧ (∀ j, j < V 9 t → E' ((19 + 8 * t) + 4) j = dg d j) ∧ ∀ a b, a ≠ (19 + 8 * t) + 4 → a ≠ (19 + 8 * t) + 5 → E' a b = E a b) := by
  rcases (show t = 0 ∨ t = 1 by omega) with rfl | rfl
  · exact x_order_ok_0 V E d hV hE hd hn hs hok
  · exact x_order_ok_1 V E d hV hE hd hn hs hok

set_option maxRecDepth 100000 in
set_option maxHeartbeats 4000000 in
theorem x_order_no (V E : zS) (tt dd : Int32) (hV : BV V) (hE : BL E) (hn4 : ∀ t, t < 2 → V 9 t ≤ 4) (hno : ¬ ∃ t : Nat, (t < 2 ∧ tt = nI t) ∧ V 0 10 = 1 ∧ (dd = -1 ∨ ∃ d : Nat, d < 2 ^ 31 ∧ dd = nI d ∧ dOK (V 9 t) d)) : PM mX4_order [.ref 0, .int tt, .int dd] (hC V E) (fun zr zq => zr = some (.int (nI 0)) ∧ ∃ E', BL E' ∧ zq = hC V E' ∧ ∀ a b, a ≠ 24 → a ≠ 32 → E' a b = E a b) := by
  refine PM.of (by decide +kernel) (by simp [Value.category]) (Nat.le_of_ble_eq_true rfl) ?_
  refine Wp.aload_n (pc2 := 1) dX4_order_0 rfl rfl ?_
  refine Wp.getf (pc2 := 4) fX4_46 dX4_order_1 rfl rfl rfl ?_
  refine Wp.iconN (pc2 := 5) 1 dX4_order_4 rfl ?_
  refine Wp.icmpN_ne (pc2 := 8) 15 dX4_order_5 rfl (by decide) (hV.l _ _) (by decide) (fun c5 => ?_) (fun c5 => ?_)
  · refine Wp.iconN (pc2 := 16) 0 dX4_order_15 rfl ?_
    refine Wp.ret dX4_order_16 rfl (zb_nar false) ?_
    exact ⟨rfl, E, hE, rfl, fun _ _ _ _ => rfl⟩
  · refine Wp.iload_n (pc2 := 9) dX4_order_8 rfl rfl ?_
    refine Wp.callS (pc2 := 12) kX4_order_53 sX4_isTable (x_isTable _ tt) dX4_order_9 rfl rfl rfl (Nat.le_of_ble_eq_true rfl) ?_
    rintro _ _ ⟨⟨b, rfl, hb⟩, rfl⟩
    refine Wp.ifN_ne (pc2 := 15) 17 dX4_order_12 rfl (by decide) (zb_lt _) (fun c12 => ?_) (fun c12 => ?_)
    · obtain ⟨t', ht, rfl⟩ := zby hb c12
      have hnt := hn4 t' ht
      rcases (show t' = 0 ∨ t' = 1 by omega) with rfl | rfl
      · refine Wp.aload_n (pc2 := 18) dX4_order_17 rfl rfl ?_
        refine Wp.getf (pc2 := 21) fX4_21 dX4_order_18 rfl rfl rfl ?_
        refine Wp.iload_n (pc2 := 22) dX4_order_21 rfl rfl ?_
        refine Wp.aald (pc2 := 23) dX4_order_22 rfl rfl (by decide) (by omega) (by decide) rfl ?_
        refine Wp.astore_n (pc2 := 24) dX4_order_23 rfl (by decide) rfl ?_
        refine Wp.iload_n (pc2 := 25) dX4_order_24 rfl rfl ?_
        refine Wp.icon (pc2 := 26) dX4_order_25 rfl (-1) (by decide +kernel) ?_
        refine Wp.icmp_ne (pc2 := 29) 36 dX4_order_26 rfl (by decide)  (fun c26 => ?_) (fun c26 => ?_)
        · refine Wp.aload_n (pc2 := 37) dX4_order_36 rfl rfl ?_
          refine Wp.iload_n (pc2 := 38) dX4_order_37 rfl rfl ?_
          refine Wp.callV (pc2 := 41) kX4_order_112 vX2_forceOrder (x_forceOrder_no_0 V E dd hE hnt (fun ⟨d, hd, e, z⟩ => hno ⟨0, ⟨by decide, rfl⟩, c5, Or.inr ⟨d, hd, e, z⟩⟩)) dX4_order_38 rfl rfl rfl rfl rfl (Nat.le_of_ble_eq_true rfl) ?_
          rintro _ _ ⟨rfl, E', q1, rfl, q2⟩
          refine Wp.ret dX4_order_41 rfl (zb_nar false) ?_
          exact ⟨rfl, E', q1, rfl, fun a b h1 h2 => q2 a b (by omega)⟩
        · exact absurd ⟨0, ⟨by decide, rfl⟩, c5, Or.inl c26⟩ hno
      · refine Wp.aload_n (pc2 := 18) dX4_order_17 rfl rfl ?_
        refine Wp.getf (pc2 := 21) fX4_21 dX4_order_18 rfl rfl rfl ?_
        refine Wp.iload_n (pc2 := 22) dX4_order_21 rfl rfl ?_
        refine Wp.aald (pc2 := 23) dX4_order_22 rfl rfl (by decide) (by omega) (by decide) rfl ?_
        refine Wp.astore_n (pc2 := 24) dX4_order_23 rfl (by decide) rfl ?_
        refine Wp.iload_n (pc2 := 25) dX4_order_24 rfl rfl ?_
        refine Wp.icon (pc2 := 26) dX4_order_25 rfl (-1) (by decide +kernel) ?_
        refine Wp.icmp_ne (pc2 := 29) 36 dX4_order_26 rfl (by decide)  (fun c26 => ?_) (fun c26 => ?_)
        · refine Wp.aload_n (pc2 := 37) dX4_order_36 rfl rfl ?_
          refine Wp.iload_n (pc2 := 38) dX4_order_37 rfl rfl ?_
          refine Wp.callV (pc2 := 41) kX4_order_112 vX2_forceOrder (x_forceOrder_no_1 V E dd hE hnt (fun ⟨d, hd, e, z⟩ => hno ⟨1, ⟨by decide, rfl⟩, c5, Or.inr ⟨d, hd, e, z⟩⟩)) dX4_order_38 rfl rfl rfl rfl rfl (Nat.le_of_ble_eq_true rfl) ?_
          rintro _ _ ⟨rfl, E', q1, rfl, q2⟩
          refine Wp.ret dX4_order_41 rfl (zb_nar false) ?_
          exact ⟨rfl, E', q1, rfl, fun a b h1 h2 => q2 a b (by omega)⟩
        · exact absurd ⟨1, ⟨by decide, rfl⟩, c5, Or.inl c26⟩ hno
    · refine Wp.iconN (pc2 := 16) 0 dX4_order_15 rfl ?_
      refine Wp.ret dX4_order_16 rfl (zb_nar false) ?_
      exact ⟨rfl, E, hE, rfl, fun _ _ _ _ => rfl⟩

/-- what the join's column holds -/
def jv1 (V : zS) (b : Nat) : Nat := V 2 (3 * (50 * 1 + b) + V 8 1)
def jv0 (V : zS) (a : Nat) : Nat := V 2 (3 * (50 * 0 + a) + V 8 0)
noncomputable def pbv (V : zS) : Nat → Nat → Nat
  | 0, _ => 0
  | b + 1, v => pbv V b v + @ite _ (jv1 V b = v ∧ allP V 1 b) (Classical.propDecidable _) 1 0
theorem pbv_t {V : zS} {b : Nat} (h : allP V 1 b) (v : Nat) : pbv V (b + 1) v = if v = jv1 V b then pbv V b v + 1 else pbv V b v := by
  show pbv V b v + @ite _ (jv1 V b = v ∧ allP V 1 b) (Classical.propDecidable _) 1 0 = _
  by_cases q : v = jv1 V b
  · rw [if_pos q, if_pos ⟨q.symm, h⟩]
  · rw [if_neg q, if_neg (fun z => q z.1.symm)]; rfl
theorem pbv_f {V : zS} {b : Nat} (h : ¬ allP V 1 b) (v : Nat) : pbv V (b + 1) v = pbv V b v := by
  show pbv V b v + @ite _ (jv1 V b = v ∧ allP V 1 b) (Classical.propDecidable _) 1 0 = _
  rw [if_neg (fun z => h z.2)]; rfl
theorem pbv_le (V : zS) : ∀ (b v : Nat), pbv V b v ≤ b
  | 0, _ => Nat.le_refl 0
  | b + 1, v => by
    have := pbv_le V b v
    by_cases h : allP V 1 b
    · rw [pbv_t h]; split <;> omega
    · rw [pbv_f h]; omega
theorem pl1_pbv (V : zS) (a : Nat) : ∀ n, pl1 V a n = pbv V n (jv0 V a)
  | 0 => rfl
  | n + 1 => by
    have ih := pl1_pbv V a n
    have e : alike V a n ↔ jv0 V a = jv1 V n := Iff.rfl
    by_cases h : allP V 1 n
    · rw [pbv_t h]
      by_cases q : jv0 V a = jv1 V n
      · rw [pl1_t ⟨e.mpr q, h⟩, if_pos q, ih]
      · rw [pl1_f (fun z => q (e.mp z.1)), if_neg q, ih]; rfl
    · rw [pbv_f h, pl1_f (fun z => h z.2), ih]; rfl
noncomputable def pbE (V E : zS) (b : Nat) : zS := eSet E 6 (fun v => if v < 100 then pbv V b v else E 6 v)
theorem pbE_0 (V E : zS) : (hC V E).set 6 (.inl (0, 100, .inl (fun j => if j < 100 then nI 0 else nI (E 6 j)))) = hC V (pbE V E 0) := by
  have e : (fun j => if j < 100 then nI 0 else nI (E 6 j)) = fun j => nI (pbE V E 0 6 j) := by
    funext j
    unfold pbE
    rw [eSet_at]
    by_cases q : j < 100
    · simp only [q, if_true]; rfl
    · simp only [q, if_false]
  rw [e]
  rfl
theorem pbE_s {V E : zS} {b : Nat} (h : allP V 1 b) (hv : jv1 V b < 100) : vs (pbE V E b) 6 (jv1 V b) (pbE V E b 6 (jv1 V b) + 1) = pbE V E (b + 1) := by
  unfold pbE
  rw [eSet_vs, eSet_at]
  congr 1
  funext v
  show (if v = jv1 V b then (if jv1 V b < 100 then pbv V b (jv1 V b) else E 6 (jv1 V b)) + 1 else if v < 100 then pbv V b v else E 6 v) = if v < 100 then pbv V (b + 1) v else E 6 v
  rw [pbv_t h, if_pos hv]
  by_cases q : v = jv1 V b
  · rw [if_pos q, q, if_pos hv, if_pos rfl]
  · rw [if_neg q, if_neg q]
theorem pbE_f {V E : zS} {b : Nat} (h : ¬ allP V 1 b) : pbE V E b = pbE V E (b + 1) := by
  unfold pbE
  congr 1
  funext v
  rw [pbv_f h]
theorem pbE_at {V E : zS} {b v : Nat} (hv : v < 100) : pbE V E b 6 v = pbv V b v := by
  unfold pbE
  rw [eSet_at, if_pos hv]
theorem BL_pbE {V E : zS} (hE : BL E) {b : Nat} (hb : b ≤ 50) : BL (pbE V E b) := by
  refine BL_eSet hE (fun v => ?_)
  split
  · have := pbv_le V b v; omega
  · exact hE 6 v

set_option maxRecDepth 100000 in
set_option maxHeartbeats 4000000 in
theorem x_plain_1 (V E : zS) (h : JV V) (hE : BL E) (Q : Option Value → zh → Prop) (K : Wp mX4_plain Q 57 [.ref 0, .null, .null] [] (hC V (pbE V E (V 1 1)))) : ∀ (n b : Nat), b + n = V 1 1 → Wp mX4_plain Q 10 [.ref 0, .int (nI b), .null] [] (hC V (pbE V E b)) := by
  have a1 := h.2.1 1 (by decide)
  have h8 : ∀ j, j < 8 → V 4 j < 3 := fun j hj => (h.2.2.1 j hj).1
  intro n
  induction n with
  | zero =>
    intro b hb
    have e : b = V 1 1 := by omega
    subst e
    refine Wp.iload_n (pc2 := 11) dX4_plain_10 rfl rfl ?_
    refine Wp.aload_n (pc2 := 12) dX4_plain_11 rfl rfl ?_
    refine Wp.getf (pc2 := 15) fX4_12 dX4_plain_12 rfl rfl rfl ?_
    refine Wp.iconN (pc2 := 16) 1 dX4_plain_15 rfl ?_
    refine Wp.aald (pc2 := 17) dX4_plain_16 rfl rfl (by decide) (by omega) (by decide) rfl ?_
    refine Wp.getf (pc2 := 20) fX4_138 dX4_plain_17 rfl rfl rfl ?_
    refine Wp.icmpN_ge (pc2 := 23) 57 dX4_plain_20 rfl (by decide) (by omega) (by omega) (fun c20 => ?_) (fun c20 => ?_)
    · refine Wp.fg [.ref 0, .null, .null] (And.intro (Or.inr rfl) (And.intro (Or.inl rfl) (And.intro (Or.inl rfl) trivial))) ?_
      exact K
    · exfalso; omega
  | succ n ih =>
    intro b hb
    have hjv : jv1 V b < 100 := h.2.2.2.2.2.2.2.2.2.2 _ (by omega)
    refine Wp.iload_n (pc2 := 11) dX4_plain_10 rfl rfl ?_
    refine Wp.aload_n (pc2 := 12) dX4_plain_11 rfl rfl ?_
    refine Wp.getf (pc2 := 15) fX4_12 dX4_plain_12 rfl rfl rfl ?_
    refine Wp.iconN (pc2 := 16) 1 dX4_plain_15 rfl ?_
    refine Wp.aald (pc2 := 17) dX4_plain_16 rfl rfl (by decide) (by omega) (by decide) rfl ?_
    refine Wp.getf (pc2 := 20) fX4_138 dX4_plain_17 rfl rfl rfl ?_
    refine Wp.icmpN_ge (pc2 := 23) 57 dX4_plain_20 rfl (by decide) (by omega) (by omega) (fun c20 => ?_) (fun c20 => ?_)
    · exfalso; omega
    · refine Wp.aload_n (pc2 := 24) dX4_plain_23 rfl rfl ?_
      refine Wp.getf (pc2 := 27) fX4_12 dX4_plain_24 rfl rfl rfl ?_
      refine Wp.iconN (pc2 := 28) 1 dX4_plain_27 rfl ?_
      refine Wp.aald (pc2 := 29) dX4_plain_28 rfl rfl (by decide) (by omega) (by decide) rfl ?_
      refine Wp.iload_n (pc2 := 30) dX4_plain_29 rfl rfl ?_
      refine Wp.callV (pc2 := 33) kX4_plain_153 vX3_passesAll (x_passesAll_1 V (pbE V E b) b h.1 (by omega) (by omega) h8) dX4_plain_30 rfl rfl rfl rfl rfl (Nat.le_of_ble_eq_true rfl) ?_
      rintro _ _ ⟨⟨c1, rfl, hc1⟩, rfl⟩
      refine Wp.ifN_eq (pc2 := 36) 51 dX4_plain_33 rfl (by decide) (zb_lt _) (fun c33 => ?_) (fun c33 => ?_)
      · rw [pbE_f (zbn hc1 c33)]
        refine Wp.iincN (pc2 := 54) dX4_plain_51 rfl rfl (by decide) rfl ?_
        refine Wp.goto (pc2 := 10) dX4_plain_54 (by decide) ?_
        refine Wp.fg [.ref 0, .int (nI (b + 1)), .null] (And.intro (Or.inr rfl) (And.intro (Or.inr rfl) (And.intro (Or.inl rfl) trivial))) ?_
        exact ih (b + 1) (by omega)
      · refine Wp.aload_n (pc2 := 37) dX4_plain_36 rfl rfl ?_
        refine Wp.getf (pc2 := 40) fX4_43 dX4_plain_37 rfl rfl rfl ?_
        refine Wp.aload_n (pc2 := 41) dX4_plain_40 rfl rfl ?_
        refine Wp.iconN (pc2 := 42) 1 dX4_plain_41 rfl ?_
        refine Wp.iload_n (pc2 := 43) dX4_plain_42 rfl rfl ?_
        refine Wp.callV (pc2 := 46) kX4_plain_156 vX4_joinValue (x_joinValue_1 V (pbE V E b) b (by omega) a1.2.2.2.2.1) dX4_plain_43 rfl rfl rfl rfl rfl (Nat.le_of_ble_eq_true rfl) ?_
        rintro _ _ ⟨rfl, rfl⟩
        change Wp _ _ _ _ (.int (nI (jv1 V b)) :: _) _
        refine Wp.dup2 (pc2 := 47) dX4_plain_46 rfl rfl rfl ?_
        refine Wp.ialdN (pc2 := 48) dX4_plain_47 rfl rfl (by omega) (by decide) ?_
        refine Wp.iconN (pc2 := 49) 1 dX4_plain_48 rfl ?_
        refine Wp.iaddN (pc2 := 50) dX4_plain_49 rfl  ?_
        refine Wp.iastN (pc2 := 51) dX4_plain_50 rfl rfl (by omega) (by decide) ?_
        refine Wp.heq (hC_a6 _ _ _ _) ?_
        rw [pbE_s (zby hc1 c33) hjv]
        refine Wp.iincN (pc2 := 54) dX4_plain_51 rfl rfl (by decide) rfl ?_
        refine Wp.goto (pc2 := 10) dX4_plain_54 (by decide) ?_
        refine Wp.fg [.ref 0, .int (nI (b + 1)), .null] (And.intro (Or.inr rfl) (And.intro (Or.inr rfl) (And.intro (Or.inl rfl) trivial))) ?_
        exact ih (b + 1) (by omega)

set_option maxRecDepth 100000 in
set_option maxHeartbeats 4000000 in
theorem x_plain_0 (V E : zS) (h : JV V) (hE : BL E) : ∀ (n a : Nat), a + n = V 1 0 → Wp mX4_plain (fun zr zq => zr = some (.int (nI (pl0 V (V 1 0)))) ∧ ∃ E', BL E' ∧ zq = hC V E' ∧ ∀ a b, a ≠ 6 → E' a b = E a b) 61 [.ref 0, .int (nI (pl0 V a)), .int (nI a)] [] (hC V (pbE V E (V 1 1))) := by
  have a0 := h.2.1 0 (by decide)
  have a1 := h.2.1 1 (by decide)
  have h8 : ∀ j, j < 8 → V 4 j < 3 := fun j hj => (h.2.2.1 j hj).1
  intro n
  induction n with
  | zero =>
    intro a ha
    have e : a = V 1 0 := by omega
    subst e
    refine Wp.iload_n (pc2 := 62) dX4_plain_61 rfl rfl ?_
    refine Wp.aload_n (pc2 := 63) dX4_plain_62 rfl rfl ?_
    refine Wp.getf (pc2 := 66) fX4_12 dX4_plain_63 rfl rfl rfl ?_
    refine Wp.iconN (pc2 := 67) 0 dX4_plain_66 rfl ?_
    refine Wp.aald (pc2 := 68) dX4_plain_67 rfl rfl (by decide) (by omega) (by decide) rfl ?_
    refine Wp.getf (pc2 := 71) fX4_138 dX4_plain_68 rfl rfl rfl ?_
    refine Wp.icmpN_ge (pc2 := 74) 107 dX4_plain_71 rfl (by decide) (by omega) (by omega) (fun c71 => ?_) (fun c71 => ?_)
    · refine Wp.iload_n (pc2 := 108) dX4_plain_107 rfl rfl ?_
      refine Wp.ret dX4_plain_108 rfl rfl ?_
      exact ⟨rfl, _, BL_pbE hE (by omega), rfl, fun x y hx => eSet_o E _ y hx⟩
    · exfalso; omega
  | succ n ih =>
    intro a ha
    have hjv : jv0 V a < 100 := h.2.2.2.2.2.2.2.2.2.2 _ (by omega)
    refine Wp.iload_n (pc2 := 62) dX4_plain_61 rfl rfl ?_
    refine Wp.aload_n (pc2 := 63) dX4_plain_62 rfl rfl ?_
    refine Wp.getf (pc2 := 66) fX4_12 dX4_plain_63 rfl rfl rfl ?_
    refine Wp.iconN (pc2 := 67) 0 dX4_plain_66 rfl ?_
    refine Wp.aald (pc2 := 68) dX4_plain_67 rfl rfl (by decide) (by omega) (by decide) rfl ?_
    refine Wp.getf (pc2 := 71) fX4_138 dX4_plain_68 rfl rfl rfl ?_
    refine Wp.icmpN_ge (pc2 := 74) 107 dX4_plain_71 rfl (by decide) (by omega) (by omega) (fun c71 => ?_) (fun c71 => ?_)
    · exfalso; omega
    · refine Wp.aload_n (pc2 := 75) dX4_plain_74 rfl rfl ?_
      refine Wp.getf (pc2 := 78) fX4_12 dX4_plain_75 rfl rfl rfl ?_
      refine Wp.iconN (pc2 := 79) 0 dX4_plain_78 rfl ?_
      refine Wp.aald (pc2 := 80) dX4_plain_79 rfl rfl (by decide) (by omega) (by decide) rfl ?_
      refine Wp.iload_n (pc2 := 81) dX4_plain_80 rfl rfl ?_
      refine Wp.callV (pc2 := 84) kX4_plain_153 vX3_passesAll (x_passesAll_0 V (pbE V E (V 1 1)) a h.1 (by omega) (by omega) h8) dX4_plain_81 rfl rfl rfl rfl rfl (Nat.le_of_ble_eq_true rfl) ?_
      rintro _ _ ⟨⟨c1, rfl, hc1⟩, rfl⟩
      refine Wp.ifN_eq (pc2 := 87) 101 dX4_plain_84 rfl (by decide) (zb_lt _) (fun c84 => ?_) (fun c84 => ?_)
      · refine Wp.iincN (pc2 := 104) dX4_plain_101 rfl rfl (by decide) rfl ?_
        refine Wp.goto (pc2 := 61) dX4_plain_104 (by decide) ?_
        rw [← pl0_f (zbn hc1 c84)]
        exact ih (a + 1) (by omega)
      · refine Wp.iload_n (pc2 := 88) dX4_plain_87 rfl rfl ?_
        refine Wp.aload_n (pc2 := 89) dX4_plain_88 rfl rfl ?_
        refine Wp.getf (pc2 := 92) fX4_43 dX4_plain_89 rfl rfl rfl ?_
        refine Wp.aload_n (pc2 := 93) dX4_plain_92 rfl rfl ?_
        refine Wp.iconN (pc2 := 94) 0 dX4_plain_93 rfl ?_
        refine Wp.iload_n (pc2 := 95) dX4_plain_94 rfl rfl ?_
        refine Wp.callV (pc2 := 98) kX4_plain_156 vX4_joinValue (x_joinValue_0 V (pbE V E (V 1 1)) a (by omega) a0.2.2.2.2.1) dX4_plain_95 rfl rfl rfl rfl rfl (Nat.le_of_ble_eq_true rfl) ?_
        rintro _ _ ⟨rfl, rfl⟩
        change Wp _ _ _ _ (.int (nI (jv0 V a)) :: _) _
        refine Wp.ialdN (pc2 := 99) dX4_plain_98 rfl rfl (by omega) (by decide) ?_
        rw [pbE_at hjv, ← pl1_pbv]
        refine Wp.iaddN (pc2 := 100) dX4_plain_99 rfl  ?_
        refine Wp.istore_n (pc2 := 101) dX4_plain_100 rfl (by decide) rfl ?_
        refine Wp.iincN (pc2 := 104) dX4_plain_101 rfl rfl (by decide) rfl ?_
        refine Wp.goto (pc2 := 61) dX4_plain_104 (by decide) ?_
        rw [← pl0_t (zby hc1 c84)]
        exact ih (a + 1) (by omega)

set_option maxRecDepth 100000 in
set_option maxHeartbeats 4000000 in
theorem x_plain (V E : zS) (h : JV V) (hE : BL E) : PM mX4_plain [.ref 0] (hC V E) (fun zr zq => zr = some (.int (nI (pl0 V (V 1 0)))) ∧ ∃ E', BL E' ∧ zq = hC V E' ∧ ∀ a b, a ≠ 6 → E' a b = E a b) := by
  refine PM.of (by decide +kernel) (by simp [Value.category]) (Nat.le_of_ble_eq_true rfl) ?_
  refine Wp.aload_n (pc2 := 1) dX4_plain_0 rfl rfl ?_
  refine Wp.getf (pc2 := 4) fX4_43 dX4_plain_1 rfl rfl rfl ?_
  refine Wp.iconN (pc2 := 5) 0 dX4_plain_4 rfl ?_
  refine Wp.callS (pc2 := 8) kX4_plain_147 sJ7_fill_53178 (x_fill _ 6 100 _ (nI 0) rfl (by decide)) dX4_plain_5 rfl rfl rfl (Nat.le_of_ble_eq_true rfl) ?_
  rintro _ _ ⟨rfl, rfl⟩
  refine Wp.heq (pbE_0 V E) ?_
  refine Wp.iconN (pc2 := 9) 0 dX4_plain_8 rfl ?_
  refine Wp.istore_n (pc2 := 10) dX4_plain_9 rfl (by decide) rfl ?_
  refine x_plain_1 V E h hE _ ?_ (V 1 1) 0 (by omega)
  refine Wp.iconN (pc2 := 58) 0 dX4_plain_57 rfl ?_
  refine Wp.istore_n (pc2 := 59) dX4_plain_58 rfl (by decide) rfl ?_
  refine Wp.iconN (pc2 := 60) 0 dX4_plain_59 rfl ?_
  refine Wp.istore_n (pc2 := 61) dX4_plain_60 rfl (by decide) rfl ?_
  exact x_plain_0 V E h hE (V 1 0) 0 (by omega)

