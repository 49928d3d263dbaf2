set_option maxRecDepth 100000 in
set_option maxHeartbeats 4000000 in
theorem x_valueAt_0 (V E : zS) (r c : Nat) (hi : r * 3 + c < 150) : PM mX3_valueAt [.ref 7, .int (nI r), .int (nI c)] (hC V E) (fun zr zq => zr = some (.int (nI (V 2 (3 * (50 * 0 + r) + c)))) ∧ zq = hC V E) := by
  refine PM.of (by decide +kernel) (by simp [Value.category]) (Nat.le_of_ble_eq_true rfl) ?_
  refine Wp.aload_n (pc2 := 1) dX3_valueAt_0 rfl rfl ?_
  refine Wp.getf (pc2 := 4) fX3_9 dX3_valueAt_1 rfl rfl rfl ?_
  refine Wp.iload_n (pc2 := 5) dX3_valueAt_4 rfl rfl ?_
  refine Wp.iconN (pc2 := 6) 3 dX3_valueAt_5 rfl ?_
  refine Wp.imulN (pc2 := 7) dX3_valueAt_6 rfl  ?_
  refine Wp.iload_n (pc2 := 8) dX3_valueAt_7 rfl rfl ?_
  refine Wp.iaddN (pc2 := 9) dX3_valueAt_8 rfl  ?_
  refine Wp.cald (pc2 := 10) dX3_valueAt_9 rfl rfl (by omega) (by decide) ?_
  refine Wp.ret dX3_valueAt_10 rfl rfl ?_
  refine ⟨?_, rfl⟩
  rw [show 0 + (r * 3 + c) = 3 * (50 * 0 + r) + c by omega]
set_option maxRecDepth 100000 in
set_option maxHeartbeats 4000000 in
theorem x_valueAt_1 (V E : zS) (r c : Nat) (hi : r * 3 + c < 150) : PM mX3_valueAt [.ref 13, .int (nI r), .int (nI c)] (hC V E) (fun zr zq => zr = some (.int (nI (V 2 (3 * (50 * 1 + r) + c)))) ∧ zq = hC V E) := by
  refine PM.of (by decide +kernel) (by simp [Value.category]) (Nat.le_of_ble_eq_true rfl) ?_
  refine Wp.aload_n (pc2 := 1) dX3_valueAt_0 rfl rfl ?_
  refine Wp.getf (pc2 := 4) fX3_9 dX3_valueAt_1 rfl rfl rfl ?_
  refine Wp.iload_n (pc2 := 5) dX3_valueAt_4 rfl rfl ?_
  refine Wp.iconN (pc2 := 6) 3 dX3_valueAt_5 rfl ?_
  refine Wp.imulN (pc2 := 7) dX3_valueAt_6 rfl  ?_
  refine Wp.iload_n (pc2 := 8) dX3_valueAt_7 rfl rfl ?_
  refine Wp.iaddN (pc2 := 9) dX3_valueAt_8 rfl  ?_
  refine Wp.cald (pc2 := 10) dX3_valueAt_9 rfl rfl (by omega) (by decide) ?_
  refine Wp.ret dX3_valueAt_10 rfl rfl ?_
  refine ⟨?_, rfl⟩
  rw [show 150 + (r * 3 + c) = 3 * (50 * 1 + r) + c by omega]
theorem x_valueAt (t : Nat) (ht : t < 2) (V E : zS) (r c : Nat) (hi : r * 3 + c < 150) : PM mX3_valueAt [.ref (7 + 6 * t), .int (nI r), .int (nI c)] (hC V E) (fun zr zq => zr = some (.int (nI (V 2 (3 * (50 * t + r) + c)))) ∧ zq = hC V E) := by
  rcases (show t = 0 ∨ t = 1 by omega) with rfl | rfl
  · exact x_valueAt_0 V E r c hi
  · exact x_valueAt_1 V E r c hi

set_option maxRecDepth 100000 in
set_option maxHeartbeats 4000000 in
theorem x_passes_0 (V E : zS) (r k : Nat) (hV : BV V) (hr : r < 50) (hk : k < 4) (h0 : V 4 (4 * 0 + k) < 3) : PM mX3_passes [.ref 7, .int (nI r), .int (nI k)] (hC V E) (fun zr zq => zbo (passP V 0 r k) zr ∧ zq = hC V E) := by
  refine PM.of (by decide +kernel) (by simp [Value.category]) (Nat.le_of_ble_eq_true rfl) ?_
  refine Wp.aload_n (pc2 := 1) dX3_passes_0 rfl rfl ?_
  refine Wp.iload_n (pc2 := 2) dX3_passes_1 rfl rfl ?_
  refine Wp.aload_n (pc2 := 3) dX3_passes_2 rfl rfl ?_
  refine Wp.getf (pc2 := 6) fX3_15 dX3_passes_3 rfl rfl rfl ?_
  refine Wp.iload_n (pc2 := 7) dX3_passes_6 rfl rfl ?_
  refine Wp.cald (pc2 := 8) dX3_passes_7 rfl rfl (by omega) (by decide) ?_
  refine Wp.callV (pc2 := 11) kX3_passes_34 vX3_valueAt (x_valueAt_0 V E r (V 4 (0 + k)) (by have h0 : V 4 (0 + k) < 3 := h0; omega)) dX3_passes_8 rfl rfl rfl rfl rfl (Nat.le_of_ble_eq_true rfl) ?_
  rintro _ _ ⟨rfl, rfl⟩
  refine Wp.istore_n (pc2 := 12) dX3_passes_11 rfl (by decide) rfl ?_
  refine Wp.aload_n (pc2 := 13) dX3_passes_12 rfl rfl ?_
  refine Wp.getf (pc2 := 16) fX3_18 dX3_passes_13 rfl rfl rfl ?_
  refine Wp.iload_n (pc2 := 17) dX3_passes_16 rfl rfl ?_
  refine Wp.cald (pc2 := 18) dX3_passes_17 rfl rfl (by omega) (by decide) ?_
  refine Wp.ifN_ne (pc2 := 21) 37 dX3_passes_18 rfl (by decide) (hV.l _ _) (fun c18 => ?_) (fun c18 => ?_)
  · refine Wp.aload_n (pc2 := 38) dX3_passes_37 rfl rfl ?_
    refine Wp.getf (pc2 := 41) fX3_18 dX3_passes_38 rfl rfl rfl ?_
    refine Wp.iload_n (pc2 := 42) dX3_passes_41 rfl rfl ?_
    refine Wp.cald (pc2 := 43) dX3_passes_42 rfl rfl (by omega) (by decide) ?_
    refine Wp.iconN (pc2 := 44) 1 dX3_passes_43 rfl ?_
    refine Wp.icmpN_ne (pc2 := 47) 63 dX3_passes_44 rfl (by decide) (hV.l _ _) (by decide) (fun c44 => ?_) (fun c44 => ?_)
    · refine Wp.iload_n (pc2 := 64) dX3_passes_63 rfl rfl ?_
      refine Wp.aload_n (pc2 := 65) dX3_passes_64 rfl rfl ?_
      refine Wp.getf (pc2 := 68) fX3_21 dX3_passes_65 rfl rfl rfl ?_
      refine Wp.iload_n (pc2 := 69) dX3_passes_68 rfl rfl ?_
      refine Wp.cald (pc2 := 70) dX3_passes_69 rfl rfl (by omega) (by decide) ?_
      refine Wp.icmpN_le (pc2 := 73) 77 dX3_passes_70 rfl (by decide) (hV.l _ _) (hV.l _ _) (fun c70 => ?_) (fun c70 => ?_)
      · refine Wp.iconN (pc2 := 78) 0 dX3_passes_77 rfl ?_
        refine Wp.ret dX3_passes_78 rfl (by first | exact zb_nar true | exact zb_nar false) ?_
        unfold passP
        rw [show 4 * 0 + k = 0 + k by omega]
        rw [if_neg c18, if_neg c44]
        first | exact ⟨zbo_t c70, rfl⟩ | exact ⟨zbo_f (Nat.not_lt.mpr c70), rfl⟩
      · refine Wp.iconN (pc2 := 74) 1 dX3_passes_73 rfl ?_
        refine Wp.goto (pc2 := 78) dX3_passes_74 (by decide) ?_
        refine Wp.ret dX3_passes_78 rfl (by first | exact zb_nar true | exact zb_nar false) ?_
        unfold passP
        rw [show 4 * 0 + k = 0 + k by omega]
        rw [if_neg c18, if_neg c44]
        first | exact ⟨zbo_t c70, rfl⟩ | exact ⟨zbo_f (Nat.not_lt.mpr c70), rfl⟩
    · refine Wp.iload_n (pc2 := 48) dX3_passes_47 rfl rfl ?_
      refine Wp.aload_n (pc2 := 49) dX3_passes_48 rfl rfl ?_
      refine Wp.getf (pc2 := 52) fX3_21 dX3_passes_49 rfl rfl rfl ?_
      refine Wp.iload_n (pc2 := 53) dX3_passes_52 rfl rfl ?_
      refine Wp.cald (pc2 := 54) dX3_passes_53 rfl rfl (by omega) (by decide) ?_
      refine Wp.icmpN_ne (pc2 := 57) 61 dX3_passes_54 rfl (by decide) (hV.l _ _) (hV.l _ _) (fun c54 => ?_) (fun c54 => ?_)
      · refine Wp.iconN (pc2 := 62) 0 dX3_passes_61 rfl ?_
        refine Wp.ret dX3_passes_62 rfl (by first | exact zb_nar true | exact zb_nar false) ?_
        unfold passP
        rw [show 4 * 0 + k = 0 + k by omega]
        rw [if_neg c18, if_pos c44]
        first | exact ⟨zbo_t c54, rfl⟩ | exact ⟨zbo_f c54, rfl⟩
      · refine Wp.iconN (pc2 := 58) 1 dX3_passes_57 rfl ?_
        refine Wp.goto (pc2 := 62) dX3_passes_58 (by decide) ?_
        refine Wp.ret dX3_passes_62 rfl (by first | exact zb_nar true | exact zb_nar false) ?_
        unfold passP
        rw [show 4 * 0 + k = 0 + k by omega]
        rw [if_neg c18, if_pos c44]
        first | exact ⟨zbo_t c54, rfl⟩ | exact ⟨zbo_f c54, rfl⟩
  · refine Wp.iload_n (pc2 := 22) dX3_passes_21 rfl rfl ?_
    refine Wp.aload_n (pc2 := 23) dX3_passes_22 rfl rfl ?_
    refine Wp.getf (pc2 := 26) fX3_21 dX3_passes_23 rfl rfl rfl ?_
    refine Wp.iload_n (pc2 := 27) dX3_passes_26 rfl rfl ?_
    refine Wp.cald (pc2 := 28) dX3_passes_27 rfl rfl (by omega) (by decide) ?_
    refine Wp.icmpN_ge (pc2 := 31) 35 dX3_passes_28 rfl (by decide) (hV.l _ _) (hV.l _ _) (fun c28 => ?_) (fun c28 => ?_)
    · refine Wp.iconN (pc2 := 36) 0 dX3_passes_35 rfl ?_
      refine Wp.ret dX3_passes_36 rfl (by first | exact zb_nar true | exact zb_nar false) ?_
      unfold passP
      rw [show 4 * 0 + k = 0 + k by omega]
      rw [if_pos c18]
      first | exact ⟨zbo_t c28, rfl⟩ | exact ⟨zbo_f (Nat.not_lt.mpr c28), rfl⟩
    · refine Wp.iconN (pc2 := 32) 1 dX3_passes_31 rfl ?_
      refine Wp.goto (pc2 := 36) dX3_passes_32 (by decide) ?_
      refine Wp.ret dX3_passes_36 rfl (by first | exact zb_nar true | exact zb_nar false) ?_
      unfold passP
      rw [show 4 * 0 + k = 0 + k by omega]
      rw [if_pos c18]
      first | exact ⟨zbo_t c28, rfl⟩ | exact ⟨zbo_f (Nat.not_lt.mpr c28), rfl⟩
set_option maxRecDepth 100000 in
set_option maxHeartbeats 4000000 in
theorem x_passes_1 (V E : zS) (r k : Nat) (hV : BV V) (hr : r < 50) (hk : k < 4) (h0 : V 4 (4 * 1 + k) < 3) : PM mX3_passes [.ref 13, .int (nI r), .int (nI k)] (hC V E) (fun zr zq => zbo (passP V 1 r k) zr ∧ zq = hC V E) := by
  refine PM.of (by decide +kernel) (by simp [Value.category]) (Nat.le_of_ble_eq_true rfl) ?_
  refine Wp.aload_n (pc2 := 1) dX3_passes_0 rfl rfl ?_
  refine Wp.iload_n (pc2 := 2) dX3_passes_1 rfl rfl ?_
  refine Wp.aload_n (pc2 := 3) dX3_passes_2 rfl rfl ?_
  refine Wp.getf (pc2 := 6) fX3_15 dX3_passes_3 rfl rfl rfl ?_
  refine Wp.iload_n (pc2 := 7) dX3_passes_6 rfl rfl ?_
  refine Wp.cald (pc2 := 8) dX3_passes_7 rfl rfl (by omega) (by decide) ?_
  refine Wp.callV (pc2 := 11) kX3_passes_34 vX3_valueAt (x_valueAt_1 V E r (V 4 (4 + k)) (by have h0 : V 4 (4 + k) < 3 := h0; omega)) dX3_passes_8 rfl rfl rfl rfl rfl (Nat.le_of_ble_eq_true rfl) ?_
  rintro _ _ ⟨rfl, rfl⟩
  refine Wp.istore_n (pc2 := 12) dX3_passes_11 rfl (by decide) rfl ?_
  refine Wp.aload_n (pc2 := 13) dX3_passes_12 rfl rfl ?_
  refine Wp.getf (pc2 := 16) fX3_18 dX3_passes_13 rfl rfl rfl ?_
  refine Wp.iload_n (pc2 := 17) dX3_passes_16 rfl rfl ?_
  refine Wp.cald (pc2 := 18) dX3_passes_17 rfl rfl (by omega) (by decide) ?_
  refine Wp.ifN_ne (pc2 := 21) 37 dX3_passes_18 rfl (by decide) (hV.l _ _) (fun c18 => ?_) (fun c18 => ?_)
  · refine Wp.aload_n (pc2 := 38) dX3_passes_37 rfl rfl ?_
    refine Wp.getf (pc2 := 41) fX3_18 dX3_passes_38 rfl rfl rfl ?_
    refine Wp.iload_n (pc2 := 42) dX3_passes_41 rfl rfl ?_
    refine Wp.cald (pc2 := 43) dX3_passes_42 rfl rfl (by omega) (by decide) ?_
    refine Wp.iconN (pc2 := 44) 1 dX3_passes_43 rfl ?_
    refine Wp.icmpN_ne (pc2 := 47) 63 dX3_passes_44 rfl (by decide) (hV.l _ _) (by decide) (fun c44 => ?_) (fun c44 => ?_)
    · refine Wp.iload_n (pc2 := 64) dX3_passes_63 rfl rfl ?_
      refine Wp.aload_n (pc2 := 65) dX3_passes_64 rfl rfl ?_
      refine Wp.getf (pc2 := 68) fX3_21 dX3_passes_65 rfl rfl rfl ?_
      refine Wp.iload_n (pc2 := 69) dX3_passes_68 rfl rfl ?_
      refine Wp.cald (pc2 := 70) dX3_passes_69 rfl rfl (by omega) (by decide) ?_
      refine Wp.icmpN_le (pc2 := 73) 77 dX3_passes_70 rfl (by decide) (hV.l _ _) (hV.l _ _) (fun c70 => ?_) (fun c70 => ?_)
      · refine Wp.iconN (pc2 := 78) 0 dX3_passes_77 rfl ?_
        refine Wp.ret dX3_passes_78 rfl (by first | exact zb_nar true | exact zb_nar false) ?_
        unfold passP
        rw [show 4 * 1 + k = 4 + k by omega]
        rw [if_neg c18, if_neg c44]
        first | exact ⟨zbo_t c70, rfl⟩ | exact ⟨zbo_f (Nat.not_lt.mpr c70), rfl⟩
      · refine Wp.iconN (pc2 := 74) 1 dX3_passes_73 rfl ?_
        refine Wp.goto (pc2 := 78) dX3_passes_74 (by decide) ?_
        refine Wp.ret dX3_passes_78 rfl (by first | exact zb_nar true | exact zb_nar false) ?_
        unfold passP
        rw [show 4 * 1 + k = 4 + k by omega]
        rw [if_neg c18, if_neg c44]
        first | exact ⟨zbo_t c70, rfl⟩ | exact ⟨zbo_f (Nat.not_lt.mpr c70), rfl⟩
    · refine Wp.iload_n (pc2 := 48) dX3_passes_47 rfl rfl ?_
      refine Wp.aload_n (pc2 := 49) dX3_passes_48 rfl rfl ?_
      refine Wp.getf (pc2 := 52) fX3_21 dX3_passes_49 rfl rfl rfl ?_
      refine Wp.iload_n (pc2 := 53) dX3_passes_52 rfl rfl ?_
      refine Wp.cald (pc2 := 54) dX3_passes_53 rfl rfl (by omega) (by decide) ?_
      refine Wp.icmpN_ne (pc2 := 57) 61 dX3_passes_54 rfl (by decide) (hV.l _ _) (hV.l _ _) (fun c54 => ?_) (fun c54 => ?_)
      · refine Wp.iconN (pc2 := 62) 0 dX3_passes_61 rfl ?_
        refine Wp.ret dX3_passes_62 rfl (by first | exact zb_nar true | exact zb_nar false) ?_
        unfold passP
        rw [show 4 * 1 + k = 4 + k by omega]
        rw [if_neg c18, if_pos c44]
        first | exact ⟨zbo_t c54, rfl⟩ | exact ⟨zbo_f c54, rfl⟩
      · refine Wp.iconN (pc2 := 58) 1 dX3_passes_57 rfl ?_
        refine Wp.goto (pc2 := 62) dX3_passes_58 (by decide) ?_
        refine Wp.ret dX3_passes_62 rfl (by first | exact zb_nar true | exact zb_nar false) ?_
        unfold passP
        rw [show 4 * 1 + k = 4 + k by omega]
        rw [if_neg c18, if_pos c44]
        first | exact ⟨zbo_t c54, rfl⟩ | exact ⟨zbo_f c54, rfl⟩
  · refine Wp.iload_n (pc2 := 22) dX3_passes_21 rfl rfl ?_
    refine Wp.aload_n (pc2 := 23) dX3_passes_22 rfl rfl ?_
    refine Wp.getf (pc2 := 26) fX3_21 dX3_passes_23 rfl rfl rfl ?_
    refine Wp.iload_n (pc2 := 27) dX3_passes_26 rfl rfl ?_
    refine Wp.cald (pc2 := 28) dX3_passes_27 rfl rfl (by omega) (by decide) ?_
    refine Wp.icmpN_ge (pc2 := 31) 35 dX3_passes_28 rfl (by decide) (hV.l _ _) (hV.l _ _) (fun c28 => ?_) (fun c28 => ?_)
    · refine Wp.iconN (pc2 := 36) 0 dX3_passes_35 rfl ?_
      refine Wp.ret dX3_passes_36 rfl (by first | exact zb_nar true | exact zb_nar false) ?_
      unfold passP
      rw [show 4 * 1 + k = 4 + k by omega]
      rw [if_pos c18]
      first | exact ⟨zbo_t c28, rfl⟩ | exact ⟨zbo_f (Nat.not_lt.mpr c28), rfl⟩
    · refine Wp.iconN (pc2 := 32) 1 dX3_passes_31 rfl ?_
      refine Wp.goto (pc2 := 36) dX3_passes_32 (by decide) ?_
      refine Wp.ret dX3_passes_36 rfl (by first | exact zb_nar true | exact zb_nar false) ?_
      unfold passP
      rw [show 4 * 1 + k = 4 + k by omega]
      rw [if_pos c18]
      first | exact ⟨zbo_t c28, rfl⟩ | exact ⟨zbo_f (Nat.not_lt.mpr c28), rfl⟩
theorem x_passes (t : Nat) (ht : t < 2) (V E : zS) (r k : Nat) (hV : BV V) (hr : r < 50) (hk : k < 4) (h0 : V 4 (4 * t + k) < 3) : PM mX3_passes [.ref (7 + 6 * t), .int (nI r), .int (nI k)] (hC V E) (fun zr zq => zbo (passP V t r k) zr ∧ zq = hC V E) := by
  rcases (show t = 0 ∨ t = 1 by omega) with rfl | rfl
  · exact x_passes_0 V E r k hV hr hk h0
  · exact x_passes_1 V E r k hV hr hk h0

set_option maxRecDepth 100000 in
set_option maxHeartbeats 4000000 in
theorem x_pAll_l_0 (V E : zS) (r : Nat) (hV : BV V) (hr : r < 50) (h3 : V 3 0 ≤ 4) (h8 : ∀ j, j < 8 → V 4 j < 3) : ∀ (n k : Nat), k + n = V 3 0 → (∀ j, j < k → passP V 0 r j) → Wp mX3_passesAll (fun zr zq => zbo (allP V 0 r) zr ∧ zq = hC V E) 2 [.ref 7, .int (nI r), .int (nI k)] [] (hC V E) := by
  intro n
  induction n with
  | zero =>
    intro k hk h
    have e : k = V 3 0 := by omega
    subst e
    refine Wp.iload_n (pc2 := 3) dX3_passesAll_2 rfl rfl ?_
    refine Wp.aload_n (pc2 := 4) dX3_passesAll_3 rfl rfl ?_
    refine Wp.getf (pc2 := 7) fX3_31 dX3_passesAll_4 rfl rfl rfl ?_
    refine Wp.icmpN_ge (pc2 := 10) 27 dX3_passesAll_7 rfl (by decide) (by omega) (by omega) (fun c7 => ?_) (fun c7 => ?_)
    · refine Wp.iconN (pc2 := 28) 1 dX3_passesAll_27 rfl ?_
      refine Wp.ret dX3_passesAll_28 rfl (zb_nar true) ?_
      exact ⟨zbo_t h, rfl⟩
    · exfalso; omega
  | succ n ih =>
    intro k hk h
    refine Wp.iload_n (pc2 := 3) dX3_passesAll_2 rfl rfl ?_
    refine Wp.aload_n (pc2 := 4) dX3_passesAll_3 rfl rfl ?_
    refine Wp.getf (pc2 := 7) fX3_31 dX3_passesAll_4 rfl rfl rfl ?_
    refine Wp.icmpN_ge (pc2 := 10) 27 dX3_passesAll_7 rfl (by decide) (by omega) (by omega) (fun c7 => ?_) (fun c7 => ?_)
    · exfalso; omega
    · refine Wp.aload_n (pc2 := 11) dX3_passesAll_10 rfl rfl ?_
      refine Wp.iload_n (pc2 := 12) dX3_passesAll_11 rfl rfl ?_
      refine Wp.iload_n (pc2 := 13) dX3_passesAll_12 rfl rfl ?_
      refine Wp.callV (pc2 := 16) kX3_passesAll_38 vX3_passes (x_passes_0 V E r k hV hr (by omega) (h8 _ (by omega))) dX3_passesAll_13 rfl rfl rfl rfl rfl (Nat.le_of_ble_eq_true rfl) ?_
      rintro _ _ ⟨⟨b, rfl, hb⟩, rfl⟩
      refine Wp.ifN_ne (pc2 := 19) 21 dX3_passesAll_16 rfl (by decide) (zb_lt _) (fun c16 => ?_) (fun c16 => ?_)
      · refine Wp.iincN (pc2 := 24) dX3_passesAll_21 rfl rfl (by decide) rfl ?_
        refine Wp.goto (pc2 := 2) dX3_passesAll_24 (by decide) ?_
        exact ih (k + 1) (by omega) (lt_s (p := fun j => passP V 0 r j) h (zby hb c16))
      · refine Wp.iconN (pc2 := 20) 0 dX3_passesAll_19 rfl ?_
        refine Wp.ret dX3_passesAll_20 rfl (zb_nar false) ?_
        exact ⟨zbo_f (fun z => zbn hb c16 (z k (by omega))), rfl⟩

set_option maxRecDepth 100000 in
set_option maxHeartbeats 4000000 in
theorem x_pAll_l_1 (V E : zS) (r : Nat) (hV : BV V) (hr : r < 50) (h3 : V 3 1 ≤ 4) (h8 : ∀ j, j < 8 → V 4 j < 3) : ∀ (n k : Nat), k + n = V 3 1 → (∀ j, j < k → passP V 1 r j) → Wp mX3_passesAll (fun zr zq => zbo (allP V 1 r) zr ∧ zq = hC V E) 2 [.ref 13, .int (nI r), .int (nI k)] [] (hC V E) := by
  intro n
  induction n with
  | zero =>
    intro k hk h
    have e : k = V 3 1 := by omega
    subst e
    refine Wp.iload_n (pc2 := 3) dX3_passesAll_2 rfl rfl ?_
    refine Wp.aload_n (pc2 := 4) dX3_passesAll_3 rfl rfl ?_
    refine Wp.getf (pc2 := 7) fX3_31 dX3_passesAll_4 rfl rfl rfl ?_
    refine Wp.icmpN_ge (pc2 := 10) 27 dX3_passesAll_7 rfl (by decide) (by omega) (by omega) (fun c7 => ?_) (fun c7 => ?_)
    · refine Wp.iconN (pc2 := 28) 1 dX3_passesAll_27 rfl ?_
      refine Wp.ret dX3_passesAll_28 rfl (zb_nar true) ?_
      exact ⟨zbo_t h, rfl⟩
    · exfalso; omega
  | succ n ih =>
    intro k hk h
    refine Wp.iload_n (pc2 := 3) dX3_passesAll_2 rfl rfl ?_
    refine Wp.aload_n (pc2 := 4) dX3_passesAll_3 rfl rfl ?_
    refine Wp.getf (pc2 := 7) fX3_31 dX3_passesAll_4 rfl rfl rfl ?_
    refine Wp.icmpN_ge (pc2 := 10) 27 dX3_passesAll_7 rfl (by decide) (by omega) (by omega) (fun c7 => ?_) (fun c7 => ?_)
    · exfalso; omega
    · refine Wp.aload_n (pc2 := 11) dX3_passesAll_10 rfl rfl ?_
      refine Wp.iload_n (pc2 := 12) dX3_passesAll_11 rfl rfl ?_
      refine Wp.iload_n (pc2 := 13) dX3_passesAll_12 rfl rfl ?_
      refine Wp.callV (pc2 := 16) kX3_passesAll_38 vX3_passes (x_passes_1 V E r k hV hr (by omega) (h8 _ (by omega))) dX3_passesAll_13 rfl rfl rfl rfl rfl (Nat.le_of_ble_eq_true rfl) ?_
      rintro _ _ ⟨⟨b, rfl, hb⟩, rfl⟩
      refine Wp.ifN_ne (pc2 := 19) 21 dX3_passesAll_16 rfl (by decide) (zb_lt _) (fun c16 => ?_) (fun c16 => ?_)
      · refine Wp.iincN (pc2 := 24) dX3_passesAll_21 rfl rfl (by decide) rfl ?_
        refine Wp.goto (pc2 := 2) dX3_passesAll_24 (by decide) ?_
        exact ih (k + 1) (by omega) (lt_s (p := fun j => passP V 1 r j) h (zby hb c16))
      · refine Wp.iconN (pc2 := 20) 0 dX3_passesAll_19 rfl ?_
        refine Wp.ret dX3_passesAll_20 rfl (zb_nar false) ?_
        exact ⟨zbo_f (fun z => zbn hb c16 (z k (by omega))), rfl⟩

set_option maxRecDepth 100000 in
set_option maxHeartbeats 4000000 in
theorem x_passesAll_0 (V E : zS) (r : Nat) (hV : BV V) (hr : r < 50) (h3 : V 3 0 ≤ 4) (h8 : ∀ j, j < 8 → V 4 j < 3) : PM mX3_passesAll [.ref 7, .int (nI r)] (hC V E) (fun zr zq => zbo (allP V 0 r) zr ∧ zq = hC V E) := by
  refine PM.of (by decide +kernel) (by simp [Value.category]) (Nat.le_of_ble_eq_true rfl) ?_
  refine Wp.iconN (pc2 := 1) 0 dX3_passesAll_0 rfl ?_
  refine Wp.istore_n (pc2 := 2) dX3_passesAll_1 rfl (by decide) rfl ?_
  exact x_pAll_l_0 V E r hV hr h3 h8 (V 3 0) 0 (by omega) (fun j hj => by omega)
set_option maxRecDepth 100000 in
set_option maxHeartbeats 4000000 in
theorem x_passesAll_1 (V E : zS) (r : Nat) (hV : BV V) (hr : r < 50) (h3 : V 3 1 ≤ 4) (h8 : ∀ j, j < 8 → V 4 j < 3) : PM mX3_passesAll [.ref 13, .int (nI r)] (hC V E) (fun zr zq => zbo (allP V 1 r) zr ∧ zq = hC V E) := by
  refine PM.of (by decide +kernel) (by simp [Value.category]) (Nat.le_of_ble_eq_true rfl) ?_
  refine Wp.iconN (pc2 := 1) 0 dX3_passesAll_0 rfl ?_
  refine Wp.istore_n (pc2 := 2) dX3_passesAll_1 rfl (by decide) rfl ?_
  exact x_pAll_l_1 V E r hV hr h3 h8 (V 3 1) 0 (by omega) (fun j hj => by omega)
theorem x_passesAll (t : Nat) (ht : t < 2) (V E : zS) (r : Nat) (hV : BV V) (hr : r < 50) (h3 : V 3 t ≤ 4) (h8 : ∀ j, j < 8 → V 4 j < 3) : PM mX3_passesAll [.ref (7 + 6 * t), .int (nI r)] (hC V E) (fun zr zq => zbo (allP V t r) zr ∧ zq = hC V E) := by
  rcases (show t = 0 ∨ t = 1 by omega) with rfl | rfl
  · exact x_passesAll_0 V E r hV hr h3 h8
  · exact x_passesAll_1 V E r hV hr h3 h8

set_option maxRecDepth 100000 in
set_option maxHeartbeats 4000000 in
theorem x_addRow_ok_0 (V E : zS) (a b c : Nat) (hn : V 1 0 < 50) : PM mX3_addRow [.ref 7, .int (nI a), .int (nI b), .int (nI c)] (hC V E) (fun zr zq => zr = some (.int (nI (V 1 0))) ∧ zq = hC (mRow V 0 a b c) E) := by
  refine PM.of (by decide +kernel) (by simp [Value.category]) (Nat.le_of_ble_eq_true rfl) ?_
  refine Wp.aload_n (pc2 := 1) dX3_addRow_0 rfl rfl ?_
  refine Wp.getf (pc2 := 4) fX3_27 dX3_addRow_1 rfl rfl rfl ?_
  refine Wp.bipN (pc2 := 6) 50 dX3_addRow_4 rfl (by decide +kernel) ?_
  refine Wp.icmpN_lt (pc2 := 9) 11 dX3_addRow_6 rfl (by decide) (by omega) (by decide) (fun c6 => ?_) (fun c6 => ?_)
  · refine Wp.aload_n (pc2 := 12) dX3_addRow_11 rfl rfl ?_
    refine Wp.getf (pc2 := 15) fX3_27 dX3_addRow_12 rfl rfl rfl ?_
    refine Wp.iconN (pc2 := 16) 3 dX3_addRow_15 rfl ?_
    refine Wp.imulN (pc2 := 17) dX3_addRow_16 rfl  ?_
    refine Wp.istore (pc2 := 19) dX3_addRow_17 rfl (by decide) rfl ?_
    refine Wp.aload_n (pc2 := 20) dX3_addRow_19 rfl rfl ?_
    refine Wp.getf (pc2 := 23) fX3_9 dX3_addRow_20 rfl rfl rfl ?_
    refine Wp.iload (pc2 := 25) dX3_addRow_23 rfl rfl ?_
    refine Wp.iload_n (pc2 := 26) dX3_addRow_25 rfl rfl ?_
    refine Wp.cast (pc2 := 27) dX3_addRow_26 rfl rfl (by omega) (by decide) ?_
    refine Wp.heq (hC_a8 _ _ _ _ (by omega)) ?_
    refine Wp.aload_n (pc2 := 28) dX3_addRow_27 rfl rfl ?_
    refine Wp.getf (pc2 := 31) fX3_9 dX3_addRow_28 rfl rfl rfl ?_
    refine Wp.iload (pc2 := 33) dX3_addRow_31 rfl rfl ?_
    refine Wp.iconN (pc2 := 34) 1 dX3_addRow_33 rfl ?_
    refine Wp.iaddN (pc2 := 35) dX3_addRow_34 rfl  ?_
    refine Wp.iload_n (pc2 := 36) dX3_addRow_35 rfl rfl ?_
    refine Wp.cast (pc2 := 37) dX3_addRow_36 rfl rfl (by omega) (by decide) ?_
    refine Wp.heq (hC_a8 _ _ _ _ (by omega)) ?_
    refine Wp.aload_n (pc2 := 38) dX3_addRow_37 rfl rfl ?_
    refine Wp.getf (pc2 := 41) fX3_9 dX3_addRow_38 rfl rfl rfl ?_
    refine Wp.iload (pc2 := 43) dX3_addRow_41 rfl rfl ?_
    refine Wp.iconN (pc2 := 44) 2 dX3_addRow_43 rfl ?_
    refine Wp.iaddN (pc2 := 45) dX3_addRow_44 rfl  ?_
    refine Wp.iload_n (pc2 := 46) dX3_addRow_45 rfl rfl ?_
    refine Wp.cast (pc2 := 47) dX3_addRow_46 rfl rfl (by omega) (by decide) ?_
    refine Wp.heq (hC_a8 _ _ _ _ (by omega)) ?_
    refine Wp.aload_n (pc2 := 48) dX3_addRow_47 rfl rfl ?_
    refine Wp.dup (pc2 := 49) dX3_addRow_48 rfl rfl ?_
    refine Wp.getf (pc2 := 52) fX3_27 dX3_addRow_49 rfl rfl rfl ?_
    refine Wp.iconN (pc2 := 53) 1 dX3_addRow_52 rfl ?_
    refine Wp.iaddN (pc2 := 54) dX3_addRow_53 rfl  ?_
    change Wp _ _ _ _ (.int (nI (V 1 0 + 1)) :: _) _
    refine Wp.putf (pc2 := 57) gX3_27 dX3_addRow_54 rfl rfl (Nat.le_of_ble_eq_true rfl) rfl rfl ?_
    refine Wp.heq (hC_o7_5 _ _ _) ?_
    refine Wp.aload_n (pc2 := 58) dX3_addRow_57 rfl rfl ?_
    refine Wp.getf (pc2 := 61) fX3_27 dX3_addRow_58 rfl rfl rfl ?_
    refine Wp.iconN (pc2 := 62) 1 dX3_addRow_61 rfl ?_
    refine Wp.isubN (pc2 := 63) dX3_addRow_62 rfl (by simp [vs]) ?_
    refine Wp.ret dX3_addRow_63 rfl rfl ?_
    refine ⟨by simp [vs], ?_⟩
    unfold mRow
    rw [show 3 * (50 * 0 + V 1 0) = 0 + V 1 0 * 3 by omega, show 0 + V 1 0 * 3 + 1 = 0 + (V 1 0 * 3 + 1) by omega, show 0 + V 1 0 * 3 + 2 = 0 + (V 1 0 * 3 + 2) by omega]
  · exfalso; omega
set_option maxRecDepth 100000 in
set_option maxHeartbeats 4000000 in
theorem x_addRow_ok_1 (V E : zS) (a b c : Nat) (hn : V 1 1 < 50) : PM mX3_addRow [.ref 13, .int (nI a), .int (nI b), .int (nI c)] (hC V E) (fun zr zq => zr = some (.int (nI (V 1 1))) ∧ zq = hC (mRow V 1 a b c) E) := by
  refine PM.of (by decide +kernel) (by simp [Value.category]) (Nat.le_of_ble_eq_true rfl) ?_
  refine Wp.aload_n (pc2 := 1) dX3_addRow_0 rfl rfl ?_
  refine Wp.getf (pc2 := 4) fX3_27 dX3_addRow_1 rfl rfl rfl ?_
  refine Wp.bipN (pc2 := 6) 50 dX3_addRow_4 rfl (by decide +kernel) ?_
  refine Wp.icmpN_lt (pc2 := 9) 11 dX3_addRow_6 rfl (by decide) (by omega) (by decide) (fun c6 => ?_) (fun c6 => ?_)
  · refine Wp.aload_n (pc2 := 12) dX3_addRow_11 rfl rfl ?_
    refine Wp.getf (pc2 := 15) fX3_27 dX3_addRow_12 rfl rfl rfl ?_
    refine Wp.iconN (pc2 := 16) 3 dX3_addRow_15 rfl ?_
    refine Wp.imulN (pc2 := 17) dX3_addRow_16 rfl  ?_
    refine Wp.istore (pc2 := 19) dX3_addRow_17 rfl (by decide) rfl ?_
    refine Wp.aload_n (pc2 := 20) dX3_addRow_19 rfl rfl ?_
    refine Wp.getf (pc2 := 23) fX3_9 dX3_addRow_20 rfl rfl rfl ?_
    refine Wp.iload (pc2 := 25) dX3_addRow_23 rfl rfl ?_
    refine Wp.iload_n (pc2 := 26) dX3_addRow_25 rfl rfl ?_
    refine Wp.cast (pc2 := 27) dX3_addRow_26 rfl rfl (by omega) (by decide) ?_
    refine Wp.heq (hC_a14 _ _ _ _ (by omega)) ?_
    refine Wp.aload_n (pc2 := 28) dX3_addRow_27 rfl rfl ?_
    refine Wp.getf (pc2 := 31) fX3_9 dX3_addRow_28 rfl rfl rfl ?_
    refine Wp.iload (pc2 := 33) dX3_addRow_31 rfl rfl ?_
    refine Wp.iconN (pc2 := 34) 1 dX3_addRow_33 rfl ?_
    refine Wp.iaddN (pc2 := 35) dX3_addRow_34 rfl  ?_
    refine Wp.iload_n (pc2 := 36) dX3_addRow_35 rfl rfl ?_
    refine Wp.cast (pc2 := 37) dX3_addRow_36 rfl rfl (by omega) (by decide) ?_
    refine Wp.heq (hC_a14 _ _ _ _ (by omega)) ?_
    refine Wp.aload_n (pc2 := 38) dX3_addRow_37 rfl rfl ?_
    refine Wp.getf (pc2 := 41) fX3_9 dX3_addRow_38 rfl rfl rfl ?_
    refine Wp.iload (pc2 := 43) dX3_addRow_41 rfl rfl ?_
    refine Wp.iconN (pc2 := 44) 2 dX3_addRow_43 rfl ?_
    refine Wp.iaddN (pc2 := 45) dX3_addRow_44 rfl  ?_
    refine Wp.iload_n (pc2 := 46) dX3_addRow_45 rfl rfl ?_
    refine Wp.cast (pc2 := 47) dX3_addRow_46 rfl rfl (by omega) (by decide) ?_
    refine Wp.heq (hC_a14 _ _ _ _ (by omega)) ?_
    refine Wp.aload_n (pc2 := 48) dX3_addRow_47 rfl rfl ?_
    refine Wp.dup (pc2 := 49) dX3_addRow_48 rfl rfl ?_
    refine Wp.getf (pc2 := 52) fX3_27 dX3_addRow_49 rfl rfl rfl ?_
    refine Wp.iconN (pc2 := 53) 1 dX3_addRow_52 rfl ?_
    refine Wp.iaddN (pc2 := 54) dX3_addRow_53 rfl  ?_
    change Wp _ _ _ _ (.int (nI (V 1 1 + 1)) :: _) _
    refine Wp.putf (pc2 := 57) gX3_27 dX3_addRow_54 rfl rfl (Nat.le_of_ble_eq_true rfl) rfl rfl ?_
    refine Wp.heq (hC_o13_5 _ _ _) ?_
    refine Wp.aload_n (pc2 := 58) dX3_addRow_57 rfl rfl ?_
    refine Wp.getf (pc2 := 61) fX3_27 dX3_addRow_58 rfl rfl rfl ?_
    refine Wp.iconN (pc2 := 62) 1 dX3_addRow_61 rfl ?_
    refine Wp.isubN (pc2 := 63) dX3_addRow_62 rfl (by simp [vs]) ?_
    refine Wp.ret dX3_addRow_63 rfl rfl ?_
    refine ⟨by simp [vs], ?_⟩
    unfold mRow
    rw [show 3 * (50 * 1 + V 1 1) = 150 + V 1 1 * 3 by omega, show 150 + V 1 1 * 3 + 1 = 150 + (V 1 1 * 3 + 1) by omega, show 150 + V 1 1 * 3 + 2 = 150 + (V 1 1 * 3 + 2) by omega]
  · exfalso; omega
theorem x_addRow_ok (t : Nat) (ht : t < 2) (V E : zS) (a b c : Nat) (hn : V 1 t < 50) : PM mX3_addRow [.ref (7 + 6 * t), .int (nI a), .int (nI b), .int (nI c)] (hC V E) (fun zr zq => zr = some (.int (nI (V 1 t))) ∧ zq = hC (mRow V t a b c) E) := by
  rcases (show t = 0 ∨ t = 1 by omega) with rfl | rfl
  · exact x_addRow_ok_0 V E a b c hn
  · exact x_addRow_ok_1 V E a b c hn

set_option maxRecDepth 100000 in
set_option maxHeartbeats 4000000 in
theorem x_addRow_no_0 (V E : zS) (a b c : Nat) (hn : V 1 0 = 50) : PM mX3_addRow [.ref 7, .int (nI a), .int (nI b), .int (nI c)] (hC V E) (fun zr zq => zr = some (.int (-1)) ∧ zq = hC V E) := by
  refine PM.of (by decide +kernel) (by simp [Value.category]) (Nat.le_of_ble_eq_true rfl) ?_
  refine Wp.aload_n (pc2 := 1) dX3_addRow_0 rfl rfl ?_
  refine Wp.getf (pc2 := 4) fX3_27 dX3_addRow_1 rfl rfl rfl ?_
  refine Wp.bipN (pc2 := 6) 50 dX3_addRow_4 rfl (by decide +kernel) ?_
  refine Wp.icmpN_lt (pc2 := 9) 11 dX3_addRow_6 rfl (by decide) (by omega) (by decide) (fun c6 => ?_) (fun c6 => ?_)
  · exfalso; omega
  · refine Wp.icon (pc2 := 10) dX3_addRow_9 rfl (-1) (by decide +kernel) ?_
    refine Wp.ret dX3_addRow_10 rfl rfl ?_
    exact ⟨rfl, rfl⟩
set_option maxRecDepth 100000 in
set_option maxHeartbeats 4000000 in
theorem x_addRow_no_1 (V E : zS) (a b c : Nat) (hn : V 1 1 = 50) : PM mX3_addRow [.ref 13, .int (nI a), .int (nI b), .int (nI c)] (hC V E) (fun zr zq => zr = some (.int (-1)) ∧ zq = hC V E) := by
  refine PM.of (by decide +kernel) (by simp [Value.category]) (Nat.le_of_ble_eq_true rfl) ?_
  refine Wp.aload_n (pc2 := 1) dX3_addRow_0 rfl rfl ?_
  refine Wp.getf (pc2 := 4) fX3_27 dX3_addRow_1 rfl rfl rfl ?_
  refine Wp.bipN (pc2 := 6) 50 dX3_addRow_4 rfl (by decide +kernel) ?_
  refine Wp.icmpN_lt (pc2 := 9) 11 dX3_addRow_6 rfl (by decide) (by omega) (by decide) (fun c6 => ?_) (fun c6 => ?_)
  · exfalso; omega
  · refine Wp.icon (pc2 := 10) dX3_addRow_9 rfl (-1) (by decide +kernel) ?_
    refine Wp.ret dX3_addRow_10 rfl rfl ?_
    exact ⟨rfl, rfl⟩
theorem x_addRow_no (t : Nat) (ht : t < 2) (V E : zS) (a b c : Nat) (hn : V 1 t = 50) : PM mX3_addRow [.ref (7 + 6 * t), .int (nI a), .int (nI b), .int (nI c)] (hC V E) (fun zr zq => zr = some (.int (-1)) ∧ zq = hC V E) := by
  rcases (show t = 0 ∨ t = 1 by omega) with rfl | rfl
  · exact x_addRow_no_0 V E a b c hn
  · exact x_addRow_no_1 V E a b c hn

set_option maxRecDepth 100000 in
set_option maxHeartbeats 4000000 in
theorem x_addTest_ok_0 (V E : zS) (w p : Nat) (hn : V 3 0 < 4) : PM mX3_addTest [.ref 7, .int (nI (w / 1000)), .int (nI (w / 100 % 10)), .int (nI (w % 100)), .int (nI p)] (hC V E) (fun zr zq => zr = some (.int (nI (V 3 0))) ∧ zq = hC (mTest V 0 w p) E) := by
  refine PM.of (by decide +kernel) (by simp [Value.category]) (Nat.le_of_ble_eq_true rfl) ?_
  refine Wp.aload_n (pc2 := 1) dX3_addTest_0 rfl rfl ?_
  refine Wp.getf (pc2 := 4) fX3_31 dX3_addTest_1 rfl rfl rfl ?_
  refine Wp.iconN (pc2 := 5) 4 dX3_addTest_4 rfl ?_
  refine Wp.icmpN_lt (pc2 := 8) 10 dX3_addTest_5 rfl (by decide) (by omega) (by decide) (fun c5 => ?_) (fun c5 => ?_)
  · refine Wp.aload_n (pc2 := 11) dX3_addTest_10 rfl rfl ?_
    refine Wp.getf (pc2 := 14) fX3_15 dX3_addTest_11 rfl rfl rfl ?_
    refine Wp.aload_n (pc2 := 15) dX3_addTest_14 rfl rfl ?_
    refine Wp.getf (pc2 := 18) fX3_31 dX3_addTest_15 rfl rfl rfl ?_
    refine Wp.iload_n (pc2 := 19) dX3_addTest_18 rfl rfl ?_
    refine Wp.cast (pc2 := 20) dX3_addTest_19 rfl rfl (by omega) (by decide) ?_
    refine Wp.heq (hC_a9 _ _ _ _ (by omega)) ?_
    refine Wp.aload_n (pc2 := 21) dX3_addTest_20 rfl rfl ?_
    refine Wp.getf (pc2 := 24) fX3_18 dX3_addTest_21 rfl rfl rfl ?_
    refine Wp.aload_n (pc2 := 25) dX3_addTest_24 rfl rfl ?_
    refine Wp.getf (pc2 := 28) fX3_31 dX3_addTest_25 rfl rfl rfl ?_
    refine Wp.iload_n (pc2 := 29) dX3_addTest_28 rfl rfl ?_
    change Wp _ _ _ _ (_ :: .int (nI (V 3 0)) :: _) _
    refine Wp.cast (pc2 := 30) dX3_addTest_29 rfl rfl (by omega) (by decide) ?_
    refine Wp.heq (hC_a10 _ _ _ _ (by omega)) ?_
    refine Wp.aload_n (pc2 := 31) dX3_addTest_30 rfl rfl ?_
    refine Wp.getf (pc2 := 34) fX3_21 dX3_addTest_31 rfl rfl rfl ?_
    refine Wp.aload_n (pc2 := 35) dX3_addTest_34 rfl rfl ?_
    refine Wp.getf (pc2 := 38) fX3_31 dX3_addTest_35 rfl rfl rfl ?_
    refine Wp.iload_n (pc2 := 39) dX3_addTest_38 rfl rfl ?_
    change Wp _ _ _ _ (_ :: .int (nI (V 3 0)) :: _) _
    refine Wp.cast (pc2 := 40) dX3_addTest_39 rfl rfl (by omega) (by decide) ?_
    refine Wp.heq (hC_a11 _ _ _ _ (by omega)) ?_
    refine Wp.aload_n (pc2 := 41) dX3_addTest_40 rfl rfl ?_
    refine Wp.getf (pc2 := 44) fX3_24 dX3_addTest_41 rfl rfl rfl ?_
    refine Wp.aload_n (pc2 := 45) dX3_addTest_44 rfl rfl ?_
    refine Wp.getf (pc2 := 48) fX3_31 dX3_addTest_45 rfl rfl rfl ?_
    refine Wp.iload (pc2 := 50) dX3_addTest_48 rfl rfl ?_
    change Wp _ _ _ _ (_ :: .int (nI (V 3 0)) :: _) _
    refine Wp.cast (pc2 := 51) dX3_addTest_50 rfl rfl (by omega) (by decide) ?_
    refine Wp.heq (hC_a12 _ _ _ _ (by omega)) ?_
    refine Wp.aload_n (pc2 := 52) dX3_addTest_51 rfl rfl ?_
    refine Wp.dup (pc2 := 53) dX3_addTest_52 rfl rfl ?_
    refine Wp.getf (pc2 := 56) fX3_31 dX3_addTest_53 rfl rfl rfl ?_
    refine Wp.iconN (pc2 := 57) 1 dX3_addTest_56 rfl ?_
    refine Wp.iaddN (pc2 := 58) dX3_addTest_57 rfl  ?_
    change Wp _ _ _ _ (.int (nI (V 3 0 + 1)) :: _) _
    refine Wp.putf (pc2 := 61) gX3_31 dX3_addTest_58 rfl rfl (Nat.le_of_ble_eq_true rfl) rfl rfl ?_
    refine Wp.heq (hC_o7_6 _ _ _) ?_
    refine Wp.aload_n (pc2 := 62) dX3_addTest_61 rfl rfl ?_
    refine Wp.getf (pc2 := 65) fX3_31 dX3_addTest_62 rfl rfl rfl ?_
    refine Wp.iconN (pc2 := 66) 1 dX3_addTest_65 rfl ?_
    refine Wp.isubN (pc2 := 67) dX3_addTest_66 rfl (by simp [vs]) ?_
    refine Wp.ret dX3_addTest_67 rfl rfl ?_
    refine ⟨by simp [vs], ?_⟩
    unfold mTest
    rw [show 4 * 0 + V 3 0 = 0 + V 3 0 by omega]
  · exfalso; omega
set_option maxRecDepth 100000 in
set_option maxHeartbeats 4000000 in
theorem x_addTest_ok_1 (V E : zS) (w p : Nat) (hn : V 3 1 < 4) : PM mX3_addTest [.ref 13, .int (nI (w / 1000)), .int (nI (w / 100 % 10)), .int (nI (w % 100)), .int (nI p)] (hC V E) (fun zr zq => zr = some (.int (nI (V 3 1))) ∧ zq = hC (mTest V 1 w p) E) := by
  refine PM.of (by decide +kernel) (by simp [Value.category]) (Nat.le_of_ble_eq_true rfl) ?_
  refine Wp.aload_n (pc2 := 1) dX3_addTest_0 rfl rfl ?_
  refine Wp.getf (pc2 := 4) fX3_31 dX3_addTest_1 rfl rfl rfl ?_
  refine Wp.iconN (pc2 := 5) 4 dX3_addTest_4 rfl ?_
  refine Wp.icmpN_lt (pc2 := 8) 10 dX3_addTest_5 rfl (by decide) (by omega) (by decide) (fun c5 => ?_) (fun c5 => ?_)
  · refine Wp.aload_n (pc2 := 11) dX3_addTest_10 rfl rfl ?_
    refine Wp.getf (pc2 := 14) fX3_15 dX3_addTest_11 rfl rfl rfl ?_
    refine Wp.aload_n (pc2 := 15) dX3_addTest_14 rfl rfl ?_
    refine Wp.getf (pc2 := 18) fX3_31 dX3_addTest_15 rfl rfl rfl ?_
    refine Wp.iload_n (pc2 := 19) dX3_addTest_18 rfl rfl ?_
    refine Wp.cast (pc2 := 20) dX3_addTest_19 rfl rfl (by omega) (by decide) ?_
    refine Wp.heq (hC_a15 _ _ _ _ (by omega)) ?_
    refine Wp.aload_n (pc2 := 21) dX3_addTest_20 rfl rfl ?_
    refine Wp.getf (pc2 := 24) fX3_18 dX3_addTest_21 rfl rfl rfl ?_
    refine Wp.aload_n (pc2 := 25) dX3_addTest_24 rfl rfl ?_
    refine Wp.getf (pc2 := 28) fX3_31 dX3_addTest_25 rfl rfl rfl ?_
    refine Wp.iload_n (pc2 := 29) dX3_addTest_28 rfl rfl ?_
    change Wp _ _ _ _ (_ :: .int (nI (V 3 1)) :: _) _
    refine Wp.cast (pc2 := 30) dX3_addTest_29 rfl rfl (by omega) (by decide) ?_
    refine Wp.heq (hC_a16 _ _ _ _ (by omega)) ?_
    refine Wp.aload_n (pc2 := 31) dX3_addTest_30 rfl rfl ?_
    refine Wp.getf (pc2 := 34) fX3_21 dX3_addTest_31 rfl rfl rfl ?_
    refine Wp.aload_n (pc2 := 35) dX3_addTest_34 rfl rfl ?_
    refine Wp.getf (pc2 := 38) fX3_31 dX3_addTest_35 rfl rfl rfl ?_
    refine Wp.iload_n (pc2 := 39) dX3_addTest_38 rfl rfl ?_
    change Wp _ _ _ _ (_ :: .int (nI (V 3 1)) :: _) _
    refine Wp.cast (pc2 := 40) dX3_addTest_39 rfl rfl (by omega) (by decide) ?_
    refine Wp.heq (hC_a17 _ _ _ _ (by omega)) ?_
    refine Wp.aload_n (pc2 := 41) dX3_addTest_40 rfl rfl ?_
    refine Wp.getf (pc2 := 44) fX3_24 dX3_addTest_41 rfl rfl rfl ?_
    refine Wp.aload_n (pc2 := 45) dX3_addTest_44 rfl rfl ?_
    refine Wp.getf (pc2 := 48) fX3_31 dX3_addTest_45 rfl rfl rfl ?_
    refine Wp.iload (pc2 := 50) dX3_addTest_48 rfl rfl ?_
    change Wp _ _ _ _ (_ :: .int (nI (V 3 1)) :: _) _
    refine Wp.cast (pc2 := 51) dX3_addTest_50 rfl rfl (by omega) (by decide) ?_
    refine Wp.heq (hC_a18 _ _ _ _ (by omega)) ?_
    refine Wp.aload_n (pc2 := 52) dX3_addTest_51 rfl rfl ?_
    refine Wp.dup (pc2 := 53) dX3_addTest_52 rfl rfl ?_
    refine Wp.getf (pc2 := 56) fX3_31 dX3_addTest_53 rfl rfl rfl ?_
    refine Wp.iconN (pc2 := 57) 1 dX3_addTest_56 rfl ?_
    refine Wp.iaddN (pc2 := 58) dX3_addTest_57 rfl  ?_
    change Wp _ _ _ _ (.int (nI (V 3 1 + 1)) :: _) _
    refine Wp.putf (pc2 := 61) gX3_31 dX3_addTest_58 rfl rfl (Nat.le_of_ble_eq_true rfl) rfl rfl ?_
    refine Wp.heq (hC_o13_6 _ _ _) ?_
    refine Wp.aload_n (pc2 := 62) dX3_addTest_61 rfl rfl ?_
    refine Wp.getf (pc2 := 65) fX3_31 dX3_addTest_62 rfl rfl rfl ?_
    refine Wp.iconN (pc2 := 66) 1 dX3_addTest_65 rfl ?_
    refine Wp.isubN (pc2 := 67) dX3_addTest_66 rfl (by simp [vs]) ?_
    refine Wp.ret dX3_addTest_67 rfl rfl ?_
    refine ⟨by simp [vs], ?_⟩
    unfold mTest
    rw [show 4 * 1 + V 3 1 = 4 + V 3 1 by omega]
  · exfalso; omega
theorem x_addTest_ok (t : Nat) (ht : t < 2) (V E : zS) (w p : Nat) (hn : V 3 t < 4) : PM mX3_addTest [.ref (7 + 6 * t), .int (nI (w / 1000)), .int (nI (w / 100 % 10)), .int (nI (w % 100)), .int (nI p)] (hC V E) (fun zr zq => zr = some (.int (nI (V 3 t))) ∧ zq = hC (mTest V t w p) E) := by
  rcases (show t = 0 ∨ t = 1 by omega) with rfl | rfl
  · exact x_addTest_ok_0 V E w p hn
  · exact x_addTest_ok_1 V E w p hn

set_option maxRecDepth 100000 in
set_option maxHeartbeats 4000000 in
theorem x_addTest_no_0 (V E : zS) (a b c p : Nat) (hn : V 3 0 = 4) : PM mX3_addTest [.ref 7, .int (nI a), .int (nI b), .int (nI c), .int (nI p)] (hC V E) (fun zr zq => zr = some (.int (-1)) ∧ zq = hC V E) := by
  refine PM.of (by decide +kernel) (by simp [Value.category]) (Nat.le_of_ble_eq_true rfl) ?_
  refine Wp.aload_n (pc2 := 1) dX3_addTest_0 rfl rfl ?_
  refine Wp.getf (pc2 := 4) fX3_31 dX3_addTest_1 rfl rfl rfl ?_
  refine Wp.iconN (pc2 := 5) 4 dX3_addTest_4 rfl ?_
  refine Wp.icmpN_lt (pc2 := 8) 10 dX3_addTest_5 rfl (by decide) (by omega) (by decide) (fun c5 => ?_) (fun c5 => ?_)
  · exfalso; omega
  · refine Wp.icon (pc2 := 9) dX3_addTest_8 rfl (-1) (by decide +kernel) ?_
    refine Wp.ret dX3_addTest_9 rfl rfl ?_
    exact ⟨rfl, rfl⟩
set_option maxRecDepth 100000 in
set_option maxHeartbeats 4000000 in
theorem x_addTest_no_1 (V E : zS) (a b c p : Nat) (hn : V 3 1 = 4) : PM mX3_addTest [.ref 13, .int (nI a), .int (nI b), .int (nI c), .int (nI p)] (hC V E) (fun zr zq => zr = some (.int (-1)) ∧ zq = hC V E) := by
  refine PM.of (by decide +kernel) (by simp [Value.category]) (Nat.le_of_ble_eq_true rfl) ?_
  refine Wp.aload_n (pc2 := 1) dX3_addTest_0 rfl rfl ?_
  refine Wp.getf (pc2 := 4) fX3_31 dX3_addTest_1 rfl rfl rfl ?_
  refine Wp.iconN (pc2 := 5) 4 dX3_addTest_4 rfl ?_
  refine Wp.icmpN_lt (pc2 := 8) 10 dX3_addTest_5 rfl (by decide) (by omega) (by decide) (fun c5 => ?_) (fun c5 => ?_)
  · exfalso; omega
  · refine Wp.icon (pc2 := 9) dX3_addTest_8 rfl (-1) (by decide +kernel) ?_
    refine Wp.ret dX3_addTest_9 rfl rfl ?_
    exact ⟨rfl, rfl⟩
theorem x_addTest_no (t : Nat) (ht : t < 2) (V E : zS) (a b c p : Nat) (hn : V 3 t = 4) : PM mX3_addTest [.ref (7 + 6 * t), .int (nI a), .int (nI b), .int (nI c), .int (nI p)] (hC V E) (fun zr zq => zr = some (.int (-1)) ∧ zq = hC V E) := by
  rcases (show t = 0 ∨ t = 1 by omega) with rfl | rfl
  · exact x_addTest_no_0 V E a b c p hn
  · exact x_addTest_no_1 V E a b c p hn

set_option maxRecDepth 100000 in
set_option maxHeartbeats 4000000 in
theorem x_mEmpty (V E : zS) : PM mX0_empty [.ref 4] (hC V E) (fun zr zq => zr = none ∧ zq = hC (vs (vs V 0 23 0) 0 28 0) E) := by
  refine PM.of (by decide +kernel) (by simp [Value.category]) (Nat.le_of_ble_eq_true rfl) ?_
  refine Wp.aload_n (pc2 := 1) dX0_empty_0 rfl rfl ?_
  refine Wp.iconN (pc2 := 2) 0 dX0_empty_1 rfl ?_
  refine Wp.putf (pc2 := 5) gX0_19 dX0_empty_2 rfl rfl (Nat.le_of_ble_eq_true rfl) rfl rfl ?_
  refine Wp.heq (hC_o4_2 _ _ _) ?_
  refine Wp.aload_n (pc2 := 6) dX0_empty_5 rfl rfl ?_
  refine Wp.iconN (pc2 := 7) 0 dX0_empty_6 rfl ?_
  refine Wp.putf (pc2 := 10) gX0_22 dX0_empty_7 rfl rfl (Nat.le_of_ble_eq_true rfl) rfl rfl ?_
  refine Wp.heq (hC_o4_3 _ _ _) ?_
  refine Wp.retv dX0_empty_10 rfl ?_
  exact ⟨rfl, rfl⟩

set_option maxRecDepth 100000 in
set_option maxHeartbeats 4000000 in
theorem x_mSize (V E : zS) (h : V 0 28 ≤ V 0 23) : PM mX0_size [.ref 4] (hC V E) (fun zr zq => zr = some (.int (nI (V 0 23 - V 0 28))) ∧ zq = hC V E) := by
  refine PM.of (by decide +kernel) (by simp [Value.category]) (Nat.le_of_ble_eq_true rfl) ?_
  refine Wp.aload_n (pc2 := 1) dX0_size_0 rfl rfl ?_
  refine Wp.getf (pc2 := 4) fX0_19 dX0_size_1 rfl rfl rfl ?_
  refine Wp.aload_n (pc2 := 5) dX0_size_4 rfl rfl ?_
  refine Wp.getf (pc2 := 8) fX0_22 dX0_size_5 rfl rfl rfl ?_
  refine Wp.isubN (pc2 := 9) dX0_size_8 rfl (by omega) ?_
  refine Wp.ret dX0_size_9 rfl rfl ?_
  exact ⟨rfl, rfl⟩

set_option maxRecDepth 100000 in
set_option maxHeartbeats 4000000 in
theorem x_mTake (V E : zS) (t r : Nat) (h : V 0 23 < 100) : PM mX0_take [.ref 4, .int (nI t), .int (nI r)] (hC V E) (fun zr zq => zr = none ∧ zq = hC (vs (vs V 22 (V 0 23) (50 * t + r)) 0 23 (V 0 23 + 1)) E) := by
  refine PM.of (by decide +kernel) (by simp [Value.category]) (Nat.le_of_ble_eq_true rfl) ?_
  refine Wp.aload_n (pc2 := 1) dX0_take_0 rfl rfl ?_
  refine Wp.getf (pc2 := 4) fX0_19 dX0_take_1 rfl rfl rfl ?_
  refine Wp.aload_n (pc2 := 5) dX0_take_4 rfl rfl ?_
  refine Wp.getf (pc2 := 8) fX0_9 dX0_take_5 rfl rfl rfl ?_
  refine Wp.alen (pc2 := 9) dX0_take_8 rfl rfl (by decide) ?_
  refine Wp.icmpN_ge (pc2 := 12) 37 dX0_take_9 rfl (by decide) (by omega) (by decide) (fun c9 => ?_) (fun c9 => ?_)
  · refine Wp.retv dX0_take_37 rfl ?_
    exfalso; omega
  · refine Wp.aload_n (pc2 := 13) dX0_take_12 rfl rfl ?_
    refine Wp.getf (pc2 := 16) fX0_9 dX0_take_13 rfl rfl rfl ?_
    refine Wp.aload_n (pc2 := 17) dX0_take_16 rfl rfl ?_
    refine Wp.getf (pc2 := 20) fX0_19 dX0_take_17 rfl rfl rfl ?_
    refine Wp.iload_n (pc2 := 21) dX0_take_20 rfl rfl ?_
    refine Wp.bipN (pc2 := 23) 50 dX0_take_21 rfl (by decide +kernel) ?_
    refine Wp.imulN (pc2 := 24) dX0_take_23 rfl  ?_
    refine Wp.iload_n (pc2 := 25) dX0_take_24 rfl rfl ?_
    refine Wp.iaddN (pc2 := 26) dX0_take_25 rfl  ?_
    refine Wp.iastN (pc2 := 27) dX0_take_26 rfl rfl (by omega) (by decide) ?_
    refine Wp.heq (hC_a35 _ _ _ _) ?_
    refine Wp.aload_n (pc2 := 28) dX0_take_27 rfl rfl ?_
    refine Wp.dup (pc2 := 29) dX0_take_28 rfl rfl ?_
    refine Wp.getf (pc2 := 32) fX0_19 dX0_take_29 rfl rfl rfl ?_
    refine Wp.iconN (pc2 := 33) 1 dX0_take_32 rfl ?_
    refine Wp.iaddN (pc2 := 34) dX0_take_33 rfl  ?_
    change Wp _ _ _ _ (.int (nI (V 0 23 + 1)) :: _) _
    refine Wp.putf (pc2 := 37) gX0_19 dX0_take_34 rfl rfl (Nat.le_of_ble_eq_true rfl) rfl rfl ?_
    refine Wp.heq (hC_o4_2 _ _ _) ?_
    refine Wp.retv dX0_take_37 rfl ?_
    rw [Nat.mul_comm t 50]
    exact ⟨rfl, rfl⟩

set_option maxRecDepth 100000 in
set_option maxHeartbeats 4000000 in
theorem x_mTableAt (V E : zS) (i : Nat) (hV : BV V) (h : i < 100) : PM mX0_tableAt [.ref 4, .int (nI i)] (hC V E) (fun zr zq => zr = some (.int (nI (V 22 i / 50))) ∧ zq = hC V E) := by
  refine PM.of (by decide +kernel) (by simp [Value.category]) (Nat.le_of_ble_eq_true rfl) ?_
  refine Wp.aload_n (pc2 := 1) dX0_tableAt_0 rfl rfl ?_
  refine Wp.getf (pc2 := 4) fX0_9 dX0_tableAt_1 rfl rfl rfl ?_
  refine Wp.iload_n (pc2 := 5) dX0_tableAt_4 rfl rfl ?_
  refine Wp.ialdN (pc2 := 6) dX0_tableAt_5 rfl rfl (by omega) (by decide) ?_
  refine Wp.bipN (pc2 := 8) 50 dX0_tableAt_6 rfl (by decide +kernel) ?_
  refine Wp.idivN (pc2 := 9) dX0_tableAt_8 rfl (hV.l _ _) (by decide) (by decide) ?_
  refine Wp.ret dX0_tableAt_9 rfl rfl ?_
  exact ⟨rfl, rfl⟩

set_option maxRecDepth 100000 in
set_option maxHeartbeats 4000000 in
theorem x_mRowAt (V E : zS) (i : Nat) (hV : BV V) (h : i < 100) : PM mX0_rowAt [.ref 4, .int (nI i)] (hC V E) (fun zr zq => zr = some (.int (nI (V 22 i % 50))) ∧ zq = hC V E) := by
  refine PM.of (by decide +kernel) (by simp [Value.category]) (Nat.le_of_ble_eq_true rfl) ?_
  refine Wp.aload_n (pc2 := 1) dX0_rowAt_0 rfl rfl ?_
  refine Wp.getf (pc2 := 4) fX0_9 dX0_rowAt_1 rfl rfl rfl ?_
  refine Wp.iload_n (pc2 := 5) dX0_rowAt_4 rfl rfl ?_
  refine Wp.ialdN (pc2 := 6) dX0_rowAt_5 rfl rfl (by omega) (by decide) ?_
  refine Wp.bipN (pc2 := 8) 50 dX0_rowAt_6 rfl (by decide +kernel) ?_
  refine Wp.iremN (pc2 := 9) dX0_rowAt_8 rfl (hV.l _ _) (by decide) (by decide) ?_
  refine Wp.ret dX0_rowAt_9 rfl rfl ?_
  exact ⟨rfl, rfl⟩

set_option maxRecDepth 100000 in
set_option maxHeartbeats 4000000 in
theorem x_pGive (V E : zS) (a b : Nat) (ha : 50 * a + b < 2500) (hg : V 0 26 < 2500) : PM mX1_give [.ref 5, .int (nI a), .int (nI b)] (hC V E) (fun zr zq => zr = none ∧ zq = hC (mGive V a b) E) := by
  refine PM.of (by decide +kernel) (by simp [Value.category]) (Nat.le_of_ble_eq_true rfl) ?_
  refine Wp.aload_n (pc2 := 1) dX1_give_0 rfl rfl ?_
  refine Wp.getf (pc2 := 4) fX1_19 dX1_give_1 rfl rfl rfl ?_
  refine Wp.aload_n (pc2 := 5) dX1_give_4 rfl rfl ?_
  refine Wp.getf (pc2 := 8) fX1_9 dX1_give_5 rfl rfl rfl ?_
  refine Wp.alen (pc2 := 9) dX1_give_8 rfl rfl (by decide) ?_
  refine Wp.icmpN_ge (pc2 := 12) 46 dX1_give_9 rfl (by decide) (by omega) (by decide) (fun c9 => ?_) (fun c9 => ?_)
  · refine Wp.retv dX1_give_46 rfl ?_
    exfalso; omega
  · refine Wp.iload_n (pc2 := 13) dX1_give_12 rfl rfl ?_
    refine Wp.bipN (pc2 := 15) 50 dX1_give_13 rfl (by decide +kernel) ?_
    refine Wp.imulN (pc2 := 16) dX1_give_15 rfl  ?_
    refine Wp.iload_n (pc2 := 17) dX1_give_16 rfl rfl ?_
    refine Wp.iaddN (pc2 := 18) dX1_give_17 rfl  ?_
    refine Wp.istore_n (pc2 := 19) dX1_give_18 rfl (by decide) rfl ?_
    refine Wp.aload_n (pc2 := 20) dX1_give_19 rfl rfl ?_
    refine Wp.getf (pc2 := 23) fX1_9 dX1_give_20 rfl rfl rfl ?_
    refine Wp.aload_n (pc2 := 24) dX1_give_23 rfl rfl ?_
    refine Wp.getf (pc2 := 27) fX1_19 dX1_give_24 rfl rfl rfl ?_
    refine Wp.iload_n (pc2 := 28) dX1_give_27 rfl rfl ?_
    refine Wp.iastN (pc2 := 29) dX1_give_28 rfl rfl (by omega) (by decide) ?_
    refine Wp.heq (hC_a36 _ _ _ _) ?_
    refine Wp.aload_n (pc2 := 30) dX1_give_29 rfl rfl ?_
    refine Wp.getf (pc2 := 33) fX1_15 dX1_give_30 rfl rfl rfl ?_
    refine Wp.iload_n (pc2 := 34) dX1_give_33 rfl rfl ?_
    refine Wp.iconN (pc2 := 35) 1 dX1_give_34 rfl ?_
    refine Wp.zastN (pc2 := 36) dX1_give_35 rfl rfl (by omega) (by decide) (by decide +kernel) ?_
    refine Wp.heq (hC_a37 _ _ _ _) ?_
    refine Wp.aload_n (pc2 := 37) dX1_give_36 rfl rfl ?_
    refine Wp.dup (pc2 := 38) dX1_give_37 rfl rfl ?_
    refine Wp.getf (pc2 := 41) fX1_19 dX1_give_38 rfl rfl rfl ?_
    refine Wp.iconN (pc2 := 42) 1 dX1_give_41 rfl ?_
    refine Wp.iaddN (pc2 := 43) dX1_give_42 rfl  ?_
    change Wp _ _ _ _ (.int (nI (V 0 26 + 1)) :: _) _
    refine Wp.putf (pc2 := 46) gX1_19 dX1_give_43 rfl rfl (Nat.le_of_ble_eq_true rfl) rfl rfl ?_
    refine Wp.heq (hC_o5_2 _ _ _) ?_
    refine Wp.retv dX1_give_46 rfl ?_
    refine ⟨rfl, ?_⟩
    have e : vs (vs (vs V 21 (V 0 26) (a * 50 + b)) 20 (a * 50 + b) 1) 0 26 (V 0 26 + 1) = mGive V a b := by
      unfold mGive
      rw [Nat.mul_comm a 50]
      congr 1
      funext x y
      unfold vs
      by_cases q1 : x = 20 <;> by_cases q2 : x = 21 <;> simp [q1, q2]
    rw [e]

set_option maxRecDepth 100000 in
set_option maxHeartbeats 4000000 in
theorem x_pHas (V E : zS) (a b : Nat) (ha : 50 * a + b < 2500) (h1 : V 20 (50 * a + b) ≤ 1) : PM mX1_has [.ref 5, .int (nI a), .int (nI b)] (hC V E) (fun zr zq => zbo (V 20 (50 * a + b) ≠ 0) zr ∧ zq = hC V E) := by
  refine PM.of (by decide +kernel) (by simp [Value.category]) (Nat.le_of_ble_eq_true rfl) ?_
  refine Wp.aload_n (pc2 := 1) dX1_has_0 rfl rfl ?_
  refine Wp.getf (pc2 := 4) fX1_15 dX1_has_1 rfl rfl rfl ?_
  refine Wp.iload_n (pc2 := 5) dX1_has_4 rfl rfl ?_
  refine Wp.bipN (pc2 := 7) 50 dX1_has_5 rfl (by decide +kernel) ?_
  refine Wp.imulN (pc2 := 8) dX1_has_7 rfl  ?_
  refine Wp.iload_n (pc2 := 9) dX1_has_8 rfl rfl ?_
  refine Wp.iaddN (pc2 := 10) dX1_has_9 rfl  ?_
  refine Wp.zaldN (pc2 := 11) dX1_has_10 rfl rfl (by omega) (by decide) ?_
  refine Wp.ret dX1_has_11 rfl (by rw [Nat.mul_comm a 50]; rcases (show V 20 (50 * a + b) = 0 ∨ V 20 (50 * a + b) = 1 by omega) with e | e <;> rw [e] <;> decide +kernel) ?_
  rw [Nat.mul_comm a 50]
  rcases (show V 20 (50 * a + b) = 0 ∨ V 20 (50 * a + b) = 1 by omega) with e | e
  · rw [e]; exact ⟨zbo_f (fun z => z rfl), rfl⟩
  · rw [e]; exact ⟨zbo_t (by decide), rfl⟩

set_option maxRecDepth 100000 in
set_option maxHeartbeats 4000000 in
theorem x_pRowOf (V E : zS) (i t : Nat) (hV : BV V) (hi : i < 2500) (ht : t < 2) : PM mX1_rowOf [.ref 5, .int (nI i), .int (nI t)] (hC V E) (fun zr zq => zr = some (.int (nI (mGiven V i t))) ∧ zq = hC V E) := by
  refine PM.of (by decide +kernel) (by simp [Value.category]) (Nat.le_of_ble_eq_true rfl) ?_
  refine Wp.iload_n (pc2 := 1) dX1_rowOf_0 rfl rfl ?_
  refine Wp.ifN_ne (pc2 := 4) 16 dX1_rowOf_1 rfl (by decide) (by omega) (fun c1 => ?_) (fun c1 => ?_)
  · refine Wp.aload_n (pc2 := 17) dX1_rowOf_16 rfl rfl ?_
    refine Wp.getf (pc2 := 20) fX1_9 dX1_rowOf_17 rfl rfl rfl ?_
    refine Wp.iload_n (pc2 := 21) dX1_rowOf_20 rfl rfl ?_
    refine Wp.ialdN (pc2 := 22) dX1_rowOf_21 rfl rfl (by omega) (by decide) ?_
    refine Wp.bipN (pc2 := 24) 50 dX1_rowOf_22 rfl (by decide +kernel) ?_
    refine Wp.iremN (pc2 := 25) dX1_rowOf_24 rfl (hV.l _ _) (by decide) (by decide) ?_
    refine Wp.ret dX1_rowOf_25 rfl rfl ?_
    unfold mGiven
    first
      | (rw [if_pos c1]; exact ⟨rfl, rfl⟩)
      | (rw [if_neg c1]; exact ⟨rfl, rfl⟩)
  · refine Wp.aload_n (pc2 := 5) dX1_rowOf_4 rfl rfl ?_
    refine Wp.getf (pc2 := 8) fX1_9 dX1_rowOf_5 rfl rfl rfl ?_
    refine Wp.iload_n (pc2 := 9) dX1_rowOf_8 rfl rfl ?_
    refine Wp.ialdN (pc2 := 10) dX1_rowOf_9 rfl rfl (by omega) (by decide) ?_
    refine Wp.bipN (pc2 := 12) 50 dX1_rowOf_10 rfl (by decide +kernel) ?_
    refine Wp.idivN (pc2 := 13) dX1_rowOf_12 rfl (hV.l _ _) (by decide) (by decide) ?_
    refine Wp.goto (pc2 := 25) dX1_rowOf_13 (by decide) ?_
    refine Wp.ret dX1_rowOf_25 rfl rfl ?_
    unfold mGiven
    first
      | (rw [if_pos c1]; exact ⟨rfl, rfl⟩)
      | (rw [if_neg c1]; exact ⟨rfl, rfl⟩)

def clrG (V : zS) : Nat → zS
  | 0 => V
  | n + 1 => vs (clrG V n) 20 (V 21 n) 0
theorem clrG_o {V : zS} {a b : Nat} (h : a ≠ 20) : ∀ n, clrG V n a b = V a b
  | 0 => rfl
  | n + 1 => by
    show vs _ 20 _ 0 a b = _
    rw [vs_k _ h, clrG_o h n]

set_option maxRecDepth 100000 in
set_option maxHeartbeats 4000000 in
theorem x_pEmpty_l (V E : zS) (hg : GI V) : ∀ (n k : Nat), k + n = V 0 26 → Wp mX1_empty (fun zr zq => zr = none ∧ zq = hC (vs (clrG V (V 0 26)) 0 26 0) E) 2 [.ref 5, .int (nI k)] [] (hC (clrG V k) E) := by
  have h26 := GI_le hg
  have e26 : ∀ n, clrG V n 0 26 = V 0 26 := fun n => clrG_o (by decide) n
  have e21 : ∀ n j, clrG V n 21 j = V 21 j := fun n j => clrG_o (by decide) n
  intro n
  induction n with
  | zero =>
    intro k hk
    have e : k = V 0 26 := by omega
    subst e
    refine Wp.iload_n (pc2 := 3) dX1_empty_2 rfl rfl ?_
    refine Wp.aload_n (pc2 := 4) dX1_empty_3 rfl rfl ?_
    refine Wp.getf (pc2 := 7) fX1_19 dX1_empty_4 rfl rfl rfl ?_
    refine Wp.icmpN_ge (pc2 := 10) 28 dX1_empty_7 rfl (by decide) (by omega) (by rw [e26]; omega) (fun c7 => ?_) (fun c7 => ?_)
    · refine Wp.aload_n (pc2 := 29) dX1_empty_28 rfl rfl ?_
      refine Wp.iconN (pc2 := 30) 0 dX1_empty_29 rfl ?_
      refine Wp.putf (pc2 := 33) gX1_19 dX1_empty_30 rfl rfl (Nat.le_of_ble_eq_true rfl) rfl rfl ?_
      refine Wp.heq (hC_o5_2 _ _ _) ?_
      refine Wp.retv dX1_empty_33 rfl ?_
      exact ⟨rfl, rfl⟩
    · rw [e26] at c7
      exfalso; omega
  | succ n ih =>
    intro k hk
    have hl := (hg.1 k (by omega)).1
    refine Wp.iload_n (pc2 := 3) dX1_empty_2 rfl rfl ?_
    refine Wp.aload_n (pc2 := 4) dX1_empty_3 rfl rfl ?_
    refine Wp.getf (pc2 := 7) fX1_19 dX1_empty_4 rfl rfl rfl ?_
    refine Wp.icmpN_ge (pc2 := 10) 28 dX1_empty_7 rfl (by decide) (by omega) (by rw [e26]; omega) (fun c7 => ?_) (fun c7 => ?_)
    · rw [e26] at c7
      exfalso; omega
    · refine Wp.aload_n (pc2 := 11) dX1_empty_10 rfl rfl ?_
      refine Wp.getf (pc2 := 14) fX1_15 dX1_empty_11 rfl rfl rfl ?_
      refine Wp.aload_n (pc2 := 15) dX1_empty_14 rfl rfl ?_
      refine Wp.getf (pc2 := 18) fX1_9 dX1_empty_15 rfl rfl rfl ?_
      refine Wp.iload_n (pc2 := 19) dX1_empty_18 rfl rfl ?_
      refine Wp.ialdN (pc2 := 20) dX1_empty_19 rfl rfl (by omega) (by decide) ?_
      rw [e21]
      refine Wp.iconN (pc2 := 21) 0 dX1_empty_20 rfl ?_
      refine Wp.zastN (pc2 := 22) dX1_empty_21 rfl rfl (by omega) (by decide) (by decide +kernel) ?_
      refine Wp.heq (hC_a37 _ _ _ _) ?_
      refine Wp.iincN (pc2 := 25) dX1_empty_22 rfl rfl (by decide) rfl ?_
      refine Wp.goto (pc2 := 2) dX1_empty_25 (by decide) ?_
      exact ih (k + 1) (by omega)

set_option maxRecDepth 100000 in
set_option maxHeartbeats 4000000 in
theorem x_pEmpty (V E : zS) (hg : GI V) : PM mX1_empty [.ref 5] (hC V E) (fun zr zq => zr = none ∧ zq = hC (vs (clrG V (V 0 26)) 0 26 0) E) := by
  refine PM.of (by decide +kernel) (by simp [Value.category]) (Nat.le_of_ble_eq_true rfl) ?_
  refine Wp.iconN (pc2 := 1) 0 dX1_empty_0 rfl ?_
  refine Wp.istore_n (pc2 := 2) dX1_empty_1 rfl (by decide) rfl ?_
  exact x_pEmpty_l V E hg (V 0 26) 0 (by omega)

