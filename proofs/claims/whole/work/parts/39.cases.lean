theorem kL_13 : zK mL mX4_row 13 4 := ⟨by decide, zT_t 195 (by decide +kernel) (by decide +kernel), zT_t 192 (by decide +kernel) (by decide +kernel), zT_t 1 (by decide +kernel) (by decide +kernel), by decide +kernel⟩
theorem kL_18 : zK mL mX4_test 18 3 := ⟨by decide, zT_t 209 (by decide +kernel) (by decide +kernel), zT_t 206 (by decide +kernel) (by decide +kernel), zT_t 1 (by decide +kernel) (by decide +kernel), by decide +kernel⟩
theorem kL_23 : zK mL mX4_join 23 2 := ⟨by decide, zT_t 220 (by decide +kernel) (by decide +kernel), zT_t 217 (by decide +kernel) (by decide +kernel), zT_t 1 (by decide +kernel) (by decide +kernel), by decide +kernel⟩
theorem kL_28 : zK mL mX4_ask 28 0 := ⟨by decide, zT_t 224 (by decide +kernel) (by decide +kernel), zT_t 221 (by decide +kernel) (by decide +kernel), zT_t 1 (by decide +kernel) (by decide +kernel), by decide +kernel⟩
theorem kL_33 : zK mL mX4_stop 33 0 := ⟨by decide, zT_t 279 (by decide +kernel) (by decide +kernel), zT_t 276 (by decide +kernel) (by decide +kernel), zT_t 1 (by decide +kernel) (by decide +kernel), by decide +kernel⟩
theorem kL_37 : zK mL mX4_go 37 1 := ⟨by decide, zT_t 283 (by decide +kernel) (by decide +kernel), zT_t 280 (by decide +kernel) (by decide +kernel), zT_t 1 (by decide +kernel) (by decide +kernel), by decide +kernel⟩
theorem kL_42 : zK mL mX4_memory 42 1 := ⟨by decide, zT_t 368 (by decide +kernel) (by decide +kernel), zT_t 365 (by decide +kernel) (by decide +kernel), zT_t 1 (by decide +kernel) (by decide +kernel), by decide +kernel⟩
theorem kL_47 : zK mL mX4_force 47 1 := ⟨by decide, zT_t 372 (by decide +kernel) (by decide +kernel), zT_t 369 (by decide +kernel) (by decide +kernel), zT_t 1 (by decide +kernel) (by decide +kernel), by decide +kernel⟩
theorem kL_51 : zK mL mX4_order 51 2 := ⟨by decide, zT_t 376 (by decide +kernel) (by decide +kernel), zT_t 373 (by decide +kernel) (by decide +kernel), zT_t 1 (by decide +kernel) (by decide +kernel), by decide +kernel⟩
theorem kL_55 : zK mL mX4_ordered 55 2 := ⟨by decide, zT_t 388 (by decide +kernel) (by decide +kernel), zT_t 385 (by decide +kernel) (by decide +kernel), zT_t 1 (by decide +kernel) (by decide +kernel), by decide +kernel⟩
theorem kL_60 : zK mL mX4_told 60 3 := ⟨by decide, zT_t 392 (by decide +kernel) (by decide +kernel), zT_t 389 (by decide +kernel) (by decide +kernel), zT_t 1 (by decide +kernel) (by decide +kernel), by decide +kernel⟩
theorem kL_64 : zK mL mX4_given 64 2 := ⟨by decide, zT_t 396 (by decide +kernel) (by decide +kernel), zT_t 393 (by decide +kernel) (by decide +kernel), zT_t 1 (by decide +kernel) (by decide +kernel), by decide +kernel⟩
theorem kL_68 : zK mL mX4_where 68 2 := ⟨by decide, zT_t 404 (by decide +kernel) (by decide +kernel), zT_t 401 (by decide +kernel) (by decide +kernel), zT_t 1 (by decide +kernel) (by decide +kernel), by decide +kernel⟩
theorem kL_72 : zK mL mX4_sum 72 2 := ⟨by decide, zT_t 408 (by decide +kernel) (by decide +kernel), zT_t 405 (by decide +kernel) (by decide +kernel), zT_t 1 (by decide +kernel) (by decide +kernel), by decide +kernel⟩
theorem kL_76 : zK mL mX4_plain 76 0 := ⟨by decide, zT_t 412 (by decide +kernel) (by decide +kernel), zT_t 409 (by decide +kernel) (by decide +kernel), zT_t 1 (by decide +kernel) (by decide +kernel), by decide +kernel⟩
theorem kL_81 : zK mL mX4_fixed 81 1 := ⟨by decide, zT_t 422 (by decide +kernel) (by decide +kernel), zT_t 419 (by decide +kernel) (by decide +kernel), zT_t 1 (by decide +kernel) (by decide +kernel), by decide +kernel⟩
theorem kL_85 : zK mL mX4_cost 85 1 := ⟨by decide, zT_t 441 (by decide +kernel) (by decide +kernel), zT_t 438 (by decide +kernel) (by decide +kernel), zT_t 1 (by decide +kernel) (by decide +kernel), by decide +kernel⟩
theorem kL_89 : zK mL mX4_count 89 1 := ⟨by decide, zT_t 445 (by decide +kernel) (by decide +kernel), zT_t 442 (by decide +kernel) (by decide +kernel), zT_t 1 (by decide +kernel) (by decide +kernel), by decide +kernel⟩
theorem kL_17 : zK mL mX5_row 17 4 := ⟨by decide, zT_t 553 (by decide +kernel) (by decide +kernel), zT_t 550 (by decide +kernel) (by decide +kernel), zT_t 6 (by decide +kernel) (by decide +kernel), by decide +kernel⟩
theorem kL_22 : zK mL mX5_test 22 3 := ⟨by decide, zT_t 563 (by decide +kernel) (by decide +kernel), zT_t 560 (by decide +kernel) (by decide +kernel), zT_t 6 (by decide +kernel) (by decide +kernel), by decide +kernel⟩
theorem kL_27 : zK mL mX5_join 27 2 := ⟨by decide, zT_t 567 (by decide +kernel) (by decide +kernel), zT_t 564 (by decide +kernel) (by decide +kernel), zT_t 6 (by decide +kernel) (by decide +kernel), by decide +kernel⟩
theorem kL_32 : zK mL mX5_ask 32 0 := ⟨by decide, zT_t 571 (by decide +kernel) (by decide +kernel), zT_t 568 (by decide +kernel) (by decide +kernel), zT_t 6 (by decide +kernel) (by decide +kernel), by decide +kernel⟩
theorem kL_36 : zK mL mX5_stop 36 0 := ⟨by decide, zT_t 595 (by decide +kernel) (by decide +kernel), zT_t 592 (by decide +kernel) (by decide +kernel), zT_t 6 (by decide +kernel) (by decide +kernel), by decide +kernel⟩
theorem kL_41 : zK mL mX5_go 41 1 := ⟨by decide, zT_t 599 (by decide +kernel) (by decide +kernel), zT_t 596 (by decide +kernel) (by decide +kernel), zT_t 6 (by decide +kernel) (by decide +kernel), by decide +kernel⟩
theorem kL_46 : zK mL mX5_memory 46 1 := ⟨by decide, zT_t 643 (by decide +kernel) (by decide +kernel), zT_t 640 (by decide +kernel) (by decide +kernel), zT_t 6 (by decide +kernel) (by decide +kernel), by decide +kernel⟩
theorem kL_50 : zK mL mX5_force 50 1 := ⟨by decide, zT_t 647 (by decide +kernel) (by decide +kernel), zT_t 644 (by decide +kernel) (by decide +kernel), zT_t 6 (by decide +kernel) (by decide +kernel), by decide +kernel⟩
theorem kL_54 : zK mL mX5_order 54 2 := ⟨by decide, zT_t 651 (by decide +kernel) (by decide +kernel), zT_t 648 (by decide +kernel) (by decide +kernel), zT_t 6 (by decide +kernel) (by decide +kernel), by decide +kernel⟩
theorem kL_59 : zK mL mX5_ordered 59 2 := ⟨by decide, zT_t 655 (by decide +kernel) (by decide +kernel), zT_t 652 (by decide +kernel) (by decide +kernel), zT_t 6 (by decide +kernel) (by decide +kernel), by decide +kernel⟩
theorem kL_63 : zK mL mX5_told 63 3 := ⟨by decide, zT_t 659 (by decide +kernel) (by decide +kernel), zT_t 656 (by decide +kernel) (by decide +kernel), zT_t 6 (by decide +kernel) (by decide +kernel), by decide +kernel⟩
theorem kL_67 : zK mL mX5_given 67 2 := ⟨by decide, zT_t 663 (by decide +kernel) (by decide +kernel), zT_t 660 (by decide +kernel) (by decide +kernel), zT_t 6 (by decide +kernel) (by decide +kernel), by decide +kernel⟩
theorem kL_71 : zK mL mX5_where 71 2 := ⟨by decide, zT_t 667 (by decide +kernel) (by decide +kernel), zT_t 664 (by decide +kernel) (by decide +kernel), zT_t 6 (by decide +kernel) (by decide +kernel), by decide +kernel⟩
theorem kL_75 : zK mL mX5_sum 75 2 := ⟨by decide, zT_t 671 (by decide +kernel) (by decide +kernel), zT_t 668 (by decide +kernel) (by decide +kernel), zT_t 6 (by decide +kernel) (by decide +kernel), by decide +kernel⟩
theorem kL_80 : zK mL mX5_plain 80 0 := ⟨by decide, zT_t 676 (by decide +kernel) (by decide +kernel), zT_t 673 (by decide +kernel) (by decide +kernel), zT_t 6 (by decide +kernel) (by decide +kernel), by decide +kernel⟩
theorem kL_84 : zK mL mX5_fixed 84 1 := ⟨by decide, zT_t 684 (by decide +kernel) (by decide +kernel), zT_t 681 (by decide +kernel) (by decide +kernel), zT_t 6 (by decide +kernel) (by decide +kernel), by decide +kernel⟩
theorem kL_88 : zK mL mX5_cost 88 1 := ⟨by decide, zT_t 692 (by decide +kernel) (by decide +kernel), zT_t 689 (by decide +kernel) (by decide +kernel), zT_t 6 (by decide +kernel) (by decide +kernel), by decide +kernel⟩
theorem kL_92 : zK mL mX5_count 92 1 := ⟨by decide, zT_t 696 (by decide +kernel) (by decide +kernel), zT_t 693 (by decide +kernel) (by decide +kernel), zT_t 6 (by decide +kernel) (by decide +kernel), by decide +kernel⟩
/-- both worlds, side by side -/
def lSt (s : State) (D : va_G) (kA : Nat → ClassId) (u1 u2 : Nat → Nat) (V E : zS) (H : Heap) (locs : List Loc) : Prop := va_P D vwCl (zw u1 kA (hC V E) ++ zw u2 kA (hM V)) H ∧ va_D (fun q : Nat => s.heap.size ≤ q) (zw u1 kA (hC V E) ++ zw u2 kA (hM V)) ∧ va_S (fun q : Nat => s.heap.size ≤ q) s.heap H locs
theorem vp_k {k L : Nat} (j : Nat) (h : k + j < L) (hL : L ≤ 2560) : vp_in (nI k + nI j) L := by
  rw [nI_add]
  exact vp_in_nI h (by omega)

set_option maxRecDepth 100000 in
set_option maxHeartbeats 4000000 in
theorem lc_row {p : Program} {l : Launch} {e : Env} {s : State} {m : MethodId} {below : List Frame} {meth : Method} {c : Code} {b L : Nat} {xs : Nat → Int32} {D : va_G} {kA : Nat → ClassId} {u1 u2 : Nat → Nat} {Q : State → Prop} (hL : L ≤ 2560) (C0 : lw_At p s m meth c b L xs) (hK : va_K D vwCl (zt kA) s) {k : Nat} (hk5 : k + 5 ≤ L) {V E : zS} (h : SI V E) {H : Heap} {locs : List Loc} (hW : lSt s D kA u1 u2 V E H locs) {ls : Array Slot} (hl : lv_has ls 4 [(0, .ref b), (1, .ref (u1 0)), (2, .ref (u2 0)), (3, .int (nI k))])
    (kk : ∀ (V' E' : zS) (H' : Heap) (locs' : List Loc), SI V' E' → lSt s D kA u1 u2 V' E' H' locs' → W p l e room_1 s m #[Value.ref b] below meth c H' locs' 60 11469 Q (F0 m 634 ls [])) : W p l e room_1 s m #[Value.ref b] below meth c H locs 60 11469 Q (F0 m 120 ls []) := by
  obtain ⟨hx, hb, hr, hml, hown, hts0, hX, hbl, hlocks, hgv⟩ := C0
  have hts : ∀ w ∈ zT, w.before #[Value.ref b] s = true := fun w hw => hts0 w (List.mem_filter.mp hw).1
  obtain ⟨hP, hD, hS⟩ := hW
  have hA : ∀ q : Nat, s.heap.size ≤ q → (fun q : Nat => s.heap.size ≤ q) q := fun _ h => h
  have hbA : ¬ (fun q : Nat => s.heap.size ≤ q) b := Nat.not_le.mpr hbl
  obtain ⟨r, V', hPM, hPX⟩ := P_row h (xs (nI k + nI 1).toNatClampNeg) (xs (nI k + nI 2).toNatClampNeg) (xs (nI k + nI 3).toNatClampNeg) (xs (nI k + nI 4).toNatClampNeg)
  refine lv_aload_n hx hb dL_law_120 rfl (lv_at hl 1 rfl) ?_
  refine lv_aload_n hx hb dL_law_121 rfl (lv_at hl 0 rfl) ?_
  refine lv_iload_n hx hb dL_law_122 rfl (lv_at hl 3 rfl) ?_
  refine lv_iconst (v := nI 1) hx hb dL_law_123 (by decide +kernel) ?_
  refine lv_iadd hx hb dL_law_124 ?_
  refine va_sld hx hb hX hbl hbA hS (vp_k 1 (by omega) hL) dL_law_125 ?_
  refine lv_aload_n hx hb dL_law_126 rfl (lv_at hl 0 rfl) ?_
  refine lv_iload_n hx hb dL_law_127 rfl (lv_at hl 3 rfl) ?_
  refine lv_iconst (v := nI 2) hx hb dL_law_128 (by decide +kernel) ?_
  refine lv_iadd hx hb dL_law_129 ?_
  refine va_sld hx hb hX hbl hbA hS (vp_k 2 (by omega) hL) dL_law_130 ?_
  refine lv_aload_n hx hb dL_law_131 rfl (lv_at hl 0 rfl) ?_
  refine lv_iload_n hx hb dL_law_132 rfl (lv_at hl 3 rfl) ?_
  refine lv_iconst (v := nI 3) hx hb dL_law_133 (by decide +kernel) ?_
  refine lv_iadd hx hb dL_law_134 ?_
  refine va_sld hx hb hX hbl hbA hS (vp_k 3 (by omega) hL) dL_law_135 ?_
  refine lv_aload_n hx hb dL_law_136 rfl (lv_at hl 0 rfl) ?_
  refine lv_iload_n hx hb dL_law_137 rfl (lv_at hl 3 rfl) ?_
  refine lv_iconst (v := nI 4) hx hb dL_law_138 (by decide +kernel) ?_
  refine lv_iadd hx hb dL_law_139 ?_
  refine va_sld hx hb hX hbl hbA hS (vp_k 4 (by omega) hL) dL_law_140 ?_
  refine lw_call (As := [.int (xs (nI k + nI 1).toNatClampNeg), .int (xs (nI k + nI 2).toNatClampNeg), .int (xs (nI k + nI 3).toNatClampNeg), .int (xs (nI k + nI 4).toNatClampNeg)]) (rest := []) hx hb hml hown hts hA hK kL_13 vX4_row hPX rfl rfl rfl rfl hP hD hS _ _ (rgX u1 u2 kA V E V).1 (rgX u1 u2 kA V E V).2 (by decide) (by decide) hl.1 rfl (Nat.le_of_ble_eq_true rfl) dL_law_141 (fun r' h' H1 locs1 hq hP hD hS => ?_)
  obtain ⟨rfl, E', hSI, rfl⟩ := hq
  change W p l e room_1 s m #[Value.ref b] below meth c H1 locs1 60 11469 _ (F0 m 144 ls [.int r])
  refine lv_aload_n hx hb dL_law_144 rfl (lv_at hl 2 rfl) ?_
  refine lv_aload_n hx hb dL_law_145 rfl (lv_at hl 0 rfl) ?_
  refine lv_iload_n hx hb dL_law_146 rfl (lv_at hl 3 rfl) ?_
  refine lv_iconst (v := nI 1) hx hb dL_law_147 (by decide +kernel) ?_
  refine lv_iadd hx hb dL_law_148 ?_
  refine va_sld hx hb hX hbl hbA hS (vp_k 1 (by omega) hL) dL_law_149 ?_
  refine lv_aload_n hx hb dL_law_150 rfl (lv_at hl 0 rfl) ?_
  refine lv_iload_n hx hb dL_law_151 rfl (lv_at hl 3 rfl) ?_
  refine lv_iconst (v := nI 2) hx hb dL_law_152 (by decide +kernel) ?_
  refine lv_iadd hx hb dL_law_153 ?_
  refine va_sld hx hb hX hbl hbA hS (vp_k 2 (by omega) hL) dL_law_154 ?_
  refine lv_aload_n hx hb dL_law_155 rfl (lv_at hl 0 rfl) ?_
  refine lv_iload_n hx hb dL_law_156 rfl (lv_at hl 3 rfl) ?_
  refine lv_iconst (v := nI 3) hx hb dL_law_157 (by decide +kernel) ?_
  refine lv_iadd hx hb dL_law_158 ?_
  refine va_sld hx hb hX hbl hbA hS (vp_k 3 (by omega) hL) dL_law_159 ?_
  refine lv_aload_n hx hb dL_law_160 rfl (lv_at hl 0 rfl) ?_
  refine lv_iload_n hx hb dL_law_161 rfl (lv_at hl 3 rfl) ?_
  refine lv_iconst (v := nI 4) hx hb dL_law_162 (by decide +kernel) ?_
  refine lv_iadd hx hb dL_law_163 ?_
  refine va_sld hx hb hX hbl hbA hS (vp_k 4 (by omega) hL) dL_law_164 ?_
  refine lw_call (As := [.int (xs (nI k + nI 1).toNatClampNeg), .int (xs (nI k + nI 2).toNatClampNeg), .int (xs (nI k + nI 3).toNatClampNeg), .int (xs (nI k + nI 4).toNatClampNeg)]) (rest := [.int r]) hx hb hml hown hts hA hK kL_17 vX5_row hPM rfl rfl rfl rfl hP hD hS _ _ (rgM u1 u2 kA V' E' V).1 (rgM u1 u2 kA V' E' V).2 (by decide) (by decide) hl.1 rfl (Nat.le_of_ble_eq_true rfl) dL_law_165 (fun r' h' H2 locs2 hq hP hD hS => ?_)
  obtain ⟨rfl, rfl⟩ := hq
  change W p l e room_1 s m #[Value.ref b] below meth c H2 locs2 60 11469 _ (F0 m 168 ls [.int r, .int r])
  exact lv_icmp_eq (tgt := 634) hx hb dL_law_168 (by decide) (fun _ => kk V' E' H2 locs2 hSI ⟨hP, hD, hS⟩) (fun q => absurd rfl q)

set_option maxRecDepth 100000 in
set_option maxHeartbeats 4000000 in
theorem lc_test {p : Program} {l : Launch} {e : Env} {s : State} {m : MethodId} {below : List Frame} {meth : Method} {c : Code} {b L : Nat} {xs : Nat → Int32} {D : va_G} {kA : Nat → ClassId} {u1 u2 : Nat → Nat} {Q : State → Prop} (hL : L ≤ 2560) (C0 : lw_At p s m meth c b L xs) (hK : va_K D vwCl (zt kA) s) {k : Nat} (hk5 : k + 5 ≤ L) {V E : zS} (h : SI V E) {H : Heap} {locs : List Loc} (hW : lSt s D kA u1 u2 V E H locs) {ls : Array Slot} (hl : lv_has ls 4 [(0, .ref b), (1, .ref (u1 0)), (2, .ref (u2 0)), (3, .int (nI k))])
    (kk : ∀ (V' E' : zS) (H' : Heap) (locs' : List Loc), SI V' E' → lSt s D kA u1 u2 V' E' H' locs' → W p l e room_1 s m #[Value.ref b] below meth c H' locs' 60 11469 Q (F0 m 634 ls [])) : W p l e room_1 s m #[Value.ref b] below meth c H locs 60 11469 Q (F0 m 173 ls []) := by
  obtain ⟨hx, hb, hr, hml, hown, hts0, hX, hbl, hlocks, hgv⟩ := C0
  have hts : ∀ w ∈ zT, w.before #[Value.ref b] s = true := fun w hw => hts0 w (List.mem_filter.mp hw).1
  obtain ⟨hP, hD, hS⟩ := hW
  have hA : ∀ q : Nat, s.heap.size ≤ q → (fun q : Nat => s.heap.size ≤ q) q := fun _ h => h
  have hbA : ¬ (fun q : Nat => s.heap.size ≤ q) b := Nat.not_le.mpr hbl
  obtain ⟨r, V', hPM, hPX⟩ := P_test h (xs (nI k + nI 1).toNatClampNeg) (xs (nI k + nI 2).toNatClampNeg) (xs (nI k + nI 3).toNatClampNeg)
  refine lv_aload_n hx hb dL_law_173 rfl (lv_at hl 1 rfl) ?_
  refine lv_aload_n hx hb dL_law_174 rfl (lv_at hl 0 rfl) ?_
  refine lv_iload_n hx hb dL_law_175 rfl (lv_at hl 3 rfl) ?_
  refine lv_iconst (v := nI 1) hx hb dL_law_176 (by decide +kernel) ?_
  refine lv_iadd hx hb dL_law_177 ?_
  refine va_sld hx hb hX hbl hbA hS (vp_k 1 (by omega) hL) dL_law_178 ?_
  refine lv_aload_n hx hb dL_law_179 rfl (lv_at hl 0 rfl) ?_
  refine lv_iload_n hx hb dL_law_180 rfl (lv_at hl 3 rfl) ?_
  refine lv_iconst (v := nI 2) hx hb dL_law_181 (by decide +kernel) ?_
  refine lv_iadd hx hb dL_law_182 ?_
  refine va_sld hx hb hX hbl hbA hS (vp_k 2 (by omega) hL) dL_law_183 ?_
  refine lv_aload_n hx hb dL_law_184 rfl (lv_at hl 0 rfl) ?_
  refine lv_iload_n hx hb dL_law_185 rfl (lv_at hl 3 rfl) ?_
  refine lv_iconst (v := nI 3) hx hb dL_law_186 (by decide +kernel) ?_
  refine lv_iadd hx hb dL_law_187 ?_
  refine va_sld hx hb hX hbl hbA hS (vp_k 3 (by omega) hL) dL_law_188 ?_
  refine lw_call (As := [.int (xs (nI k + nI 1).toNatClampNeg), .int (xs (nI k + nI 2).toNatClampNeg), .int (xs (nI k + nI 3).toNatClampNeg)]) (rest := []) hx hb hml hown hts hA hK kL_18 vX4_test hPX rfl rfl rfl rfl hP hD hS _ _ (rgX u1 u2 kA V E V).1 (rgX u1 u2 kA V E V).2 (by decide) (by decide) hl.1 rfl (Nat.le_of_ble_eq_true rfl) dL_law_189 (fun r' h' H1 locs1 hq hP hD hS => ?_)
  obtain ⟨rfl, E', hSI, rfl⟩ := hq
  change W p l e room_1 s m #[Value.ref b] below meth c H1 locs1 60 11469 _ (F0 m 192 ls [.int r])
  refine lv_aload_n hx hb dL_law_192 rfl (lv_at hl 2 rfl) ?_
  refine lv_aload_n hx hb dL_law_193 rfl (lv_at hl 0 rfl) ?_
  refine lv_iload_n hx hb dL_law_194 rfl (lv_at hl 3 rfl) ?_
  refine lv_iconst (v := nI 1) hx hb dL_law_195 (by decide +kernel) ?_
  refine lv_iadd hx hb dL_law_196 ?_
  refine va_sld hx hb hX hbl hbA hS (vp_k 1 (by omega) hL) dL_law_197 ?_
  refine lv_aload_n hx hb dL_law_198 rfl (lv_at hl 0 rfl) ?_
  refine lv_iload_n hx hb dL_law_199 rfl (lv_at hl 3 rfl) ?_
  refine lv_iconst (v := nI 2) hx hb dL_law_200 (by decide +kernel) ?_
  refine lv_iadd hx hb dL_law_201 ?_
  refine va_sld hx hb hX hbl hbA hS (vp_k 2 (by omega) hL) dL_law_202 ?_
  refine lv_aload_n hx hb dL_law_203 rfl (lv_at hl 0 rfl) ?_
  refine lv_iload_n hx hb dL_law_204 rfl (lv_at hl 3 rfl) ?_
  refine lv_iconst (v := nI 3) hx hb dL_law_205 (by decide +kernel) ?_
  refine lv_iadd hx hb dL_law_206 ?_
  refine va_sld hx hb hX hbl hbA hS (vp_k 3 (by omega) hL) dL_law_207 ?_
  refine lw_call (As := [.int (xs (nI k + nI 1).toNatClampNeg), .int (xs (nI k + nI 2).toNatClampNeg), .int (xs (nI k + nI 3).toNatClampNeg)]) (rest := [.int r]) hx hb hml hown hts hA hK kL_22 vX5_test hPM rfl rfl rfl rfl hP hD hS _ _ (rgM u1 u2 kA V' E' V).1 (rgM u1 u2 kA V' E' V).2 (by decide) (by decide) hl.1 rfl (Nat.le_of_ble_eq_true rfl) dL_law_208 (fun r' h' H2 locs2 hq hP hD hS => ?_)
  obtain ⟨rfl, rfl⟩ := hq
  change W p l e room_1 s m #[Value.ref b] below meth c H2 locs2 60 11469 _ (F0 m 211 ls [.int r, .int r])
  exact lv_icmp_eq (tgt := 634) hx hb dL_law_211 (by decide) (fun _ => kk V' E' H2 locs2 hSI ⟨hP, hD, hS⟩) (fun q => absurd rfl q)

set_option maxRecDepth 100000 in
set_option maxHeartbeats 4000000 in
theorem lc_join {p : Program} {l : Launch} {e : Env} {s : State} {m : MethodId} {below : List Frame} {meth : Method} {c : Code} {b L : Nat} {xs : Nat → Int32} {D : va_G} {kA : Nat → ClassId} {u1 u2 : Nat → Nat} {Q : State → Prop} (hL : L ≤ 2560) (C0 : lw_At p s m meth c b L xs) (hK : va_K D vwCl (zt kA) s) {k : Nat} (hk5 : k + 5 ≤ L) {V E : zS} (h : SI V E) {H : Heap} {locs : List Loc} (hW : lSt s D kA u1 u2 V E H locs) {ls : Array Slot} (hl : lv_has ls 4 [(0, .ref b), (1, .ref (u1 0)), (2, .ref (u2 0)), (3, .int (nI k))])
    (kk : ∀ (V' E' : zS) (H' : Heap) (locs' : List Loc), SI V' E' → lSt s D kA u1 u2 V' E' H' locs' → W p l e room_1 s m #[Value.ref b] below meth c H' locs' 60 11469 Q (F0 m 634 ls [])) : W p l e room_1 s m #[Value.ref b] below meth c H locs 60 11469 Q (F0 m 216 ls []) := by
  obtain ⟨hx, hb, hr, hml, hown, hts0, hX, hbl, hlocks, hgv⟩ := C0
  have hts : ∀ w ∈ zT, w.before #[Value.ref b] s = true := fun w hw => hts0 w (List.mem_filter.mp hw).1
  obtain ⟨hP, hD, hS⟩ := hW
  have hA : ∀ q : Nat, s.heap.size ≤ q → (fun q : Nat => s.heap.size ≤ q) q := fun _ h => h
  have hbA : ¬ (fun q : Nat => s.heap.size ≤ q) b := Nat.not_le.mpr hbl
  obtain ⟨r, V', hPM, hPX⟩ := P_join h (xs (nI k + nI 1).toNatClampNeg) (xs (nI k + nI 2).toNatClampNeg)
  refine lv_aload_n hx hb dL_law_216 rfl (lv_at hl 1 rfl) ?_
  refine lv_aload_n hx hb dL_law_217 rfl (lv_at hl 0 rfl) ?_
  refine lv_iload_n hx hb dL_law_218 rfl (lv_at hl 3 rfl) ?_
  refine lv_iconst (v := nI 1) hx hb dL_law_219 (by decide +kernel) ?_
  refine lv_iadd hx hb dL_law_220 ?_
  refine va_sld hx hb hX hbl hbA hS (vp_k 1 (by omega) hL) dL_law_221 ?_
  refine lv_aload_n hx hb dL_law_222 rfl (lv_at hl 0 rfl) ?_
  refine lv_iload_n hx hb dL_law_223 rfl (lv_at hl 3 rfl) ?_
  refine lv_iconst (v := nI 2) hx hb dL_law_224 (by decide +kernel) ?_
  refine lv_iadd hx hb dL_law_225 ?_
  refine va_sld hx hb hX hbl hbA hS (vp_k 2 (by omega) hL) dL_law_226 ?_
  refine lw_call (As := [.int (xs (nI k + nI 1).toNatClampNeg), .int (xs (nI k + nI 2).toNatClampNeg)]) (rest := []) hx hb hml hown hts hA hK kL_23 vX4_join hPX rfl rfl rfl rfl hP hD hS _ _ (rgX u1 u2 kA V E V).1 (rgX u1 u2 kA V E V).2 (by decide) (by decide) hl.1 rfl (Nat.le_of_ble_eq_true rfl) dL_law_227 (fun r' h' H1 locs1 hq hP hD hS => ?_)
  obtain ⟨rfl, E', hSI, rfl⟩ := hq
  change W p l e room_1 s m #[Value.ref b] below meth c H1 locs1 60 11469 _ (F0 m 230 ls [.int r])
  refine lv_aload_n hx hb dL_law_230 rfl (lv_at hl 2 rfl) ?_
  refine lv_aload_n hx hb dL_law_231 rfl (lv_at hl 0 rfl) ?_
  refine lv_iload_n hx hb dL_law_232 rfl (lv_at hl 3 rfl) ?_
  refine lv_iconst (v := nI 1) hx hb dL_law_233 (by decide +kernel) ?_
  refine lv_iadd hx hb dL_law_234 ?_
  refine va_sld hx hb hX hbl hbA hS (vp_k 1 (by omega) hL) dL_law_235 ?_
  refine lv_aload_n hx hb dL_law_236 rfl (lv_at hl 0 rfl) ?_
  refine lv_iload_n hx hb dL_law_237 rfl (lv_at hl 3 rfl) ?_
  refine lv_iconst (v := nI 2) hx hb dL_law_238 (by decide +kernel) ?_
  refine lv_iadd hx hb dL_law_239 ?_
  refine va_sld hx hb hX hbl hbA hS (vp_k 2 (by omega) hL) dL_law_240 ?_
  refine lw_call (As := [.int (xs (nI k + nI 1).toNatClampNeg), .int (xs (nI k + nI 2).toNatClampNeg)]) (rest := [.int r]) hx hb hml hown hts hA hK kL_27 vX5_join hPM rfl rfl rfl rfl hP hD hS _ _ (rgM u1 u2 kA V' E' V).1 (rgM u1 u2 kA V' E' V).2 (by decide) (by decide) hl.1 rfl (Nat.le_of_ble_eq_true rfl) dL_law_241 (fun r' h' H2 locs2 hq hP hD hS => ?_)
  obtain ⟨rfl, rfl⟩ := hq
  change W p l e room_1 s m #[Value.ref b] below meth c H2 locs2 60 11469 _ (F0 m 244 ls [.int r, .int r])
  exact lv_icmp_eq (tgt := 634) hx hb dL_law_244 (by decide) (fun _ => kk V' E' H2 locs2 hSI ⟨hP, hD, hS⟩) (fun q => absurd rfl q)

set_option maxRecDepth 100000 in
set_option maxHeartbeats 4000000 in
theorem lc_ask {p : Program} {l : Launch} {e : Env} {s : State} {m : MethodId} {below : List Frame} {meth : Method} {c : Code} {b L : Nat} {xs : Nat → Int32} {D : va_G} {kA : Nat → ClassId} {u1 u2 : Nat → Nat} {Q : State → Prop} (hL : L ≤ 2560) (C0 : lw_At p s m meth c b L xs) (hK : va_K D vwCl (zt kA) s) {k : Nat} (hk5 : k + 5 ≤ L) {V E : zS} (h : SI V E) {H : Heap} {locs : List Loc} (hW : lSt s D kA u1 u2 V E H locs) {ls : Array Slot} (hl : lv_has ls 4 [(0, .ref b), (1, .ref (u1 0)), (2, .ref (u2 0)), (3, .int (nI k))])
    (kk : ∀ (V' E' : zS) (H' : Heap) (locs' : List Loc), SI V' E' → lSt s D kA u1 u2 V' E' H' locs' → W p l e room_1 s m #[Value.ref b] below meth c H' locs' 60 11469 Q (F0 m 634 ls [])) : W p l e room_1 s m #[Value.ref b] below meth c H locs 60 11469 Q (F0 m 249 ls []) := by
  obtain ⟨hx, hb, hr, hml, hown, hts0, hX, hbl, hlocks, hgv⟩ := C0
  have hts : ∀ w ∈ zT, w.before #[Value.ref b] s = true := fun w hw => hts0 w (List.mem_filter.mp hw).1
  obtain ⟨hP, hD, hS⟩ := hW
  have hA : ∀ q : Nat, s.heap.size ≤ q → (fun q : Nat => s.heap.size ≤ q) q := fun _ h => h
  have hbA : ¬ (fun q : Nat => s.heap.size ≤ q) b := Nat.not_le.mpr hbl
  obtain ⟨r, V', hPM, hPX⟩ := P_ask h
  refine lv_aload_n hx hb dL_law_249 rfl (lv_at hl 1 rfl) ?_
  refine lw_call (As := []) (rest := []) hx hb hml hown hts hA hK kL_28 vX4_ask hPX rfl rfl rfl rfl hP hD hS _ _ (rgX u1 u2 kA V E V).1 (rgX u1 u2 kA V E V).2 (by decide) (by decide) hl.1 rfl (Nat.le_of_ble_eq_true rfl) dL_law_250 (fun r' h' H1 locs1 hq hP hD hS => ?_)
  obtain ⟨rfl, E', hSI, rfl⟩ := hq
  change W p l e room_1 s m #[Value.ref b] below meth c H1 locs1 60 11469 _ (F0 m 253 ls [.int r])
  refine lv_aload_n hx hb dL_law_253 rfl (lv_at hl 2 rfl) ?_
  refine lw_call (As := []) (rest := [.int r]) hx hb hml hown hts hA hK kL_32 vX5_ask hPM rfl rfl rfl rfl hP hD hS _ _ (rgM u1 u2 kA V' E' V).1 (rgM u1 u2 kA V' E' V).2 (by decide) (by decide) hl.1 rfl (Nat.le_of_ble_eq_true rfl) dL_law_254 (fun r' h' H2 locs2 hq hP hD hS => ?_)
  obtain ⟨rfl, rfl⟩ := hq
  change W p l e room_1 s m #[Value.ref b] below meth c H2 locs2 60 11469 _ (F0 m 257 ls [.int r, .int r])
  exact lv_icmp_eq (tgt := 634) hx hb dL_law_257 (by decide) (fun _ => kk V' E' H2 locs2 hSI ⟨hP, hD, hS⟩) (fun q => absurd rfl q)

set_option maxRecDepth 100000 in
set_option maxHeartbeats 4000000 in
theorem lc_stop {p : Program} {l : Launch} {e : Env} {s : State} {m : MethodId} {below : List Frame} {meth : Method} {c : Code} {b L : Nat} {xs : Nat → Int32} {D : va_G} {kA : Nat → ClassId} {u1 u2 : Nat → Nat} {Q : State → Prop} (hL : L ≤ 2560) (C0 : lw_At p s m meth c b L xs) (hK : va_K D vwCl (zt kA) s) {k : Nat} (hk5 : k + 5 ≤ L) {V E : zS} (h : SI V E) {H : Heap} {locs : List Loc} (hW : lSt s D kA u1 u2 V E H locs) {ls : Array Slot} (hl : lv_has ls 4 [(0, .ref b), (1, .ref (u1 0)), (2, .ref (u2 0)), (3, .int (nI k))])
    (kk : ∀ (V' E' : zS) (H' : Heap) (locs' : List Loc), SI V' E' → lSt s D kA u1 u2 V' E' H' locs' → W p l e room_1 s m #[Value.ref b] below meth c H' locs' 60 11469 Q (F0 m 634 ls [])) : W p l e room_1 s m #[Value.ref b] below meth c H locs 60 11469 Q (F0 m 262 ls []) := by
  obtain ⟨hx, hb, hr, hml, hown, hts0, hX, hbl, hlocks, hgv⟩ := C0
  have hts : ∀ w ∈ zT, w.before #[Value.ref b] s = true := fun w hw => hts0 w (List.mem_filter.mp hw).1
  obtain ⟨hP, hD, hS⟩ := hW
  have hA : ∀ q : Nat, s.heap.size ≤ q → (fun q : Nat => s.heap.size ≤ q) q := fun _ h => h
  have hbA : ¬ (fun q : Nat => s.heap.size ≤ q) b := Nat.not_le.mpr hbl
  obtain ⟨r, V', hPM, hPX⟩ := P_stop h
  refine lv_aload_n hx hb dL_law_262 rfl (lv_at hl 1 rfl) ?_
  refine lw_call (As := []) (rest := []) hx hb hml hown hts hA hK kL_33 vX4_stop hPX rfl rfl rfl rfl hP hD hS _ _ (rgX u1 u2 kA V E V).1 (rgX u1 u2 kA V E V).2 (by decide) (by decide) hl.1 rfl (Nat.le_of_ble_eq_true rfl) dL_law_263 (fun r' h' H1 locs1 hq hP hD hS => ?_)
  obtain ⟨rfl, E', hSI, rfl⟩ := hq
  change W p l e room_1 s m #[Value.ref b] below meth c H1 locs1 60 11469 _ (F0 m 266 ls [.int r])
  refine lv_aload_n hx hb dL_law_266 rfl (lv_at hl 2 rfl) ?_
  refine lw_call (As := []) (rest := [.int r]) hx hb hml hown hts hA hK kL_36 vX5_stop hPM rfl rfl rfl rfl hP hD hS _ _ (rgM u1 u2 kA V' E' V).1 (rgM u1 u2 kA V' E' V).2 (by decide) (by decide) hl.1 rfl (Nat.le_of_ble_eq_true rfl) dL_law_267 (fun r' h' H2 locs2 hq hP hD hS => ?_)
  obtain ⟨rfl, rfl⟩ := hq
  change W p l e room_1 s m #[Value.ref b] below meth c H2 locs2 60 11469 _ (F0 m 270 ls [.int r, .int r])
  exact lv_icmp_eq (tgt := 634) hx hb dL_law_270 (by decide) (fun _ => kk V' E' H2 locs2 hSI ⟨hP, hD, hS⟩) (fun q => absurd rfl q)

set_option maxRecDepth 100000 in
set_option maxHeartbeats 4000000 in
theorem lc_go {p : Program} {l : Launch} {e : Env} {s : State} {m : MethodId} {below : List Frame} {meth : Method} {c : Code} {b L : Nat} {xs : Nat → Int32} {D : va_G} {kA : Nat → ClassId} {u1 u2 : Nat → Nat} {Q : State → Prop} (hL : L ≤ 2560) (C0 : lw_At p s m meth c b L xs) (hK : va_K D vwCl (zt kA) s) {k : Nat} (hk5 : k + 5 ≤ L) {V E : zS} (h : SI V E) {H : Heap} {locs : List Loc} (hW : lSt s D kA u1 u2 V E H locs) {ls : Array Slot} (hl : lv_has ls 4 [(0, .ref b), (1, .ref (u1 0)), (2, .ref (u2 0)), (3, .int (nI k))])
    (kk : ∀ (V' E' : zS) (H' : Heap) (locs' : List Loc), SI V' E' → lSt s D kA u1 u2 V' E' H' locs' → W p l e room_1 s m #[Value.ref b] below meth c H' locs' 60 11469 Q (F0 m 634 ls [])) : W p l e room_1 s m #[Value.ref b] below meth c H locs 60 11469 Q (F0 m 275 ls []) := by
  obtain ⟨hx, hb, hr, hml, hown, hts0, hX, hbl, hlocks, hgv⟩ := C0
  have hts : ∀ w ∈ zT, w.before #[Value.ref b] s = true := fun w hw => hts0 w (List.mem_filter.mp hw).1
  obtain ⟨hP, hD, hS⟩ := hW
  have hA : ∀ q : Nat, s.heap.size ≤ q → (fun q : Nat => s.heap.size ≤ q) q := fun _ h => h
  have hbA : ¬ (fun q : Nat => s.heap.size ≤ q) b := Nat.not_le.mpr hbl
  obtain ⟨r, V', hPM, hPX⟩ := P_go h (xs (nI k + nI 1).toNatClampNeg)
  refine lv_aload_n hx hb dL_law_275 rfl (lv_at hl 1 rfl) ?_
  refine lv_aload_n hx hb dL_law_276 rfl (lv_at hl 0 rfl) ?_
  refine lv_iload_n hx hb dL_law_277 rfl (lv_at hl 3 rfl) ?_
  refine lv_iconst (v := nI 1) hx hb dL_law_278 (by decide +kernel) ?_
  refine lv_iadd hx hb dL_law_279 ?_
  refine va_sld hx hb hX hbl hbA hS (vp_k 1 (by omega) hL) dL_law_280 ?_
  refine lw_call (As := [.int (xs (nI k + nI 1).toNatClampNeg)]) (rest := []) hx hb hml hown hts hA hK kL_37 vX4_go hPX rfl rfl rfl rfl hP hD hS _ _ (rgX u1 u2 kA V E V).1 (rgX u1 u2 kA V E V).2 (by decide) (by decide) hl.1 rfl (Nat.le_of_ble_eq_true rfl) dL_law_281 (fun r' h' H1 locs1 hq hP hD hS => ?_)
  obtain ⟨rfl, E', hSI, rfl⟩ := hq
  change W p l e room_1 s m #[Value.ref b] below meth c H1 locs1 60 11469 _ (F0 m 284 ls [.int r])
  refine lv_aload_n hx hb dL_law_284 rfl (lv_at hl 2 rfl) ?_
  refine lv_aload_n hx hb dL_law_285 rfl (lv_at hl 0 rfl) ?_
  refine lv_iload_n hx hb dL_law_286 rfl (lv_at hl 3 rfl) ?_
  refine lv_iconst (v := nI 1) hx hb dL_law_287 (by decide +kernel) ?_
  refine lv_iadd hx hb dL_law_288 ?_
  refine va_sld hx hb hX hbl hbA hS (vp_k 1 (by omega) hL) dL_law_289 ?_
  refine lw_call (As := [.int (xs (nI k + nI 1).toNatClampNeg)]) (rest := [.int r]) hx hb hml hown hts hA hK kL_41 vX5_go hPM rfl rfl rfl rfl hP hD hS _ _ (rgM u1 u2 kA V' E' V).1 (rgM u1 u2 kA V' E' V).2 (by decide) (by decide) hl.1 rfl (Nat.le_of_ble_eq_true rfl) dL_law_290 (fun r' h' H2 locs2 hq hP hD hS => ?_)
  obtain ⟨rfl, rfl⟩ := hq
  change W p l e room_1 s m #[Value.ref b] below meth c H2 locs2 60 11469 _ (F0 m 293 ls [.int r, .int r])
  exact lv_icmp_eq (tgt := 634) hx hb dL_law_293 (by decide) (fun _ => kk V' E' H2 locs2 hSI ⟨hP, hD, hS⟩) (fun q => absurd rfl q)

set_option maxRecDepth 100000 in
set_option maxHeartbeats 4000000 in
theorem lc_memory {p : Program} {l : Launch} {e : Env} {s : State} {m : MethodId} {below : List Frame} {meth : Method} {c : Code} {b L : Nat} {xs : Nat → Int32} {D : va_G} {kA : Nat → ClassId} {u1 u2 : Nat → Nat} {Q : State → Prop} (hL : L ≤ 2560) (C0 : lw_At p s m meth c b L xs) (hK : va_K D vwCl (zt kA) s) {k : Nat} (hk5 : k + 5 ≤ L) {V E : zS} (h : SI V E) {H : Heap} {locs : List Loc} (hW : lSt s D kA u1 u2 V E H locs) {ls : Array Slot} (hl : lv_has ls 4 [(0, .ref b), (1, .ref (u1 0)), (2, .ref (u2 0)), (3, .int (nI k))])
    (kk : ∀ (V' E' : zS) (H' : Heap) (locs' : List Loc), SI V' E' → lSt s D kA u1 u2 V' E' H' locs' → W p l e room_1 s m #[Value.ref b] below meth c H' locs' 60 11469 Q (F0 m 634 ls [])) : W p l e room_1 s m #[Value.ref b] below meth c H locs 60 11469 Q (F0 m 298 ls []) := by
  obtain ⟨hx, hb, hr, hml, hown, hts0, hX, hbl, hlocks, hgv⟩ := C0
  have hts : ∀ w ∈ zT, w.before #[Value.ref b] s = true := fun w hw => hts0 w (List.mem_filter.mp hw).1
  obtain ⟨hP, hD, hS⟩ := hW
  have hA : ∀ q : Nat, s.heap.size ≤ q → (fun q : Nat => s.heap.size ≤ q) q := fun _ h => h
  have hbA : ¬ (fun q : Nat => s.heap.size ≤ q) b := Nat.not_le.mpr hbl
  obtain ⟨r, V', hPM, hPX⟩ := P_memory h (xs (nI k + nI 1).toNatClampNeg)
  refine lv_aload_n hx hb dL_law_298 rfl (lv_at hl 1 rfl) ?_
  refine lv_aload_n hx hb dL_law_299 rfl (lv_at hl 0 rfl) ?_
  refine lv_iload_n hx hb dL_law_300 rfl (lv_at hl 3 rfl) ?_
  refine lv_iconst (v := nI 1) hx hb dL_law_301 (by decide +kernel) ?_
  refine lv_iadd hx hb dL_law_302 ?_
  refine va_sld hx hb hX hbl hbA hS (vp_k 1 (by omega) hL) dL_law_303 ?_
  refine lw_call (As := [.int (xs (nI k + nI 1).toNatClampNeg)]) (rest := []) hx hb hml hown hts hA hK kL_42 vX4_memory hPX rfl rfl rfl rfl hP hD hS _ _ (rgX u1 u2 kA V E V).1 (rgX u1 u2 kA V E V).2 (by decide) (by decide) hl.1 rfl (Nat.le_of_ble_eq_true rfl) dL_law_304 (fun r' h' H1 locs1 hq hP hD hS => ?_)
  obtain ⟨rfl, E', hSI, rfl⟩ := hq
  change W p l e room_1 s m #[Value.ref b] below meth c H1 locs1 60 11469 _ (F0 m 307 ls [.int r])
  refine lv_aload_n hx hb dL_law_307 rfl (lv_at hl 2 rfl) ?_
  refine lv_aload_n hx hb dL_law_308 rfl (lv_at hl 0 rfl) ?_
  refine lv_iload_n hx hb dL_law_309 rfl (lv_at hl 3 rfl) ?_
  refine lv_iconst (v := nI 1) hx hb dL_law_310 (by decide +kernel) ?_
  refine lv_iadd hx hb dL_law_311 ?_
  refine va_sld hx hb hX hbl hbA hS (vp_k 1 (by omega) hL) dL_law_312 ?_
  refine lw_call (As := [.int (xs (nI k + nI 1).toNatClampNeg)]) (rest := [.int r]) hx hb hml hown hts hA hK kL_46 vX5_memory hPM rfl rfl rfl rfl hP hD hS _ _ (rgM u1 u2 kA V' E' V).1 (rgM u1 u2 kA V' E' V).2 (by decide) (by decide) hl.1 rfl (Nat.le_of_ble_eq_true rfl) dL_law_313 (fun r' h' H2 locs2 hq hP hD hS => ?_)
  obtain ⟨rfl, rfl⟩ := hq
  change W p l e room_1 s m #[Value.ref b] below meth c H2 locs2 60 11469 _ (F0 m 316 ls [.int r, .int r])
  exact lv_icmp_eq (tgt := 634) hx hb dL_law_316 (by decide) (fun _ => kk V' E' H2 locs2 hSI ⟨hP, hD, hS⟩) (fun q => absurd rfl q)

set_option maxRecDepth 100000 in
set_option maxHeartbeats 4000000 in
theorem lc_force {p : Program} {l : Launch} {e : Env} {s : State} {m : MethodId} {below : List Frame} {meth : Method} {c : Code} {b L : Nat} {xs : Nat → Int32} {D : va_G} {kA : Nat → ClassId} {u1 u2 : Nat → Nat} {Q : State → Prop} (hL : L ≤ 2560) (C0 : lw_At p s m meth c b L xs) (hK : va_K D vwCl (zt kA) s) {k : Nat} (hk5 : k + 5 ≤ L) {V E : zS} (h : SI V E) {H : Heap} {locs : List Loc} (hW : lSt s D kA u1 u2 V E H locs) {ls : Array Slot} (hl : lv_has ls 4 [(0, .ref b), (1, .ref (u1 0)), (2, .ref (u2 0)), (3, .int (nI k))])
    (kk : ∀ (V' E' : zS) (H' : Heap) (locs' : List Loc), SI V' E' → lSt s D kA u1 u2 V' E' H' locs' → W p l e room_1 s m #[Value.ref b] below meth c H' locs' 60 11469 Q (F0 m 634 ls [])) : W p l e room_1 s m #[Value.ref b] below meth c H locs 60 11469 Q (F0 m 321 ls []) := by
  obtain ⟨hx, hb, hr, hml, hown, hts0, hX, hbl, hlocks, hgv⟩ := C0
  have hts : ∀ w ∈ zT, w.before #[Value.ref b] s = true := fun w hw => hts0 w (List.mem_filter.mp hw).1
  obtain ⟨hP, hD, hS⟩ := hW
  have hA : ∀ q : Nat, s.heap.size ≤ q → (fun q : Nat => s.heap.size ≤ q) q := fun _ h => h
  have hbA : ¬ (fun q : Nat => s.heap.size ≤ q) b := Nat.not_le.mpr hbl
  obtain ⟨r, V', hPM, hPX⟩ := P_force h (xs (nI k + nI 1).toNatClampNeg)
  refine lv_aload_n hx hb dL_law_321 rfl (lv_at hl 1 rfl) ?_
  refine lv_aload_n hx hb dL_law_322 rfl (lv_at hl 0 rfl) ?_
  refine lv_iload_n hx hb dL_law_323 rfl (lv_at hl 3 rfl) ?_
  refine lv_iconst (v := nI 1) hx hb dL_law_324 (by decide +kernel) ?_
  refine lv_iadd hx hb dL_law_325 ?_
  refine va_sld hx hb hX hbl hbA hS (vp_k 1 (by omega) hL) dL_law_326 ?_
  refine lw_call (As := [.int (xs (nI k + nI 1).toNatClampNeg)]) (rest := []) hx hb hml hown hts hA hK kL_47 vX4_force hPX rfl rfl rfl rfl hP hD hS _ _ (rgX u1 u2 kA V E V).1 (rgX u1 u2 kA V E V).2 (by decide) (by decide) hl.1 rfl (Nat.le_of_ble_eq_true rfl) dL_law_327 (fun r' h' H1 locs1 hq hP hD hS => ?_)
  obtain ⟨rfl, E', hSI, rfl⟩ := hq
  change W p l e room_1 s m #[Value.ref b] below meth c H1 locs1 60 11469 _ (F0 m 330 ls [.int r])
  refine lv_aload_n hx hb dL_law_330 rfl (lv_at hl 2 rfl) ?_
  refine lv_aload_n hx hb dL_law_331 rfl (lv_at hl 0 rfl) ?_
  refine lv_iload_n hx hb dL_law_332 rfl (lv_at hl 3 rfl) ?_
  refine lv_iconst (v := nI 1) hx hb dL_law_333 (by decide +kernel) ?_
  refine lv_iadd hx hb dL_law_334 ?_
  refine va_sld hx hb hX hbl hbA hS (vp_k 1 (by omega) hL) dL_law_335 ?_
  refine lw_call (As := [.int (xs (nI k + nI 1).toNatClampNeg)]) (rest := [.int r]) hx hb hml hown hts hA hK kL_50 vX5_force hPM rfl rfl rfl rfl hP hD hS _ _ (rgM u1 u2 kA V' E' V).1 (rgM u1 u2 kA V' E' V).2 (by decide) (by decide) hl.1 rfl (Nat.le_of_ble_eq_true rfl) dL_law_336 (fun r' h' H2 locs2 hq hP hD hS => ?_)
  obtain ⟨rfl, rfl⟩ := hq
  change W p l e room_1 s m #[Value.ref b] below meth c H2 locs2 60 11469 _ (F0 m 339 ls [.int r, .int r])
  exact lv_icmp_eq (tgt := 634) hx hb dL_law_339 (by decide) (fun _ => kk V' E' H2 locs2 hSI ⟨hP, hD, hS⟩) (fun q => absurd rfl q)

set_option maxRecDepth 100000 in
set_option maxHeartbeats 4000000 in
theorem lc_order {p : Program} {l : Launch} {e : Env} {s : State} {m : MethodId} {below : List Frame} {meth : Method} {c : Code} {b L : Nat} {xs : Nat → Int32} {D : va_G} {kA : Nat → ClassId} {u1 u2 : Nat → Nat} {Q : State → Prop} (hL : L ≤ 2560) (C0 : lw_At p s m meth c b L xs) (hK : va_K D vwCl (zt kA) s) {k : Nat} (hk5 : k + 5 ≤ L) {V E : zS} (h : SI V E) {H : Heap} {locs : List Loc} (hW : lSt s D kA u1 u2 V E H locs) {ls : Array Slot} (hl : lv_has ls 4 [(0, .ref b), (1, .ref (u1 0)), (2, .ref (u2 0)), (3, .int (nI k))])
    (kk : ∀ (V' E' : zS) (H' : Heap) (locs' : List Loc), SI V' E' → lSt s D kA u1 u2 V' E' H' locs' → W p l e room_1 s m #[Value.ref b] below meth c H' locs' 60 11469 Q (F0 m 634 ls [])) : W p l e room_1 s m #[Value.ref b] below meth c H locs 60 11469 Q (F0 m 344 ls []) := by
  obtain ⟨hx, hb, hr, hml, hown, hts0, hX, hbl, hlocks, hgv⟩ := C0
  have hts : ∀ w ∈ zT, w.before #[Value.ref b] s = true := fun w hw => hts0 w (List.mem_filter.mp hw).1
  obtain ⟨hP, hD, hS⟩ := hW
  have hA : ∀ q : Nat, s.heap.size ≤ q → (fun q : Nat => s.heap.size ≤ q) q := fun _ h => h
  have hbA : ¬ (fun q : Nat => s.heap.size ≤ q) b := Nat.not_le.mpr hbl
  obtain ⟨r, V', hPM, hPX⟩ := P_order h (xs (nI k + nI 1).toNatClampNeg) (xs (nI k + nI 2).toNatClampNeg)
  refine lv_aload_n hx hb dL_law_344 rfl (lv_at hl 1 rfl) ?_
  refine lv_aload_n hx hb dL_law_345 rfl (lv_at hl 0 rfl) ?_
  refine lv_iload_n hx hb dL_law_346 rfl (lv_at hl 3 rfl) ?_
  refine lv_iconst (v := nI 1) hx hb dL_law_347 (by decide +kernel) ?_
  refine lv_iadd hx hb dL_law_348 ?_
  refine va_sld hx hb hX hbl hbA hS (vp_k 1 (by omega) hL) dL_law_349 ?_
  refine lv_aload_n hx hb dL_law_350 rfl (lv_at hl 0 rfl) ?_
  refine lv_iload_n hx hb dL_law_351 rfl (lv_at hl 3 rfl) ?_
  refine lv_iconst (v := nI 2) hx hb dL_law_352 (by decide +kernel) ?_
  refine lv_iadd hx hb dL_law_353 ?_
  refine va_sld hx hb hX hbl hbA hS (vp_k 2 (by omega) hL) dL_law_354 ?_
  refine lw_call (As := [.int (xs (nI k + nI 1).toNatClampNeg), .int (xs (nI k + nI 2).toNatClampNeg)]) (rest := []) hx hb hml hown hts hA hK kL_51 vX4_order hPX rfl rfl rfl rfl hP hD hS _ _ (rgX u1 u2 kA V E V).1 (rgX u1 u2 kA V E V).2 (by decide) (by decide) hl.1 rfl (Nat.le_of_ble_eq_true rfl) dL_law_355 (fun r' h' H1 locs1 hq hP hD hS => ?_)
  obtain ⟨rfl, E', hSI, rfl⟩ := hq
  change W p l e room_1 s m #[Value.ref b] below meth c H1 locs1 60 11469 _ (F0 m 358 ls [.int r])
  refine lv_aload_n hx hb dL_law_358 rfl (lv_at hl 2 rfl) ?_
  refine lv_aload_n hx hb dL_law_359 rfl (lv_at hl 0 rfl) ?_
  refine lv_iload_n hx hb dL_law_360 rfl (lv_at hl 3 rfl) ?_
  refine lv_iconst (v := nI 1) hx hb dL_law_361 (by decide +kernel) ?_
  refine lv_iadd hx hb dL_law_362 ?_
  refine va_sld hx hb hX hbl hbA hS (vp_k 1 (by omega) hL) dL_law_363 ?_
  refine lv_aload_n hx hb dL_law_364 rfl (lv_at hl 0 rfl) ?_
  refine lv_iload_n hx hb dL_law_365 rfl (lv_at hl 3 rfl) ?_
  refine lv_iconst (v := nI 2) hx hb dL_law_366 (by decide +kernel) ?_
  refine lv_iadd hx hb dL_law_367 ?_
  refine va_sld hx hb hX hbl hbA hS (vp_k 2 (by omega) hL) dL_law_368 ?_
  refine lw_call (As := [.int (xs (nI k + nI 1).toNatClampNeg), .int (xs (nI k + nI 2).toNatClampNeg)]) (rest := [.int r]) hx hb hml hown hts hA hK kL_54 vX5_order hPM rfl rfl rfl rfl hP hD hS _ _ (rgM u1 u2 kA V' E' V).1 (rgM u1 u2 kA V' E' V).2 (by decide) (by decide) hl.1 rfl (Nat.le_of_ble_eq_true rfl) dL_law_369 (fun r' h' H2 locs2 hq hP hD hS => ?_)
  obtain ⟨rfl, rfl⟩ := hq
  change W p l e room_1 s m #[Value.ref b] below meth c H2 locs2 60 11469 _ (F0 m 372 ls [.int r, .int r])
  exact lv_icmp_eq (tgt := 634) hx hb dL_law_372 (by decide) (fun _ => kk V' E' H2 locs2 hSI ⟨hP, hD, hS⟩) (fun q => absurd rfl q)

set_option maxRecDepth 100000 in
set_option maxHeartbeats 4000000 in
theorem lc_ordered {p : Program} {l : Launch} {e : Env} {s : State} {m : MethodId} {below : List Frame} {meth : Method} {c : Code} {b L : Nat} {xs : Nat → Int32} {D : va_G} {kA : Nat → ClassId} {u1 u2 : Nat → Nat} {Q : State → Prop} (hL : L ≤ 2560) (C0 : lw_At p s m meth c b L xs) (hK : va_K D vwCl (zt kA) s) {k : Nat} (hk5 : k + 5 ≤ L) {V E : zS} (h : SI V E) {H : Heap} {locs : List Loc} (hW : lSt s D kA u1 u2 V E H locs) {ls : Array Slot} (hl : lv_has ls 4 [(0, .ref b), (1, .ref (u1 0)), (2, .ref (u2 0)), (3, .int (nI k))])
    (kk : ∀ (V' E' : zS) (H' : Heap) (locs' : List Loc), SI V' E' → lSt s D kA u1 u2 V' E' H' locs' → W p l e room_1 s m #[Value.ref b] below meth c H' locs' 60 11469 Q (F0 m 634 ls [])) : W p l e room_1 s m #[Value.ref b] below meth c H locs 60 11469 Q (F0 m 377 ls []) := by
  obtain ⟨hx, hb, hr, hml, hown, hts0, hX, hbl, hlocks, hgv⟩ := C0
  have hts : ∀ w ∈ zT, w.before #[Value.ref b] s = true := fun w hw => hts0 w (List.mem_filter.mp hw).1
  obtain ⟨hP, hD, hS⟩ := hW
  have hA : ∀ q : Nat, s.heap.size ≤ q → (fun q : Nat => s.heap.size ≤ q) q := fun _ h => h
  have hbA : ¬ (fun q : Nat => s.heap.size ≤ q) b := Nat.not_le.mpr hbl
  obtain ⟨r, V', hPM, hPX⟩ := P_ordered h (xs (nI k + nI 1).toNatClampNeg) (xs (nI k + nI 2).toNatClampNeg)
  refine lv_aload_n hx hb dL_law_377 rfl (lv_at hl 1 rfl) ?_
  refine lv_aload_n hx hb dL_law_378 rfl (lv_at hl 0 rfl) ?_
  refine lv_iload_n hx hb dL_law_379 rfl (lv_at hl 3 rfl) ?_
  refine lv_iconst (v := nI 1) hx hb dL_law_380 (by decide +kernel) ?_
  refine lv_iadd hx hb dL_law_381 ?_
  refine va_sld hx hb hX hbl hbA hS (vp_k 1 (by omega) hL) dL_law_382 ?_
  refine lv_aload_n hx hb dL_law_383 rfl (lv_at hl 0 rfl) ?_
  refine lv_iload_n hx hb dL_law_384 rfl (lv_at hl 3 rfl) ?_
  refine lv_iconst (v := nI 2) hx hb dL_law_385 (by decide +kernel) ?_
  refine lv_iadd hx hb dL_law_386 ?_
  refine va_sld hx hb hX hbl hbA hS (vp_k 2 (by omega) hL) dL_law_387 ?_
  refine lw_call (As := [.int (xs (nI k + nI 1).toNatClampNeg), .int (xs (nI k + nI 2).toNatClampNeg)]) (rest := []) hx hb hml hown hts hA hK kL_55 vX4_ordered hPX rfl rfl rfl rfl hP hD hS _ _ (rgX u1 u2 kA V E V).1 (rgX u1 u2 kA V E V).2 (by decide) (by decide) hl.1 rfl (Nat.le_of_ble_eq_true rfl) dL_law_388 (fun r' h' H1 locs1 hq hP hD hS => ?_)
  obtain ⟨rfl, E', hSI, rfl⟩ := hq
  change W p l e room_1 s m #[Value.ref b] below meth c H1 locs1 60 11469 _ (F0 m 391 ls [.int r])
  refine lv_aload_n hx hb dL_law_391 rfl (lv_at hl 2 rfl) ?_
  refine lv_aload_n hx hb dL_law_392 rfl (lv_at hl 0 rfl) ?_
  refine lv_iload_n hx hb dL_law_393 rfl (lv_at hl 3 rfl) ?_
  refine lv_iconst (v := nI 1) hx hb dL_law_394 (by decide +kernel) ?_
  refine lv_iadd hx hb dL_law_395 ?_
  refine va_sld hx hb hX hbl hbA hS (vp_k 1 (by omega) hL) dL_law_396 ?_
  refine lv_aload_n hx hb dL_law_397 rfl (lv_at hl 0 rfl) ?_
  refine lv_iload_n hx hb dL_law_398 rfl (lv_at hl 3 rfl) ?_
  refine lv_iconst (v := nI 2) hx hb dL_law_399 (by decide +kernel) ?_
  refine lv_iadd hx hb dL_law_400 ?_
  refine va_sld hx hb hX hbl hbA hS (vp_k 2 (by omega) hL) dL_law_401 ?_
  refine lw_call (As := [.int (xs (nI k + nI 1).toNatClampNeg), .int (xs (nI k + nI 2).toNatClampNeg)]) (rest := [.int r]) hx hb hml hown hts hA hK kL_59 vX5_ordered hPM rfl rfl rfl rfl hP hD hS _ _ (rgM u1 u2 kA V' E' V).1 (rgM u1 u2 kA V' E' V).2 (by decide) (by decide) hl.1 rfl (Nat.le_of_ble_eq_true rfl) dL_law_402 (fun r' h' H2 locs2 hq hP hD hS => ?_)
  obtain ⟨rfl, rfl⟩ := hq
  change W p l e room_1 s m #[Value.ref b] below meth c H2 locs2 60 11469 _ (F0 m 405 ls [.int r, .int r])
  exact lv_icmp_eq (tgt := 634) hx hb dL_law_405 (by decide) (fun _ => kk V' E' H2 locs2 hSI ⟨hP, hD, hS⟩) (fun q => absurd rfl q)

set_option maxRecDepth 100000 in
set_option maxHeartbeats 4000000 in
theorem lc_told {p : Program} {l : Launch} {e : Env} {s : State} {m : MethodId} {below : List Frame} {meth : Method} {c : Code} {b L : Nat} {xs : Nat → Int32} {D : va_G} {kA : Nat → ClassId} {u1 u2 : Nat → Nat} {Q : State → Prop} (hL : L ≤ 2560) (C0 : lw_At p s m meth c b L xs) (hK : va_K D vwCl (zt kA) s) {k : Nat} (hk5 : k + 5 ≤ L) {V E : zS} (h : SI V E) {H : Heap} {locs : List Loc} (hW : lSt s D kA u1 u2 V E H locs) {ls : Array Slot} (hl : lv_has ls 4 [(0, .ref b), (1, .ref (u1 0)), (2, .ref (u2 0)), (3, .int (nI k))])
    (kk : ∀ (V' E' : zS) (H' : Heap) (locs' : List Loc), SI V' E' → lSt s D kA u1 u2 V' E' H' locs' → W p l e room_1 s m #[Value.ref b] below meth c H' locs' 60 11469 Q (F0 m 634 ls [])) : W p l e room_1 s m #[Value.ref b] below meth c H locs 60 11469 Q (F0 m 410 ls []) := by
  obtain ⟨hx, hb, hr, hml, hown, hts0, hX, hbl, hlocks, hgv⟩ := C0
  have hts : ∀ w ∈ zT, w.before #[Value.ref b] s = true := fun w hw => hts0 w (List.mem_filter.mp hw).1
  obtain ⟨hP, hD, hS⟩ := hW
  have hA : ∀ q : Nat, s.heap.size ≤ q → (fun q : Nat => s.heap.size ≤ q) q := fun _ h => h
  have hbA : ¬ (fun q : Nat => s.heap.size ≤ q) b := Nat.not_le.mpr hbl
  obtain ⟨r, V', hPM, hPX⟩ := P_told h (xs (nI k + nI 1).toNatClampNeg) (xs (nI k + nI 2).toNatClampNeg) (xs (nI k + nI 3).toNatClampNeg)
  refine lv_aload_n hx hb dL_law_410 rfl (lv_at hl 1 rfl) ?_
  refine lv_aload_n hx hb dL_law_411 rfl (lv_at hl 0 rfl) ?_
  refine lv_iload_n hx hb dL_law_412 rfl (lv_at hl 3 rfl) ?_
  refine lv_iconst (v := nI 1) hx hb dL_law_413 (by decide +kernel) ?_
  refine lv_iadd hx hb dL_law_414 ?_
  refine va_sld hx hb hX hbl hbA hS (vp_k 1 (by omega) hL) dL_law_415 ?_
  refine lv_aload_n hx hb dL_law_416 rfl (lv_at hl 0 rfl) ?_
  refine lv_iload_n hx hb dL_law_417 rfl (lv_at hl 3 rfl) ?_
  refine lv_iconst (v := nI 2) hx hb dL_law_418 (by decide +kernel) ?_
  refine lv_iadd hx hb dL_law_419 ?_
  refine va_sld hx hb hX hbl hbA hS (vp_k 2 (by omega) hL) dL_law_420 ?_
  refine lv_aload_n hx hb dL_law_421 rfl (lv_at hl 0 rfl) ?_
  refine lv_iload_n hx hb dL_law_422 rfl (lv_at hl 3 rfl) ?_
  refine lv_iconst (v := nI 3) hx hb dL_law_423 (by decide +kernel) ?_
  refine lv_iadd hx hb dL_law_424 ?_
  refine va_sld hx hb hX hbl hbA hS (vp_k 3 (by omega) hL) dL_law_425 ?_
  refine lw_call (As := [.int (xs (nI k + nI 1).toNatClampNeg), .int (xs (nI k + nI 2).toNatClampNeg), .int (xs (nI k + nI 3).toNatClampNeg)]) (rest := []) hx hb hml hown hts hA hK kL_60 vX4_told hPX rfl rfl rfl rfl hP hD hS _ _ (rgX u1 u2 kA V E V).1 (rgX u1 u2 kA V E V).2 (by decide) (by decide) hl.1 rfl (Nat.le_of_ble_eq_true rfl) dL_law_426 (fun r' h' H1 locs1 hq hP hD hS => ?_)
  obtain ⟨rfl, E', hSI, rfl⟩ := hq
  change W p l e room_1 s m #[Value.ref b] below meth c H1 locs1 60 11469 _ (F0 m 429 ls [.int r])
  refine lv_aload_n hx hb dL_law_429 rfl (lv_at hl 2 rfl) ?_
  refine lv_aload_n hx hb dL_law_430 rfl (lv_at hl 0 rfl) ?_
  refine lv_iload_n hx hb dL_law_431 rfl (lv_at hl 3 rfl) ?_
  refine lv_iconst (v := nI 1) hx hb dL_law_432 (by decide +kernel) ?_
  refine lv_iadd hx hb dL_law_433 ?_
  refine va_sld hx hb hX hbl hbA hS (vp_k 1 (by omega) hL) dL_law_434 ?_
  refine lv_aload_n hx hb dL_law_435 rfl (lv_at hl 0 rfl) ?_
  refine lv_iload_n hx hb dL_law_436 rfl (lv_at hl 3 rfl) ?_
  refine lv_iconst (v := nI 2) hx hb dL_law_437 (by decide +kernel) ?_
  refine lv_iadd hx hb dL_law_438 ?_
  refine va_sld hx hb hX hbl hbA hS (vp_k 2 (by omega) hL) dL_law_439 ?_
  refine lv_aload_n hx hb dL_law_440 rfl (lv_at hl 0 rfl) ?_
  refine lv_iload_n hx hb dL_law_441 rfl (lv_at hl 3 rfl) ?_
  refine lv_iconst (v := nI 3) hx hb dL_law_442 (by decide +kernel) ?_
  refine lv_iadd hx hb dL_law_443 ?_
  refine va_sld hx hb hX hbl hbA hS (vp_k 3 (by omega) hL) dL_law_444 ?_
  refine lw_call (As := [.int (xs (nI k + nI 1).toNatClampNeg), .int (xs (nI k + nI 2).toNatClampNeg), .int (xs (nI k + nI 3).toNatClampNeg)]) (rest := [.int r]) hx hb hml hown hts hA hK kL_63 vX5_told hPM rfl rfl rfl rfl hP hD hS _ _ (rgM u1 u2 kA V' E' V).1 (rgM u1 u2 kA V' E' V).2 (by decide) (by decide) hl.1 rfl (Nat.le_of_ble_eq_true rfl) dL_law_445 (fun r' h' H2 locs2 hq hP hD hS => ?_)
  obtain ⟨rfl, rfl⟩ := hq
  change W p l e room_1 s m #[Value.ref b] below meth c H2 locs2 60 11469 _ (F0 m 448 ls [.int r, .int r])
  exact lv_icmp_eq (tgt := 634) hx hb dL_law_448 (by decide) (fun _ => kk V' E' H2 locs2 hSI ⟨hP, hD, hS⟩) (fun q => absurd rfl q)

set_option maxRecDepth 100000 in
set_option maxHeartbeats 4000000 in
theorem lc_given {p : Program} {l : Launch} {e : Env} {s : State} {m : MethodId} {below : List Frame} {meth : Method} {c : Code} {b L : Nat} {xs : Nat → Int32} {D : va_G} {kA : Nat → ClassId} {u1 u2 : Nat → Nat} {Q : State → Prop} (hL : L ≤ 2560) (C0 : lw_At p s m meth c b L xs) (hK : va_K D vwCl (zt kA) s) {k : Nat} (hk5 : k + 5 ≤ L) {V E : zS} (h : SI V E) {H : Heap} {locs : List Loc} (hW : lSt s D kA u1 u2 V E H locs) {ls : Array Slot} (hl : lv_has ls 4 [(0, .ref b), (1, .ref (u1 0)), (2, .ref (u2 0)), (3, .int (nI k))])
    (kk : ∀ (V' E' : zS) (H' : Heap) (locs' : List Loc), SI V' E' → lSt s D kA u1 u2 V' E' H' locs' → W p l e room_1 s m #[Value.ref b] below meth c H' locs' 60 11469 Q (F0 m 634 ls [])) : W p l e room_1 s m #[Value.ref b] below meth c H locs 60 11469 Q (F0 m 453 ls []) := by
  obtain ⟨hx, hb, hr, hml, hown, hts0, hX, hbl, hlocks, hgv⟩ := C0
  have hts : ∀ w ∈ zT, w.before #[Value.ref b] s = true := fun w hw => hts0 w (List.mem_filter.mp hw).1
  obtain ⟨hP, hD, hS⟩ := hW
  have hA : ∀ q : Nat, s.heap.size ≤ q → (fun q : Nat => s.heap.size ≤ q) q := fun _ h => h
  have hbA : ¬ (fun q : Nat => s.heap.size ≤ q) b := Nat.not_le.mpr hbl
  obtain ⟨r, V', hPM, hPX⟩ := P_given h (xs (nI k + nI 1).toNatClampNeg) (xs (nI k + nI 2).toNatClampNeg)
  refine lv_aload_n hx hb dL_law_453 rfl (lv_at hl 1 rfl) ?_
  refine lv_aload_n hx hb dL_law_454 rfl (lv_at hl 0 rfl) ?_
  refine lv_iload_n hx hb dL_law_455 rfl (lv_at hl 3 rfl) ?_
  refine lv_iconst (v := nI 1) hx hb dL_law_456 (by decide +kernel) ?_
  refine lv_iadd hx hb dL_law_457 ?_
  refine va_sld hx hb hX hbl hbA hS (vp_k 1 (by omega) hL) dL_law_458 ?_
  refine lv_aload_n hx hb dL_law_459 rfl (lv_at hl 0 rfl) ?_
  refine lv_iload_n hx hb dL_law_460 rfl (lv_at hl 3 rfl) ?_
  refine lv_iconst (v := nI 2) hx hb dL_law_461 (by decide +kernel) ?_
  refine lv_iadd hx hb dL_law_462 ?_
  refine va_sld hx hb hX hbl hbA hS (vp_k 2 (by omega) hL) dL_law_463 ?_
  refine lw_call (As := [.int (xs (nI k + nI 1).toNatClampNeg), .int (xs (nI k + nI 2).toNatClampNeg)]) (rest := []) hx hb hml hown hts hA hK kL_64 vX4_given hPX rfl rfl rfl rfl hP hD hS _ _ (rgX u1 u2 kA V E V).1 (rgX u1 u2 kA V E V).2 (by decide) (by decide) hl.1 rfl (Nat.le_of_ble_eq_true rfl) dL_law_464 (fun r' h' H1 locs1 hq hP hD hS => ?_)
  obtain ⟨rfl, E', hSI, rfl⟩ := hq
  change W p l e room_1 s m #[Value.ref b] below meth c H1 locs1 60 11469 _ (F0 m 467 ls [.int r])
  refine lv_aload_n hx hb dL_law_467 rfl (lv_at hl 2 rfl) ?_
  refine lv_aload_n hx hb dL_law_468 rfl (lv_at hl 0 rfl) ?_
  refine lv_iload_n hx hb dL_law_469 rfl (lv_at hl 3 rfl) ?_
  refine lv_iconst (v := nI 1) hx hb dL_law_470 (by decide +kernel) ?_
  refine lv_iadd hx hb dL_law_471 ?_
  refine va_sld hx hb hX hbl hbA hS (vp_k 1 (by omega) hL) dL_law_472 ?_
  refine lv_aload_n hx hb dL_law_473 rfl (lv_at hl 0 rfl) ?_
  refine lv_iload_n hx hb dL_law_474 rfl (lv_at hl 3 rfl) ?_
  refine lv_iconst (v := nI 2) hx hb dL_law_475 (by decide +kernel) ?_
  refine lv_iadd hx hb dL_law_476 ?_
  refine va_sld hx hb hX hbl hbA hS (vp_k 2 (by omega) hL) dL_law_477 ?_
  refine lw_call (As := [.int (xs (nI k + nI 1).toNatClampNeg), .int (xs (nI k + nI 2).toNatClampNeg)]) (rest := [.int r]) hx hb hml hown hts hA hK kL_67 vX5_given hPM rfl rfl rfl rfl hP hD hS _ _ (rgM u1 u2 kA V' E' V).1 (rgM u1 u2 kA V' E' V).2 (by decide) (by decide) hl.1 rfl (Nat.le_of_ble_eq_true rfl) dL_law_478 (fun r' h' H2 locs2 hq hP hD hS => ?_)
  obtain ⟨rfl, rfl⟩ := hq
  change W p l e room_1 s m #[Value.ref b] below meth c H2 locs2 60 11469 _ (F0 m 481 ls [.int r, .int r])
  exact lv_icmp_eq (tgt := 634) hx hb dL_law_481 (by decide) (fun _ => kk V' E' H2 locs2 hSI ⟨hP, hD, hS⟩) (fun q => absurd rfl q)

set_option maxRecDepth 100000 in
set_option maxHeartbeats 4000000 in
theorem lc_where {p : Program} {l : Launch} {e : Env} {s : State} {m : MethodId} {below : List Frame} {meth : Method} {c : Code} {b L : Nat} {xs : Nat → Int32} {D : va_G} {kA : Nat → ClassId} {u1 u2 : Nat → Nat} {Q : State → Prop} (hL : L ≤ 2560) (C0 : lw_At p s m meth c b L xs) (hK : va_K D vwCl (zt kA) s) {k : Nat} (hk5 : k + 5 ≤ L) {V E : zS} (h : SI V E) {H : Heap} {locs : List Loc} (hW : lSt s D kA u1 u2 V E H locs) {ls : Array Slot} (hl : lv_has ls 4 [(0, .ref b), (1, .ref (u1 0)), (2, .ref (u2 0)), (3, .int (nI k))])
    (kk : ∀ (V' E' : zS) (H' : Heap) (locs' : List Loc), SI V' E' → lSt s D kA u1 u2 V' E' H' locs' → W p l e room_1 s m #[Value.ref b] below meth c H' locs' 60 11469 Q (F0 m 634 ls [])) : W p l e room_1 s m #[Value.ref b] below meth c H locs 60 11469 Q (F0 m 486 ls []) := by
  obtain ⟨hx, hb, hr, hml, hown, hts0, hX, hbl, hlocks, hgv⟩ := C0
  have hts : ∀ w ∈ zT, w.before #[Value.ref b] s = true := fun w hw => hts0 w (List.mem_filter.mp hw).1
  obtain ⟨hP, hD, hS⟩ := hW
  have hA : ∀ q : Nat, s.heap.size ≤ q → (fun q : Nat => s.heap.size ≤ q) q := fun _ h => h
  have hbA : ¬ (fun q : Nat => s.heap.size ≤ q) b := Nat.not_le.mpr hbl
  obtain ⟨r, V', hPM, hPX⟩ := P_where h (xs (nI k + nI 1).toNatClampNeg) (xs (nI k + nI 2).toNatClampNeg)
  refine lv_aload_n hx hb dL_law_486 rfl (lv_at hl 1 rfl) ?_
  refine lv_aload_n hx hb dL_law_487 rfl (lv_at hl 0 rfl) ?_
  refine lv_iload_n hx hb dL_law_488 rfl (lv_at hl 3 rfl) ?_
  refine lv_iconst (v := nI 1) hx hb dL_law_489 (by decide +kernel) ?_
  refine lv_iadd hx hb dL_law_490 ?_
  refine va_sld hx hb hX hbl hbA hS (vp_k 1 (by omega) hL) dL_law_491 ?_
  refine lv_aload_n hx hb dL_law_492 rfl (lv_at hl 0 rfl) ?_
  refine lv_iload_n hx hb dL_law_493 rfl (lv_at hl 3 rfl) ?_
  refine lv_iconst (v := nI 2) hx hb dL_law_494 (by decide +kernel) ?_
  refine lv_iadd hx hb dL_law_495 ?_
  refine va_sld hx hb hX hbl hbA hS (vp_k 2 (by omega) hL) dL_law_496 ?_
  refine lw_call (As := [.int (xs (nI k + nI 1).toNatClampNeg), .int (xs (nI k + nI 2).toNatClampNeg)]) (rest := []) hx hb hml hown hts hA hK kL_68 vX4_where hPX rfl rfl rfl rfl hP hD hS _ _ (rgX u1 u2 kA V E V).1 (rgX u1 u2 kA V E V).2 (by decide) (by decide) hl.1 rfl (Nat.le_of_ble_eq_true rfl) dL_law_497 (fun r' h' H1 locs1 hq hP hD hS => ?_)
  obtain ⟨rfl, E', hSI, rfl⟩ := hq
  change W p l e room_1 s m #[Value.ref b] below meth c H1 locs1 60 11469 _ (F0 m 500 ls [.int r])
  refine lv_aload_n hx hb dL_law_500 rfl (lv_at hl 2 rfl) ?_
  refine lv_aload_n hx hb dL_law_501 rfl (lv_at hl 0 rfl) ?_
  refine lv_iload_n hx hb dL_law_502 rfl (lv_at hl 3 rfl) ?_
  refine lv_iconst (v := nI 1) hx hb dL_law_503 (by decide +kernel) ?_
  refine lv_iadd hx hb dL_law_504 ?_
  refine va_sld hx hb hX hbl hbA hS (vp_k 1 (by omega) hL) dL_law_505 ?_
  refine lv_aload_n hx hb dL_law_506 rfl (lv_at hl 0 rfl) ?_
  refine lv_iload_n hx hb dL_law_507 rfl (lv_at hl 3 rfl) ?_
  refine lv_iconst (v := nI 2) hx hb dL_law_508 (by decide +kernel) ?_
  refine lv_iadd hx hb dL_law_509 ?_
  refine va_sld hx hb hX hbl hbA hS (vp_k 2 (by omega) hL) dL_law_510 ?_
  refine lw_call (As := [.int (xs (nI k + nI 1).toNatClampNeg), .int (xs (nI k + nI 2).toNatClampNeg)]) (rest := [.int r]) hx hb hml hown hts hA hK kL_71 vX5_where hPM rfl rfl rfl rfl hP hD hS _ _ (rgM u1 u2 kA V' E' V).1 (rgM u1 u2 kA V' E' V).2 (by decide) (by decide) hl.1 rfl (Nat.le_of_ble_eq_true rfl) dL_law_511 (fun r' h' H2 locs2 hq hP hD hS => ?_)
  obtain ⟨rfl, rfl⟩ := hq
  change W p l e room_1 s m #[Value.ref b] below meth c H2 locs2 60 11469 _ (F0 m 514 ls [.int r, .int r])
  exact lv_icmp_eq (tgt := 634) hx hb dL_law_514 (by decide) (fun _ => kk V' E' H2 locs2 hSI ⟨hP, hD, hS⟩) (fun q => absurd rfl q)

set_option maxRecDepth 100000 in
set_option maxHeartbeats 4000000 in
theorem lc_sum {p : Program} {l : Launch} {e : Env} {s : State} {m : MethodId} {below : List Frame} {meth : Method} {c : Code} {b L : Nat} {xs : Nat → Int32} {D : va_G} {kA : Nat → ClassId} {u1 u2 : Nat → Nat} {Q : State → Prop} (hL : L ≤ 2560) (C0 : lw_At p s m meth c b L xs) (hK : va_K D vwCl (zt kA) s) {k : Nat} (hk5 : k + 5 ≤ L) {V E : zS} (h : SI V E) {H : Heap} {locs : List Loc} (hW : lSt s D kA u1 u2 V E H locs) {ls : Array Slot} (hl : lv_has ls 4 [(0, .ref b), (1, .ref (u1 0)), (2, .ref (u2 0)), (3, .int (nI k))])
    (kk : ∀ (V' E' : zS) (H' : Heap) (locs' : List Loc), SI V' E' → lSt s D kA u1 u2 V' E' H' locs' → W p l e room_1 s m #[Value.ref b] below meth c H' locs' 60 11469 Q (F0 m 634 ls [])) : W p l e room_1 s m #[Value.ref b] below meth c H locs 60 11469 Q (F0 m 519 ls []) := by
  obtain ⟨hx, hb, hr, hml, hown, hts0, hX, hbl, hlocks, hgv⟩ := C0
  have hts : ∀ w ∈ zT, w.before #[Value.ref b] s = true := fun w hw => hts0 w (List.mem_filter.mp hw).1
  obtain ⟨hP, hD, hS⟩ := hW
  have hA : ∀ q : Nat, s.heap.size ≤ q → (fun q : Nat => s.heap.size ≤ q) q := fun _ h => h
  have hbA : ¬ (fun q : Nat => s.heap.size ≤ q) b := Nat.not_le.mpr hbl
  obtain ⟨r, V', hPM, hPX⟩ := P_sum h (xs (nI k + nI 1).toNatClampNeg) (xs (nI k + nI 2).toNatClampNeg)
  refine lv_aload_n hx hb dL_law_519 rfl (lv_at hl 1 rfl) ?_
  refine lv_aload_n hx hb dL_law_520 rfl (lv_at hl 0 rfl) ?_
  refine lv_iload_n hx hb dL_law_521 rfl (lv_at hl 3 rfl) ?_
  refine lv_iconst (v := nI 1) hx hb dL_law_522 (by decide +kernel) ?_
  refine lv_iadd hx hb dL_law_523 ?_
  refine va_sld hx hb hX hbl hbA hS (vp_k 1 (by omega) hL) dL_law_524 ?_
  refine lv_aload_n hx hb dL_law_525 rfl (lv_at hl 0 rfl) ?_
  refine lv_iload_n hx hb dL_law_526 rfl (lv_at hl 3 rfl) ?_
  refine lv_iconst (v := nI 2) hx hb dL_law_527 (by decide +kernel) ?_
  refine lv_iadd hx hb dL_law_528 ?_
  refine va_sld hx hb hX hbl hbA hS (vp_k 2 (by omega) hL) dL_law_529 ?_
  refine lw_call (As := [.int (xs (nI k + nI 1).toNatClampNeg), .int (xs (nI k + nI 2).toNatClampNeg)]) (rest := []) hx hb hml hown hts hA hK kL_72 vX4_sum hPX rfl rfl rfl rfl hP hD hS _ _ (rgX u1 u2 kA V E V).1 (rgX u1 u2 kA V E V).2 (by decide) (by decide) hl.1 rfl (Nat.le_of_ble_eq_true rfl) dL_law_530 (fun r' h' H1 locs1 hq hP hD hS => ?_)
  obtain ⟨rfl, E', hSI, rfl⟩ := hq
  change W p l e room_1 s m #[Value.ref b] below meth c H1 locs1 60 11469 _ (F0 m 533 ls [.int r])
  refine lv_aload_n hx hb dL_law_533 rfl (lv_at hl 2 rfl) ?_
  refine lv_aload_n hx hb dL_law_534 rfl (lv_at hl 0 rfl) ?_
  refine lv_iload_n hx hb dL_law_535 rfl (lv_at hl 3 rfl) ?_
  refine lv_iconst (v := nI 1) hx hb dL_law_536 (by decide +kernel) ?_
  refine lv_iadd hx hb dL_law_537 ?_
  refine va_sld hx hb hX hbl hbA hS (vp_k 1 (by omega) hL) dL_law_538 ?_
  refine lv_aload_n hx hb dL_law_539 rfl (lv_at hl 0 rfl) ?_
  refine lv_iload_n hx hb dL_law_540 rfl (lv_at hl 3 rfl) ?_
  refine lv_iconst (v := nI 2) hx hb dL_law_541 (by decide +kernel) ?_
  refine lv_iadd hx hb dL_law_542 ?_
  refine va_sld hx hb hX hbl hbA hS (vp_k 2 (by omega) hL) dL_law_543 ?_
  refine lw_call (As := [.int (xs (nI k + nI 1).toNatClampNeg), .int (xs (nI k + nI 2).toNatClampNeg)]) (rest := [.int r]) hx hb hml hown hts hA hK kL_75 vX5_sum hPM rfl rfl rfl rfl hP hD hS _ _ (rgM u1 u2 kA V' E' V).1 (rgM u1 u2 kA V' E' V).2 (by decide) (by decide) hl.1 rfl (Nat.le_of_ble_eq_true rfl) dL_law_544 (fun r' h' H2 locs2 hq hP hD hS => ?_)
  obtain ⟨rfl, rfl⟩ := hq
  change W p l e room_1 s m #[Value.ref b] below meth c H2 locs2 60 11469 _ (F0 m 547 ls [.int r, .int r])
  exact lv_icmp_eq (tgt := 634) hx hb dL_law_547 (by decide) (fun _ => kk V' E' H2 locs2 hSI ⟨hP, hD, hS⟩) (fun q => absurd rfl q)

set_option maxRecDepth 100000 in
set_option maxHeartbeats 4000000 in
theorem lc_plain {p : Program} {l : Launch} {e : Env} {s : State} {m : MethodId} {below : List Frame} {meth : Method} {c : Code} {b L : Nat} {xs : Nat → Int32} {D : va_G} {kA : Nat → ClassId} {u1 u2 : Nat → Nat} {Q : State → Prop} (hL : L ≤ 2560) (C0 : lw_At p s m meth c b L xs) (hK : va_K D vwCl (zt kA) s) {k : Nat} (hk5 : k + 5 ≤ L) {V E : zS} (h : SI V E) {H : Heap} {locs : List Loc} (hW : lSt s D kA u1 u2 V E H locs) {ls : Array Slot} (hl : lv_has ls 4 [(0, .ref b), (1, .ref (u1 0)), (2, .ref (u2 0)), (3, .int (nI k))])
    (kk : ∀ (V' E' : zS) (H' : Heap) (locs' : List Loc), SI V' E' → lSt s D kA u1 u2 V' E' H' locs' → W p l e room_1 s m #[Value.ref b] below meth c H' locs' 60 11469 Q (F0 m 634 ls [])) : W p l e room_1 s m #[Value.ref b] below meth c H locs 60 11469 Q (F0 m 552 ls []) := by
  obtain ⟨hx, hb, hr, hml, hown, hts0, hX, hbl, hlocks, hgv⟩ := C0
  have hts : ∀ w ∈ zT, w.before #[Value.ref b] s = true := fun w hw => hts0 w (List.mem_filter.mp hw).1
  obtain ⟨hP, hD, hS⟩ := hW
  have hA : ∀ q : Nat, s.heap.size ≤ q → (fun q : Nat => s.heap.size ≤ q) q := fun _ h => h
  have hbA : ¬ (fun q : Nat => s.heap.size ≤ q) b := Nat.not_le.mpr hbl
  obtain ⟨r, V', hPM, hPX⟩ := P_plain h
  refine lv_aload_n hx hb dL_law_552 rfl (lv_at hl 1 rfl) ?_
  refine lw_call (As := []) (rest := []) hx hb hml hown hts hA hK kL_76 vX4_plain hPX rfl rfl rfl rfl hP hD hS _ _ (rgX u1 u2 kA V E V).1 (rgX u1 u2 kA V E V).2 (by decide) (by decide) hl.1 rfl (Nat.le_of_ble_eq_true rfl) dL_law_553 (fun r' h' H1 locs1 hq hP hD hS => ?_)
  obtain ⟨rfl, E', hSI, rfl⟩ := hq
  change W p l e room_1 s m #[Value.ref b] below meth c H1 locs1 60 11469 _ (F0 m 556 ls [.int r])
  refine lv_aload_n hx hb dL_law_556 rfl (lv_at hl 2 rfl) ?_
  refine lw_call (As := []) (rest := [.int r]) hx hb hml hown hts hA hK kL_80 vX5_plain hPM rfl rfl rfl rfl hP hD hS _ _ (rgM u1 u2 kA V' E' V).1 (rgM u1 u2 kA V' E' V).2 (by decide) (by decide) hl.1 rfl (Nat.le_of_ble_eq_true rfl) dL_law_557 (fun r' h' H2 locs2 hq hP hD hS => ?_)
  obtain ⟨rfl, rfl⟩ := hq
  change W p l e room_1 s m #[Value.ref b] below meth c H2 locs2 60 11469 _ (F0 m 560 ls [.int r, .int r])
  exact lv_icmp_eq (tgt := 634) hx hb dL_law_560 (by decide) (fun _ => kk V' E' H2 locs2 hSI ⟨hP, hD, hS⟩) (fun q => absurd rfl q)

set_option maxRecDepth 100000 in
set_option maxHeartbeats 4000000 in
theorem lc_fixed {p : Program} {l : Launch} {e : Env} {s : State} {m : MethodId} {below : List Frame} {meth : Method} {c : Code} {b L : Nat} {xs : Nat → Int32} {D : va_G} {kA : Nat → ClassId} {u1 u2 : Nat → Nat} {Q : State → Prop} (hL : L ≤ 2560) (C0 : lw_At p s m meth c b L xs) (hK : va_K D vwCl (zt kA) s) {k : Nat} (hk5 : k + 5 ≤ L) {V E : zS} (h : SI V E) {H : Heap} {locs : List Loc} (hW : lSt s D kA u1 u2 V E H locs) {ls : Array Slot} (hl : lv_has ls 4 [(0, .ref b), (1, .ref (u1 0)), (2, .ref (u2 0)), (3, .int (nI k))])
    (kk : ∀ (V' E' : zS) (H' : Heap) (locs' : List Loc), SI V' E' → lSt s D kA u1 u2 V' E' H' locs' → W p l e room_1 s m #[Value.ref b] below meth c H' locs' 60 11469 Q (F0 m 634 ls [])) : W p l e room_1 s m #[Value.ref b] below meth c H locs 60 11469 Q (F0 m 565 ls []) := by
  obtain ⟨hx, hb, hr, hml, hown, hts0, hX, hbl, hlocks, hgv⟩ := C0
  have hts : ∀ w ∈ zT, w.before #[Value.ref b] s = true := fun w hw => hts0 w (List.mem_filter.mp hw).1
  obtain ⟨hP, hD, hS⟩ := hW
  have hA : ∀ q : Nat, s.heap.size ≤ q → (fun q : Nat => s.heap.size ≤ q) q := fun _ h => h
  have hbA : ¬ (fun q : Nat => s.heap.size ≤ q) b := Nat.not_le.mpr hbl
  obtain ⟨r, V', hPM, hPX⟩ := P_fixed h (xs (nI k + nI 1).toNatClampNeg)
  refine lv_aload_n hx hb dL_law_565 rfl (lv_at hl 1 rfl) ?_
  refine lv_aload_n hx hb dL_law_566 rfl (lv_at hl 0 rfl) ?_
  refine lv_iload_n hx hb dL_law_567 rfl (lv_at hl 3 rfl) ?_
  refine lv_iconst (v := nI 1) hx hb dL_law_568 (by decide +kernel) ?_
  refine lv_iadd hx hb dL_law_569 ?_
  refine va_sld hx hb hX hbl hbA hS (vp_k 1 (by omega) hL) dL_law_570 ?_
  refine lw_call (As := [.int (xs (nI k + nI 1).toNatClampNeg)]) (rest := []) hx hb hml hown hts hA hK kL_81 vX4_fixed hPX rfl rfl rfl rfl hP hD hS _ _ (rgX u1 u2 kA V E V).1 (rgX u1 u2 kA V E V).2 (by decide) (by decide) hl.1 rfl (Nat.le_of_ble_eq_true rfl) dL_law_571 (fun r' h' H1 locs1 hq hP hD hS => ?_)
  obtain ⟨rfl, E', hSI, rfl⟩ := hq
  change W p l e room_1 s m #[Value.ref b] below meth c H1 locs1 60 11469 _ (F0 m 574 ls [.int r])
  refine lv_aload_n hx hb dL_law_574 rfl (lv_at hl 2 rfl) ?_
  refine lv_aload_n hx hb dL_law_575 rfl (lv_at hl 0 rfl) ?_
  refine lv_iload_n hx hb dL_law_576 rfl (lv_at hl 3 rfl) ?_
  refine lv_iconst (v := nI 1) hx hb dL_law_577 (by decide +kernel) ?_
  refine lv_iadd hx hb dL_law_578 ?_
  refine va_sld hx hb hX hbl hbA hS (vp_k 1 (by omega) hL) dL_law_579 ?_
  refine lw_call (As := [.int (xs (nI k + nI 1).toNatClampNeg)]) (rest := [.int r]) hx hb hml hown hts hA hK kL_84 vX5_fixed hPM rfl rfl rfl rfl hP hD hS _ _ (rgM u1 u2 kA V' E' V).1 (rgM u1 u2 kA V' E' V).2 (by decide) (by decide) hl.1 rfl (Nat.le_of_ble_eq_true rfl) dL_law_580 (fun r' h' H2 locs2 hq hP hD hS => ?_)
  obtain ⟨rfl, rfl⟩ := hq
  change W p l e room_1 s m #[Value.ref b] below meth c H2 locs2 60 11469 _ (F0 m 583 ls [.int r, .int r])
  exact lv_icmp_eq (tgt := 634) hx hb dL_law_583 (by decide) (fun _ => kk V' E' H2 locs2 hSI ⟨hP, hD, hS⟩) (fun q => absurd rfl q)

set_option maxRecDepth 100000 in
set_option maxHeartbeats 4000000 in
theorem lc_cost {p : Program} {l : Launch} {e : Env} {s : State} {m : MethodId} {below : List Frame} {meth : Method} {c : Code} {b L : Nat} {xs : Nat → Int32} {D : va_G} {kA : Nat → ClassId} {u1 u2 : Nat → Nat} {Q : State → Prop} (hL : L ≤ 2560) (C0 : lw_At p s m meth c b L xs) (hK : va_K D vwCl (zt kA) s) {k : Nat} (hk5 : k + 5 ≤ L) {V E : zS} (h : SI V E) {H : Heap} {locs : List Loc} (hW : lSt s D kA u1 u2 V E H locs) {ls : Array Slot} (hl : lv_has ls 4 [(0, .ref b), (1, .ref (u1 0)), (2, .ref (u2 0)), (3, .int (nI k))])
    (kk : ∀ (V' E' : zS) (H' : Heap) (locs' : List Loc), SI V' E' → lSt s D kA u1 u2 V' E' H' locs' → W p l e room_1 s m #[Value.ref b] below meth c H' locs' 60 11469 Q (F0 m 634 ls [])) : W p l e room_1 s m #[Value.ref b] below meth c H locs 60 11469 Q (F0 m 588 ls []) := by
  obtain ⟨hx, hb, hr, hml, hown, hts0, hX, hbl, hlocks, hgv⟩ := C0
  have hts : ∀ w ∈ zT, w.before #[Value.ref b] s = true := fun w hw => hts0 w (List.mem_filter.mp hw).1
  obtain ⟨hP, hD, hS⟩ := hW
  have hA : ∀ q : Nat, s.heap.size ≤ q → (fun q : Nat => s.heap.size ≤ q) q := fun _ h => h
  have hbA : ¬ (fun q : Nat => s.heap.size ≤ q) b := Nat.not_le.mpr hbl
  obtain ⟨r, V', hPM, hPX⟩ := P_cost h (xs (nI k + nI 1).toNatClampNeg)
  refine lv_aload_n hx hb dL_law_588 rfl (lv_at hl 1 rfl) ?_
  refine lv_aload_n hx hb dL_law_589 rfl (lv_at hl 0 rfl) ?_
  refine lv_iload_n hx hb dL_law_590 rfl (lv_at hl 3 rfl) ?_
  refine lv_iconst (v := nI 1) hx hb dL_law_591 (by decide +kernel) ?_
  refine lv_iadd hx hb dL_law_592 ?_
  refine va_sld hx hb hX hbl hbA hS (vp_k 1 (by omega) hL) dL_law_593 ?_
  refine lw_call (As := [.int (xs (nI k + nI 1).toNatClampNeg)]) (rest := []) hx hb hml hown hts hA hK kL_85 vX4_cost hPX rfl rfl rfl rfl hP hD hS _ _ (rgX u1 u2 kA V E V).1 (rgX u1 u2 kA V E V).2 (by decide) (by decide) hl.1 rfl (Nat.le_of_ble_eq_true rfl) dL_law_594 (fun r' h' H1 locs1 hq hP hD hS => ?_)
  obtain ⟨rfl, E', hSI, rfl⟩ := hq
  change W p l e room_1 s m #[Value.ref b] below meth c H1 locs1 60 11469 _ (F0 m 597 ls [.int r])
  refine lv_aload_n hx hb dL_law_597 rfl (lv_at hl 2 rfl) ?_
  refine lv_aload_n hx hb dL_law_598 rfl (lv_at hl 0 rfl) ?_
  refine lv_iload_n hx hb dL_law_599 rfl (lv_at hl 3 rfl) ?_
  refine lv_iconst (v := nI 1) hx hb dL_law_600 (by decide +kernel) ?_
  refine lv_iadd hx hb dL_law_601 ?_
  refine va_sld hx hb hX hbl hbA hS (vp_k 1 (by omega) hL) dL_law_602 ?_
  refine lw_call (As := [.int (xs (nI k + nI 1).toNatClampNeg)]) (rest := [.int r]) hx hb hml hown hts hA hK kL_88 vX5_cost hPM rfl rfl rfl rfl hP hD hS _ _ (rgM u1 u2 kA V' E' V).1 (rgM u1 u2 kA V' E' V).2 (by decide) (by decide) hl.1 rfl (Nat.le_of_ble_eq_true rfl) dL_law_603 (fun r' h' H2 locs2 hq hP hD hS => ?_)
  obtain ⟨rfl, rfl⟩ := hq
  change W p l e room_1 s m #[Value.ref b] below meth c H2 locs2 60 11469 _ (F0 m 606 ls [.int r, .int r])
  exact lv_icmp_eq (tgt := 634) hx hb dL_law_606 (by decide) (fun _ => kk V' E' H2 locs2 hSI ⟨hP, hD, hS⟩) (fun q => absurd rfl q)

set_option maxRecDepth 100000 in
set_option maxHeartbeats 4000000 in
theorem lc_count {p : Program} {l : Launch} {e : Env} {s : State} {m : MethodId} {below : List Frame} {meth : Method} {c : Code} {b L : Nat} {xs : Nat → Int32} {D : va_G} {kA : Nat → ClassId} {u1 u2 : Nat → Nat} {Q : State → Prop} (hL : L ≤ 2560) (C0 : lw_At p s m meth c b L xs) (hK : va_K D vwCl (zt kA) s) {k : Nat} (hk5 : k + 5 ≤ L) {V E : zS} (h : SI V E) {H : Heap} {locs : List Loc} (hW : lSt s D kA u1 u2 V E H locs) {ls : Array Slot} (hl : lv_has ls 4 [(0, .ref b), (1, .ref (u1 0)), (2, .ref (u2 0)), (3, .int (nI k))])
    (kk : ∀ (V' E' : zS) (H' : Heap) (locs' : List Loc), SI V' E' → lSt s D kA u1 u2 V' E' H' locs' → W p l e room_1 s m #[Value.ref b] below meth c H' locs' 60 11469 Q (F0 m 634 ls [])) : W p l e room_1 s m #[Value.ref b] below meth c H locs 60 11469 Q (F0 m 611 ls []) := by
  obtain ⟨hx, hb, hr, hml, hown, hts0, hX, hbl, hlocks, hgv⟩ := C0
  have hts : ∀ w ∈ zT, w.before #[Value.ref b] s = true := fun w hw => hts0 w (List.mem_filter.mp hw).1
  obtain ⟨hP, hD, hS⟩ := hW
  have hA : ∀ q : Nat, s.heap.size ≤ q → (fun q : Nat => s.heap.size ≤ q) q := fun _ h => h
  have hbA : ¬ (fun q : Nat => s.heap.size ≤ q) b := Nat.not_le.mpr hbl
  obtain ⟨r, V', hPM, hPX⟩ := P_count h (xs (nI k + nI 1).toNatClampNeg)
  refine lv_aload_n hx hb dL_law_611 rfl (lv_at hl 1 rfl) ?_
  refine lv_aload_n hx hb dL_law_612 rfl (lv_at hl 0 rfl) ?_
  refine lv_iload_n hx hb dL_law_613 rfl (lv_at hl 3 rfl) ?_
  refine lv_iconst (v := nI 1) hx hb dL_law_614 (by decide +kernel) ?_
  refine lv_iadd hx hb dL_law_615 ?_
  refine va_sld hx hb hX hbl hbA hS (vp_k 1 (by omega) hL) dL_law_616 ?_
  refine lw_call (As := [.int (xs (nI k + nI 1).toNatClampNeg)]) (rest := []) hx hb hml hown hts hA hK kL_89 vX4_count hPX rfl rfl rfl rfl hP hD hS _ _ (rgX u1 u2 kA V E V).1 (rgX u1 u2 kA V E V).2 (by decide) (by decide) hl.1 rfl (Nat.le_of_ble_eq_true rfl) dL_law_617 (fun r' h' H1 locs1 hq hP hD hS => ?_)
  obtain ⟨rfl, E', hSI, rfl⟩ := hq
  change W p l e room_1 s m #[Value.ref b] below meth c H1 locs1 60 11469 _ (F0 m 620 ls [.int r])
  refine lv_aload_n hx hb dL_law_620 rfl (lv_at hl 2 rfl) ?_
  refine lv_aload_n hx hb dL_law_621 rfl (lv_at hl 0 rfl) ?_
  refine lv_iload_n hx hb dL_law_622 rfl (lv_at hl 3 rfl) ?_
  refine lv_iconst (v := nI 1) hx hb dL_law_623 (by decide +kernel) ?_
  refine lv_iadd hx hb dL_law_624 ?_
  refine va_sld hx hb hX hbl hbA hS (vp_k 1 (by omega) hL) dL_law_625 ?_
  refine lw_call (As := [.int (xs (nI k + nI 1).toNatClampNeg)]) (rest := [.int r]) hx hb hml hown hts hA hK kL_92 vX5_count hPM rfl rfl rfl rfl hP hD hS _ _ (rgM u1 u2 kA V' E' V).1 (rgM u1 u2 kA V' E' V).2 (by decide) (by decide) hl.1 rfl (Nat.le_of_ble_eq_true rfl) dL_law_626 (fun r' h' H2 locs2 hq hP hD hS => ?_)
  obtain ⟨rfl, rfl⟩ := hq
  change W p l e room_1 s m #[Value.ref b] below meth c H2 locs2 60 11469 _ (F0 m 629 ls [.int r, .int r])
  exact lv_icmp_eq (tgt := 634) hx hb dL_law_629 (by decide) (fun _ => kk V' E' H2 locs2 hSI ⟨hP, hD, hS⟩) (fun q => absurd rfl q)

