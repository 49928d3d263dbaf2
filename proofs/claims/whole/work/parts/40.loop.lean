theorem va_Pr {D : va_G} {cl : List vw_C} {a b : va_W} {H : Heap} (h : va_P D cl (a ++ b) H) : va_P D cl b H := fun k q hk => h (a.length + k) q (by rw [List.getElem?_append_right (by omega), show a.length + k - a.length = k by omega]; exact hk)
theorem tb_t {w : Cond} (i : Nat) (h : tables_1[i]? = some w) : w ∈ lw_tbl := List.mem_append_right _ (List.mem_of_getElem? h)
theorem aoX3 : Cond.arrayOver (.object RX3) ∈ lw_tbl := tb_t 52 (by decide +kernel)
theorem aoX2 : Cond.arrayOver (.object RX2) ∈ lw_tbl := tb_t 54 (by decide +kernel)
theorem nl_11 : Cond.methodLinkNest RX4 11 yX3_init RX4 ∈ lw_tbl := tb_t 19 (by decide +kernel)
theorem nl_31 : Cond.methodLinkNest RX4 31 yX0_init RX4 ∈ lw_tbl := tb_t 111 (by decide +kernel)
theorem nl_38 : Cond.methodLinkNest RX4 38 yX1_init RX4 ∈ lw_tbl := tb_t 133 (by decide +kernel)
theorem mlL_9 : Cond.methodLink RL 9 yX4_init ∈ zT := zT_t 11 (by decide +kernel) (by decide +kernel)
theorem mlL_12 : Cond.methodLink RL 12 yX5_init ∈ zT := zT_t 449 (by decide +kernel) (by decide +kernel)
/-- the classes and the arrays, as the tables have them -/
theorem law_K {s : State} {args : Array Value} (hts : ∀ w ∈ lw_tbl, w.before args s = true) : ∃ (D : va_G) (kA : Nat → ClassId), va_K D vwCl (zt kA) s := by
  have hz : ∀ w ∈ zT, w.before args s = true := fun w hw => hts w (List.mem_filter.mp hw).1
  obtain ⟨c0, i0, K0⟩ := u_known (C := RX0) (T := TX0) (N := 4) (n := 4) hz inX0 (hz _ nwX0)
  obtain ⟨c1, i1, K1⟩ := u_known (C := RX1) (T := TX1) (N := 3) (n := 3) hz inX1 (hz _ nwX1)
  obtain ⟨c2, i2, K2⟩ := u_known (C := RX2) (T := TX2) (N := 13) (n := 13) hz inX2 (hz _ nwX2)
  obtain ⟨c3, i3, K3⟩ := u_known (C := RX3) (T := TX3) (N := 7) (n := 7) hz inX3 (hz _ nwX3)
  obtain ⟨c4, i4, K4⟩ := u_known (C := RX4) (T := TX4) (N := 14) (n := 14) hz inX4 (hz _ nwX4)
  obtain ⟨c5, i5, K5⟩ := u_known (C := RX5) (T := TX5) (N := 32) (n := 32) hz inX5 (hz _ nwX5)
  obtain ⟨a0, k0, p0, x0, y0, z0⟩ := Cond.arrayClass_spec (hz _ aw0)
  obtain ⟨a1, k1, p1, x1, y1, z1⟩ := Cond.arrayClass_spec (hz _ aw1)
  obtain ⟨p2, a2, k2, v2, w2, x2, y2, z2⟩ := Cond.arrayOver_spec (hts _ aoX3)
  obtain ⟨p3, a3, k3, v3, w3, x3, y3, z3⟩ := Cond.arrayOver_spec (hts _ aoX2)
  refine ⟨(fun k => if k = 0 then c0 else if k = 1 then c1 else if k = 2 then c2 else if k = 3 then c3 else if k = 4 then c4 else c5, fun k => if k = 0 then i0 else if k = 1 then i1 else if k = 2 then i2 else if k = 3 then i3 else if k = 4 then i4 else i5), fun k => if k = 0 then a0 else if k = 1 then a1 else if k = 2 then a2 else a3, ?_, ?_⟩
  · intro k q hq
    match k, hq with
    | 0, hq => cases hq; exact K0
    | 1, hq => cases hq; exact K1
    | 2, hq => cases hq; exact K2
    | 3, hq => cases hq; exact K3
    | 4, hq => cases hq; exact K4
    | 5, hq => cases hq; exact K5
    | k + 6, hq => simp [vwCl] at hq
  · intro k q hq
    match k, hq with
    | 0, hq => cases hq; exact ⟨fun n z => ⟨fun k h => (by cases h), k0, y0, p0, z0⟩, x0⟩
    | 1, hq => cases hq; exact ⟨fun n z => ⟨fun k h => (by cases h), k1, y1, p1, z1⟩, x1⟩
    | 2, hq => cases hq; exact ⟨fun n z => ⟨fun k h => (by cases h), k2, x2, p2, y2⟩, k2, p2, x2, y2, v2, z2⟩
    | 3, hq => cases hq; exact ⟨fun n z => ⟨fun k h => (by cases h), k3, x3, p3, y3⟩, k3, p3, x3, y3, v3, z3⟩
    | k + 4, hq => simp [zt] at hq
theorem law_n {s : State} {args : Array Value} (hts : ∀ w ∈ lw_tbl, w.before args s = true) : nX4 s := ⟨va_Nw.of rfl (hts _ nl_11), va_Nw.of rfl (hts _ nl_31), va_Nw.of rfl (hts _ nl_38), va_AO.of (hts _ aoX3), va_AO.of (hts _ aoX2)⟩
theorem l_small : ∀ L, L < 5 → ∀ i, i < 5 → Int32.ofNat L - nI 5 < nI i := by decide +kernel
theorem l_in {L i : Nat} (hL : L ≤ 2560) (hi : i ≤ L) (h : ¬ Int32.ofNat L - nI 5 < nI i) : i + 5 ≤ L := by
  rcases Nat.lt_or_ge L 5 with q | q
  · exact absurd (l_small L q i (by omega)) h
  · have e : Int32.ofNat L - nI 5 = nI (L - 5) := by
      have e2 := nI_add (L - 5) 5
      rw [show L - 5 + 5 = L by omega] at e2
      show nI L - nI 5 = _
      rw [← e2, Int32.add_sub_cancel]
    rw [e] at h
    rcases Nat.lt_or_ge L (i + 5) with w | w
    · exact absurd (nI_lt (by omega) (by omega)) h
    · exact w

set_option maxRecDepth 100000 in
set_option maxHeartbeats 4000000 in
theorem law_loop {p : Program} {l : Launch} {e : Env} {s : State} {m : MethodId} {below : List Frame} {meth : Method} {c : Code} {b L : Nat} {xs : Nat → Int32} {D : va_G} {kA : Nat → ClassId} {u1 u2 : Nat → Nat} (hL : L ≤ 2560) (C0 : lw_At p s m meth c b L xs) (hK : va_K D vwCl (zt kA) s) :
    ∀ (n i : Nat), i ≤ L → L + 1 ≤ i + n → ∀ (V E : zS), SI V E → ∀ (H : Heap) (locs : List Loc), lSt s D kA u1 u2 V E H locs → ∀ (ls : Array Slot), lv_has ls 4 [(0, .ref b), (1, .ref (u1 0)), (2, .ref (u2 0)), (3, .int (nI i))] → W p l e room_1 s m #[Value.ref b] below meth c H locs 60 11469 (lw_Z below #[Value.ref b] s) (F0 m 18 ls []) := by
  obtain ⟨hx, hb, hr, hml, hown, hts, hX, hbl, hlocks, hgv⟩ := id C0
  have hbA : ¬ (fun q : Nat => s.heap.size ≤ q) b := Nat.not_le.mpr hbl
  intro n
  induction n with
  | zero =>
    intro i h1 h2
    exact absurd h2 (by omega)
  | succ n ih =>
    intro i hi hin V E h H locs hW ls hl
    have hS := hW.2.2
    refine lv_iload_n hx hb dL_law_18 rfl (lv_at hl 3 rfl) ?_
    refine lv_aload_n hx hb dL_law_19 rfl (lv_at hl 0 rfl) ?_
    refine va_slen hx hb hX hbl hbA hS dL_law_20 ?_
    refine lv_iconst (v := nI 5) hx hb dL_law_21 (by decide +kernel) ?_
    refine lv_isub hx hb dL_law_22 ?_
    refine lv_icmp_gt (tgt := 640) hx hb dL_law_23 (by decide) (fun c1 => ?_) (fun c1 => ?_)
    · refine lv_iconst (v := 1) hx hb dL_law_640 (by decide) ?_
      refine va_forget (fun q hq => hS.2.2 q hq) ?_
      exact lw_ret hx hb hr hlocks dL_law_641
    · have h5 : i + 5 ≤ L := l_in hL hi c1
      have h_11 : vp_in (nI i) L := vp_in_nI (by omega) (by omega)
      refine lv_aload_n hx hb dL_law_26 rfl (lv_at hl 0 rfl) ?_
      refine lv_iload_n hx hb dL_law_27 rfl (lv_at hl 3 rfl) ?_
      refine va_sld hx hb hX hbl hbA hS h_11 dL_law_28 ?_
      refine lv_bipush (v := 31) hx hb dL_law_29 (by decide) ?_
      refine lv_iand hx hb dL_law_31 ?_
      refine lv_topi (fun z _ => ?_)
      have kk : ∀ (V' E' : zS) (H' : Heap) (locs' : List Loc), SI V' E' → lSt s D kA u1 u2 V' E' H' locs' → W p l e room_1 s m #[Value.ref b] below meth c H' locs' 60 11469 (lw_Z below #[Value.ref b] s) (F0 m 634 ls []) := by
        intro V' E' H' locs' h' hW'
        refine lv_iinc (v := nI (i + 5)) (lv' := [(3, .int (nI (i + 5))), (0, .ref b), (1, .ref (u1 0)), (2, .ref (u2 0))]) hx hb dL_law_634 hl (k := 3) rfl (by rw [← nI_add]; rfl) (by decide) rfl (fun ls hl => ?_)
        refine lv_goto (tgt := 18) hx hb dL_law_637 (by decide) ?_
        exact ih (i + 5) h5 (by omega) V' E' h' H' locs' hW' ls (lv_sub hl [1, 2, 3, 0] rfl)
      by_cases hz : z.toInt < 0 ∨ 17 < z.toInt
      · refine lv_tableOut (tgt := 634) hx hb dL_law_32 hz (by decide) ?_
        exact kk V E H locs h hW
      have ez : z.toInt = 0 ∨ z.toInt = 1 ∨ z.toInt = 2 ∨ z.toInt = 3 ∨ z.toInt = 4 ∨ z.toInt = 5 ∨ z.toInt = 6 ∨ z.toInt = 7 ∨ z.toInt = 8 ∨ z.toInt = 9 ∨ z.toInt = 10 ∨ z.toInt = 11 ∨ z.toInt = 12 ∨ z.toInt = 13 ∨ z.toInt = 14 ∨ z.toInt = 15 ∨ z.toInt = 16 ∨ z.toInt = 17 := by omega
      rcases ez with ez | ez | ez | ez | ez | ez | ez | ez | ez | ez | ez | ez | ez | ez | ez | ez | ez | ez
      · refine lv_tableIn (off := 88) (tgt := 120) hx hb dL_law_32 (by omega) (by omega) (by rw [ez]; rfl) (by decide) ?_
        exact lc_row hL C0 hK h5 h hW hl kk
      · refine lv_tableIn (off := 141) (tgt := 173) hx hb dL_law_32 (by omega) (by omega) (by rw [ez]; rfl) (by decide) ?_
        exact lc_test hL C0 hK h5 h hW hl kk
      · refine lv_tableIn (off := 184) (tgt := 216) hx hb dL_law_32 (by omega) (by omega) (by rw [ez]; rfl) (by decide) ?_
        exact lc_join hL C0 hK h5 h hW hl kk
      · refine lv_tableIn (off := 217) (tgt := 249) hx hb dL_law_32 (by omega) (by omega) (by rw [ez]; rfl) (by decide) ?_
        exact lc_ask hL C0 hK h5 h hW hl kk
      · refine lv_tableIn (off := 230) (tgt := 262) hx hb dL_law_32 (by omega) (by omega) (by rw [ez]; rfl) (by decide) ?_
        exact lc_stop hL C0 hK h5 h hW hl kk
      · refine lv_tableIn (off := 243) (tgt := 275) hx hb dL_law_32 (by omega) (by omega) (by rw [ez]; rfl) (by decide) ?_
        exact lc_go hL C0 hK h5 h hW hl kk
      · refine lv_tableIn (off := 266) (tgt := 298) hx hb dL_law_32 (by omega) (by omega) (by rw [ez]; rfl) (by decide) ?_
        exact lc_memory hL C0 hK h5 h hW hl kk
      · refine lv_tableIn (off := 289) (tgt := 321) hx hb dL_law_32 (by omega) (by omega) (by rw [ez]; rfl) (by decide) ?_
        exact lc_force hL C0 hK h5 h hW hl kk
      · refine lv_tableIn (off := 312) (tgt := 344) hx hb dL_law_32 (by omega) (by omega) (by rw [ez]; rfl) (by decide) ?_
        exact lc_order hL C0 hK h5 h hW hl kk
      · refine lv_tableIn (off := 345) (tgt := 377) hx hb dL_law_32 (by omega) (by omega) (by rw [ez]; rfl) (by decide) ?_
        exact lc_ordered hL C0 hK h5 h hW hl kk
      · refine lv_tableIn (off := 378) (tgt := 410) hx hb dL_law_32 (by omega) (by omega) (by rw [ez]; rfl) (by decide) ?_
        exact lc_told hL C0 hK h5 h hW hl kk
      · refine lv_tableIn (off := 421) (tgt := 453) hx hb dL_law_32 (by omega) (by omega) (by rw [ez]; rfl) (by decide) ?_
        exact lc_given hL C0 hK h5 h hW hl kk
      · refine lv_tableIn (off := 454) (tgt := 486) hx hb dL_law_32 (by omega) (by omega) (by rw [ez]; rfl) (by decide) ?_
        exact lc_where hL C0 hK h5 h hW hl kk
      · refine lv_tableIn (off := 487) (tgt := 519) hx hb dL_law_32 (by omega) (by omega) (by rw [ez]; rfl) (by decide) ?_
        exact lc_sum hL C0 hK h5 h hW hl kk
      · refine lv_tableIn (off := 520) (tgt := 552) hx hb dL_law_32 (by omega) (by omega) (by rw [ez]; rfl) (by decide) ?_
        exact lc_plain hL C0 hK h5 h hW hl kk
      · refine lv_tableIn (off := 533) (tgt := 565) hx hb dL_law_32 (by omega) (by omega) (by rw [ez]; rfl) (by decide) ?_
        exact lc_fixed hL C0 hK h5 h hW hl kk
      · refine lv_tableIn (off := 556) (tgt := 588) hx hb dL_law_32 (by omega) (by omega) (by rw [ez]; rfl) (by decide) ?_
        exact lc_cost hL C0 hK h5 h hW hl kk
      · refine lv_tableIn (off := 579) (tgt := 611) hx hb dL_law_32 (by omega) (by omega) (by rw [ez]; rfl) (by decide) ?_
        exact lc_count hL C0 hK h5 h hW hl kk

