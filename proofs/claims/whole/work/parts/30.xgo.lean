theorem mEnds_o {V : zS} {k j : Nat} (h : k ≠ 0 ∨ j ≠ 10) : mEnds V k j = V k j := by
  by_cases q : endP V
  · rw [mEnds_t q]
    simp only [vs]
    by_cases h1 : k = 0
    · rw [if_pos h1, if_neg (by omega)]
    · rw [if_neg h1]
  · rw [mEnds_f q]
theorem XI_ends {V E E' : zS} (hX : XO V E) (h2 : E 0 2 = 2 * (V 0 26 - V 17 0 - V 17 1)) (hB : BL E') (hL : LI (mEnds V) E') (hE : ∀ a b, (a ≠ 0 ∨ 2 ≤ b) → E' a b = E a b) : XI (mEnds V) E' := by
  refine ⟨⟨hB, fun t j ht hj => ?_⟩, ?_, hL⟩
  · rw [mEnds_o (by omega)] at hj
    rw [mEnds_o (by omega), hE _ _ (by omega)]
    exact hX.2 t j ht hj
  · rw [mEnds_o (by omega), mEnds_o (by omega), mEnds_o (by omega), hE _ _ (by omega)]
    exact h2
theorem cand_late {V : zS} {a b x q : Nat} (h : cand (vs (mGive V a b) 0 27 x) q) : cand V q := by
  have u : ∀ k j, k ≠ 20 → k ≠ 21 → k ≠ 0 → vs (mGive V a b) 0 27 x k j = V k j := by
    intro k j h1 h2 h3
    rw [vs_k _ h3, mGive_o ⟨h1, h2, fun z => absurd z h3⟩]
  have u20 : vs (mGive V a b) 0 27 x 20 q = if q = 50 * a + b then 1 else V 20 q := by
    rw [vs_k _ (by decide)]
    unfold mGive
    rw [vs_k _ (by decide), vs_k _ (by decide), vs_at]
  unfold cand alike at h ⊢
  rw [u20] at h
  simp only [u 1 _ (by decide) (by decide) (by decide), u 18 _ (by decide) (by decide) (by decide), u 2 _ (by decide) (by decide) (by decide), u 8 _ (by decide) (by decide) (by decide)] at h
  refine ⟨?_, h.2⟩
  have h1 := h.1
  split at h1
  · omega
  · exact h1
/-- reading a row gives no late pair -/
theorem reads_late {V : zS} (h : JV V) {t : Nat} (ht : t < 2) (hr : V 10 t < V 1 t) : mReads V t 0 26 - mReads V t 17 0 - mReads V t 17 1 = V 0 26 - V 17 0 - V 17 1 := by
  obtain ⟨-, -, -, ⟨n, -, p4, p5⟩, -, -, -, -⟩ := R4_all h ht hr
  have e26 : mR5 V t 0 26 = V 0 26 + n := by rw [R5_o (by omega), p4]
  have e17 : mR5 V t 17 0 + mR5 V t 17 1 = V 17 0 + V 17 1 + n := by
    rw [R5_o (by omega), R5_o (by omega), p5, p5]
    rcases (show t = 0 ∨ t = 1 by omega) with rfl | rfl
    · rw [if_pos rfl, if_neg (by decide)]; omega
    · rw [if_neg (by decide), if_pos rfl]; omega
  have key : mR5 V t 0 26 - mR5 V t 17 0 - mR5 V t 17 1 = V 0 26 - V 17 0 - V 17 1 := by omega
  unfold mReads
  split
  · rcases mTurns_ex (mR5 V t) t with e | ⟨o, c, e, -, -⟩
    · rw [e]; exact key
    · rw [e, vs_i _ (by decide), ordV_k _ _ _ (by decide), vs_k _ (by decide), ordV_k _ _ _ (by decide), vs_k _ (by decide), ordV_k _ _ _ (by decide)]
      exact key
  · exact key

set_option maxRecDepth 100000 in
set_option maxHeartbeats 4000000 in
theorem x_step (V E : zS) (h : JE V) (hX : XI V E) (hs : V 0 10 = 1) : PM mX4_makeStep [.ref 0] (hC V E) (fun zr zq => zr = none ∧ ∃ E', zq = hC (mStep V) E' ∧ XI (mStep V) E') := by
  refine PM.of (by decide +kernel) (by simp [Value.category]) (Nat.le_of_ble_eq_true rfl) ?_
  have hJ := JV_step0 h hs
  have a0 := h.1.2.1 0 (by decide)
  have a1 := h.1.2.1 1 (by decide)
  have hl := hX.2.2 hs
  have K22 : ∀ E1, XO (mStep0 V) E1 → E1 0 2 = 2 * (mStep0 V 0 26 - mStep0 V 17 0 - mStep0 V 17 1) → E1 0 0 ≤ mStep0 V 1 0 → E1 0 1 ≤ mStep0 V 1 1 → (∀ q, q < 50 * E1 0 0 + E1 0 1 → ¬ cand (mStep0 V) q) → (¬ bothR (mStep0 V) → E1 0 0 = 0 ∧ E1 0 1 = 0) → Wp mX4_makeStep (fun zr zq => zr = none ∧ ∃ E', zq = hC (mStep V) E' ∧ XI (mStep V) E') 22 [.ref 0] [] (hC (mStep0 V) E1) := by
    intro E1 g1 g2 g3 g4 g5 g6
    have b0 := hJ.2.1 0 (by decide)
    have b1 := hJ.2.1 1 (by decide)
    refine Wp.aload_n (pc2 := 23) dX4_makeStep_22 rfl rfl ?_
    refine Wp.callV (pc2 := 26) kX4_makeStep_96 vX4_endIfNothingIsLeft (x_ends (mStep0 V) E1 (lB_of hJ) g1.1 b0.2.2.2.1 b1.2.2.2.1 g3 g4 g5 g6) dX4_makeStep_23 rfl rfl rfl rfl rfl (Nat.le_of_ble_eq_true rfl) ?_
    rintro _ _ ⟨rfl, E', rfl, q1, q2, q3⟩
    refine Wp.retv dX4_makeStep_26 rfl ?_
    exact ⟨rfl, E', rfl, XI_ends g1 g2 q1 q2 q3⟩
  refine Wp.aload_n (pc2 := 1) dX4_makeStep_0 rfl rfl ?_
  refine Wp.callV (pc2 := 4) kX4_makeStep_177 vX4_bothAreReadOut (x_both V E h.1.1 a0.2.2.2.1 a1.2.2.2.1) dX4_makeStep_1 rfl rfl rfl rfl rfl (Nat.le_of_ble_eq_true rfl) ?_
  rintro _ _ ⟨⟨b, rfl, hb⟩, rfl⟩
  refine Wp.ifN_eq (pc2 := 7) 14 dX4_makeStep_4 rfl (by decide) (zb_lt _) (fun c4 => ?_) (fun c4 => ?_)
  · have hnb : ¬ bothR V := zbn hb c4
    have hck := choose_ok h.1 hnb
    have e0 : mStep0 V = mReads V (mChoose V) := by
      unfold mStep0
      rw [if_neg (show ¬ (V 10 0 = V 1 0 ∧ V 10 1 = V 1 1) from hnb)]
    refine Wp.aload_n (pc2 := 15) dX4_makeStep_14 rfl rfl ?_
    refine Wp.aload_n (pc2 := 16) dX4_makeStep_15 rfl rfl ?_
    refine Wp.callV (pc2 := 19) kX4_makeStep_184 vX4_tableToRead (x_tableToRead V E h.1) dX4_makeStep_16 rfl rfl rfl rfl rfl (Nat.le_of_ble_eq_true rfl) ?_
    rintro _ _ ⟨rfl, rfl⟩
    refine Wp.callV (pc2 := 22) kX4_makeStep_187 vX4_readFrom (x_readFrom (mChoose V) hck.1 V E h.1 hX.1 hck.2) dX4_makeStep_19 rfl rfl rfl rfl rfl (Nat.le_of_ble_eq_true rfl) ?_
    rintro _ _ ⟨rfl, E', rfl, q1, q2⟩
    refine Wp.heq (h' := hC (mStep0 V) E') (by rw [e0]) ?_
    have ez := hl.2 hnb
    have z0 : E' 0 0 = 0 := by rw [q2]; exact ez.1
    have z1 : E' 0 1 = 0 := by rw [q2]; exact ez.2
    refine K22 E' (by rw [e0]; exact q1) ?_ (by omega) (by omega) (fun q hq => by omega) (fun _ => ⟨z0, z1⟩)
    rw [e0, reads_late h.1 hck.1 hck.2, q2]
    exact hX.2.1
  · have hbo : bothR V := zby hb c4
    obtain ⟨p1, p2, p3, p4⟩ := hl.1 hbo
    have hlt : V 0 26 < 2500 := GI_lt h.1.2.2.2.2.2.2.1 (show 50 * E 0 0 + E 0 1 < 2500 by omega) p3.1
    have e0 : mStep0 V = vs (mGive V (E 0 0) (E 0 1)) 0 27 (V 0 27 + 2) := by
      unfold mStep0
      rw [if_pos (show V 10 0 = V 1 0 ∧ V 10 1 = V 1 1 from hbo)]
      unfold mLate
      rw [lackP_eq (show 50 * E 0 0 + E 0 1 < 2500 by omega) p3 p4, show (50 * E 0 0 + E 0 1) / 50 = E 0 0 by omega, show (50 * E 0 0 + E 0 1) % 50 = E 0 1 by omega]
    have w : ∀ k j, k ≠ 20 → k ≠ 21 → k ≠ 0 → mStep0 V k j = V k j := by
      intro k j h1 h2 h3
      rw [e0, vs_k _ h3, mGive_o ⟨h1, h2, fun z => absurd z h3⟩]
    refine Wp.aload_n (pc2 := 8) dX4_makeStep_7 rfl rfl ?_
    refine Wp.callV (pc2 := 11) kX4_makeStep_181 vX4_giveLatePair (x_late V E (by omega) hlt) dX4_makeStep_8 rfl rfl rfl rfl rfl (Nat.le_of_ble_eq_true rfl) ?_
    rintro _ _ ⟨rfl, rfl⟩
    refine Wp.goto (pc2 := 22) dX4_makeStep_11 (by decide) ?_
    refine Wp.heq (h' := hC (mStep0 V) (vs E 0 2 (E 0 2 + 2))) (by rw [e0]; rfl) ?_
    have s6 := h.1.2.2.2.2.2.2.2.2.2.1.2.2.2.2.2.1
    have hx2 := hX.2.1
    refine K22 _ ⟨hX.1.1.up (by omega), fun t j ht hj => ?_⟩ ?_ ?_ ?_ (fun q hq hc => ?_) (fun z => absurd ⟨by rw [w 10 0 (by decide) (by decide) (by decide), w 1 0 (by decide) (by decide) (by decide)]; exact hbo.1, by rw [w 10 1 (by decide) (by decide) (by decide), w 1 1 (by decide) (by decide) (by decide)]; exact hbo.2⟩ z)
    · rw [w 9 _ (by decide) (by decide) (by decide)] at hj
      rw [w 11 _ (by decide) (by decide) (by decide), vs_k _ (by omega)]
      exact hX.1.2 t j ht hj
    · have e26 : mStep0 V 0 26 = V 0 26 + 1 := by rw [e0]; simp [mGive, vs]
      rw [vs_same, e26, w 17 0 (by decide) (by decide) (by decide), w 17 1 (by decide) (by decide) (by decide)]
      omega
    · rw [vs_i _ (by decide), w 1 0 (by decide) (by decide) (by decide)]; omega
    · rw [vs_i _ (by decide), w 1 1 (by decide) (by decide) (by decide)]; omega
    · rw [vs_i _ (by decide), vs_i _ (by decide)] at hq
      rw [e0] at hc
      exact p4 q hq (cand_late hc)

set_option maxRecDepth 100000 in
set_option maxHeartbeats 4000000 in
theorem x_go_l (n : Nat) (hn : n ≤ 200) : ∀ (m d : Nat) (V E : zS), JE V → XI V E → d + m = n → Wp mX4_go (fun zr zq => zr = some (.int (nI (d + goC m V))) ∧ ∃ E', zq = hC (goF m V) E' ∧ XI (goF m V) E') 23 [.ref 0, .int (nI n), .int (nI d)] [] (hC V E) := by
  intro m
  induction m with
  | zero =>
    intro d V E h hX hd
    refine Wp.iload_n (pc2 := 24) dX4_go_23 rfl rfl ?_
    refine Wp.iload_n (pc2 := 25) dX4_go_24 rfl rfl ?_
    refine Wp.icmpN_ge (pc2 := 28) 46 dX4_go_25 rfl (by decide) (by omega) (by omega) (fun c25 => ?_) (fun c25 => ?_)
    · refine Wp.iload_n (pc2 := 47) dX4_go_46 rfl rfl ?_
      refine Wp.ret dX4_go_47 rfl rfl ?_
      exact ⟨rfl, E, rfl, hX⟩
    · exfalso; omega
  | succ m ih =>
    intro d V E h hX hd
    have hV := h.1.1
    refine Wp.iload_n (pc2 := 24) dX4_go_23 rfl rfl ?_
    refine Wp.iload_n (pc2 := 25) dX4_go_24 rfl rfl ?_
    refine Wp.icmpN_ge (pc2 := 28) 46 dX4_go_25 rfl (by decide) (by omega) (by omega) (fun c25 => ?_) (fun c25 => ?_)
    · refine Wp.iload_n (pc2 := 47) dX4_go_46 rfl rfl ?_
      refine Wp.ret dX4_go_47 rfl rfl ?_
      exfalso; omega
    · refine Wp.aload_n (pc2 := 29) dX4_go_28 rfl rfl ?_
      refine Wp.getf (pc2 := 32) fX4_46 dX4_go_29 rfl rfl rfl ?_
      refine Wp.iconN (pc2 := 33) 1 dX4_go_32 rfl ?_
      refine Wp.icmpN_ne (pc2 := 36) 46 dX4_go_33 rfl (by decide) (hV.l _ _) (by decide) (fun c33 => ?_) (fun c33 => ?_)
      · refine Wp.iload_n (pc2 := 47) dX4_go_46 rfl rfl ?_
        refine Wp.ret dX4_go_47 rfl rfl ?_
        have eC : goC (m + 1) V = 0 := by rw [goC, if_neg c33]
        have eF : goF (m + 1) V = V := by rw [goF, if_neg c33]
        rw [eC, eF]
        exact ⟨rfl, E, rfl, hX⟩
      · refine Wp.aload_n (pc2 := 37) dX4_go_36 rfl rfl ?_
        refine Wp.callV (pc2 := 40) kX4_go_99 vX4_makeStep (x_step V E h hX c33) dX4_go_37 rfl rfl rfl rfl rfl (Nat.le_of_ble_eq_true rfl) ?_
        rintro _ _ ⟨rfl, E', rfl, hX'⟩
        refine Wp.iincN (pc2 := 43) dX4_go_40 rfl rfl (by decide) rfl ?_
        refine Wp.goto (pc2 := 23) dX4_go_43 (by decide) ?_
        have eC : goC (m + 1) V = 1 + goC m (mStep V) := by rw [goC, if_pos c33]
        have eF : goF (m + 1) V = goF m (mStep V) := by rw [goF, if_pos c33]
        rw [eC, eF]
        refine Wp.mono (ih (d + 1) (mStep V) E' (JE_step h c33) hX' (by omega)) ?_
        rintro _ _ ⟨rfl, E2, rfl, hX2⟩
        exact ⟨by rw [show d + 1 + goC m (mStep V) = d + (1 + goC m (mStep V)) by omega], E2, rfl, hX2⟩

set_option maxRecDepth 100000 in
set_option maxHeartbeats 4000000 in
theorem x_go_ok (V E : zS) (n : Nat) (h : JE V) (hX : XI V E) (hn : n < 201) (hs : V 0 10 = 1) : PM mX4_go [.ref 0, .int (nI n)] (hC V E) (fun zr zq => zr = some (.int (nI (goC n V))) ∧ ∃ E', zq = hC (goF n V) E' ∧ XI (goF n V) E') := by
  refine PM.of (by decide +kernel) (by simp [Value.category]) (Nat.le_of_ble_eq_true rfl) ?_
  refine Wp.aload_n (pc2 := 1) dX4_go_0 rfl rfl ?_
  refine Wp.getf (pc2 := 4) fX4_46 dX4_go_1 rfl rfl rfl ?_
  refine Wp.iconN (pc2 := 5) 1 dX4_go_4 rfl ?_
  refine Wp.icmpN_ne (pc2 := 8) 19 dX4_go_5 rfl (by decide) (h.1.1.l _ _) (by decide) (fun c5 => ?_) (fun c5 => ?_)
  · exfalso; omega
  · refine Wp.iload_n (pc2 := 9) dX4_go_8 rfl rfl ?_
    refine Wp.ifN_lt (pc2 := 12) 19 dX4_go_9 rfl (by decide) (by omega) (fun c9 => ?_) (fun c9 => ?_)
    · exact absurd c9 id
    · refine Wp.iload_n (pc2 := 13) dX4_go_12 rfl rfl ?_
      refine Wp.sipN (pc2 := 16) 200 dX4_go_13 rfl (by decide +kernel) ?_
      refine Wp.icmpN_le (pc2 := 19) 21 dX4_go_16 rfl (by decide) (by omega) (by decide) (fun c16 => ?_) (fun c16 => ?_)
      · refine Wp.iconN (pc2 := 22) 0 dX4_go_21 rfl ?_
        refine Wp.istore_n (pc2 := 23) dX4_go_22 rfl (by decide) rfl ?_
        refine Wp.mono (x_go_l n (by omega) n 0 V E h hX (by omega)) ?_
        rintro _ _ ⟨rfl, E2, rfl, hX2⟩
        exact ⟨by rw [Nat.zero_add], E2, rfl, hX2⟩
      · exfalso; omega

set_option maxRecDepth 100000 in
set_option maxHeartbeats 4000000 in
theorem x_go_no (V E : zS) (x : Int32) (hV : BV V) (hno : ¬ (rg x 201 ∧ V 0 10 = 1)) : PM mX4_go [.ref 0, .int x] (hC V E) (fun zr zq => zr = some (.int (-1)) ∧ zq = hC V E) := by
  refine PM.of (by decide +kernel) (by simp [Value.category]) (Nat.le_of_ble_eq_true rfl) ?_
  refine Wp.aload_n (pc2 := 1) dX4_go_0 rfl rfl ?_
  refine Wp.getf (pc2 := 4) fX4_46 dX4_go_1 rfl rfl rfl ?_
  refine Wp.iconN (pc2 := 5) 1 dX4_go_4 rfl ?_
  refine Wp.icmpN_ne (pc2 := 8) 19 dX4_go_5 rfl (by decide) (hV.l _ _) (by decide) (fun c5 => ?_) (fun c5 => ?_)
  · refine Wp.icon (pc2 := 20) dX4_go_19 rfl (-1) (by decide +kernel) ?_
    refine Wp.ret dX4_go_20 rfl rfl ?_
    exact ⟨rfl, rfl⟩
  · refine Wp.iload_n (pc2 := 9) dX4_go_8 rfl rfl ?_
    refine Wp.if_lt (pc2 := 12) 19 dX4_go_9 rfl (by decide)  (fun c9 => ?_) (fun c9 => ?_)
    · refine Wp.icon (pc2 := 20) dX4_go_19 rfl (-1) (by decide +kernel) ?_
      refine Wp.ret dX4_go_20 rfl rfl ?_
      exact ⟨rfl, rfl⟩
    · refine Wp.iload_n (pc2 := 13) dX4_go_12 rfl rfl ?_
      refine Wp.sipN (pc2 := 16) 200 dX4_go_13 rfl (by decide +kernel) ?_
      refine Wp.icmp_le (pc2 := 19) 21 dX4_go_16 rfl (by decide)  (fun c16 => ?_) (fun c16 => ?_)
      · exact absurd ⟨rg_le (by decide) c9 c16, c5⟩ hno
      · refine Wp.icon (pc2 := 20) dX4_go_19 rfl (-1) (by decide +kernel) ?_
        refine Wp.ret dX4_go_20 rfl rfl ?_
        exact ⟨rfl, rfl⟩

theorem clrG_at {V : zS} {p : Nat} : ∀ n, ((∃ i, i < n ∧ V 21 i = p) → clrG V n 20 p = 0) ∧ ((¬ ∃ i, i < n ∧ V 21 i = p) → clrG V n 20 p = V 20 p)
  | 0 => ⟨fun ⟨i, hi, _⟩ => by omega, fun _ => rfl⟩
  | n + 1 => by
    obtain ⟨h1, h2⟩ := clrG_at (V := V) (p := p) n
    have e : clrG V (n + 1) 20 p = if p = V 21 n then 0 else clrG V n 20 p := by
      show vs (clrG V n) 20 (V 21 n) 0 20 p = _
      rw [vs_at]
    rw [e]
    refine ⟨fun ⟨i, hi, he⟩ => ?_, fun hne => ?_⟩
    · by_cases q : p = V 21 n
      · rw [if_pos q]
      · rw [if_neg q]
        refine h1 ⟨i, ?_, he⟩
        rcases Nat.lt_or_ge i n with z | z
        · exact z
        · have : i = n := by omega
          subst this; exact absurd he.symm q
    · rw [if_neg (fun z => hne ⟨n, by omega, z.symm⟩)]
      exact h2 (fun ⟨i, hi, he⟩ => hne ⟨i, by omega, he⟩)
theorem xB_o {V : zS} {t a b : Nat} (h : a ≠ 18 ∧ a ≠ 13 ∧ a ≠ 14 ∧ a ≠ 9 ∧ a ≠ 12 ∧ a ≠ 10 ∧ a ≠ 15 ∧ a ≠ 17) : xBegin V t a b = V a b := by
  unfold xBegin
  rw [vs_k _ h.2.2.2.2.2.2.2, vs_k _ h.2.2.2.2.2.2.1, vs_k _ h.2.2.2.2.2.1, vs_k _ h.2.2.2.2.1, vs_k _ h.2.2.2.1, zfl_o h.2.2.1, zfl_o h.2.1, zfl_o h.1]
theorem xB_18 (V : zS) (t b : Nat) : xBegin V t 18 b = if 50 * t ≤ b ∧ b < 50 * t + 50 then 0 else V 18 b := by
  unfold xBegin
  rw [vs_k _ (by decide), vs_k _ (by decide), vs_k _ (by decide), vs_k _ (by decide), vs_k _ (by decide), zfl_o (by decide), zfl_o (by decide)]
  unfold zfl
  by_cases q : 50 * t ≤ b ∧ b < 50 * t + 50
  · rw [if_pos ⟨rfl, q⟩, if_pos q]
  · rw [if_neg (fun z => q z.2), if_neg q]
theorem xB_13 (V : zS) (t b : Nat) : xBegin V t 13 b = if 4 * t ≤ b ∧ b < 4 * t + 4 then 0 else V 13 b := by
  unfold xBegin
  rw [vs_k _ (by decide), vs_k _ (by decide), vs_k _ (by decide), vs_k _ (by decide), vs_k _ (by decide), zfl_o (by decide)]
  unfold zfl
  by_cases q : 4 * t ≤ b ∧ b < 4 * t + 4
  · rw [if_pos ⟨rfl, q⟩, if_pos q]
  · rw [if_neg (fun z => q z.2), if_neg q, if_neg (by omega)]
theorem xB_14 (V : zS) (t b : Nat) : xBegin V t 14 b = if 4 * t ≤ b ∧ b < 4 * t + 4 then 0 else V 14 b := by
  unfold xBegin
  rw [vs_k _ (by decide), vs_k _ (by decide), vs_k _ (by decide), vs_k _ (by decide), vs_k _ (by decide)]
  unfold zfl
  by_cases q : 4 * t ≤ b ∧ b < 4 * t + 4
  · rw [if_pos ⟨rfl, q⟩, if_pos q]
  · rw [if_neg (fun z => q z.2), if_neg q, if_neg (by omega), if_neg (by omega)]
theorem xB_z {V : zS} {t a b : Nat} (h : a = 12 ∨ a = 10 ∨ a = 15 ∨ a = 17) : xBegin V t a b = if b = t then 0 else V a b := by
  unfold xBegin zfl
  rcases h with rfl | rfl | rfl | rfl <;> simp [vs]
theorem xB_9 (V : zS) (t b : Nat) : xBegin V t 9 b = if b = t then V 3 t else V 9 b := by
  unfold xBegin zfl
  simp [vs]
/-- the class's ask, before it looks for an end -/
def xAsk (V : zS) : zS := vs (vs (vs (vs (vs (clrG (vs (vs (xBegin (xBegin V 0) 1) 0 23 0) 0 28 0) (V 0 26)) 0 26 0) 0 29 0) 0 30 0) 0 31 0) 0 10 1
theorem xAsk_k {V : zS} {a b : Nat} (h : a ≠ 0) (h2 : a ≠ 20) : xAsk V a b = xBegin (xBegin V 0) 1 a b := by
  unfold xAsk
  rw [vs_k _ h, vs_k _ h, vs_k _ h, vs_k _ h, vs_k _ h, clrG_o h2, vs_k _ h, vs_k _ h]
theorem xAsk_vis {V : zS} (hg : GI V) : vis (xAsk V) (mAsk0 V) := by
  have s : ∀ a b, a ≠ 0 → a ≠ 20 → a ≠ 18 → a ≠ 11 → a ≠ 13 → a ≠ 14 → a ≠ 9 → a ≠ 10 → a ≠ 12 → a ≠ 15 → a ≠ 16 → a ≠ 17 → mAsk0 V a b = V a b := by
    intro a b h1 h2 h3 h4 h5 h6 h7 h8 h9 h10 h11 h12
    rw [ask0_k h1, askA_o (by omega), askT2_o (by omega)]
  have sx : ∀ a b, a ≠ 0 → a ≠ 20 → a ≠ 18 → a ≠ 13 → a ≠ 14 → a ≠ 9 → a ≠ 10 → a ≠ 12 → a ≠ 15 → a ≠ 17 → xAsk V a b = V a b := by
    intro a b h1 h2 h3 h5 h6 h7 h8 h9 h10 h12
    rw [xAsk_k h1 h2, xB_o (by omega), xB_o (by omega)]
  refine ⟨fun s hs => ?_, fun c t hc ht => ?_, fun c j hc => ?_, fun j hj => ?_, fun c j hc hj => ?_, fun j hj => ?_⟩
  · rcases hs with rfl | rfl | rfl | rfl | rfl | rfl | rfl | rfl | rfl
    · rw [ask0_0 (by omega)]
      unfold xAsk
      rw [vs_i _ (by decide), vs_i _ (by decide), vs_i _ (by decide), vs_i _ (by decide), vs_i _ (by decide), clrG_o (by decide), vs_i _ (by decide), vs_i _ (by decide), xB_o (by omega), xB_o (by omega)]
    · rw [ask0_0 (by omega)]
      unfold xAsk
      rw [vs_i _ (by decide), vs_i _ (by decide), vs_i _ (by decide), vs_i _ (by decide), vs_i _ (by decide), clrG_o (by decide), vs_i _ (by decide), vs_i _ (by decide), xB_o (by omega), xB_o (by omega)]
    · rw [ask0_10]; unfold xAsk; rw [vs_same]
    · rw [ask0_z (by omega)]
      unfold xAsk
      rw [vs_i _ (by decide), vs_i _ (by decide), vs_i _ (by decide), vs_i _ (by decide), vs_i _ (by decide), clrG_o (by decide), vs_i _ (by decide), vs_same]
    · rw [ask0_z (by omega)]
      unfold xAsk
      rw [vs_i _ (by decide), vs_i _ (by decide), vs_i _ (by decide), vs_i _ (by decide), vs_same]
    · rw [ask0_z (by omega)]
      unfold xAsk
      rw [vs_i _ (by decide), vs_i _ (by decide), vs_i _ (by decide), vs_i _ (by decide), vs_i _ (by decide), clrG_o (by decide), vs_same]
    · rw [ask0_z (by omega)]
      unfold xAsk
      rw [vs_i _ (by decide), vs_i _ (by decide), vs_i _ (by decide), vs_same]
    · rw [ask0_z (by omega)]
      unfold xAsk
      rw [vs_i _ (by decide), vs_i _ (by decide), vs_same]
    · rw [ask0_z (by omega)]
      unfold xAsk
      rw [vs_i _ (by decide), vs_same]
  · have z : ∀ a, (a = 10 ∨ a = 12 ∨ a = 15 ∨ a = 17) → xAsk V a t = mAsk0 V a t := by
      intro a ha
      rw [ask0_k (by omega), askA_o (by omega), askT2_0 (by omega) ht, xAsk_k (by omega) (by omega), xB_z (by omega), xB_z (by omega)]
      rcases (show t = 0 ∨ t = 1 by omega) with rfl | rfl
      · rw [if_neg (by decide), if_pos rfl]
      · rw [if_pos rfl]
    rcases hc with rfl | rfl | rfl | rfl | rfl | rfl | rfl
    · rw [sx 1 t (by decide) (by decide) (by decide) (by decide) (by decide) (by decide) (by decide) (by decide) (by decide) (by decide), s 1 t (by decide) (by decide) (by decide) (by decide) (by decide) (by decide) (by decide) (by decide) (by decide) (by decide) (by decide) (by decide)]
    · rw [sx 3 t (by decide) (by decide) (by decide) (by decide) (by decide) (by decide) (by decide) (by decide) (by decide) (by decide), s 3 t (by decide) (by decide) (by decide) (by decide) (by decide) (by decide) (by decide) (by decide) (by decide) (by decide) (by decide) (by decide)]
    · rw [ask0_k (by omega), askA_o (by omega), askT2_9 ht, xAsk_k (by omega) (by omega), xB_9, xB_9, xB_o (by omega)]
      rcases (show t = 0 ∨ t = 1 by omega) with rfl | rfl
      · rw [if_neg (by decide), if_pos rfl]
      · rw [if_pos rfl]
    · exact z 10 (by omega)
    · exact z 12 (by omega)
    · exact z 15 (by omega)
    · exact z 17 (by omega)
  · rcases hc with rfl | rfl | rfl | rfl
    · rw [sx 8 j (by decide) (by decide) (by decide) (by decide) (by decide) (by decide) (by decide) (by decide) (by decide) (by decide), s 8 j (by decide) (by decide) (by decide) (by decide) (by decide) (by decide) (by decide) (by decide) (by decide) (by decide) (by decide) (by decide)]
    · have ex : xAsk V 20 j = clrG (vs (vs (xBegin (xBegin V 0) 1) 0 23 0) 0 28 0) (V 0 26) 20 j := by
        unfold xAsk
        rw [vs_k _ (by decide), vs_k _ (by decide), vs_k _ (by decide), vs_k _ (by decide), vs_k _ (by decide)]
      have e21 : ∀ i, vs (vs (xBegin (xBegin V 0) 1) 0 23 0) 0 28 0 21 i = V 21 i := fun i => by rw [vs_k _ (by decide), vs_k _ (by decide), xB_o (by omega), xB_o (by omega)]
      have e20 : vs (vs (xBegin (xBegin V 0) 1) 0 23 0) 0 28 0 20 j = V 20 j := by rw [vs_k _ (by decide), vs_k _ (by decide), xB_o (by omega), xB_o (by omega)]
      have k := clrG_at (V := vs (vs (xBegin (xBegin V 0) 1) 0 23 0) 0 28 0) (p := j) (V 0 26)
      simp only [e21, e20] at k
      rw [ex]
      by_cases hj : j < 2500
      · rw [ask0_k (by omega), askA_20 hj]
        by_cases q : ∃ i, i < V 0 26 ∧ V 21 i = j
        · exact k.1 q
        · rw [k.2 q]
          rcases Nat.eq_zero_or_pos (V 20 j) with z | z
          · exact z
          · exact absurd (hg.2.2 j hj (by omega)) q
      · rw [k.2 (fun ⟨i, hi, he⟩ => by have := (hg.1 i hi).1; omega), ask0_k (by omega)]
        unfold askA
        rw [show itr askG 2500 (itr askP 100 (itr askK 8 (itr askT 2 (vs V 0 11 1)))) 20 j = _ from itr_1 20 (fun _ => 0) 20 j 2500 _, if_neg (by omega), show itr askP 100 (itr askK 8 (itr askT 2 (vs V 0 11 1))) 20 j = _ from itr_1 18 (fun _ => 0) 20 j 100 _, if_neg (by omega), askK_at, if_neg (by omega), askT2_o (by omega)]
    · rw [sx 21 j (by decide) (by decide) (by decide) (by decide) (by decide) (by decide) (by decide) (by decide) (by decide) (by decide), s 21 j (by decide) (by decide) (by decide) (by decide) (by decide) (by decide) (by decide) (by decide) (by decide) (by decide) (by decide) (by decide)]
    · rw [sx 22 j (by decide) (by decide) (by decide) (by decide) (by decide) (by decide) (by decide) (by decide) (by decide) (by decide), s 22 j (by decide) (by decide) (by decide) (by decide) (by decide) (by decide) (by decide) (by decide) (by decide) (by decide) (by decide) (by decide)]
  · rw [sx 2 j (by decide) (by decide) (by decide) (by decide) (by decide) (by decide) (by decide) (by decide) (by decide) (by decide), s 2 j (by decide) (by decide) (by decide) (by decide) (by decide) (by decide) (by decide) (by decide) (by decide) (by decide) (by decide) (by decide)]
  · rcases hc with rfl | rfl | rfl | rfl | rfl | rfl
    · rw [sx 4 j (by decide) (by decide) (by decide) (by decide) (by decide) (by decide) (by decide) (by decide) (by decide) (by decide), s 4 j (by decide) (by decide) (by decide) (by decide) (by decide) (by decide) (by decide) (by decide) (by decide) (by decide) (by decide) (by decide)]
    · rw [sx 5 j (by decide) (by decide) (by decide) (by decide) (by decide) (by decide) (by decide) (by decide) (by decide) (by decide), s 5 j (by decide) (by decide) (by decide) (by decide) (by decide) (by decide) (by decide) (by decide) (by decide) (by decide) (by decide) (by decide)]
    · rw [sx 6 j (by decide) (by decide) (by decide) (by decide) (by decide) (by decide) (by decide) (by decide) (by decide) (by decide), s 6 j (by decide) (by decide) (by decide) (by decide) (by decide) (by decide) (by decide) (by decide) (by decide) (by decide) (by decide) (by decide)]
    · rw [sx 7 j (by decide) (by decide) (by decide) (by decide) (by decide) (by decide) (by decide) (by decide) (by decide) (by decide), s 7 j (by decide) (by decide) (by decide) (by decide) (by decide) (by decide) (by decide) (by decide) (by decide) (by decide) (by decide) (by decide)]
    · rw [ask0_k (by omega), askA_k (by omega) hj, if_neg (by omega), xAsk_k (by omega) (by omega), xB_13, xB_13]
      by_cases q : 4 * 1 ≤ j ∧ j < 4 * 1 + 4
      · rw [if_pos q]
      · rw [if_neg q, if_pos (by omega)]
    · rw [ask0_k (by omega), askA_k (by omega) hj, if_neg (by omega), xAsk_k (by omega) (by omega), xB_14, xB_14]
      by_cases q : 4 * 1 ≤ j ∧ j < 4 * 1 + 4
      · rw [if_pos q]
      · rw [if_neg q, if_pos (by omega)]
  · rw [ask0_k (by omega), askA_18 hj, xAsk_k (by omega) (by omega), xB_18, xB_18]
    by_cases q : 50 * 1 ≤ j ∧ j < 50 * 1 + 50
    · rw [if_pos q]
    · rw [if_neg q, if_pos (by omega)]
theorem eOrd_o (E : zS) {c n a b : Nat} (h : a ≠ c ∨ n ≤ b) : eOrd E c n a b = E a b := by
  unfold eOrd
  rw [if_neg (by omega)]
theorem eOrd_at (E : zS) {c n b : Nat} (h : b < n) : eOrd E c n c b = b := by
  unfold eOrd
  rw [if_pos ⟨rfl, h⟩]
theorem BL_eOrd {E : zS} (hE : BL E) {c n : Nat} (hn : n ≤ 4) : BL (eOrd E c n) := by
  intro a b
  unfold eOrd
  split
  · omega
  · exact hE a b

set_option maxRecDepth 100000 in
set_option maxHeartbeats 4000000 in
theorem x_ask_ok (V E : zS) (h : JV V) (hE : BL E) (hs : V 0 10 ≠ 1) : PM mX4_ask [.ref 0] (hC V E) (fun zr zq => zr = some (.int (nI 1)) ∧ ∃ E', zq = hC (mAsk V) E' ∧ XI (mAsk V) E') := by
  refine PM.of (by decide +kernel) (by simp [Value.category]) (Nat.le_of_ble_eq_true rfl) ?_
  have a0 := h.2.1 0 (by decide)
  have a1 := h.2.1 1 (by decide)
  have hJ := JV_ask0 h
  have b0 := hJ.2.1 0 (by decide)
  have b1 := hJ.2.1 1 (by decide)
  have hg := h.2.2.2.2.2.2.1
  have e31 : xBegin V 0 3 1 = V 3 1 := xB_o (by omega)
  have e26 : vs (vs (xBegin (xBegin V 0) 1) 0 23 0) 0 28 0 0 26 = V 0 26 := by rw [vs_i _ (by decide), vs_i _ (by decide), xB_o (by omega), xB_o (by omega)]
  have hg3 : GI (vs (vs (xBegin (xBegin V 0) 1) 0 23 0) 0 28 0) := GI_o hg e26 (fun i => by rw [vs_k _ (by decide), vs_k _ (by decide), xB_o (by omega), xB_o (by omega)]) (fun i => by rw [vs_k _ (by decide), vs_k _ (by decide), xB_o (by omega), xB_o (by omega)])
  refine Wp.aload_n (pc2 := 1) dX4_ask_0 rfl rfl ?_
  refine Wp.getf (pc2 := 4) fX4_46 dX4_ask_1 rfl rfl rfl ?_
  refine Wp.iconN (pc2 := 5) 1 dX4_ask_4 rfl ?_
  refine Wp.icmpN_ne (pc2 := 8) 10 dX4_ask_5 rfl (by decide) (h.1.l _ _) (by decide) (fun c5 => ?_) (fun c5 => ?_)
  · refine Wp.aload_n (pc2 := 11) dX4_ask_10 rfl rfl ?_
    refine Wp.getf (pc2 := 14) fX4_21 dX4_ask_11 rfl rfl rfl ?_
    refine Wp.iconN (pc2 := 15) 0 dX4_ask_14 rfl ?_
    refine Wp.aald (pc2 := 16) dX4_ask_15 rfl rfl (by decide) (by omega) (by decide) rfl ?_
    refine Wp.callV (pc2 := 19) kX4_ask_71 vX2_begin (x_begin_0 V E (by omega)) dX4_ask_16 rfl rfl rfl rfl rfl (Nat.le_of_ble_eq_true rfl) ?_
    rintro _ _ ⟨rfl, rfl⟩
    refine Wp.aload_n (pc2 := 20) dX4_ask_19 rfl rfl ?_
    refine Wp.getf (pc2 := 23) fX4_21 dX4_ask_20 rfl rfl rfl ?_
    refine Wp.iconN (pc2 := 24) 1 dX4_ask_23 rfl ?_
    refine Wp.aald (pc2 := 25) dX4_ask_24 rfl rfl (by decide) (by omega) (by decide) rfl ?_
    refine Wp.callV (pc2 := 28) kX4_ask_71 vX2_begin (x_begin_1 (xBegin V 0) (eOrd E 23 (V 3 0)) (by rw [e31]; omega)) dX4_ask_25 rfl rfl rfl rfl rfl (Nat.le_of_ble_eq_true rfl) ?_
    rintro _ _ ⟨rfl, rfl⟩
    rw [e31]
    refine Wp.aload_n (pc2 := 29) dX4_ask_28 rfl rfl ?_
    refine Wp.getf (pc2 := 32) fX4_32 dX4_ask_29 rfl rfl rfl ?_
    refine Wp.callV (pc2 := 35) kX4_ask_74 vX0_empty (x_mEmpty _ _) dX4_ask_32 rfl rfl rfl rfl rfl (Nat.le_of_ble_eq_true rfl) ?_
    rintro _ _ ⟨rfl, rfl⟩
    refine Wp.aload_n (pc2 := 36) dX4_ask_35 rfl rfl ?_
    refine Wp.getf (pc2 := 39) fX4_39 dX4_ask_36 rfl rfl rfl ?_
    refine Wp.callV (pc2 := 42) kX4_ask_77 vX1_empty (x_pEmpty _ _ hg3) dX4_ask_39 rfl rfl rfl rfl rfl (Nat.le_of_ble_eq_true rfl) ?_
    rintro _ _ ⟨rfl, rfl⟩
    rw [e26]
    refine Wp.aload_n (pc2 := 43) dX4_ask_42 rfl rfl ?_
    refine Wp.icon (pc2 := 44) dX4_ask_43 rfl (-1) (by decide +kernel) ?_
    refine Wp.top (zo 0) (by decide +kernel) ?_
    refine Wp.putf (pc2 := 47) gX4_78 dX4_ask_44 rfl rfl (Nat.le_of_ble_eq_true rfl) rfl rfl ?_
    refine Wp.heq (hC_o0_8 _ _ _) ?_
    refine Wp.aload_n (pc2 := 48) dX4_ask_47 rfl rfl ?_
    refine Wp.iconN (pc2 := 49) 0 dX4_ask_48 rfl ?_
    refine Wp.putf (pc2 := 52) gX4_81 dX4_ask_49 rfl rfl (Nat.le_of_ble_eq_true rfl) rfl rfl ?_
    refine Wp.heq (hC_o0_9 _ _ _) ?_
    refine Wp.aload_n (pc2 := 53) dX4_ask_52 rfl rfl ?_
    refine Wp.iconN (pc2 := 54) 0 dX4_ask_53 rfl ?_
    refine Wp.putf (pc2 := 57) gX4_84 dX4_ask_54 rfl rfl (Nat.le_of_ble_eq_true rfl) rfl rfl ?_
    refine Wp.heq (hC_o0_10 _ _ _) ?_
    refine Wp.aload_n (pc2 := 58) dX4_ask_57 rfl rfl ?_
    refine Wp.iconN (pc2 := 59) 0 dX4_ask_58 rfl ?_
    refine Wp.putf (pc2 := 62) gX4_87 dX4_ask_59 rfl rfl (Nat.le_of_ble_eq_true rfl) rfl rfl ?_
    refine Wp.heq (hC_o0_11 _ _ _) ?_
    refine Wp.aload_n (pc2 := 63) dX4_ask_62 rfl rfl ?_
    refine Wp.iconN (pc2 := 64) 0 dX4_ask_63 rfl ?_
    refine Wp.putf (pc2 := 67) gX4_90 dX4_ask_64 rfl rfl (Nat.le_of_ble_eq_true rfl) rfl rfl ?_
    refine Wp.heq (hC_o0_12 _ _ _) ?_
    refine Wp.aload_n (pc2 := 68) dX4_ask_67 rfl rfl ?_
    refine Wp.iconN (pc2 := 69) 0 dX4_ask_68 rfl ?_
    refine Wp.putf (pc2 := 72) gX4_93 dX4_ask_69 rfl rfl (Nat.le_of_ble_eq_true rfl) rfl rfl ?_
    refine Wp.heq (hC_o0_13 _ _ _) ?_
    refine Wp.aload_n (pc2 := 73) dX4_ask_72 rfl rfl ?_
    refine Wp.iconN (pc2 := 74) 1 dX4_ask_73 rfl ?_
    refine Wp.putf (pc2 := 77) gX4_46 dX4_ask_74 rfl rfl (Nat.le_of_ble_eq_true rfl) rfl rfl ?_
    refine Wp.heq (hC_o0_6 _ _ _) ?_
    refine Wp.heq (h' := hC (mAsk0 V) (vs (vs (vs (eOrd (eOrd E 23 (V 3 0)) 31 (V 3 1)) 0 2 0) 0 0 0) 0 1 0)) (hC_congr (xAsk_vis hg)) ?_
    have hBE : BL (vs (vs (vs (eOrd (eOrd E 23 (V 3 0)) 31 (V 3 1)) 0 2 0) 0 0 0) 0 1 0) := (((BL_eOrd (BL_eOrd hE (show V 3 0 ≤ 4 by omega)) (show V 3 1 ≤ 4 by omega)).up (by decide)).up (by decide)).up (by decide)
    refine Wp.aload_n (pc2 := 78) dX4_ask_77 rfl rfl ?_
    refine Wp.callV (pc2 := 81) kX4_ask_96 vX4_endIfNothingIsLeft (x_ends (mAsk0 V) (vs (vs (vs (eOrd (eOrd E 23 (V 3 0)) 31 (V 3 1)) 0 2 0) 0 0 0) 0 1 0) (lB_of hJ) hBE b0.2.2.2.1 b1.2.2.2.1 (Nat.zero_le _) (Nat.zero_le _) (fun q hq => by have hq : q < 0 := hq; omega) (fun _ => ⟨rfl, rfl⟩)) dX4_ask_78 rfl rfl rfl rfl rfl (Nat.le_of_ble_eq_true rfl) ?_
    rintro _ _ ⟨rfl, E', rfl, q1, q2, q3⟩
    refine Wp.iconN (pc2 := 82) 1 dX4_ask_81 rfl ?_
    refine Wp.ret dX4_ask_82 rfl (zb_nar true) ?_
    refine ⟨rfl, E', rfl, XI_ends (E := (vs (vs (vs (eOrd (eOrd E 23 (V 3 0)) 31 (V 3 1)) 0 2 0) 0 0 0) 0 1 0)) ⟨hBE, fun t j ht hj => ?_⟩ ?_ q1 q2 q3⟩
    · have z9 : mAsk0 V 9 t = V 3 t := by rw [ask0_k (by omega), askA_o (by omega), askT2_9 ht]
      rw [z9] at hj
      have z11 : mAsk0 V 11 (4 * t + j) = (4 * t + j) % 4 := by
        have : V 3 t ≤ 4 := by rcases (show t = 0 ∨ t = 1 by omega) with rfl | rfl <;> omega
        rw [ask0_k (by omega), askA_k (by omega) (by omega), if_pos rfl]
      rw [z11]
      rcases (show t = 0 ∨ t = 1 by omega) with rfl | rfl
      · rw [vs_k _ (by decide), vs_k _ (by decide), vs_k _ (by decide), eOrd_o _ (by omega), eOrd_at _ hj]; omega
      · rw [vs_k _ (by decide), vs_k _ (by decide), vs_k _ (by decide), eOrd_at _ hj]; omega
    · rw [ask0_z (by omega)]
      show 0 = _
      omega
  · exfalso; omega

set_option maxRecDepth 100000 in
set_option maxHeartbeats 4000000 in
theorem x_ask_no (V E : zS) (hV : BV V) (hs : V 0 10 = 1) : PM mX4_ask [.ref 0] (hC V E) (fun zr zq => zr = some (.int (nI 0)) ∧ zq = hC V E) := by
  refine PM.of (by decide +kernel) (by simp [Value.category]) (Nat.le_of_ble_eq_true rfl) ?_
  refine Wp.aload_n (pc2 := 1) dX4_ask_0 rfl rfl ?_
  refine Wp.getf (pc2 := 4) fX4_46 dX4_ask_1 rfl rfl rfl ?_
  refine Wp.iconN (pc2 := 5) 1 dX4_ask_4 rfl ?_
  refine Wp.icmpN_ne (pc2 := 8) 10 dX4_ask_5 rfl (by decide) (hV.l _ _) (by decide) (fun c5 => ?_) (fun c5 => ?_)
  · exfalso; omega
  · refine Wp.iconN (pc2 := 9) 0 dX4_ask_8 rfl ?_
    refine Wp.ret dX4_ask_9 rfl (zb_nar false) ?_
    exact ⟨rfl, rfl⟩

