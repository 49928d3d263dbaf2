/-- the class's own numbers: small; the orders are the reference's -/
def XO (V E : zS) : Prop := BL E ∧ ∀ t j, t < 2 → j < V 9 t → E (23 + 8 * t) j = V 11 (4 * t + j)
theorem mFinds1_pre {V : zS} {t r : Nat} (ht : t < 2) (hr : r < 50) (hq : QI V) (hg : GI V) (hF : FI V t r (V 0 28)) (h1 : V 18 (50 * t + r) < 2) (hc : V 0 23 < 100) (hV : BV V) (h17 : V 17 t ≤ 2500) : QI (mFinds1 V (mFinds0 V t r) t r) ∧ BV (mFinds1 V (mFinds0 V t r) t r) := by
  obtain ⟨a1, a2, a3, a4⟩ := fnd_all t r ht hr (V 0 23 - V 0 28) (V 0 28) V (by have := hq.1; omega) hq hg hF
  have u : ∀ k j, gfree k j → mFinds0 V t r k j = V k j := fun k j z => fnd_o z _ _ _
  have u23 : mFinds0 V t r 0 23 = V 0 23 := u 0 23 (by unfold gfree; omega)
  have u28 : mFinds0 V t r 0 28 = V 0 28 := u 0 28 (by unfold gfree; omega)
  have u18 : ∀ j, mFinds0 V t r 18 j = V 18 j := fun j => u 18 j (by unfold gfree; omega)
  have u17 : ∀ j, mFinds0 V t r 17 j = V 17 j := fun j => u 17 j (by unfold gfree; omega)
  have u19 : ∀ j, mFinds0 V t r 19 j = V 19 j := fun j => u 19 j (by unfold gfree; omega)
  have u22 : ∀ j, mFinds0 V t r 22 j = V 22 j := fun j => u 22 j (by unfold gfree; omega)
  have hqW : QI (mFinds0 V t r) := by
    unfold QI
    simp only [u23, u28, u18, u19, u22]
    exact hq
  have hgW : GI (mFinds0 V t r) := a1
  have g26 := GI_le hgW
  have hVW : BV (mFinds0 V t r) := a2 hV
  refine ⟨QI_new hqW ht hr (by rw [u18]; exact h1) (by omega) (mFinds0 V t r 17 t + (mFinds0 V t r 0 26 - V 0 26)), ?_⟩
  exact ((((hVW.up (by rw [u17]; omega)).up (by decide)).up (by omega)).up (by omega)).up (by omega)
/-- the same cells, in the class's order of writing -/
theorem mFinds1_alt (V2 : zS) (t r : Nat) : mFinds1 (vs V2 18 (50 * t + r) 1) (mFinds0 (vs V2 18 (50 * t + r) 1) t r) t r = vs (vs (vs (vs (vs (mFinds0 V2 t r) 17 t (mFinds0 V2 t r 17 t + (mFinds0 V2 t r 0 26 - V2 0 26))) 18 (50 * t + r) 2) 22 (mFinds0 V2 t r 0 23) (50 * t + r)) 0 23 (mFinds0 V2 t r 0 23 + 1)) 19 (50 * t + r) (mFinds0 V2 t r 0 23) := by
  have e0 : mFinds0 (vs V2 18 (50 * t + r) 1) t r = vs (mFinds0 V2 t r) 18 (50 * t + r) 1 := by
    unfold mFinds0
    exact fnd_vs (by decide) _ _ _
  rw [e0]
  unfold mFinds1
  generalize mFinds0 V2 t r = W
  generalize 50 * t + r = e
  have z1 : vs W 18 e 1 17 t = W 17 t := vs_k _ (by decide)
  have z2 : vs W 18 e 1 0 26 = W 0 26 := vs_k _ (by decide)
  have z3 : vs W 18 e 1 0 23 = W 0 23 := vs_k _ (by decide)
  have z4 : vs V2 18 e 1 0 26 = V2 0 26 := vs_k _ (by decide)
  rw [z1, z2, z3, z4]
  generalize W 17 t + (W 0 26 - V2 0 26) = g
  generalize W 0 23 = c
  rw [vs_comm W (k := 18) (i := e) (x := 1) (k' := 17) (i' := t) (y := g) (Or.inl (by decide)), vs_vs]
  generalize vs (vs W 17 t g) 18 e 2 = P
  rw [vs_comm P (k := 19) (i := e) (x := c) (k' := 0) (i' := 23) (y := c + 1) (Or.inl (by decide)), vs_comm (vs P 0 23 (c + 1)) (k := 19) (i := e) (x := c) (k' := 22) (i' := c) (y := e) (Or.inl (by decide)), vs_comm P (k := 0) (i := 23) (x := c + 1) (k' := 22) (i' := c) (y := e) (Or.inl (by decide))]
theorem wB_of {V : zS} (h : JV V) {t : Nat} (ht : t < 2) : wB V t := by
  have hs := JV_t h ht
  intro k hk
  have a := h.2.2.1 (4 * t + k) (by omega)
  have b := h.2.2.2.1 t k ht hk
  omega
theorem R5_9 {V : zS} (h : JV V) {t : Nat} (ht : t < 2) (hr : V 10 t < V 1 t) (x : Nat) : mR5 V t 9 x = V 9 x ∧ mR5 V t 11 x = V 11 x := by
  obtain ⟨-, -, -, -, -, -, -, p9⟩ := R4_all h ht hr
  exact ⟨by rw [R5_o (by omega), p9 9 x (by omega), R3_o (by omega)], by rw [R5_o (by omega), p9 11 x (by omega), R3_o (by omega)]⟩
/-- sorting the tests afresh is what turning asks -/
theorem sInv_turn {V : zS} (h : JV V) {t : Nat} (ht : t < 2) {A : Nat → Nat} (hA : sInv V t (V 9 t) A) : srtd V t (V 9 t) (fun j => if j < V 9 t then A j else V 11 (4 * t + j)) := by
  have jo := h.2.2.2.2.1 t ht
  refine ⟨fun i j hij hj => ?_, fun j hj => ?_, fun i hi => ?_, fun j hj => ?_⟩
  · show lessP V t (if i < V 9 t then A i else V 11 (4 * t + i)) (if j < V 9 t then A j else V 11 (4 * t + j))
    rw [if_pos (by omega), if_pos hj]; exact hA.1 i j hij hj
  · show ∃ i, i < V 9 t ∧ (if j < V 9 t then A j else V 11 (4 * t + j)) = V 11 (4 * t + i)
    rw [if_pos hj]
    obtain ⟨i, hi, e⟩ := jo.2.2 (A j) (hA.2.1 j hj)
    exact ⟨i, hi, e.symm⟩
  · obtain ⟨j, hj, e⟩ := hA.2.2 _ (jo.1 i hi)
    refine ⟨j, hj, ?_⟩
    show _ = (if j < V 9 t then A j else V 11 (4 * t + j))
    rw [if_pos hj]; exact e.symm
  · show (if j < V 9 t then A j else V 11 (4 * t + j)) = _
    rw [if_neg (by omega)]

set_option maxRecDepth 100000 in
set_option maxHeartbeats 4000000 in
theorem x_readFrom_0 (V E : zS) (h : JV V) (hX : XO V E) (hr : V 10 0 < V 1 0) : PM mX4_readFrom [.ref 0, .int (nI 0)] (hC V E) (fun zr zq => zr = none ∧ ∃ E', zq = hC (mReads V 0) E' ∧ XO (mReads V 0) E' ∧ ∀ b, E' 0 b = E 0 b) := by
  refine PM.of (by decide +kernel) (by simp [Value.category]) (Nat.le_of_ble_eq_true rfl) ?_
  have hs := JV_t h (show 0 < 2 by decide)
  have hss := JV_s h
  have hB := Rd1_tB h (show 0 < 2 by decide)
  have h3 := R3_pre h (show 0 < 2 by decide) hr
  have hJ5 := JV_R5 h (show 0 < 2 by decide) hr
  have jt := h.2.1 0 (by decide)
  have s4 : V 0 29 ≤ 2 := h.2.2.2.2.2.2.2.2.2.1.2.2.2.1
  have e9 : mRd1 V 0 9 0 = V 9 0 := mRd1_o (by omega)
  have h59 := R5_9 h (show 0 < 2 by decide) hr
  have hVR := BV_Rd1 h.1 (show 0 < 2 by decide) (by omega) (by omega)
  have hV2 : BV (mR2 V 0).1 := tst_BV (by decide) _ _ _ hVR hB (by omega)
  have K97 : Wp mX4_readFrom (fun zr zq => zr = none ∧ ∃ E', zq = hC (mReads V 0) E' ∧ XO (mReads V 0) E' ∧ ∀ b, E' 0 b = E 0 b) 97 [.ref 0, .int (nI 0), .ref 19, .null] [] (hC (mR5 V 0) E) := by
    have hn4 : mR5 V 0 9 0 ≤ 4 := by rw [(h59 0).1]; omega
    have hXO : XO (mR5 V 0) E := ⟨hX.1, fun x j hx hj => by rw [(h59 x).1] at hj; rw [(h59 _).2]; exact hX.2 x j hx hj⟩
    refine Wp.aload_n (pc2 := 98) dX4_readFrom_97 rfl rfl ?_
    refine Wp.callV (pc2 := 101) kX4_readFrom_208 vX2_isAtPoint (x_isAtPoint_0 (mR5 V 0) E hJ5.1) dX4_readFrom_98 rfl rfl rfl rfl rfl (Nat.le_of_ble_eq_true rfl) ?_
    rintro _ _ ⟨⟨b1, rfl, hb1⟩, rfl⟩
    refine Wp.ifN_eq (pc2 := 104) 121 dX4_readFrom_101 rfl (by decide) (zb_lt _) (fun c101 => ?_) (fun c101 => ?_)
    · refine Wp.retv dX4_readFrom_121 rfl ?_
      have hrd : mReads V 0 = mR5 V 0 := by
        unfold mReads
        split
        · rename_i q
          unfold mTurns
          rw [if_neg (fun z => zbn hb1 c101 ⟨q, z⟩)]
        · rfl
      rw [hrd]
      exact ⟨rfl, E, rfl, hXO, fun _ => rfl⟩
    · refine Wp.aload_n (pc2 := 105) dX4_readFrom_104 rfl rfl ?_
      refine Wp.callV (pc2 := 108) kX4_readFrom_211 vX2_turnOrder (x_turnOrder_0 (mR5 V 0) E hX.1 (wB_of hJ5 (by decide)) hn4) dX4_readFrom_105 rfl rfl rfl rfl rfl (Nat.le_of_ble_eq_true rfl) ?_
      rintro _ _ ⟨A, hA, ⟨b2, rfl, hb2⟩, E', hBE, rfl, hE1, hE2⟩
      have hp := zby hb1 c101
      have hsr := sInv_turn hJ5 (show 0 < 2 by decide) hA
      have hEV : ∀ j, j < mR5 V 0 9 0 → E 23 j = mR5 V 0 11 (4 * 0 + j) := fun j hj => hXO.2 0 j (by decide) hj
      have hrd : mReads V 0 = mTurn (mR5 V 0) 0 := by
        unfold mReads
        rw [if_pos hp.1]
        unfold mTurns
        rw [if_pos hp.2]
      have hE0 : ∀ b, E' 0 b = E 0 b := fun b => hE2 0 b (by decide) (by decide)
      refine Wp.ifN_eq (pc2 := 111) 121 dX4_readFrom_108 rfl (by decide) (zb_lt _) (fun c108 => ?_) (fun c108 => ?_)
      · refine Wp.retv dX4_readFrom_121 rfl ?_
        have hun : ∀ j, j < mR5 V 0 9 0 → E 23 j = A j := fun j hj => Classical.byContradiction (fun z => zbn hb2 c108 ⟨j, hj, z⟩)
        have htr : turnR (mR5 V 0) 0 (mR5 V 0) := ⟨_, hsr, fun _ => rfl, fun ⟨j, hj, hne⟩ => absurd (show (if j < mR5 V 0 9 0 then A j else mR5 V 0 11 (4 * 0 + j)) = _ by rw [if_pos hj, ← hun j hj]; exact hEV j hj) hne⟩
        rw [hrd, mTurn_eq htr]
        refine ⟨rfl, E', rfl, ⟨hBE, fun x j hx hj => ?_⟩, hE0⟩
        by_cases q : x = 0
        · subst q
          rw [hE1 j hj, ← hun j hj]; exact hEV j hj
        · rw [hE2 (23 + 8 * x) j (by omega) (by omega)]; exact hXO.2 x j hx hj
      · refine Wp.aload_n (pc2 := 112) dX4_readFrom_111 rfl rfl ?_
        refine Wp.dup (pc2 := 113) dX4_readFrom_112 rfl rfl ?_
        refine Wp.getf (pc2 := 116) fX4_84 dX4_readFrom_113 rfl rfl rfl ?_
        refine Wp.iconN (pc2 := 117) 1 dX4_readFrom_116 rfl ?_
        refine Wp.iaddN (pc2 := 118) dX4_readFrom_117 rfl  ?_
        change Wp _ _ _ _ (.int (nI (mR5 V 0 0 31 + 1)) :: _) _
        refine Wp.putf (pc2 := 121) gX4_84 dX4_readFrom_118 rfl rfl (Nat.le_of_ble_eq_true rfl) rfl rfl ?_
        refine Wp.heq (hC_o0_10 _ _ _) ?_
        refine Wp.retv dX4_readFrom_121 rfl ?_
        obtain ⟨j0, hj0, hne0⟩ := zby hb2 c108
        have htr : turnR (mR5 V 0) 0 (vs (ordV (mR5 V 0) 0 (fun j => if j < mR5 V 0 9 0 then A j else mR5 V 0 11 (4 * 0 + j))) 0 31 (mR5 V 0 0 31 + 1)) := ⟨_, hsr, fun hu => absurd (hu j0 hj0) (show ¬ (if j0 < mR5 V 0 9 0 then A j0 else mR5 V 0 11 (4 * 0 + j0)) = _ by rw [if_pos hj0, ← hEV j0 hj0]; exact fun z => hne0 z.symm), fun _ => rfl⟩
        rw [hrd, mTurn_eq htr]
        refine ⟨rfl, E', rfl, ⟨hBE, fun x j hx hj => ?_⟩, hE0⟩
        have e9' : vs (ordV (mR5 V 0) 0 (fun j => if j < mR5 V 0 9 0 then A j else mR5 V 0 11 (4 * 0 + j))) 0 31 (mR5 V 0 0 31 + 1) 9 x = mR5 V 0 9 x := by rw [vs_k _ (by decide), ordV_k _ _ _ (by decide)]
        rw [e9'] at hj
        rw [vs_k _ (by decide)]
        by_cases q : x = 0
        · subst q
          rw [hE1 j hj, ordV_at _ _ _ (by omega), if_pos hj]
        · rw [hE2 (23 + 8 * x) j (by omega) (by omega)]
          have hj4 : mR5 V 0 9 x ≤ 4 := by have := hJ5.2.1 x hx; omega
          unfold ordV
          rw [if_neg (by omega)]
          exact hXO.2 x j hx hj
  have K26 : ∀ W, W = (if V 0 29 ≠ 0 ∧ V 0 29 ≠ 0 + 1 then vs V 0 30 (V 0 30 + 1) else V) → Wp mX4_readFrom (fun zr zq => zr = none ∧ ∃ E', zq = hC (mReads V 0) E' ∧ XO (mReads V 0) E' ∧ ∀ b, E' 0 b = E 0 b) 26 [.ref 0, .int (nI 0), .null, .null] [] (hC W E) := by
    intro W hW
    have w10 : W 10 0 = V 10 0 := by
      rw [hW]
      split
      · exact vs_k _ (by decide)
      · rfl
    have eR : vs (vs W 0 29 (0 + 1)) 10 0 (V 10 0 + 1) = mRd1 V 0 := by
      rw [hW]
      unfold mRd1
      split
      · rw [vs_comm (vs V 0 30 (V 0 30 + 1)) (k := 0) (i := 29) (x := 0 + 1) (k' := 10) (i' := 0) (y := V 10 0 + 1) (Or.inl (by decide)), vs_comm V (k := 0) (i := 30) (x := V 0 30 + 1) (k' := 10) (i' := 0) (y := V 10 0 + 1) (Or.inl (by decide))]
      · rw [vs_comm V (k := 0) (i := 29) (x := 0 + 1) (k' := 10) (i' := 0) (y := V 10 0 + 1) (Or.inl (by decide))]
    refine Wp.aload_n (pc2 := 27) dX4_readFrom_26 rfl rfl ?_
    refine Wp.iload_n (pc2 := 28) dX4_readFrom_27 rfl rfl ?_
    refine Wp.top (zo (0 + 1)) (by decide +kernel) ?_
    refine Wp.putf (pc2 := 31) gX4_78 dX4_readFrom_28 rfl rfl (Nat.le_of_ble_eq_true rfl) rfl rfl ?_
    refine Wp.heq (hC_o0_8 _ _ _) ?_
    refine Wp.aload_n (pc2 := 32) dX4_readFrom_31 rfl rfl ?_
    refine Wp.getf (pc2 := 35) fX4_21 dX4_readFrom_32 rfl rfl rfl ?_
    refine Wp.iload_n (pc2 := 36) dX4_readFrom_35 rfl rfl ?_
    refine Wp.aald (pc2 := 37) dX4_readFrom_36 rfl rfl (by decide) (by omega) (by decide) rfl ?_
    refine Wp.astore_n (pc2 := 38) dX4_readFrom_37 rfl (by decide) rfl ?_
    refine Wp.aload_n (pc2 := 39) dX4_readFrom_38 rfl rfl ?_
    refine Wp.getf (pc2 := 42) fX4_174 dX4_readFrom_39 rfl rfl rfl ?_
    change Wp _ _ _ _ (.int (nI (W 10 0)) :: _) _
    rw [w10]
    refine Wp.istore_n (pc2 := 43) dX4_readFrom_42 rfl (by decide) rfl ?_
    refine Wp.aload_n (pc2 := 44) dX4_readFrom_43 rfl rfl ?_
    refine Wp.dup (pc2 := 45) dX4_readFrom_44 rfl rfl ?_
    refine Wp.getf (pc2 := 48) fX4_174 dX4_readFrom_45 rfl rfl rfl ?_
    refine Wp.iconN (pc2 := 49) 1 dX4_readFrom_48 rfl ?_
    refine Wp.iaddN (pc2 := 50) dX4_readFrom_49 rfl  ?_
    change Wp _ _ _ _ (.int (nI (W 10 0 + 1)) :: _) _
    rw [w10]
    refine Wp.putf (pc2 := 53) gX4_174 dX4_readFrom_50 rfl rfl (Nat.le_of_ble_eq_true rfl) rfl rfl ?_
    refine Wp.heq (hC_o19_10 _ _ _) ?_
    rw [eR]
    refine Wp.aload_n (pc2 := 54) dX4_readFrom_53 rfl rfl ?_
    refine Wp.iload_n (pc2 := 55) dX4_readFrom_54 rfl rfl ?_
    refine Wp.callV (pc2 := 58) kX4_readFrom_198 vX2_tryTests (x_tryTests_0 (mRd1 V 0) E (V 10 0) (by omega) hVR (by rw [e9]; exact hB) (by rw [e9]; omega) (fun j hj => by rw [e9] at hj; rw [mRd1_o (by omega)]; exact hX.2 0 j (by decide) hj)) dX4_readFrom_55 rfl rfl rfl rfl rfl (Nat.le_of_ble_eq_true rfl) ?_
    rintro _ _ ⟨rfl, rfl⟩
    rw [e9]
    change Wp _ _ _ _ (.int (nI (zb (mR2 V 0).2)) :: _) (hC (mR2 V 0).1 E)
    refine Wp.ifN_eq (pc2 := 61) 90 dX4_readFrom_58 rfl (by decide) (zb_lt _) (fun c58 => ?_) (fun c58 => ?_)
    · refine Wp.aload_n (pc2 := 91) dX4_readFrom_90 rfl rfl ?_
      refine Wp.getf (pc2 := 94) fX4_141 dX4_readFrom_91 rfl rfl rfl ?_
      refine Wp.iload_n (pc2 := 95) dX4_readFrom_94 rfl rfl ?_
      refine Wp.iconN (pc2 := 96) 1 dX4_readFrom_95 rfl ?_
      refine Wp.cast (pc2 := 97) dX4_readFrom_96 rfl rfl (by omega) (by decide) ?_
      refine Wp.heq (hC_a20 _ _ _ _ (by omega)) ?_
      have hok : (mR2 V 0).2 = false := zb_0 c58
      refine Wp.heq (h' := hC (mR4 V 0) E) (by unfold mR4; rw [hok]; rfl) ?_
      change Wp _ _ _ _ _ (hC (mR5 V 0) E)
      refine Wp.fg [.ref 0, .int (nI 0), .ref 19, .null] (And.intro (Or.inr rfl) (And.intro (Or.inr rfl) (And.intro (Or.inr rfl) (And.intro (Or.inl rfl) trivial)))) ?_
      exact K97
    · have hok : (mR2 V 0).2 = true := zb_1 c58
      have w3 : ∀ k j, k ≠ 18 → mR3 V 0 k j = (mR2 V 0).1 k j := fun k j hk => R3_k hk
      have hq2 : QI (mR2 V 0).1 := by
        have f22 : ∀ j, (mR2 V 0).1 22 j = V 22 j := fun j => R2_o (by omega)
        have f18 : ∀ j, (mR2 V 0).1 18 j = V 18 j := fun j => R2_o (by omega)
        have f19 : ∀ j, (mR2 V 0).1 19 j = V 19 j := fun j => R2_o (by omega)
        have f23 : (mR2 V 0).1 0 23 = V 0 23 := R2_o (by omega)
        have f28 : (mR2 V 0).1 0 28 = V 0 28 := R2_o (by omega)
        unfold QI
        simp only [f22, f18, f19, f23, f28]
        exact h.2.2.2.2.2.1
      have hg2 : GI (mR2 V 0).1 := GI_o h.2.2.2.2.2.2.1 (R2_o (by omega)) (fun i => R2_o (by omega)) (fun p => R2_o (by omega))
      have hF2 : FI (mR2 V 0).1 0 (V 10 0) ((mR2 V 0).1 0 28) := by
        intro j h1 h2 h4
        rw [← w3 0 28 (by decide)] at h1
        rw [← w3 0 23 (by decide)] at h2
        rw [← w3 22 j (by decide)] at h4 ⊢
        rw [← w3 20 _ (by decide)]
        exact h3.2.2.2.1 j h1 h2 h4
      have u23 : mFinds0 (mR2 V 0).1 0 (V 10 0) 0 23 = mR3 V 0 0 23 := by
        rw [w3 0 23 (by decide)]
        exact fnd_o (by unfold gfree; omega) _ _ _
      have u17 : mFinds0 (mR2 V 0).1 0 (V 10 0) 17 0 = (mR2 V 0).1 17 0 := fnd_o (by unfold gfree; omega) _ _ _
      have hpre := mFinds1_pre (t := 0) (by decide) (show V 10 0 < 50 by omega) h3.2.1 h3.2.2.1 h3.2.2.2.1 h3.2.2.2.2.2.1 h3.2.2.2.2.2.2.1 h3.1 h3.2.2.2.2.2.2.2
      refine Wp.aload_n (pc2 := 62) dX4_readFrom_61 rfl rfl ?_
      refine Wp.iload_n (pc2 := 63) dX4_readFrom_62 rfl rfl ?_
      refine Wp.iload_n (pc2 := 64) dX4_readFrom_63 rfl rfl ?_
      refine Wp.callV (pc2 := 67) kX4_readFrom_201 vX4_givePairsOf (x_givePairs_0 (mR2 V 0).1 E (V 10 0) (by omega) (by rw [R2_o (by omega)]; exact (h.2.1 0 (by decide)).2.2.2.2.1) (by rw [R2_o (by omega)]; exact (h.2.1 1 (by decide)).2.2.2.2.1) (by rw [R2_o (by omega)]; omega) hq2 hV2 hg2 hF2) dX4_readFrom_64 rfl rfl rfl rfl rfl (Nat.le_of_ble_eq_true rfl) ?_
      rintro _ _ ⟨rfl, rfl⟩
      refine Wp.aload_n (pc2 := 68) dX4_readFrom_67 rfl rfl ?_
      refine Wp.getf (pc2 := 71) fX4_141 dX4_readFrom_68 rfl rfl rfl ?_
      refine Wp.iload_n (pc2 := 72) dX4_readFrom_71 rfl rfl ?_
      refine Wp.iconN (pc2 := 73) 2 dX4_readFrom_72 rfl ?_
      refine Wp.cast (pc2 := 74) dX4_readFrom_73 rfl rfl (by omega) (by decide) ?_
      refine Wp.heq (hC_a20 _ _ _ _ (by omega)) ?_
      refine Wp.aload_n (pc2 := 75) dX4_readFrom_74 rfl rfl ?_
      refine Wp.getf (pc2 := 78) fX4_32 dX4_readFrom_75 rfl rfl rfl ?_
      refine Wp.iload_n (pc2 := 79) dX4_readFrom_78 rfl rfl ?_
      refine Wp.iload_n (pc2 := 80) dX4_readFrom_79 rfl rfl ?_
      refine Wp.callV (pc2 := 83) kX4_readFrom_205 vX0_take (x_mTake _ E 0 (V 10 0) (show mFinds0 (mR2 V 0).1 0 (V 10 0) 0 23 < 100 by rw [u23]; exact h3.2.2.2.2.2.2.1)) dX4_readFrom_80 rfl rfl rfl rfl rfl (Nat.le_of_ble_eq_true rfl) ?_
      rintro _ _ ⟨rfl, rfl⟩
      refine Wp.heq (h' := hC (mFinds1 (mR3 V 0) (mFinds0 (mR3 V 0) 0 (V 10 0)) 0 (V 10 0)) E) ?_ ?_
      · unfold mR3
        rw [mFinds1_alt, u17]
        rfl
      refine Wp.aload_n (pc2 := 84) dX4_readFrom_83 rfl rfl ?_
      refine Wp.callV (pc2 := 87) kX4_readFrom_105 vX4_spillExcess (x_spill (mFinds1 (mR3 V 0) (mFinds0 (mR3 V 0) 0 (V 10 0)) 0 (V 10 0)) E hpre.1 hpre.2) dX4_readFrom_84 rfl rfl rfl rfl rfl (Nat.le_of_ble_eq_true rfl) ?_
      rintro _ _ ⟨rfl, rfl⟩
      refine Wp.goto (pc2 := 97) dX4_readFrom_87 (by decide) ?_
      refine Wp.heq (h' := hC (mR4 V 0) E) (by unfold mR4; rw [hok]; rfl) ?_
      change Wp _ _ _ _ _ (hC (mR5 V 0) E)
      refine Wp.fg [.ref 0, .int (nI 0), .ref 19, .null] (And.intro (Or.inr rfl) (And.intro (Or.inr rfl) (And.intro (Or.inr rfl) (And.intro (Or.inl rfl) trivial)))) ?_
      exact K97
  refine Wp.aload_n (pc2 := 1) dX4_readFrom_0 rfl rfl ?_
  refine Wp.getf (pc2 := 4) fX4_78 dX4_readFrom_1 rfl rfl rfl ?_
  refine Wp.icon (pc2 := 5) dX4_readFrom_4 rfl (-1) (by decide +kernel) ?_
  refine Wp.icmp_eq (pc2 := 8) 26 dX4_readFrom_5 rfl (by decide)  (fun c5 => ?_) (fun c5 => ?_)
  · exact K26 _ (by rw [if_neg (fun z => z.1 ((zo_m1 (by omega)).mp c5))])
  · refine Wp.aload_n (pc2 := 9) dX4_readFrom_8 rfl rfl ?_
    refine Wp.getf (pc2 := 12) fX4_78 dX4_readFrom_9 rfl rfl rfl ?_
    refine Wp.iload_n (pc2 := 13) dX4_readFrom_12 rfl rfl ?_
    refine Wp.icmp_eq (pc2 := 16) 26 dX4_readFrom_13 rfl (by decide)  (fun c13 => ?_) (fun c13 => ?_)
    · exact K26 _ (by rw [if_neg (fun z => z.2 ((zo_eq (by omega) (by omega)).mp c13))])
    · refine Wp.aload_n (pc2 := 17) dX4_readFrom_16 rfl rfl ?_
      refine Wp.dup (pc2 := 18) dX4_readFrom_17 rfl rfl ?_
      refine Wp.getf (pc2 := 21) fX4_81 dX4_readFrom_18 rfl rfl rfl ?_
      refine Wp.iconN (pc2 := 22) 1 dX4_readFrom_21 rfl ?_
      refine Wp.iaddN (pc2 := 23) dX4_readFrom_22 rfl  ?_
      change Wp _ _ _ _ (.int (nI (V 0 30 + 1)) :: _) _
      refine Wp.putf (pc2 := 26) gX4_81 dX4_readFrom_23 rfl rfl (Nat.le_of_ble_eq_true rfl) rfl rfl ?_
      refine Wp.heq (hC_o0_9 _ _ _) ?_
      exact K26 _ (by rw [if_pos ⟨zo_ne (by omega) c5, fun z => c13 ((zo_eq (by omega) (by omega)).mpr z)⟩])
set_option maxRecDepth 100000 in
set_option maxHeartbeats 4000000 in
theorem x_readFrom_1 (V E : zS) (h : JV V) (hX : XO V E) (hr : V 10 1 < V 1 1) : PM mX4_readFrom [.ref 0, .int (nI 1)] (hC V E) (fun zr zq => zr = none ∧ ∃ E', zq = hC (mReads V 1) E' ∧ XO (mReads V 1) E' ∧ ∀ b, E' 0 b = E 0 b) := by
  refine PM.of (by decide +kernel) (by simp [Value.category]) (Nat.le_of_ble_eq_true rfl) ?_
  have hs := JV_t h (show 1 < 2 by decide)
  have hss := JV_s h
  have hB := Rd1_tB h (show 1 < 2 by decide)
  have h3 := R3_pre h (show 1 < 2 by decide) hr
  have hJ5 := JV_R5 h (show 1 < 2 by decide) hr
  have jt := h.2.1 1 (by decide)
  have s4 : V 0 29 ≤ 2 := h.2.2.2.2.2.2.2.2.2.1.2.2.2.1
  have e9 : mRd1 V 1 9 1 = V 9 1 := mRd1_o (by omega)
  have h59 := R5_9 h (show 1 < 2 by decide) hr
  have hVR := BV_Rd1 h.1 (show 1 < 2 by decide) (by omega) (by omega)
  have hV2 : BV (mR2 V 1).1 := tst_BV (by decide) _ _ _ hVR hB (by omega)
  have K97 : Wp mX4_readFrom (fun zr zq => zr = none ∧ ∃ E', zq = hC (mReads V 1) E' ∧ XO (mReads V 1) E' ∧ ∀ b, E' 0 b = E 0 b) 97 [.ref 0, .int (nI 1), .ref 27, .null] [] (hC (mR5 V 1) E) := by
    have hn4 : mR5 V 1 9 1 ≤ 4 := by rw [(h59 1).1]; omega
    have hXO : XO (mR5 V 1) E := ⟨hX.1, fun x j hx hj => by rw [(h59 x).1] at hj; rw [(h59 _).2]; exact hX.2 x j hx hj⟩
    refine Wp.aload_n (pc2 := 98) dX4_readFrom_97 rfl rfl ?_
    refine Wp.callV (pc2 := 101) kX4_readFrom_208 vX2_isAtPoint (x_isAtPoint_1 (mR5 V 1) E hJ5.1) dX4_readFrom_98 rfl rfl rfl rfl rfl (Nat.le_of_ble_eq_true rfl) ?_
    rintro _ _ ⟨⟨b1, rfl, hb1⟩, rfl⟩
    refine Wp.ifN_eq (pc2 := 104) 121 dX4_readFrom_101 rfl (by decide) (zb_lt _) (fun c101 => ?_) (fun c101 => ?_)
    · refine Wp.retv dX4_readFrom_121 rfl ?_
      have hrd : mReads V 1 = mR5 V 1 := by
        unfold mReads
        split
        · rename_i q
          unfold mTurns
          rw [if_neg (fun z => zbn hb1 c101 ⟨q, z⟩)]
        · rfl
      rw [hrd]
      exact ⟨rfl, E, rfl, hXO, fun _ => rfl⟩
    · refine Wp.aload_n (pc2 := 105) dX4_readFrom_104 rfl rfl ?_
      refine Wp.callV (pc2 := 108) kX4_readFrom_211 vX2_turnOrder (x_turnOrder_1 (mR5 V 1) E hX.1 (wB_of hJ5 (by decide)) hn4) dX4_readFrom_105 rfl rfl rfl rfl rfl (Nat.le_of_ble_eq_true rfl) ?_
      rintro _ _ ⟨A, hA, ⟨b2, rfl, hb2⟩, E', hBE, rfl, hE1, hE2⟩
      have hp := zby hb1 c101
      have hsr := sInv_turn hJ5 (show 1 < 2 by decide) hA
      have hEV : ∀ j, j < mR5 V 1 9 1 → E 31 j = mR5 V 1 11 (4 * 1 + j) := fun j hj => hXO.2 1 j (by decide) hj
      have hrd : mReads V 1 = mTurn (mR5 V 1) 1 := by
        unfold mReads
        rw [if_pos hp.1]
        unfold mTurns
        rw [if_pos hp.2]
      have hE0 : ∀ b, E' 0 b = E 0 b := fun b => hE2 0 b (by decide) (by decide)
      refine Wp.ifN_eq (pc2 := 111) 121 dX4_readFrom_108 rfl (by decide) (zb_lt _) (fun c108 => ?_) (fun c108 => ?_)
      · refine Wp.retv dX4_readFrom_121 rfl ?_
        have hun : ∀ j, j < mR5 V 1 9 1 → E 31 j = A j := fun j hj => Classical.byContradiction (fun z => zbn hb2 c108 ⟨j, hj, z⟩)
        have htr : turnR (mR5 V 1) 1 (mR5 V 1) := ⟨_, hsr, fun _ => rfl, fun ⟨j, hj, hne⟩ => absurd (show (if j < mR5 V 1 9 1 then A j else mR5 V 1 11 (4 * 1 + j)) = _ by rw [if_pos hj, ← hun j hj]; exact hEV j hj) hne⟩
        rw [hrd, mTurn_eq htr]
        refine ⟨rfl, E', rfl, ⟨hBE, fun x j hx hj => ?_⟩, hE0⟩
        by_cases q : x = 1
        · subst q
          rw [hE1 j hj, ← hun j hj]; exact hEV j hj
        · rw [hE2 (23 + 8 * x) j (by omega) (by omega)]; exact hXO.2 x j hx hj
      · refine Wp.aload_n (pc2 := 112) dX4_readFrom_111 rfl rfl ?_
        refine Wp.dup (pc2 := 113) dX4_readFrom_112 rfl rfl ?_
        refine Wp.getf (pc2 := 116) fX4_84 dX4_readFrom_113 rfl rfl rfl ?_
        refine Wp.iconN (pc2 := 117) 1 dX4_readFrom_116 rfl ?_
        refine Wp.iaddN (pc2 := 118) dX4_readFrom_117 rfl  ?_
        change Wp _ _ _ _ (.int (nI (mR5 V 1 0 31 + 1)) :: _) _
        refine Wp.putf (pc2 := 121) gX4_84 dX4_readFrom_118 rfl rfl (Nat.le_of_ble_eq_true rfl) rfl rfl ?_
        refine Wp.heq (hC_o0_10 _ _ _) ?_
        refine Wp.retv dX4_readFrom_121 rfl ?_
        obtain ⟨j0, hj0, hne0⟩ := zby hb2 c108
        have htr : turnR (mR5 V 1) 1 (vs (ordV (mR5 V 1) 1 (fun j => if j < mR5 V 1 9 1 then A j else mR5 V 1 11 (4 * 1 + j))) 0 31 (mR5 V 1 0 31 + 1)) := ⟨_, hsr, fun hu => absurd (hu j0 hj0) (show ¬ (if j0 < mR5 V 1 9 1 then A j0 else mR5 V 1 11 (4 * 1 + j0)) = _ by rw [if_pos hj0, ← hEV j0 hj0]; exact fun z => hne0 z.symm), fun _ => rfl⟩
        rw [hrd, mTurn_eq htr]
        refine ⟨rfl, E', rfl, ⟨hBE, fun x j hx hj => ?_⟩, hE0⟩
        have e9' : vs (ordV (mR5 V 1) 1 (fun j => if j < mR5 V 1 9 1 then A j else mR5 V 1 11 (4 * 1 + j))) 0 31 (mR5 V 1 0 31 + 1) 9 x = mR5 V 1 9 x := by rw [vs_k _ (by decide), ordV_k _ _ _ (by decide)]
        rw [e9'] at hj
        rw [vs_k _ (by decide)]
        by_cases q : x = 1
        · subst q
          rw [hE1 j hj, ordV_at _ _ _ (by omega), if_pos hj]
        · rw [hE2 (23 + 8 * x) j (by omega) (by omega)]
          have hj4 : mR5 V 1 9 x ≤ 4 := by have := hJ5.2.1 x hx; omega
          unfold ordV
          rw [if_neg (by omega)]
          exact hXO.2 x j hx hj
  have K26 : ∀ W, W = (if V 0 29 ≠ 0 ∧ V 0 29 ≠ 1 + 1 then vs V 0 30 (V 0 30 + 1) else V) → Wp mX4_readFrom (fun zr zq => zr = none ∧ ∃ E', zq = hC (mReads V 1) E' ∧ XO (mReads V 1) E' ∧ ∀ b, E' 0 b = E 0 b) 26 [.ref 0, .int (nI 1), .null, .null] [] (hC W E) := by
    intro W hW
    have w10 : W 10 1 = V 10 1 := by
      rw [hW]
      split
      · exact vs_k _ (by decide)
      · rfl
    have eR : vs (vs W 0 29 (1 + 1)) 10 1 (V 10 1 + 1) = mRd1 V 1 := by
      rw [hW]
      unfold mRd1
      split
      · rw [vs_comm (vs V 0 30 (V 0 30 + 1)) (k := 0) (i := 29) (x := 1 + 1) (k' := 10) (i' := 1) (y := V 10 1 + 1) (Or.inl (by decide)), vs_comm V (k := 0) (i := 30) (x := V 0 30 + 1) (k' := 10) (i' := 1) (y := V 10 1 + 1) (Or.inl (by decide))]
      · rw [vs_comm V (k := 0) (i := 29) (x := 1 + 1) (k' := 10) (i' := 1) (y := V 10 1 + 1) (Or.inl (by decide))]
    refine Wp.aload_n (pc2 := 27) dX4_readFrom_26 rfl rfl ?_
    refine Wp.iload_n (pc2 := 28) dX4_readFrom_27 rfl rfl ?_
    refine Wp.top (zo (1 + 1)) (by decide +kernel) ?_
    refine Wp.putf (pc2 := 31) gX4_78 dX4_readFrom_28 rfl rfl (Nat.le_of_ble_eq_true rfl) rfl rfl ?_
    refine Wp.heq (hC_o0_8 _ _ _) ?_
    refine Wp.aload_n (pc2 := 32) dX4_readFrom_31 rfl rfl ?_
    refine Wp.getf (pc2 := 35) fX4_21 dX4_readFrom_32 rfl rfl rfl ?_
    refine Wp.iload_n (pc2 := 36) dX4_readFrom_35 rfl rfl ?_
    refine Wp.aald (pc2 := 37) dX4_readFrom_36 rfl rfl (by decide) (by omega) (by decide) rfl ?_
    refine Wp.astore_n (pc2 := 38) dX4_readFrom_37 rfl (by decide) rfl ?_
    refine Wp.aload_n (pc2 := 39) dX4_readFrom_38 rfl rfl ?_
    refine Wp.getf (pc2 := 42) fX4_174 dX4_readFrom_39 rfl rfl rfl ?_
    change Wp _ _ _ _ (.int (nI (W 10 1)) :: _) _
    rw [w10]
    refine Wp.istore_n (pc2 := 43) dX4_readFrom_42 rfl (by decide) rfl ?_
    refine Wp.aload_n (pc2 := 44) dX4_readFrom_43 rfl rfl ?_
    refine Wp.dup (pc2 := 45) dX4_readFrom_44 rfl rfl ?_
    refine Wp.getf (pc2 := 48) fX4_174 dX4_readFrom_45 rfl rfl rfl ?_
    refine Wp.iconN (pc2 := 49) 1 dX4_readFrom_48 rfl ?_
    refine Wp.iaddN (pc2 := 50) dX4_readFrom_49 rfl  ?_
    change Wp _ _ _ _ (.int (nI (W 10 1 + 1)) :: _) _
    rw [w10]
    refine Wp.putf (pc2 := 53) gX4_174 dX4_readFrom_50 rfl rfl (Nat.le_of_ble_eq_true rfl) rfl rfl ?_
    refine Wp.heq (hC_o27_10 _ _ _) ?_
    rw [eR]
    refine Wp.aload_n (pc2 := 54) dX4_readFrom_53 rfl rfl ?_
    refine Wp.iload_n (pc2 := 55) dX4_readFrom_54 rfl rfl ?_
    refine Wp.callV (pc2 := 58) kX4_readFrom_198 vX2_tryTests (x_tryTests_1 (mRd1 V 1) E (V 10 1) (by omega) hVR (by rw [e9]; exact hB) (by rw [e9]; omega) (fun j hj => by rw [e9] at hj; rw [mRd1_o (by omega)]; exact hX.2 1 j (by decide) hj)) dX4_readFrom_55 rfl rfl rfl rfl rfl (Nat.le_of_ble_eq_true rfl) ?_
    rintro _ _ ⟨rfl, rfl⟩
    rw [e9]
    change Wp _ _ _ _ (.int (nI (zb (mR2 V 1).2)) :: _) (hC (mR2 V 1).1 E)
    refine Wp.ifN_eq (pc2 := 61) 90 dX4_readFrom_58 rfl (by decide) (zb_lt _) (fun c58 => ?_) (fun c58 => ?_)
    · refine Wp.aload_n (pc2 := 91) dX4_readFrom_90 rfl rfl ?_
      refine Wp.getf (pc2 := 94) fX4_141 dX4_readFrom_91 rfl rfl rfl ?_
      refine Wp.iload_n (pc2 := 95) dX4_readFrom_94 rfl rfl ?_
      refine Wp.iconN (pc2 := 96) 1 dX4_readFrom_95 rfl ?_
      refine Wp.cast (pc2 := 97) dX4_readFrom_96 rfl rfl (by omega) (by decide) ?_
      refine Wp.heq (hC_a28 _ _ _ _ (by omega)) ?_
      have hok : (mR2 V 1).2 = false := zb_0 c58
      refine Wp.heq (h' := hC (mR4 V 1) E) (by unfold mR4; rw [hok]; rfl) ?_
      change Wp _ _ _ _ _ (hC (mR5 V 1) E)
      refine Wp.fg [.ref 0, .int (nI 1), .ref 27, .null] (And.intro (Or.inr rfl) (And.intro (Or.inr rfl) (And.intro (Or.inr rfl) (And.intro (Or.inl rfl) trivial)))) ?_
      exact K97
    · have hok : (mR2 V 1).2 = true := zb_1 c58
      have w3 : ∀ k j, k ≠ 18 → mR3 V 1 k j = (mR2 V 1).1 k j := fun k j hk => R3_k hk
      have hq2 : QI (mR2 V 1).1 := by
        have f22 : ∀ j, (mR2 V 1).1 22 j = V 22 j := fun j => R2_o (by omega)
        have f18 : ∀ j, (mR2 V 1).1 18 j = V 18 j := fun j => R2_o (by omega)
        have f19 : ∀ j, (mR2 V 1).1 19 j = V 19 j := fun j => R2_o (by omega)
        have f23 : (mR2 V 1).1 0 23 = V 0 23 := R2_o (by omega)
        have f28 : (mR2 V 1).1 0 28 = V 0 28 := R2_o (by omega)
        unfold QI
        simp only [f22, f18, f19, f23, f28]
        exact h.2.2.2.2.2.1
      have hg2 : GI (mR2 V 1).1 := GI_o h.2.2.2.2.2.2.1 (R2_o (by omega)) (fun i => R2_o (by omega)) (fun p => R2_o (by omega))
      have hF2 : FI (mR2 V 1).1 1 (V 10 1) ((mR2 V 1).1 0 28) := by
        intro j h1 h2 h4
        rw [← w3 0 28 (by decide)] at h1
        rw [← w3 0 23 (by decide)] at h2
        rw [← w3 22 j (by decide)] at h4 ⊢
        rw [← w3 20 _ (by decide)]
        exact h3.2.2.2.1 j h1 h2 h4
      have u23 : mFinds0 (mR2 V 1).1 1 (V 10 1) 0 23 = mR3 V 1 0 23 := by
        rw [w3 0 23 (by decide)]
        exact fnd_o (by unfold gfree; omega) _ _ _
      have u17 : mFinds0 (mR2 V 1).1 1 (V 10 1) 17 1 = (mR2 V 1).1 17 1 := fnd_o (by unfold gfree; omega) _ _ _
      have hpre := mFinds1_pre (t := 1) (by decide) (show V 10 1 < 50 by omega) h3.2.1 h3.2.2.1 h3.2.2.2.1 h3.2.2.2.2.2.1 h3.2.2.2.2.2.2.1 h3.1 h3.2.2.2.2.2.2.2
      refine Wp.aload_n (pc2 := 62) dX4_readFrom_61 rfl rfl ?_
      refine Wp.iload_n (pc2 := 63) dX4_readFrom_62 rfl rfl ?_
      refine Wp.iload_n (pc2 := 64) dX4_readFrom_63 rfl rfl ?_
      refine Wp.callV (pc2 := 67) kX4_readFrom_201 vX4_givePairsOf (x_givePairs_1 (mR2 V 1).1 E (V 10 1) (by omega) (by rw [R2_o (by omega)]; exact (h.2.1 0 (by decide)).2.2.2.2.1) (by rw [R2_o (by omega)]; exact (h.2.1 1 (by decide)).2.2.2.2.1) (by rw [R2_o (by omega)]; omega) hq2 hV2 hg2 hF2) dX4_readFrom_64 rfl rfl rfl rfl rfl (Nat.le_of_ble_eq_true rfl) ?_
      rintro _ _ ⟨rfl, rfl⟩
      refine Wp.aload_n (pc2 := 68) dX4_readFrom_67 rfl rfl ?_
      refine Wp.getf (pc2 := 71) fX4_141 dX4_readFrom_68 rfl rfl rfl ?_
      refine Wp.iload_n (pc2 := 72) dX4_readFrom_71 rfl rfl ?_
      refine Wp.iconN (pc2 := 73) 2 dX4_readFrom_72 rfl ?_
      refine Wp.cast (pc2 := 74) dX4_readFrom_73 rfl rfl (by omega) (by decide) ?_
      refine Wp.heq (hC_a28 _ _ _ _ (by omega)) ?_
      refine Wp.aload_n (pc2 := 75) dX4_readFrom_74 rfl rfl ?_
      refine Wp.getf (pc2 := 78) fX4_32 dX4_readFrom_75 rfl rfl rfl ?_
      refine Wp.iload_n (pc2 := 79) dX4_readFrom_78 rfl rfl ?_
      refine Wp.iload_n (pc2 := 80) dX4_readFrom_79 rfl rfl ?_
      refine Wp.callV (pc2 := 83) kX4_readFrom_205 vX0_take (x_mTake _ E 1 (V 10 1) (show mFinds0 (mR2 V 1).1 1 (V 10 1) 0 23 < 100 by rw [u23]; exact h3.2.2.2.2.2.2.1)) dX4_readFrom_80 rfl rfl rfl rfl rfl (Nat.le_of_ble_eq_true rfl) ?_
      rintro _ _ ⟨rfl, rfl⟩
      refine Wp.heq (h' := hC (mFinds1 (mR3 V 1) (mFinds0 (mR3 V 1) 1 (V 10 1)) 1 (V 10 1)) E) ?_ ?_
      · unfold mR3
        rw [mFinds1_alt, u17]
        rfl
      refine Wp.aload_n (pc2 := 84) dX4_readFrom_83 rfl rfl ?_
      refine Wp.callV (pc2 := 87) kX4_readFrom_105 vX4_spillExcess (x_spill (mFinds1 (mR3 V 1) (mFinds0 (mR3 V 1) 1 (V 10 1)) 1 (V 10 1)) E hpre.1 hpre.2) dX4_readFrom_84 rfl rfl rfl rfl rfl (Nat.le_of_ble_eq_true rfl) ?_
      rintro _ _ ⟨rfl, rfl⟩
      refine Wp.goto (pc2 := 97) dX4_readFrom_87 (by decide) ?_
      refine Wp.heq (h' := hC (mR4 V 1) E) (by unfold mR4; rw [hok]; rfl) ?_
      change Wp _ _ _ _ _ (hC (mR5 V 1) E)
      refine Wp.fg [.ref 0, .int (nI 1), .ref 27, .null] (And.intro (Or.inr rfl) (And.intro (Or.inr rfl) (And.intro (Or.inr rfl) (And.intro (Or.inl rfl) trivial)))) ?_
      exact K97
  refine Wp.aload_n (pc2 := 1) dX4_readFrom_0 rfl rfl ?_
  refine Wp.getf (pc2 := 4) fX4_78 dX4_readFrom_1 rfl rfl rfl ?_
  refine Wp.icon (pc2 := 5) dX4_readFrom_4 rfl (-1) (by decide +kernel) ?_
  refine Wp.icmp_eq (pc2 := 8) 26 dX4_readFrom_5 rfl (by decide)  (fun c5 => ?_) (fun c5 => ?_)
  · exact K26 _ (by rw [if_neg (fun z => z.1 ((zo_m1 (by omega)).mp c5))])
  · refine Wp.aload_n (pc2 := 9) dX4_readFrom_8 rfl rfl ?_
    refine Wp.getf (pc2 := 12) fX4_78 dX4_readFrom_9 rfl rfl rfl ?_
    refine Wp.iload_n (pc2 := 13) dX4_readFrom_12 rfl rfl ?_
    refine Wp.icmp_eq (pc2 := 16) 26 dX4_readFrom_13 rfl (by decide)  (fun c13 => ?_) (fun c13 => ?_)
    · exact K26 _ (by rw [if_neg (fun z => z.2 ((zo_eq (by omega) (by omega)).mp c13))])
    · refine Wp.aload_n (pc2 := 17) dX4_readFrom_16 rfl rfl ?_
      refine Wp.dup (pc2 := 18) dX4_readFrom_17 rfl rfl ?_
      refine Wp.getf (pc2 := 21) fX4_81 dX4_readFrom_18 rfl rfl rfl ?_
      refine Wp.iconN (pc2 := 22) 1 dX4_readFrom_21 rfl ?_
      refine Wp.iaddN (pc2 := 23) dX4_readFrom_22 rfl  ?_
      change Wp _ _ _ _ (.int (nI (V 0 30 + 1)) :: _) _
      refine Wp.putf (pc2 := 26) gX4_81 dX4_readFrom_23 rfl rfl (Nat.le_of_ble_eq_true rfl) rfl rfl ?_
      refine Wp.heq (hC_o0_9 _ _ _) ?_
      exact K26 _ (by rw [if_pos ⟨zo_ne (by omega) c5, fun z => c13 ((zo_eq (by omega) (by omega)).mpr z)⟩])
theorem x_readFrom (t : Nat) (ht : t < 2) (V E : zS) (h : JV V) (hX : XO V E) (hr : V 10 t < V 1 t) : PM mX4_readFrom [.ref 0, .int (nI t)] (hC V E) (fun zr zq => zr = none ∧ ∃ E', zq = hC (mReads V t) E' ∧ XO (mReads V t) E' ∧ ∀ b, E' 0 b = E 0 b) := by
  rcases (show t = 0 ∨ t = 1 by omega) with rfl | rfl
  · exact x_readFrom_0 V E h hX hr
  · exact x_readFrom_1 V E h hX hr

