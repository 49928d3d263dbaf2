theorem cand_ab {V : zS} {a b : Nat} (hb : b < 50) : cand V (50 * a + b) ↔ V 20 (50 * a + b) = 0 ∧ a < V 1 0 ∧ b < V 1 1 ∧ 2 ≤ V 18 a ∧ 2 ≤ V 18 (50 + b) ∧ alike V a b := by
  unfold cand
  rw [show (50 * a + b) / 50 = a by omega, show (50 * a + b) % 50 = b by omega]
def bothR (V : zS) : Prop := V 10 0 = V 1 0 ∧ V 10 1 = V 1 1
/-- the late rows: at the first pair that is wanting, or at the beginning -/
def LI (V E : zS) : Prop := V 0 10 = 1 → (bothR V → E 0 0 < V 1 0 ∧ E 0 1 < V 1 1 ∧ cand V (50 * E 0 0 + E 0 1) ∧ ∀ q, q < 50 * E 0 0 + E 0 1 → ¬ cand V q) ∧ (¬ bothR V → E 0 0 = 0 ∧ E 0 1 = 0)
def XI (V E : zS) : Prop := XO V E ∧ E 0 2 = 2 * (V 0 26 - V 17 0 - V 17 1) ∧ LI V E
/-- what looking for late pairs needs of V -/
def lB (V : zS) : Prop := BV V ∧ V 1 0 ≤ 50 ∧ V 1 1 ≤ 50 ∧ V 8 0 < 3 ∧ V 8 1 < 3 ∧ (∀ e, e < 100 → V 18 e ≤ 3) ∧ ∀ p, p < 2500 → V 20 p ≤ 1
theorem lB_of {V : zS} (h : JV V) : lB V := by
  have a0 := h.2.1 0 (by decide)
  have a1 := h.2.1 1 (by decide)
  refine ⟨h.1, a0.1, a1.1, a0.2.2.2.2.1, a1.2.2.2.2.1, fun e he => ?_, fun p hp => (h.2.2.2.2.2.2.2.2.1 p hp).1⟩
  have := (h.2.2.2.2.2.2.2.1 (e / 50) (e % 50) (by omega) (by omega)).2
  rw [show 50 * (e / 50) + e % 50 = e by omega] at this
  exact this

set_option maxRecDepth 100000 in
set_option maxHeartbeats 4000000 in
theorem x_flr1_l (V E : zS) (b0 : Nat) (hL : lB V) (ha : E 0 0 < V 1 0) (hpa : 2 ≤ V 18 (E 0 0)) : ∀ (n b : Nat), b + n = V 1 1 → b0 ≤ b → (∀ x, b0 ≤ x → x < b → ¬ cand V (50 * E 0 0 + x)) → Wp mX4_findLateRow1 (fun zr zq => ∃ b1, b0 ≤ b1 ∧ b1 ≤ V 1 1 ∧ zq = hC V (vs E 0 1 b1) ∧ (∀ b, b0 ≤ b → b < b1 → ¬ cand V (50 * E 0 0 + b)) ∧ ((zr = some (.int (nI 1)) ∧ b1 < V 1 1 ∧ cand V (50 * E 0 0 + b1)) ∨ (zr = some (.int (nI 0)) ∧ b1 = V 1 1))) 0 [.ref 0] [] (hC V (vs E 0 1 b)) := by
  obtain ⟨hV, h10, h11, h80, h81, h18, h20⟩ := hL
  intro n
  induction n with
  | zero =>
    intro b hb hb0 h
    have e : b = V 1 1 := by omega
    subst e
    refine Wp.aload_n (pc2 := 1) dX4_findLateRow1_0 rfl rfl ?_
    refine Wp.getf (pc2 := 4) fX4_93 dX4_findLateRow1_1 rfl rfl rfl ?_
    change Wp _ _ _ _ (.int (nI (V 1 1)) :: _) _
    refine Wp.aload_n (pc2 := 5) dX4_findLateRow1_4 rfl rfl ?_
    refine Wp.getf (pc2 := 8) fX4_12 dX4_findLateRow1_5 rfl rfl rfl ?_
    refine Wp.iconN (pc2 := 9) 1 dX4_findLateRow1_8 rfl ?_
    refine Wp.aald (pc2 := 10) dX4_findLateRow1_9 rfl rfl (by decide) (by omega) (by decide) rfl ?_
    refine Wp.getf (pc2 := 13) fX4_138 dX4_findLateRow1_10 rfl rfl rfl ?_
    refine Wp.icmpN_ge (pc2 := 16) 86 dX4_findLateRow1_13 rfl (by decide) (by show V 1 1 < _; omega) (by omega) (fun c13 => ?_) (fun c13 => ?_)
    · refine Wp.iconN (pc2 := 87) 0 dX4_findLateRow1_86 rfl ?_
      refine Wp.ret dX4_findLateRow1_87 rfl (zb_nar false) ?_
      exact ⟨_, hb0, Nat.le_refl _, rfl, h, Or.inr ⟨rfl, rfl⟩⟩
    · exfalso; omega
  | succ n ih =>
    intro b hb hb0 h
    have hnext : ¬ cand V (50 * E 0 0 + b) → Wp mX4_findLateRow1 (fun zr zq => ∃ b1, b0 ≤ b1 ∧ b1 ≤ V 1 1 ∧ zq = hC V (vs E 0 1 b1) ∧ (∀ b, b0 ≤ b → b < b1 → ¬ cand V (50 * E 0 0 + b)) ∧ ((zr = some (.int (nI 1)) ∧ b1 < V 1 1 ∧ cand V (50 * E 0 0 + b1)) ∨ (zr = some (.int (nI 0)) ∧ b1 = V 1 1))) 73 [.ref 0] [] (hC V (vs E 0 1 b)) := by
      intro hc
      refine Wp.aload_n (pc2 := 74) dX4_findLateRow1_73 rfl rfl ?_
      refine Wp.dup (pc2 := 75) dX4_findLateRow1_74 rfl rfl ?_
      refine Wp.getf (pc2 := 78) fX4_93 dX4_findLateRow1_75 rfl rfl rfl ?_
      refine Wp.iconN (pc2 := 79) 1 dX4_findLateRow1_78 rfl ?_
      refine Wp.iaddN (pc2 := 80) dX4_findLateRow1_79 rfl  ?_
      change Wp _ _ _ _ (.int (nI (b + 1)) :: _) _
      refine Wp.putf (pc2 := 83) gX4_93 dX4_findLateRow1_80 rfl rfl (Nat.le_of_ble_eq_true rfl) rfl rfl ?_
      refine Wp.heq (hC_o0_13 _ _ _) ?_
      rw [vs_vs]
      refine Wp.goto (pc2 := 0) dX4_findLateRow1_83 (by decide) ?_
      refine ih (b + 1) (by omega) (by omega) (fun x h1 h2 => ?_)
      rcases Nat.lt_or_ge x b with q | q
      · exact h x h1 q
      · have : x = b := by omega
        rw [this]; exact hc
    refine Wp.aload_n (pc2 := 1) dX4_findLateRow1_0 rfl rfl ?_
    refine Wp.getf (pc2 := 4) fX4_93 dX4_findLateRow1_1 rfl rfl rfl ?_
    change Wp _ _ _ _ (.int (nI b) :: _) _
    refine Wp.aload_n (pc2 := 5) dX4_findLateRow1_4 rfl rfl ?_
    refine Wp.getf (pc2 := 8) fX4_12 dX4_findLateRow1_5 rfl rfl rfl ?_
    refine Wp.iconN (pc2 := 9) 1 dX4_findLateRow1_8 rfl ?_
    refine Wp.aald (pc2 := 10) dX4_findLateRow1_9 rfl rfl (by decide) (by omega) (by decide) rfl ?_
    refine Wp.getf (pc2 := 13) fX4_138 dX4_findLateRow1_10 rfl rfl rfl ?_
    refine Wp.icmpN_ge (pc2 := 16) 86 dX4_findLateRow1_13 rfl (by decide) (by omega) (by omega) (fun c13 => ?_) (fun c13 => ?_)
    · exfalso; omega
    · refine Wp.aload_n (pc2 := 17) dX4_findLateRow1_16 rfl rfl ?_
      refine Wp.getf (pc2 := 20) fX4_21 dX4_findLateRow1_17 rfl rfl rfl ?_
      refine Wp.iconN (pc2 := 21) 1 dX4_findLateRow1_20 rfl ?_
      refine Wp.aald (pc2 := 22) dX4_findLateRow1_21 rfl rfl (by decide) (by omega) (by decide) rfl ?_
      refine Wp.aload_n (pc2 := 23) dX4_findLateRow1_22 rfl rfl ?_
      refine Wp.getf (pc2 := 26) fX4_93 dX4_findLateRow1_23 rfl rfl rfl ?_
      change Wp _ _ _ _ (.int (nI b) :: _) _
      refine Wp.callV (pc2 := 29) kX4_findLateRow1_233 vX2_hasPassed (x_hasPassed_1 V (vs E 0 1 b) b (by omega) (h18 _ (by omega))) dX4_findLateRow1_26 rfl rfl rfl rfl rfl (Nat.le_of_ble_eq_true rfl) ?_
      rintro _ _ ⟨⟨c1, rfl, hc1⟩, rfl⟩
      refine Wp.ifN_eq (pc2 := 32) 73 dX4_findLateRow1_29 rfl (by decide) (zb_lt _) (fun c29 => ?_) (fun c29 => ?_)
      · exact hnext (fun z => zbn hc1 c29 ((cand_ab (by omega)).mp z).2.2.2.2.1)
      · refine Wp.aload_n (pc2 := 33) dX4_findLateRow1_32 rfl rfl ?_
        refine Wp.iconN (pc2 := 34) 0 dX4_findLateRow1_33 rfl ?_
        refine Wp.aload_n (pc2 := 35) dX4_findLateRow1_34 rfl rfl ?_
        refine Wp.getf (pc2 := 38) fX4_90 dX4_findLateRow1_35 rfl rfl rfl ?_
        change Wp _ _ _ _ (.int (nI (E 0 0)) :: _) _
        refine Wp.callV (pc2 := 41) kX4_findLateRow1_156 vX4_joinValue (x_joinValue_0 V (vs E 0 1 b) (E 0 0) (by omega) h80) dX4_findLateRow1_38 rfl rfl rfl rfl rfl (Nat.le_of_ble_eq_true rfl) ?_
        rintro _ _ ⟨rfl, rfl⟩
        refine Wp.aload_n (pc2 := 42) dX4_findLateRow1_41 rfl rfl ?_
        refine Wp.iconN (pc2 := 43) 1 dX4_findLateRow1_42 rfl ?_
        refine Wp.aload_n (pc2 := 44) dX4_findLateRow1_43 rfl rfl ?_
        refine Wp.getf (pc2 := 47) fX4_93 dX4_findLateRow1_44 rfl rfl rfl ?_
        change Wp _ _ _ _ (.int (nI b) :: _) _
        refine Wp.callV (pc2 := 50) kX4_findLateRow1_156 vX4_joinValue (x_joinValue_1 V (vs E 0 1 b) b (by omega) h81) dX4_findLateRow1_47 rfl rfl rfl rfl rfl (Nat.le_of_ble_eq_true rfl) ?_
        rintro _ _ ⟨rfl, rfl⟩
        refine Wp.icmpN_ne (pc2 := 53) 73 dX4_findLateRow1_50 rfl (by decide) (hV.l _ _) (hV.l _ _) (fun c50 => ?_) (fun c50 => ?_)
        · exact hnext (fun z => c50 ((cand_ab (by omega)).mp z).2.2.2.2.2)
        · refine Wp.aload_n (pc2 := 54) dX4_findLateRow1_53 rfl rfl ?_
          refine Wp.getf (pc2 := 57) fX4_39 dX4_findLateRow1_54 rfl rfl rfl ?_
          refine Wp.aload_n (pc2 := 58) dX4_findLateRow1_57 rfl rfl ?_
          refine Wp.getf (pc2 := 61) fX4_90 dX4_findLateRow1_58 rfl rfl rfl ?_
          refine Wp.aload_n (pc2 := 62) dX4_findLateRow1_61 rfl rfl ?_
          refine Wp.getf (pc2 := 65) fX4_93 dX4_findLateRow1_62 rfl rfl rfl ?_
          change Wp _ _ _ _ (.int (nI b) :: .int (nI (E 0 0)) :: _) _
          refine Wp.callV (pc2 := 68) kX4_findLateRow1_239 vX1_has (x_pHas V (vs E 0 1 b) (E 0 0) b (by omega) (h20 _ (by omega))) dX4_findLateRow1_65 rfl rfl rfl rfl rfl (Nat.le_of_ble_eq_true rfl) ?_
          rintro _ _ ⟨⟨c3, rfl, hc3⟩, rfl⟩
          refine Wp.ifN_ne (pc2 := 71) 73 dX4_findLateRow1_68 rfl (by decide) (zb_lt _) (fun c68 => ?_) (fun c68 => ?_)
          · exact hnext (fun z => zby hc3 c68 ((cand_ab (by omega)).mp z).1)
          · refine Wp.iconN (pc2 := 72) 1 dX4_findLateRow1_71 rfl ?_
            refine Wp.ret dX4_findLateRow1_72 rfl (zb_nar true) ?_
            have hz : V 20 (50 * E 0 0 + b) = 0 := by
              rcases Nat.eq_zero_or_pos (V 20 (50 * E 0 0 + b)) with q | q
              · exact q
              · exact absurd (by omega) (zbn hc3 c68)
            exact ⟨b, hb0, by omega, rfl, h, Or.inl ⟨rfl, by omega, (cand_ab (by omega)).mpr ⟨hz, ha, by omega, hpa, zby hc1 c29, c50⟩⟩⟩

theorem x_flr1 (V E : zS) (b0 : Nat) (hL : lB V) (ha : E 0 0 < V 1 0) (hpa : 2 ≤ V 18 (E 0 0)) (hb : b0 ≤ V 1 1) : PM mX4_findLateRow1 [.ref 0] (hC V (vs E 0 1 b0)) (fun zr zq => ∃ b1, b0 ≤ b1 ∧ b1 ≤ V 1 1 ∧ zq = hC V (vs E 0 1 b1) ∧ (∀ b, b0 ≤ b → b < b1 → ¬ cand V (50 * E 0 0 + b)) ∧ ((zr = some (.int (nI 1)) ∧ b1 < V 1 1 ∧ cand V (50 * E 0 0 + b1)) ∨ (zr = some (.int (nI 0)) ∧ b1 = V 1 1))) := by
  refine PM.of (by decide +kernel) (by simp [Value.category]) (Nat.le_of_ble_eq_true rfl) ?_
  exact x_flr1_l V E b0 hL ha hpa (V 1 1 - b0) b0 (by omega) (Nat.le_refl _) (fun x h1 h2 => by omega)

set_option maxRecDepth 100000 in
set_option maxHeartbeats 4000000 in
theorem x_flp_l (V E : zS) (hL : lB V) : ∀ (n a b : Nat), a + n = V 1 0 → b ≤ V 1 1 → (∀ q, q < 50 * a + b → ¬ cand V q) → Wp mX4_findLatePair (fun zr zq => ∃ a1 b1, a1 ≤ V 1 0 ∧ b1 ≤ V 1 1 ∧ zq = hC V (vs (vs E 0 0 a1) 0 1 b1) ∧ (∀ q, q < 50 * a1 + b1 → ¬ cand V q) ∧ ((zr = some (.int (nI 1)) ∧ a1 < V 1 0 ∧ b1 < V 1 1 ∧ cand V (50 * a1 + b1)) ∨ (zr = some (.int (nI 0)) ∧ ∀ q, q < 2500 → ¬ cand V q))) 0 [.ref 0] [] (hC V (vs (vs E 0 0 a) 0 1 b)) := by
  have hL' := hL
  obtain ⟨hV, h10, h11, h80, h81, h18, h20⟩ := hL
  intro n
  induction n with
  | zero =>
    intro a b ha hb h
    have e : a = V 1 0 := by omega
    subst e
    refine Wp.aload_n (pc2 := 1) dX4_findLatePair_0 rfl rfl ?_
    refine Wp.getf (pc2 := 4) fX4_90 dX4_findLatePair_1 rfl rfl rfl ?_
    change Wp _ _ _ _ (.int (nI (V 1 0)) :: _) _
    refine Wp.aload_n (pc2 := 5) dX4_findLatePair_4 rfl rfl ?_
    refine Wp.getf (pc2 := 8) fX4_12 dX4_findLatePair_5 rfl rfl rfl ?_
    refine Wp.iconN (pc2 := 9) 0 dX4_findLatePair_8 rfl ?_
    refine Wp.aald (pc2 := 10) dX4_findLatePair_9 rfl rfl (by decide) (by omega) (by decide) rfl ?_
    refine Wp.getf (pc2 := 13) fX4_138 dX4_findLatePair_10 rfl rfl rfl ?_
    refine Wp.icmpN_ge (pc2 := 16) 59 dX4_findLatePair_13 rfl (by decide) (by omega) (by omega) (fun c13 => ?_) (fun c13 => ?_)
    · refine Wp.iconN (pc2 := 60) 0 dX4_findLatePair_59 rfl ?_
      refine Wp.ret dX4_findLatePair_60 rfl (zb_nar false) ?_
      refine ⟨_, b, Nat.le_refl _, hb, rfl, h, Or.inr ⟨rfl, fun q hq hc => ?_⟩⟩
      rcases Nat.lt_or_ge q (50 * V 1 0 + b) with z | z
      · exact h q z hc
      · have := hc.2.1; omega
    · exfalso; omega
  | succ n ih =>
    intro a b ha hb h
    have hnext : ∀ b1, (∀ x, b ≤ x → x < 50 → ¬ cand V (50 * a + x)) → Wp mX4_findLatePair (fun zr zq => ∃ a1 b1, a1 ≤ V 1 0 ∧ b1 ≤ V 1 1 ∧ zq = hC V (vs (vs E 0 0 a1) 0 1 b1) ∧ (∀ q, q < 50 * a1 + b1 → ¬ cand V q) ∧ ((zr = some (.int (nI 1)) ∧ a1 < V 1 0 ∧ b1 < V 1 1 ∧ cand V (50 * a1 + b1)) ∨ (zr = some (.int (nI 0)) ∧ ∀ q, q < 2500 → ¬ cand V q))) 41 [.ref 0] [] (hC V (vs (vs E 0 0 a) 0 1 b1)) := by
      intro b1 hc
      refine Wp.aload_n (pc2 := 42) dX4_findLatePair_41 rfl rfl ?_
      refine Wp.dup (pc2 := 43) dX4_findLatePair_42 rfl rfl ?_
      refine Wp.getf (pc2 := 46) fX4_90 dX4_findLatePair_43 rfl rfl rfl ?_
      refine Wp.iconN (pc2 := 47) 1 dX4_findLatePair_46 rfl ?_
      refine Wp.iaddN (pc2 := 48) dX4_findLatePair_47 rfl  ?_
      change Wp _ _ _ _ (.int (nI (a + 1)) :: _) _
      refine Wp.putf (pc2 := 51) gX4_90 dX4_findLatePair_48 rfl rfl (Nat.le_of_ble_eq_true rfl) rfl rfl ?_
      refine Wp.heq (hC_o0_12 _ _ _) ?_
      rw [vs_comm (vs E 0 0 a) (k := 0) (i := 1) (x := b1) (k' := 0) (i' := 0) (y := a + 1) (Or.inr (by decide)), vs_vs]
      refine Wp.aload_n (pc2 := 52) dX4_findLatePair_51 rfl rfl ?_
      refine Wp.iconN (pc2 := 53) 0 dX4_findLatePair_52 rfl ?_
      refine Wp.putf (pc2 := 56) gX4_93 dX4_findLatePair_53 rfl rfl (Nat.le_of_ble_eq_true rfl) rfl rfl ?_
      refine Wp.heq (hC_o0_13 _ _ _) ?_
      rw [vs_vs]
      refine Wp.goto (pc2 := 0) dX4_findLatePair_56 (by decide) ?_
      refine ih (a + 1) 0 (by omega) (by omega) (fun q hq => ?_)
      rcases Nat.lt_or_ge q (50 * a + b) with z | z
      · exact h q z
      · have e : q = 50 * a + (q - 50 * a) := by omega
        rw [e]
        exact hc _ (by omega) (by omega)
    refine Wp.aload_n (pc2 := 1) dX4_findLatePair_0 rfl rfl ?_
    refine Wp.getf (pc2 := 4) fX4_90 dX4_findLatePair_1 rfl rfl rfl ?_
    change Wp _ _ _ _ (.int (nI a) :: _) _
    refine Wp.aload_n (pc2 := 5) dX4_findLatePair_4 rfl rfl ?_
    refine Wp.getf (pc2 := 8) fX4_12 dX4_findLatePair_5 rfl rfl rfl ?_
    refine Wp.iconN (pc2 := 9) 0 dX4_findLatePair_8 rfl ?_
    refine Wp.aald (pc2 := 10) dX4_findLatePair_9 rfl rfl (by decide) (by omega) (by decide) rfl ?_
    refine Wp.getf (pc2 := 13) fX4_138 dX4_findLatePair_10 rfl rfl rfl ?_
    refine Wp.icmpN_ge (pc2 := 16) 59 dX4_findLatePair_13 rfl (by decide) (by omega) (by omega) (fun c13 => ?_) (fun c13 => ?_)
    · exfalso; omega
    · refine Wp.aload_n (pc2 := 17) dX4_findLatePair_16 rfl rfl ?_
      refine Wp.getf (pc2 := 20) fX4_21 dX4_findLatePair_17 rfl rfl rfl ?_
      refine Wp.iconN (pc2 := 21) 0 dX4_findLatePair_20 rfl ?_
      refine Wp.aald (pc2 := 22) dX4_findLatePair_21 rfl rfl (by decide) (by omega) (by decide) rfl ?_
      refine Wp.aload_n (pc2 := 23) dX4_findLatePair_22 rfl rfl ?_
      refine Wp.getf (pc2 := 26) fX4_90 dX4_findLatePair_23 rfl rfl rfl ?_
      change Wp _ _ _ _ (.int (nI a) :: _) _
      refine Wp.callV (pc2 := 29) kX4_findLatePair_233 vX2_hasPassed (x_hasPassed_0 V (vs (vs E 0 0 a) 0 1 b) a (by omega) (h18 _ (by omega))) dX4_findLatePair_26 rfl rfl rfl rfl rfl (Nat.le_of_ble_eq_true rfl) ?_
      rintro _ _ ⟨⟨c1, rfl, hc1⟩, rfl⟩
      refine Wp.ifN_eq (pc2 := 32) 41 dX4_findLatePair_29 rfl (by decide) (zb_lt _) (fun c29 => ?_) (fun c29 => ?_)
      · refine hnext b (fun x h1 h2 hc => ?_)
        have := ((cand_ab h2).mp hc).2.2.2.1
        exact zbn hc1 c29 (by rw [show 50 * 0 + a = a by omega]; exact this)
      · refine Wp.aload_n (pc2 := 33) dX4_findLatePair_32 rfl rfl ?_
        refine Wp.callV (pc2 := 36) kX4_findLatePair_236 vX4_findLateRow1 (x_flr1 V (vs E 0 0 a) b hL' (show a < V 1 0 by omega) (by have := zby hc1 c29; rw [show 50 * 0 + a = a by omega] at this; exact this) hb) dX4_findLatePair_33 rfl rfl rfl rfl rfl (Nat.le_of_ble_eq_true rfl) ?_
        rintro _ _ ⟨b1, hb1, hb2, rfl, hno, hr⟩
        have hno : ∀ x, b ≤ x → x < b1 → ¬ cand V (50 * a + x) := hno
        rcases hr with ⟨rfl, hr1, hr2⟩ | ⟨rfl, hr1⟩
        rotate_left
        · refine Wp.ifN_eq (pc2 := 39) 41 dX4_findLatePair_36 rfl (by decide) (by decide) (fun _ => ?_) (fun c => absurd rfl c)
          refine hnext b1 (fun x h1 h2 hc => ?_)
          rcases Nat.lt_or_ge x b1 with z | z
          · exact hno x h1 z hc
          · have := ((cand_ab h2).mp hc).2.2.1; omega
        have hr2 : cand V (50 * a + b1) := hr2
        refine Wp.ifN_eq (pc2 := 39) 41 dX4_findLatePair_36 rfl (by decide) (by omega) (fun c36 => ?_) (fun c36 => ?_)
        · exact absurd c36 (by decide)
        · refine Wp.iconN (pc2 := 40) 1 dX4_findLatePair_39 rfl ?_
          refine Wp.ret dX4_findLatePair_40 rfl (zb_nar true) ?_
          refine ⟨a, b1, by omega, hb2, rfl, fun q hq => ?_, Or.inl ⟨rfl, by omega, hr1, hr2⟩⟩
          rcases Nat.lt_or_ge q (50 * a + b) with z | z
          · exact h q z
          · rw [show q = 50 * a + (q - 50 * a) by omega]
            exact hno _ (by omega) (by omega)

theorem x_flp (V E : zS) (hL : lB V) (ha : E 0 0 ≤ V 1 0) (hb : E 0 1 ≤ V 1 1) (h : ∀ q, q < 50 * E 0 0 + E 0 1 → ¬ cand V q) : PM mX4_findLatePair [.ref 0] (hC V E) (fun zr zq => ∃ a1 b1, a1 ≤ V 1 0 ∧ b1 ≤ V 1 1 ∧ zq = hC V (vs (vs E 0 0 a1) 0 1 b1) ∧ (∀ q, q < 50 * a1 + b1 → ¬ cand V q) ∧ ((zr = some (.int (nI 1)) ∧ a1 < V 1 0 ∧ b1 < V 1 1 ∧ cand V (50 * a1 + b1)) ∨ (zr = some (.int (nI 0)) ∧ ∀ q, q < 2500 → ¬ cand V q))) := by
  refine PM.of (by decide +kernel) (by simp [Value.category]) (Nat.le_of_ble_eq_true rfl) ?_
  have e : vs (vs E 0 0 (E 0 0)) 0 1 (E 0 1) = E := by
    funext x y
    simp only [vs]
    by_cases h1 : x = 0 <;> by_cases h2 : y = 0 <;> by_cases h3 : y = 1 <;> simp [h1, h2, h3]
  have k := x_flp_l V E hL (V 1 0 - E 0 0) (E 0 0) (E 0 1) (by omega) hb h
  rw [e] at k
  exact k

set_option maxRecDepth 100000 in
set_option maxHeartbeats 4000000 in
theorem x_both (V E : zS) (hV : BV V) (h0 : V 10 0 ≤ V 1 0) (h1 : V 10 1 ≤ V 1 1) : PM mX4_bothAreReadOut [.ref 0] (hC V E) (fun zr zq => zbo (bothR V) zr ∧ zq = hC V E) := by
  refine PM.of (by decide +kernel) (by simp [Value.category]) (Nat.le_of_ble_eq_true rfl) ?_
  refine Wp.aload_n (pc2 := 1) dX4_bothAreReadOut_0 rfl rfl ?_
  refine Wp.getf (pc2 := 4) fX4_21 dX4_bothAreReadOut_1 rfl rfl rfl ?_
  refine Wp.iconN (pc2 := 5) 0 dX4_bothAreReadOut_4 rfl ?_
  refine Wp.aald (pc2 := 6) dX4_bothAreReadOut_5 rfl rfl (by decide) (by omega) (by decide) rfl ?_
  refine Wp.callV (pc2 := 9) kX4_bothAreReadOut_191 vX2_isReadOut (x_isReadOut_0 V E hV) dX4_bothAreReadOut_6 rfl rfl rfl rfl rfl (Nat.le_of_ble_eq_true rfl) ?_
  rintro _ _ ⟨⟨b1, rfl, hb1⟩, rfl⟩
  refine Wp.ifN_eq (pc2 := 12) 28 dX4_bothAreReadOut_9 rfl (by decide) (zb_lt _) (fun c9 => ?_) (fun c9 => ?_)
  · refine Wp.iconN (pc2 := 29) 0 dX4_bothAreReadOut_28 rfl ?_
    refine Wp.ret dX4_bothAreReadOut_29 rfl (by first | exact zb_nar true | exact zb_nar false) ?_
    exact ⟨zbo_f (fun z => zbn hb1 c9 (by have := z.1; omega)), rfl⟩
  · refine Wp.aload_n (pc2 := 13) dX4_bothAreReadOut_12 rfl rfl ?_
    refine Wp.getf (pc2 := 16) fX4_21 dX4_bothAreReadOut_13 rfl rfl rfl ?_
    refine Wp.iconN (pc2 := 17) 1 dX4_bothAreReadOut_16 rfl ?_
    refine Wp.aald (pc2 := 18) dX4_bothAreReadOut_17 rfl rfl (by decide) (by omega) (by decide) rfl ?_
    refine Wp.callV (pc2 := 21) kX4_bothAreReadOut_191 vX2_isReadOut (x_isReadOut_1 V E hV) dX4_bothAreReadOut_18 rfl rfl rfl rfl rfl (Nat.le_of_ble_eq_true rfl) ?_
    rintro _ _ ⟨⟨b2, rfl, hb2⟩, rfl⟩
    refine Wp.ifN_eq (pc2 := 24) 28 dX4_bothAreReadOut_21 rfl (by decide) (zb_lt _) (fun c21 => ?_) (fun c21 => ?_)
    · refine Wp.iconN (pc2 := 29) 0 dX4_bothAreReadOut_28 rfl ?_
      refine Wp.ret dX4_bothAreReadOut_29 rfl (by first | exact zb_nar true | exact zb_nar false) ?_
      exact ⟨zbo_f (fun z => zbn hb2 c21 (by have := z.2; omega)), rfl⟩
    · refine Wp.iconN (pc2 := 25) 1 dX4_bothAreReadOut_24 rfl ?_
      refine Wp.goto (pc2 := 29) dX4_bothAreReadOut_25 (by decide) ?_
      refine Wp.ret dX4_bothAreReadOut_29 rfl (by first | exact zb_nar true | exact zb_nar false) ?_
      exact ⟨zbo_t ⟨by have := zby hb1 c9; omega, by have := zby hb2 c21; omega⟩, rfl⟩

theorem endP_iff {V : zS} : endP V ↔ bothR V ∧ ∀ q, q < 2500 → ¬ cand V q := by
  unfold endP bothR
  constructor
  · rintro ⟨a, b, c⟩; exact ⟨⟨a, b⟩, c⟩
  · rintro ⟨⟨a, b⟩, c⟩; exact ⟨a, b, c⟩

set_option maxRecDepth 100000 in
set_option maxHeartbeats 4000000 in
theorem x_ends (V E : zS) (hL : lB V) (hE : BL E) (h0 : V 10 0 ≤ V 1 0) (h1 : V 10 1 ≤ V 1 1) (ha : E 0 0 ≤ V 1 0) (hb : E 0 1 ≤ V 1 1) (h : ∀ q, q < 50 * E 0 0 + E 0 1 → ¬ cand V q) (hN : ¬ bothR V → E 0 0 = 0 ∧ E 0 1 = 0) : PM mX4_endIfNothingIsLeft [.ref 0] (hC V E) (fun zr zq => zr = none ∧ ∃ E', zq = hC (mEnds V) E' ∧ BL E' ∧ LI (mEnds V) E' ∧ ∀ a b, (a ≠ 0 ∨ 2 ≤ b) → E' a b = E a b) := by
  refine PM.of (by decide +kernel) (by simp [Value.category]) (Nat.le_of_ble_eq_true rfl) ?_
  refine Wp.aload_n (pc2 := 1) dX4_endIfNothingIsLeft_0 rfl rfl ?_
  refine Wp.callV (pc2 := 4) kX4_endIfNothingIsLeft_177 vX4_bothAreReadOut (x_both V E hL.1 h0 h1) dX4_endIfNothingIsLeft_1 rfl rfl rfl rfl rfl (Nat.le_of_ble_eq_true rfl) ?_
  rintro _ _ ⟨⟨b1, rfl, hb1⟩, rfl⟩
  refine Wp.ifN_eq (pc2 := 7) 19 dX4_endIfNothingIsLeft_4 rfl (by decide) (zb_lt _) (fun c4 => ?_) (fun c4 => ?_)
  · refine Wp.retv dX4_endIfNothingIsLeft_19 rfl ?_
    have hne : ¬ endP V := fun z => zbn hb1 c4 (endP_iff.mp z).1
    rw [mEnds_f hne]
    exact ⟨rfl, E, rfl, hE, fun _ => ⟨fun z => absurd z (zbn hb1 c4), fun z => hN z⟩, fun _ _ _ => rfl⟩
  · refine Wp.aload_n (pc2 := 8) dX4_endIfNothingIsLeft_7 rfl rfl ?_
    refine Wp.callV (pc2 := 11) kX4_endIfNothingIsLeft_230 vX4_findLatePair (x_flp V E hL ha hb h) dX4_endIfNothingIsLeft_8 rfl rfl rfl rfl rfl (Nat.le_of_ble_eq_true rfl) ?_
    rintro _ _ ⟨a1, b1', ha1, hb1', rfl, hno, hr⟩
    have hbo := zby hb1 c4
    have h11 := hL.2.2.1
    have h10 := hL.2.1
    have hBE : BL (vs (vs E 0 0 a1) 0 1 b1') := (hE.up (by omega)).up (by omega)
    have hEq : ∀ a b, (a ≠ 0 ∨ 2 ≤ b) → vs (vs E 0 0 a1) 0 1 b1' a b = E a b := by
      intro a b z
      simp only [vs]
      by_cases h1 : a = 0
      · rw [if_pos h1, if_neg (by omega), if_pos h1, if_neg (by omega)]
      · rw [if_neg h1, if_neg h1]
    rcases hr with ⟨rfl, hr1, hr2, hr3⟩ | ⟨rfl, hr1⟩
    · refine Wp.ifN_ne (pc2 := 14) 19 dX4_endIfNothingIsLeft_11 rfl (by decide) (by decide) (fun _ => ?_) (fun c => absurd c (by decide))
      refine Wp.retv dX4_endIfNothingIsLeft_19 rfl ?_
      have hne : ¬ endP V := fun z => z.2.2 (50 * a1 + b1') (by omega) hr3
      rw [mEnds_f hne]
      exact ⟨rfl, _, rfl, hBE, fun _ => ⟨fun _ => ⟨hr1, hr2, hr3, hno⟩, fun z => absurd hbo z⟩, hEq⟩
    refine Wp.ifN_ne (pc2 := 14) 19 dX4_endIfNothingIsLeft_11 rfl (by decide) (by decide) (fun c11 => ?_) (fun c11 => ?_)
    · refine Wp.retv dX4_endIfNothingIsLeft_19 rfl ?_
      exact absurd rfl c11
    · refine Wp.aload_n (pc2 := 15) dX4_endIfNothingIsLeft_14 rfl rfl ?_
      refine Wp.iconN (pc2 := 16) 2 dX4_endIfNothingIsLeft_15 rfl ?_
      refine Wp.putf (pc2 := 19) gX4_46 dX4_endIfNothingIsLeft_16 rfl rfl (Nat.le_of_ble_eq_true rfl) rfl rfl ?_
      refine Wp.heq (hC_o0_6 _ _ _) ?_
      refine Wp.retv dX4_endIfNothingIsLeft_19 rfl ?_
      rw [mEnds_t (endP_iff.mpr ⟨hbo, hr1⟩)]
      exact ⟨rfl, _, rfl, hBE, fun z => absurd z (by rw [vs_same]; decide), hEq⟩

set_option maxRecDepth 100000 in
set_option maxHeartbeats 4000000 in
theorem x_tableToRead (V E : zS) (h : JV V) : PM mX4_tableToRead [.ref 0] (hC V E) (fun zr zq => zr = some (.int (nI (mChoose V))) ∧ zq = hC V E) := by
  refine PM.of (by decide +kernel) (by simp [Value.category]) (Nat.le_of_ble_eq_true rfl) ?_
  have hss := JV_s h
  have a0 := h.2.1 0 (by decide)
  have a1 := h.2.1 1 (by decide)
  have s2 : V 0 9 ≤ 2 := h.2.2.2.2.2.2.2.2.2.1.2.1
  have k0 : V 16 0 = V 10 0 + V 15 0 + V 17 0 := a0.2.2.2.2.2.2.2
  have k1 : V 16 1 = V 10 1 + V 15 1 + V 17 1 := a1.2.2.2.2.2.2.2
  refine Wp.aload_n (pc2 := 1) dX4_tableToRead_0 rfl rfl ?_
  refine Wp.getf (pc2 := 4) fX4_21 dX4_tableToRead_1 rfl rfl rfl ?_
  refine Wp.iconN (pc2 := 5) 0 dX4_tableToRead_4 rfl ?_
  refine Wp.aald (pc2 := 6) dX4_tableToRead_5 rfl rfl (by decide) (by omega) (by decide) rfl ?_
  refine Wp.callV (pc2 := 9) kX4_tableToRead_191 vX2_isReadOut (x_isReadOut_0 V E h.1) dX4_tableToRead_6 rfl rfl rfl rfl rfl (Nat.le_of_ble_eq_true rfl) ?_
  rintro _ _ ⟨⟨b1, rfl, hb1⟩, rfl⟩
  refine Wp.ifN_eq (pc2 := 12) 14 dX4_tableToRead_9 rfl (by decide) (zb_lt _) (fun c9 => ?_) (fun c9 => ?_)
  · refine Wp.aload_n (pc2 := 15) dX4_tableToRead_14 rfl rfl ?_
    refine Wp.getf (pc2 := 18) fX4_21 dX4_tableToRead_15 rfl rfl rfl ?_
    refine Wp.iconN (pc2 := 19) 1 dX4_tableToRead_18 rfl ?_
    refine Wp.aald (pc2 := 20) dX4_tableToRead_19 rfl rfl (by decide) (by omega) (by decide) rfl ?_
    refine Wp.callV (pc2 := 23) kX4_tableToRead_191 vX2_isReadOut (x_isReadOut_1 V E h.1) dX4_tableToRead_20 rfl rfl rfl rfl rfl (Nat.le_of_ble_eq_true rfl) ?_
    rintro _ _ ⟨⟨b2, rfl, hb2⟩, rfl⟩
    refine Wp.ifN_eq (pc2 := 26) 28 dX4_tableToRead_23 rfl (by decide) (zb_lt _) (fun c23 => ?_) (fun c23 => ?_)
    · refine Wp.aload_n (pc2 := 29) dX4_tableToRead_28 rfl rfl ?_
      refine Wp.getf (pc2 := 32) fX4_50 dX4_tableToRead_29 rfl rfl rfl ?_
      refine Wp.icon (pc2 := 33) dX4_tableToRead_32 rfl (-1) (by decide +kernel) ?_
      refine Wp.icmp_eq (pc2 := 36) 41 dX4_tableToRead_33 rfl (by decide)  (fun c33 => ?_) (fun c33 => ?_)
      · refine Wp.aload_n (pc2 := 42) dX4_tableToRead_41 rfl rfl ?_
        refine Wp.getf (pc2 := 45) fX4_21 dX4_tableToRead_42 rfl rfl rfl ?_
        refine Wp.iconN (pc2 := 46) 1 dX4_tableToRead_45 rfl ?_
        refine Wp.aald (pc2 := 47) dX4_tableToRead_46 rfl rfl (by decide) (by omega) (by decide) rfl ?_
        refine Wp.aload_n (pc2 := 48) dX4_tableToRead_47 rfl rfl ?_
        refine Wp.getf (pc2 := 51) fX4_21 dX4_tableToRead_48 rfl rfl rfl ?_
        refine Wp.iconN (pc2 := 52) 0 dX4_tableToRead_51 rfl ?_
        refine Wp.aald (pc2 := 53) dX4_tableToRead_52 rfl rfl (by decide) (by omega) (by decide) rfl ?_
        refine Wp.callV (pc2 := 56) kX4_tableToRead_194 vX2_gainsMoreThan (x_gains V E hss.2.2.2.2.2.2.2.1 hss.2.2.2.2.2.2.2.2.1 (by omega) (by omega)) dX4_tableToRead_53 rfl rfl rfl rfl rfl (Nat.le_of_ble_eq_true rfl) ?_
        rintro _ _ ⟨⟨b3, rfl, hb3⟩, rfl⟩
        refine Wp.ifN_eq (pc2 := 59) 63 dX4_tableToRead_56 rfl (by decide) (zb_lt _) (fun c56 => ?_) (fun c56 => ?_)
        · refine Wp.iconN (pc2 := 64) 0 dX4_tableToRead_63 rfl ?_
          refine Wp.ret dX4_tableToRead_64 rfl rfl ?_
          unfold mChoose
          have q : ¬ V 0 9 ≠ 0 := fun z => z ((zo_m1 (by omega)).mp c33)
          rw [if_neg (by have := zbn hb1 c9; omega), if_neg (by have := zbn hb2 c23; omega), if_neg q, k0, k1]
          rw [if_neg (zbn hb3 c56)]
          exact ⟨rfl, rfl⟩
        · refine Wp.iconN (pc2 := 60) 1 dX4_tableToRead_59 rfl ?_
          refine Wp.goto (pc2 := 64) dX4_tableToRead_60 (by decide) ?_
          refine Wp.ret dX4_tableToRead_64 rfl rfl ?_
          unfold mChoose
          have q : ¬ V 0 9 ≠ 0 := fun z => z ((zo_m1 (by omega)).mp c33)
          rw [if_neg (by have := zbn hb1 c9; omega), if_neg (by have := zbn hb2 c23; omega), if_neg q, k0, k1]
          rw [if_pos (zby hb3 c56)]
          exact ⟨rfl, rfl⟩
      · refine Wp.aload_n (pc2 := 37) dX4_tableToRead_36 rfl rfl ?_
        refine Wp.getf (pc2 := 40) fX4_50 dX4_tableToRead_37 rfl rfl rfl ?_
        refine Wp.ret dX4_tableToRead_40 rfl rfl ?_
        unfold mChoose
        have q : V 0 9 ≠ 0 := zo_ne (by omega) c33
        rw [if_neg (by have := zbn hb1 c9; omega), if_neg (by have := zbn hb2 c23; omega), if_pos q]
        obtain ⟨f, hf2⟩ : ∃ f, V 0 9 = f + 1 := ⟨V 0 9 - 1, by omega⟩
        rw [hf2, zo_s]
        exact ⟨rfl, rfl⟩
    · refine Wp.iconN (pc2 := 27) 0 dX4_tableToRead_26 rfl ?_
      refine Wp.ret dX4_tableToRead_27 rfl rfl ?_
      unfold mChoose
      rw [if_neg (by have := zbn hb1 c9; omega), if_pos (by have := zby hb2 c23; omega)]
      exact ⟨rfl, rfl⟩
  · refine Wp.iconN (pc2 := 13) 1 dX4_tableToRead_12 rfl ?_
    refine Wp.ret dX4_tableToRead_13 rfl rfl ?_
    unfold mChoose
    rw [if_pos (by have := zby hb1 c9; omega)]
    exact ⟨rfl, rfl⟩

set_option maxRecDepth 100000 in
set_option maxHeartbeats 4000000 in
theorem x_late (V E : zS) (hp : 50 * E 0 0 + E 0 1 < 2500) (hg : V 0 26 < 2500) : PM mX4_giveLatePair [.ref 0] (hC V E) (fun zr zq => zr = none ∧ zq = hC (mGive V (E 0 0) (E 0 1)) (vs E 0 2 (E 0 2 + 2))) := by
  refine PM.of (by decide +kernel) (by simp [Value.category]) (Nat.le_of_ble_eq_true rfl) ?_
  refine Wp.aload_n (pc2 := 1) dX4_giveLatePair_0 rfl rfl ?_
  refine Wp.getf (pc2 := 4) fX4_39 dX4_giveLatePair_1 rfl rfl rfl ?_
  refine Wp.aload_n (pc2 := 5) dX4_giveLatePair_4 rfl rfl ?_
  refine Wp.getf (pc2 := 8) fX4_90 dX4_giveLatePair_5 rfl rfl rfl ?_
  refine Wp.aload_n (pc2 := 9) dX4_giveLatePair_8 rfl rfl ?_
  refine Wp.getf (pc2 := 12) fX4_93 dX4_giveLatePair_9 rfl rfl rfl ?_
  refine Wp.callV (pc2 := 15) kX4_giveLatePair_224 vX1_give (x_pGive V E (E 0 0) (E 0 1) hp hg) dX4_giveLatePair_12 rfl rfl rfl rfl rfl (Nat.le_of_ble_eq_true rfl) ?_
  rintro _ _ ⟨rfl, rfl⟩
  refine Wp.aload_n (pc2 := 16) dX4_giveLatePair_15 rfl rfl ?_
  refine Wp.dup (pc2 := 17) dX4_giveLatePair_16 rfl rfl ?_
  refine Wp.getf (pc2 := 20) fX4_87 dX4_giveLatePair_17 rfl rfl rfl ?_
  refine Wp.iconN (pc2 := 21) 2 dX4_giveLatePair_20 rfl ?_
  refine Wp.iaddN (pc2 := 22) dX4_giveLatePair_21 rfl  ?_
  refine Wp.putf (pc2 := 25) gX4_87 dX4_giveLatePair_22 rfl rfl (Nat.le_of_ble_eq_true rfl) rfl rfl ?_
  refine Wp.heq (hC_o0_11 _ _ _) ?_
  refine Wp.retv dX4_giveLatePair_25 rfl ?_
  exact ⟨rfl, rfl⟩

