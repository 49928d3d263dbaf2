theorem vs_comm (V : zS) {k i x k' i' y : Nat} (h : k ≠ k' ∨ i ≠ i') : vs (vs V k i x) k' i' y = vs (vs V k' i' y) k i x := by
  funext a b
  simp only [vs]
  repeat' split
  all_goals first | rfl | (exfalso; omega)
theorem mSpill1_28 (V : zS) : mSpill1 V 0 28 = V 0 28 + 1 := by simp [mSpill1, vs]
theorem vs_vs (V : zS) (k i x y : Nat) : vs (vs V k i x) k i y = vs V k i y := by
  funext a b
  simp only [vs]
  by_cases h1 : a = k <;> by_cases h3 : b = i <;> simp [h1, h3]
theorem mGive_vs {V : zS} {k i x a b : Nat} (h : k ≠ 0 ∧ k ≠ 20 ∧ k ≠ 21) : mGive (vs V k i x) a b = vs (mGive V a b) k i x := by
  have e : vs V k i x 0 26 = V 0 26 := vs_k V (Ne.symm h.1)
  unfold mGive
  rw [e, vs_comm V (Or.inl h.2.1), vs_comm _ (Or.inl h.2.2), vs_comm _ (Or.inl h.1)]
theorem alikeB_vs {V : zS} {k i x a b : Nat} (h : k ≠ 2 ∧ k ≠ 8) : alikeB (vs V k i x) a b = alikeB V a b := by
  unfold alikeB
  rw [vs_k V (Ne.symm h.2), vs_k V (Ne.symm h.2), vs_k V (Ne.symm h.1), vs_k V (Ne.symm h.1)]
theorem fnd_vs {t r k i x : Nat} (h : k ≠ 0 ∧ k ≠ 20 ∧ k ≠ 21 ∧ k ≠ 2 ∧ k ≠ 8 ∧ k ≠ 22) : ∀ (n c : Nat) (V : zS), fnd t r n c (vs V k i x) = vs (fnd t r n c V) k i x
  | 0, _, _ => rfl
  | n + 1, c, V => by
    have e22 : vs V k i x 22 c = V 22 c := vs_k V (Ne.symm h.2.2.2.2.2)
    unfold fnd
    rw [e22, alikeB_vs ⟨h.2.2.2.1, h.2.2.2.2.1⟩]
    split
    · rw [mGive_vs ⟨h.1, h.2.1, h.2.2.1⟩, fnd_vs h n (c + 1)]
    · rw [fnd_vs h n (c + 1)]
theorem fnd_s (t r n i : Nat) (V : zS) : fnd t r (n + 1) i V = (if fnd t r n i V 22 (i + n) / 50 = 1 - t ∧ alikeB (fnd t r n i V) (fa t r (fnd t r n i V 22 (i + n) % 50)) (fb t r (fnd t r n i V 22 (i + n) % 50)) = true then mGive (fnd t r n i V) (fa t r (fnd t r n i V 22 (i + n) % 50)) (fb t r (fnd t r n i V 22 (i + n) % 50)) else fnd t r n i V) := by
  rw [fnd_add]
  rfl

set_option maxRecDepth 100000 in
set_option maxHeartbeats 4000000 in
theorem x_give_l_0 (V0 E : zS) (r : Nat) (hr : r < 50) (hj0 : V0 8 0 < 3) (hj1 : V0 8 1 < 3) (h17 : V0 17 0 ≤ 2500) (hq0 : QI V0) :
    ∀ (n cur : Nat) (F : zS), cur + n = V0 0 23 → V0 0 28 ≤ cur → F = fnd 0 r (cur - V0 0 28) (V0 0 28) V0 → BV V0 → BV F → GI F → FI F 0 r cur → V0 0 26 ≤ F 0 26 →
    Wp mX4_givePairsOf (fun zr zq => zr = none ∧ zq = hC (vs (mFinds0 V0 0 r) 17 0 (V0 17 0 + (mFinds0 V0 0 r 0 26 - V0 0 26))) E) 21 [.ref 0, .int (nI 0), .int (nI r), .int (nI 1), .int (nI (V0 2 (3 * (50 * 0 + r) + V0 8 0))), .int (nI cur), .null] [] (hC (vs F 17 0 (V0 17 0 + (F 0 26 - V0 0 26))) E) := by
  intro n
  induction n with
  | zero =>
    intro cur F hn hs hF hV0 hV hg hFI hge
    have e : cur = V0 0 23 := by omega
    have eF : mFinds0 V0 0 r = F := by unfold mFinds0; rw [hF, e]
    have u23 : F 0 23 = V0 0 23 := by rw [hF]; exact fnd_o (by unfold gfree; omega) _ _ _
    have h100 := hq0.2.1
    rw [eF]
    refine Wp.iload (pc2 := 23) dX4_givePairsOf_21 rfl rfl ?_
    refine Wp.aload_n (pc2 := 24) dX4_givePairsOf_23 rfl rfl ?_
    refine Wp.getf (pc2 := 27) fX4_32 dX4_givePairsOf_24 rfl rfl rfl ?_
    refine Wp.getf (pc2 := 30) fX4_214 dX4_givePairsOf_27 rfl rfl rfl ?_
    refine Wp.icmpN_ge (pc2 := 33) 117 dX4_givePairsOf_30 rfl (by decide) (by omega) (by show F 0 23 < _; omega) (fun c30 => ?_) (fun c30 => ?_)
    · refine Wp.retv dX4_givePairsOf_117 rfl ?_
      exact ⟨rfl, rfl⟩
    · have c30 : cur < F 0 23 := c30
      exfalso; omega
  | succ n ih =>
    intro cur F hn hs hF hV0 hV hg hFI hge
    have u : ∀ k j, gfree k j → F k j = V0 k j := fun k j z => by rw [hF]; exact fnd_o z _ _ _
    have u23 : F 0 23 = V0 0 23 := u 0 23 (by unfold gfree; omega)
    have u22 : ∀ j, F 22 j = V0 22 j := fun j => u 22 j (by unfold gfree; omega)
    have u2 : ∀ j, F 2 j = V0 2 j := fun j => u 2 j (by unfold gfree; omega)
    have u80 : F 8 0 = V0 8 0 := u 8 0 (by unfold gfree; omega)
    have u81 : F 8 1 = V0 8 1 := u 8 1 (by unfold gfree; omega)
    have u28 : F 0 28 = V0 0 28 := u 0 28 (by unfold gfree; omega)
    have u18 : ∀ j, F 18 j = V0 18 j := fun j => u 18 j (by unfold gfree; omega)
    have u19 : ∀ j, F 19 j = V0 19 j := fun j => u 19 j (by unfold gfree; omega)
    have hqF : QI F := by
      unfold QI
      simp only [u23, u28, u18, u19, u22]
      exact hq0
    have h100 := hq0.2.1
    have hqc := (hq0.2.2.1 cur (by omega)).1
    have g26 := GI_le hg
    have hVX : BV (vs F 17 0 (V0 17 0 + (F 0 26 - V0 0 26))) := hV.up (by omega)
    have x22 : vs F 17 0 (V0 17 0 + (F 0 26 - V0 0 26)) 22 cur = V0 22 cur := by rw [vs_k _ (by decide), u22]
    have x2 : ∀ j, vs F 17 0 (V0 17 0 + (F 0 26 - V0 0 26)) 2 j = V0 2 j := fun j => by rw [vs_k _ (by decide), u2]
    have x8 : ∀ j, j < 2 → vs F 17 0 (V0 17 0 + (F 0 26 - V0 0 26)) 8 j = V0 8 j := fun j hj => by
      rw [vs_k _ (by decide)]
      rcases (show j = 0 ∨ j = 1 by omega) with rfl | rfl
      · exact u80
      · exact u81
    have hN : fnd 0 r (cur + 1 - V0 0 28) (V0 0 28) V0 = (if V0 22 cur / 50 = 1 - 0 ∧ alikeB F (r) (V0 22 cur % 50) = true then mGive F (r) (V0 22 cur % 50) else F) := by
      rw [show cur + 1 - V0 0 28 = (cur - V0 0 28) + 1 by omega, fnd_s, ← hF, show V0 0 28 + (cur - V0 0 28) = cur by omega, u22]
      rfl
    have skip : ¬ (V0 22 cur / 50 = 1 - 0 ∧ alikeB F (r) (V0 22 cur % 50) = true) → Wp mX4_givePairsOf (fun zr zq => zr = none ∧ zq = hC (vs (mFinds0 V0 0 r) 17 0 (V0 17 0 + (mFinds0 V0 0 r 0 26 - V0 0 26))) E) 21 [.ref 0, .int (nI 0), .int (nI r), .int (nI 1), .int (nI (V0 2 (3 * (50 * 0 + r) + V0 8 0))), .int (nI (cur + 1)), .null] [] (hC (vs F 17 0 (V0 17 0 + (F 0 26 - V0 0 26))) E) := by
      intro z
      exact ih (cur + 1) F (by omega) (by omega) (by rw [hN, if_neg z]) hV0 hV hg (FI_mono hFI (by omega)) hge
    refine Wp.iload (pc2 := 23) dX4_givePairsOf_21 rfl rfl ?_
    refine Wp.aload_n (pc2 := 24) dX4_givePairsOf_23 rfl rfl ?_
    refine Wp.getf (pc2 := 27) fX4_32 dX4_givePairsOf_24 rfl rfl rfl ?_
    refine Wp.getf (pc2 := 30) fX4_214 dX4_givePairsOf_27 rfl rfl rfl ?_
    refine Wp.icmpN_ge (pc2 := 33) 117 dX4_givePairsOf_30 rfl (by decide) (by omega) (by show F 0 23 < _; omega) (fun c30 => ?_) (fun c30 => ?_)
    · have c30 : F 0 23 ≤ cur := c30
      exfalso; omega
    · refine Wp.aload_n (pc2 := 34) dX4_givePairsOf_33 rfl rfl ?_
      refine Wp.getf (pc2 := 37) fX4_32 dX4_givePairsOf_34 rfl rfl rfl ?_
      refine Wp.iload (pc2 := 39) dX4_givePairsOf_37 rfl rfl ?_
      refine Wp.callV (pc2 := 42) kX4_givePairsOf_217 vX0_rowAt (x_mRowAt _ E cur hVX (by omega)) dX4_givePairsOf_39 rfl rfl rfl rfl rfl (Nat.le_of_ble_eq_true rfl) ?_
      rintro _ _ ⟨rfl, rfl⟩
      rw [x22]
      refine Wp.istore (pc2 := 44) dX4_givePairsOf_42 rfl (by decide) rfl ?_
      refine Wp.aload_n (pc2 := 45) dX4_givePairsOf_44 rfl rfl ?_
      refine Wp.getf (pc2 := 48) fX4_32 dX4_givePairsOf_45 rfl rfl rfl ?_
      refine Wp.iload (pc2 := 50) dX4_givePairsOf_48 rfl rfl ?_
      refine Wp.callV (pc2 := 53) kX4_givePairsOf_221 vX0_tableAt (x_mTableAt _ E cur hVX (by omega)) dX4_givePairsOf_50 rfl rfl rfl rfl rfl (Nat.le_of_ble_eq_true rfl) ?_
      rintro _ _ ⟨rfl, rfl⟩
      rw [x22]
      refine Wp.iload_n (pc2 := 54) dX4_givePairsOf_53 rfl rfl ?_
      refine Wp.icmpN_ne (pc2 := 57) 111 dX4_givePairsOf_54 rfl (by decide) (by omega) (by omega) (fun c54 => ?_) (fun c54 => ?_)
      · refine Wp.iincN (pc2 := 114) dX4_givePairsOf_111 rfl rfl (by decide) rfl ?_
        refine Wp.goto (pc2 := 21) dX4_givePairsOf_114 (by decide) ?_
        refine Wp.fg [.ref 0, .int (nI 0), .int (nI r), .int (nI 1), .int (nI (V0 2 (3 * (50 * 0 + r) + V0 8 0))), .int (nI (cur + 1)), .null] (And.intro (Or.inr rfl) (And.intro (Or.inr rfl) (And.intro (Or.inr rfl) (And.intro (Or.inr rfl) (And.intro (Or.inr rfl) (And.intro (Or.inr rfl) (And.intro (Or.inl rfl) trivial))))))) ?_
        exact skip (fun z => c54 z.1)
      · refine Wp.aload_n (pc2 := 58) dX4_givePairsOf_57 rfl rfl ?_
        refine Wp.iload_n (pc2 := 59) dX4_givePairsOf_58 rfl rfl ?_
        refine Wp.iload (pc2 := 61) dX4_givePairsOf_59 rfl rfl ?_
        refine Wp.callV (pc2 := 64) kX4_givePairsOf_156 vX4_joinValue (x_joinValue_1 _ E (V0 22 cur % 50) (by omega) (by rw [x8 1 (by decide)]; omega)) dX4_givePairsOf_61 rfl rfl rfl rfl rfl (Nat.le_of_ble_eq_true rfl) ?_
        rintro _ _ ⟨rfl, rfl⟩
        rw [x2, x8 1 (by decide)]
        refine Wp.iload (pc2 := 66) dX4_givePairsOf_64 rfl rfl ?_
        refine Wp.icmpN_ne (pc2 := 69) 111 dX4_givePairsOf_66 rfl (by decide) (hV0.l _ _) (hV0.l _ _) (fun c66 => ?_) (fun c66 => ?_)
        · refine Wp.iincN (pc2 := 114) dX4_givePairsOf_111 rfl rfl (by decide) rfl ?_
          refine Wp.goto (pc2 := 21) dX4_givePairsOf_114 (by decide) ?_
          refine Wp.fg [.ref 0, .int (nI 0), .int (nI r), .int (nI 1), .int (nI (V0 2 (3 * (50 * 0 + r) + V0 8 0))), .int (nI (cur + 1)), .null] (And.intro (Or.inr rfl) (And.intro (Or.inr rfl) (And.intro (Or.inr rfl) (And.intro (Or.inr rfl) (And.intro (Or.inr rfl) (And.intro (Or.inr rfl) (And.intro (Or.inl rfl) trivial))))))) ?_
          exact skip (fun z => by
            have w := z.2
            unfold alikeB at w
            rw [u80, u81, u2, u2] at w
            exact c66 (of_decide_eq_true w).symm)
        · have hal : alikeB F (r) (V0 22 cur % 50) = true := by
            unfold alikeB
            rw [u80, u81, u2, u2]
            exact decide_eq_true c66.symm
          have hz : F 20 (50 * (r) + (V0 22 cur % 50)) = 0 := by
            have := hFI cur (Nat.le_refl _) (by omega) (by rw [u22]; exact c54)
            rw [u22] at this; exact this
          have hlt := GI_lt hg (show 50 * (r) + (V0 22 cur % 50) < 2500 by omega) hz
          refine Wp.aload_n (pc2 := 70) dX4_givePairsOf_69 rfl rfl ?_
          refine Wp.getf (pc2 := 73) fX4_39 dX4_givePairsOf_70 rfl rfl rfl ?_
          refine Wp.iload_n (pc2 := 74) dX4_givePairsOf_73 rfl rfl ?_
          refine Wp.ifN_ne (pc2 := 77) 81 dX4_givePairsOf_74 rfl (by decide) (by decide) (fun c => absurd rfl c) (fun _ => ?_)
          refine Wp.iload_n (pc2 := 78) dX4_givePairsOf_77 rfl rfl ?_
          refine Wp.goto (pc2 := 83) dX4_givePairsOf_78 (by decide) ?_
          refine Wp.iload_n (pc2 := 84) dX4_givePairsOf_83 rfl rfl ?_
          refine Wp.ifN_ne (pc2 := 87) 92 dX4_givePairsOf_84 rfl (by decide) (by decide) (fun c => absurd rfl c) (fun _ => ?_)
          refine Wp.iload (pc2 := 89) dX4_givePairsOf_87 rfl rfl ?_
          refine Wp.goto (pc2 := 93) dX4_givePairsOf_89 (by decide) ?_
          refine Wp.callV (pc2 := 96) kX4_givePairsOf_224 vX1_give (x_pGive _ E (r) (V0 22 cur % 50) (by omega) hlt) dX4_givePairsOf_93 rfl rfl rfl rfl rfl (Nat.le_of_ble_eq_true rfl) ?_
          rintro _ _ ⟨rfl, rfl⟩
          rw [mGive_vs (by decide)]
          refine Wp.aload_n (pc2 := 97) dX4_givePairsOf_96 rfl rfl ?_
          refine Wp.getf (pc2 := 100) fX4_21 dX4_givePairsOf_97 rfl rfl rfl ?_
          refine Wp.iload_n (pc2 := 101) dX4_givePairsOf_100 rfl rfl ?_
          refine Wp.aald (pc2 := 102) dX4_givePairsOf_101 rfl rfl (by decide) (by omega) (by decide) rfl ?_
          refine Wp.dup (pc2 := 103) dX4_givePairsOf_102 rfl rfl ?_
          refine Wp.getf (pc2 := 106) fX4_227 dX4_givePairsOf_103 rfl rfl rfl ?_
          refine Wp.iconN (pc2 := 107) 1 dX4_givePairsOf_106 rfl ?_
          refine Wp.iaddN (pc2 := 108) dX4_givePairsOf_107 rfl  ?_
          rw [vs_same]
          refine Wp.putf (pc2 := 111) gX4_227 dX4_givePairsOf_108 rfl rfl (Nat.le_of_ble_eq_true rfl) rfl rfl ?_
          refine Wp.heq (hC_o19_12 _ _ _) ?_
          rw [vs_vs]
          have e26 : mGive F (r) (V0 22 cur % 50) 0 26 = F 0 26 + 1 := by simp [mGive, vs]
          rw [show V0 17 0 + (F 0 26 - V0 0 26) + 1 = V0 17 0 + (mGive F (r) (V0 22 cur % 50) 0 26 - V0 0 26) by omega]
          refine Wp.iincN (pc2 := 114) dX4_givePairsOf_111 rfl rfl (by decide) rfl ?_
          refine Wp.goto (pc2 := 21) dX4_givePairsOf_114 (by decide) ?_
          refine Wp.fg [.ref 0, .int (nI 0), .int (nI r), .int (nI 1), .int (nI (V0 2 (3 * (50 * 0 + r) + V0 8 0))), .int (nI (cur + 1)), .null] (And.intro (Or.inr rfl) (And.intro (Or.inr rfl) (And.intro (Or.inr rfl) (And.intro (Or.inr rfl) (And.intro (Or.inr rfl) (And.intro (Or.inr rfl) (And.intro (Or.inl rfl) trivial))))))) ?_
          have hF2 := FI_give (t := 0) (r := r) (i := cur) (show QI F from hqF) (by decide) hr (by omega) (by rw [u22]; exact c54) hFI
          rw [u22] at hF2
          exact ih (cur + 1) _ (by omega) (by omega) (by rw [hN, if_pos ⟨c54, hal⟩]) hV0 (BV_give hV (by omega) hlt) (GI_give hg (by omega) hz) hF2 (by omega)

set_option maxRecDepth 100000 in
set_option maxHeartbeats 4000000 in
theorem x_give_l_1 (V0 E : zS) (r : Nat) (hr : r < 50) (hj0 : V0 8 0 < 3) (hj1 : V0 8 1 < 3) (h17 : V0 17 1 ≤ 2500) (hq0 : QI V0) :
    ∀ (n cur : Nat) (F : zS), cur + n = V0 0 23 → V0 0 28 ≤ cur → F = fnd 1 r (cur - V0 0 28) (V0 0 28) V0 → BV V0 → BV F → GI F → FI F 1 r cur → V0 0 26 ≤ F 0 26 →
    Wp mX4_givePairsOf (fun zr zq => zr = none ∧ zq = hC (vs (mFinds0 V0 1 r) 17 1 (V0 17 1 + (mFinds0 V0 1 r 0 26 - V0 0 26))) E) 21 [.ref 0, .int (nI 1), .int (nI r), .int (nI 0), .int (nI (V0 2 (3 * (50 * 1 + r) + V0 8 1))), .int (nI cur), .null] [] (hC (vs F 17 1 (V0 17 1 + (F 0 26 - V0 0 26))) E) := by
  intro n
  induction n with
  | zero =>
    intro cur F hn hs hF hV0 hV hg hFI hge
    have e : cur = V0 0 23 := by omega
    have eF : mFinds0 V0 1 r = F := by unfold mFinds0; rw [hF, e]
    have u23 : F 0 23 = V0 0 23 := by rw [hF]; exact fnd_o (by unfold gfree; omega) _ _ _
    have h100 := hq0.2.1
    rw [eF]
    refine Wp.iload (pc2 := 23) dX4_givePairsOf_21 rfl rfl ?_
    refine Wp.aload_n (pc2 := 24) dX4_givePairsOf_23 rfl rfl ?_
    refine Wp.getf (pc2 := 27) fX4_32 dX4_givePairsOf_24 rfl rfl rfl ?_
    refine Wp.getf (pc2 := 30) fX4_214 dX4_givePairsOf_27 rfl rfl rfl ?_
    refine Wp.icmpN_ge (pc2 := 33) 117 dX4_givePairsOf_30 rfl (by decide) (by omega) (by show F 0 23 < _; omega) (fun c30 => ?_) (fun c30 => ?_)
    · refine Wp.retv dX4_givePairsOf_117 rfl ?_
      exact ⟨rfl, rfl⟩
    · have c30 : cur < F 0 23 := c30
      exfalso; omega
  | succ n ih =>
    intro cur F hn hs hF hV0 hV hg hFI hge
    have u : ∀ k j, gfree k j → F k j = V0 k j := fun k j z => by rw [hF]; exact fnd_o z _ _ _
    have u23 : F 0 23 = V0 0 23 := u 0 23 (by unfold gfree; omega)
    have u22 : ∀ j, F 22 j = V0 22 j := fun j => u 22 j (by unfold gfree; omega)
    have u2 : ∀ j, F 2 j = V0 2 j := fun j => u 2 j (by unfold gfree; omega)
    have u80 : F 8 0 = V0 8 0 := u 8 0 (by unfold gfree; omega)
    have u81 : F 8 1 = V0 8 1 := u 8 1 (by unfold gfree; omega)
    have u28 : F 0 28 = V0 0 28 := u 0 28 (by unfold gfree; omega)
    have u18 : ∀ j, F 18 j = V0 18 j := fun j => u 18 j (by unfold gfree; omega)
    have u19 : ∀ j, F 19 j = V0 19 j := fun j => u 19 j (by unfold gfree; omega)
    have hqF : QI F := by
      unfold QI
      simp only [u23, u28, u18, u19, u22]
      exact hq0
    have h100 := hq0.2.1
    have hqc := (hq0.2.2.1 cur (by omega)).1
    have g26 := GI_le hg
    have hVX : BV (vs F 17 1 (V0 17 1 + (F 0 26 - V0 0 26))) := hV.up (by omega)
    have x22 : vs F 17 1 (V0 17 1 + (F 0 26 - V0 0 26)) 22 cur = V0 22 cur := by rw [vs_k _ (by decide), u22]
    have x2 : ∀ j, vs F 17 1 (V0 17 1 + (F 0 26 - V0 0 26)) 2 j = V0 2 j := fun j => by rw [vs_k _ (by decide), u2]
    have x8 : ∀ j, j < 2 → vs F 17 1 (V0 17 1 + (F 0 26 - V0 0 26)) 8 j = V0 8 j := fun j hj => by
      rw [vs_k _ (by decide)]
      rcases (show j = 0 ∨ j = 1 by omega) with rfl | rfl
      · exact u80
      · exact u81
    have hN : fnd 1 r (cur + 1 - V0 0 28) (V0 0 28) V0 = (if V0 22 cur / 50 = 1 - 1 ∧ alikeB F (V0 22 cur % 50) (r) = true then mGive F (V0 22 cur % 50) (r) else F) := by
      rw [show cur + 1 - V0 0 28 = (cur - V0 0 28) + 1 by omega, fnd_s, ← hF, show V0 0 28 + (cur - V0 0 28) = cur by omega, u22]
      rfl
    have skip : ¬ (V0 22 cur / 50 = 1 - 1 ∧ alikeB F (V0 22 cur % 50) (r) = true) → Wp mX4_givePairsOf (fun zr zq => zr = none ∧ zq = hC (vs (mFinds0 V0 1 r) 17 1 (V0 17 1 + (mFinds0 V0 1 r 0 26 - V0 0 26))) E) 21 [.ref 0, .int (nI 1), .int (nI r), .int (nI 0), .int (nI (V0 2 (3 * (50 * 1 + r) + V0 8 1))), .int (nI (cur + 1)), .null] [] (hC (vs F 17 1 (V0 17 1 + (F 0 26 - V0 0 26))) E) := by
      intro z
      exact ih (cur + 1) F (by omega) (by omega) (by rw [hN, if_neg z]) hV0 hV hg (FI_mono hFI (by omega)) hge
    refine Wp.iload (pc2 := 23) dX4_givePairsOf_21 rfl rfl ?_
    refine Wp.aload_n (pc2 := 24) dX4_givePairsOf_23 rfl rfl ?_
    refine Wp.getf (pc2 := 27) fX4_32 dX4_givePairsOf_24 rfl rfl rfl ?_
    refine Wp.getf (pc2 := 30) fX4_214 dX4_givePairsOf_27 rfl rfl rfl ?_
    refine Wp.icmpN_ge (pc2 := 33) 117 dX4_givePairsOf_30 rfl (by decide) (by omega) (by show F 0 23 < _; omega) (fun c30 => ?_) (fun c30 => ?_)
    · have c30 : F 0 23 ≤ cur := c30
      exfalso; omega
    · refine Wp.aload_n (pc2 := 34) dX4_givePairsOf_33 rfl rfl ?_
      refine Wp.getf (pc2 := 37) fX4_32 dX4_givePairsOf_34 rfl rfl rfl ?_
      refine Wp.iload (pc2 := 39) dX4_givePairsOf_37 rfl rfl ?_
      refine Wp.callV (pc2 := 42) kX4_givePairsOf_217 vX0_rowAt (x_mRowAt _ E cur hVX (by omega)) dX4_givePairsOf_39 rfl rfl rfl rfl rfl (Nat.le_of_ble_eq_true rfl) ?_
      rintro _ _ ⟨rfl, rfl⟩
      rw [x22]
      refine Wp.istore (pc2 := 44) dX4_givePairsOf_42 rfl (by decide) rfl ?_
      refine Wp.aload_n (pc2 := 45) dX4_givePairsOf_44 rfl rfl ?_
      refine Wp.getf (pc2 := 48) fX4_32 dX4_givePairsOf_45 rfl rfl rfl ?_
      refine Wp.iload (pc2 := 50) dX4_givePairsOf_48 rfl rfl ?_
      refine Wp.callV (pc2 := 53) kX4_givePairsOf_221 vX0_tableAt (x_mTableAt _ E cur hVX (by omega)) dX4_givePairsOf_50 rfl rfl rfl rfl rfl (Nat.le_of_ble_eq_true rfl) ?_
      rintro _ _ ⟨rfl, rfl⟩
      rw [x22]
      refine Wp.iload_n (pc2 := 54) dX4_givePairsOf_53 rfl rfl ?_
      refine Wp.icmpN_ne (pc2 := 57) 111 dX4_givePairsOf_54 rfl (by decide) (by omega) (by omega) (fun c54 => ?_) (fun c54 => ?_)
      · refine Wp.iincN (pc2 := 114) dX4_givePairsOf_111 rfl rfl (by decide) rfl ?_
        refine Wp.goto (pc2 := 21) dX4_givePairsOf_114 (by decide) ?_
        refine Wp.fg [.ref 0, .int (nI 1), .int (nI r), .int (nI 0), .int (nI (V0 2 (3 * (50 * 1 + r) + V0 8 1))), .int (nI (cur + 1)), .null] (And.intro (Or.inr rfl) (And.intro (Or.inr rfl) (And.intro (Or.inr rfl) (And.intro (Or.inr rfl) (And.intro (Or.inr rfl) (And.intro (Or.inr rfl) (And.intro (Or.inl rfl) trivial))))))) ?_
        exact skip (fun z => c54 z.1)
      · refine Wp.aload_n (pc2 := 58) dX4_givePairsOf_57 rfl rfl ?_
        refine Wp.iload_n (pc2 := 59) dX4_givePairsOf_58 rfl rfl ?_
        refine Wp.iload (pc2 := 61) dX4_givePairsOf_59 rfl rfl ?_
        refine Wp.callV (pc2 := 64) kX4_givePairsOf_156 vX4_joinValue (x_joinValue_0 _ E (V0 22 cur % 50) (by omega) (by rw [x8 0 (by decide)]; omega)) dX4_givePairsOf_61 rfl rfl rfl rfl rfl (Nat.le_of_ble_eq_true rfl) ?_
        rintro _ _ ⟨rfl, rfl⟩
        rw [x2, x8 0 (by decide)]
        refine Wp.iload (pc2 := 66) dX4_givePairsOf_64 rfl rfl ?_
        refine Wp.icmpN_ne (pc2 := 69) 111 dX4_givePairsOf_66 rfl (by decide) (hV0.l _ _) (hV0.l _ _) (fun c66 => ?_) (fun c66 => ?_)
        · refine Wp.iincN (pc2 := 114) dX4_givePairsOf_111 rfl rfl (by decide) rfl ?_
          refine Wp.goto (pc2 := 21) dX4_givePairsOf_114 (by decide) ?_
          refine Wp.fg [.ref 0, .int (nI 1), .int (nI r), .int (nI 0), .int (nI (V0 2 (3 * (50 * 1 + r) + V0 8 1))), .int (nI (cur + 1)), .null] (And.intro (Or.inr rfl) (And.intro (Or.inr rfl) (And.intro (Or.inr rfl) (And.intro (Or.inr rfl) (And.intro (Or.inr rfl) (And.intro (Or.inr rfl) (And.intro (Or.inl rfl) trivial))))))) ?_
          exact skip (fun z => by
            have w := z.2
            unfold alikeB at w
            rw [u80, u81, u2, u2] at w
            exact c66 (of_decide_eq_true w))
        · have hal : alikeB F (V0 22 cur % 50) (r) = true := by
            unfold alikeB
            rw [u80, u81, u2, u2]
            exact decide_eq_true c66
          have hz : F 20 (50 * (V0 22 cur % 50) + (r)) = 0 := by
            have := hFI cur (Nat.le_refl _) (by omega) (by rw [u22]; exact c54)
            rw [u22] at this; exact this
          have hlt := GI_lt hg (show 50 * (V0 22 cur % 50) + (r) < 2500 by omega) hz
          refine Wp.aload_n (pc2 := 70) dX4_givePairsOf_69 rfl rfl ?_
          refine Wp.getf (pc2 := 73) fX4_39 dX4_givePairsOf_70 rfl rfl rfl ?_
          refine Wp.iload_n (pc2 := 74) dX4_givePairsOf_73 rfl rfl ?_
          refine Wp.ifN_ne (pc2 := 77) 81 dX4_givePairsOf_74 rfl (by decide) (by decide) (fun _ => ?_) (fun c => absurd c (by decide))
          refine Wp.iload (pc2 := 83) dX4_givePairsOf_81 rfl rfl ?_
          refine Wp.iload_n (pc2 := 84) dX4_givePairsOf_83 rfl rfl ?_
          refine Wp.ifN_ne (pc2 := 87) 92 dX4_givePairsOf_84 rfl (by decide) (by decide) (fun _ => ?_) (fun c => absurd c (by decide))
          refine Wp.iload_n (pc2 := 93) dX4_givePairsOf_92 rfl rfl ?_
          refine Wp.callV (pc2 := 96) kX4_givePairsOf_224 vX1_give (x_pGive _ E (V0 22 cur % 50) (r) (by omega) hlt) dX4_givePairsOf_93 rfl rfl rfl rfl rfl (Nat.le_of_ble_eq_true rfl) ?_
          rintro _ _ ⟨rfl, rfl⟩
          rw [mGive_vs (by decide)]
          refine Wp.aload_n (pc2 := 97) dX4_givePairsOf_96 rfl rfl ?_
          refine Wp.getf (pc2 := 100) fX4_21 dX4_givePairsOf_97 rfl rfl rfl ?_
          refine Wp.iload_n (pc2 := 101) dX4_givePairsOf_100 rfl rfl ?_
          refine Wp.aald (pc2 := 102) dX4_givePairsOf_101 rfl rfl (by decide) (by omega) (by decide) rfl ?_
          refine Wp.dup (pc2 := 103) dX4_givePairsOf_102 rfl rfl ?_
          refine Wp.getf (pc2 := 106) fX4_227 dX4_givePairsOf_103 rfl rfl rfl ?_
          refine Wp.iconN (pc2 := 107) 1 dX4_givePairsOf_106 rfl ?_
          refine Wp.iaddN (pc2 := 108) dX4_givePairsOf_107 rfl  ?_
          rw [vs_same]
          refine Wp.putf (pc2 := 111) gX4_227 dX4_givePairsOf_108 rfl rfl (Nat.le_of_ble_eq_true rfl) rfl rfl ?_
          refine Wp.heq (hC_o27_12 _ _ _) ?_
          rw [vs_vs]
          have e26 : mGive F (V0 22 cur % 50) (r) 0 26 = F 0 26 + 1 := by simp [mGive, vs]
          rw [show V0 17 1 + (F 0 26 - V0 0 26) + 1 = V0 17 1 + (mGive F (V0 22 cur % 50) (r) 0 26 - V0 0 26) by omega]
          refine Wp.iincN (pc2 := 114) dX4_givePairsOf_111 rfl rfl (by decide) rfl ?_
          refine Wp.goto (pc2 := 21) dX4_givePairsOf_114 (by decide) ?_
          refine Wp.fg [.ref 0, .int (nI 1), .int (nI r), .int (nI 0), .int (nI (V0 2 (3 * (50 * 1 + r) + V0 8 1))), .int (nI (cur + 1)), .null] (And.intro (Or.inr rfl) (And.intro (Or.inr rfl) (And.intro (Or.inr rfl) (And.intro (Or.inr rfl) (And.intro (Or.inr rfl) (And.intro (Or.inr rfl) (And.intro (Or.inl rfl) trivial))))))) ?_
          have hF2 := FI_give (t := 1) (r := r) (i := cur) (show QI F from hqF) (by decide) hr (by omega) (by rw [u22]; exact c54) hFI
          rw [u22] at hF2
          exact ih (cur + 1) _ (by omega) (by omega) (by rw [hN, if_pos ⟨c54, hal⟩]) hV0 (BV_give hV (by omega) hlt) (GI_give hg (by omega) hz) hF2 (by omega)

set_option maxRecDepth 100000 in
set_option maxHeartbeats 4000000 in
theorem x_givePairs_0 (V E : zS) (r : Nat) (hr : r < 50) (hj0 : V 8 0 < 3) (hj1 : V 8 1 < 3) (h17 : V 17 0 ≤ 2500) (hq : QI V) (hV : BV V) (hg : GI V) (hF : FI V 0 r (V 0 28)) : PM mX4_givePairsOf [.ref 0, .int (nI 0), .int (nI r)] (hC V E) (fun zr zq => zr = none ∧ zq = hC (vs (mFinds0 V 0 r) 17 0 (V 17 0 + (mFinds0 V 0 r 0 26 - V 0 26))) E) := by
  refine PM.of (by decide +kernel) (by simp [Value.category]) (Nat.le_of_ble_eq_true rfl) ?_
  refine Wp.iconN (pc2 := 1) 1 dX4_givePairsOf_0 rfl ?_
  refine Wp.iload_n (pc2 := 2) dX4_givePairsOf_1 rfl rfl ?_
  refine Wp.isubN (pc2 := 3) dX4_givePairsOf_2 rfl (by omega) ?_
  refine Wp.istore_n (pc2 := 4) dX4_givePairsOf_3 rfl (by decide) rfl ?_
  refine Wp.aload_n (pc2 := 5) dX4_givePairsOf_4 rfl rfl ?_
  refine Wp.iload_n (pc2 := 6) dX4_givePairsOf_5 rfl rfl ?_
  refine Wp.iload_n (pc2 := 7) dX4_givePairsOf_6 rfl rfl ?_
  refine Wp.callV (pc2 := 10) kX4_givePairsOf_156 vX4_joinValue (x_joinValue_0 V E r hr hj0) dX4_givePairsOf_7 rfl rfl rfl rfl rfl (Nat.le_of_ble_eq_true rfl) ?_
  rintro _ _ ⟨rfl, rfl⟩
  refine Wp.istore (pc2 := 12) dX4_givePairsOf_10 rfl (by decide) rfl ?_
  refine Wp.aload_n (pc2 := 13) dX4_givePairsOf_12 rfl rfl ?_
  refine Wp.getf (pc2 := 16) fX4_32 dX4_givePairsOf_13 rfl rfl rfl ?_
  refine Wp.getf (pc2 := 19) fX4_171 dX4_givePairsOf_16 rfl rfl rfl ?_
  refine Wp.istore (pc2 := 21) dX4_givePairsOf_19 rfl (by decide) rfl ?_
  refine Wp.heq (h' := hC (vs V 17 0 (V 17 0 + (V 0 26 - V 0 26))) E) ?_ ?_
  · rw [Nat.sub_self]
    have e : vs V 17 0 (V 17 0 + 0) = V := by
      funext x y
      simp only [vs]
      by_cases h1 : x = 17 <;> by_cases h2 : y = 0 <;> simp [h1, h2]
    rw [e]
  exact x_give_l_0 V E r hr hj0 hj1 h17 hq (V 0 23 - V 0 28) (V 0 28) V (by have := hq.1; omega) (Nat.le_refl _) (by rw [Nat.sub_self]; rfl) hV hV hg hF (Nat.le_refl _)
set_option maxRecDepth 100000 in
set_option maxHeartbeats 4000000 in
theorem x_givePairs_1 (V E : zS) (r : Nat) (hr : r < 50) (hj0 : V 8 0 < 3) (hj1 : V 8 1 < 3) (h17 : V 17 1 ≤ 2500) (hq : QI V) (hV : BV V) (hg : GI V) (hF : FI V 1 r (V 0 28)) : PM mX4_givePairsOf [.ref 0, .int (nI 1), .int (nI r)] (hC V E) (fun zr zq => zr = none ∧ zq = hC (vs (mFinds0 V 1 r) 17 1 (V 17 1 + (mFinds0 V 1 r 0 26 - V 0 26))) E) := by
  refine PM.of (by decide +kernel) (by simp [Value.category]) (Nat.le_of_ble_eq_true rfl) ?_
  refine Wp.iconN (pc2 := 1) 1 dX4_givePairsOf_0 rfl ?_
  refine Wp.iload_n (pc2 := 2) dX4_givePairsOf_1 rfl rfl ?_
  refine Wp.isubN (pc2 := 3) dX4_givePairsOf_2 rfl (by omega) ?_
  refine Wp.istore_n (pc2 := 4) dX4_givePairsOf_3 rfl (by decide) rfl ?_
  refine Wp.aload_n (pc2 := 5) dX4_givePairsOf_4 rfl rfl ?_
  refine Wp.iload_n (pc2 := 6) dX4_givePairsOf_5 rfl rfl ?_
  refine Wp.iload_n (pc2 := 7) dX4_givePairsOf_6 rfl rfl ?_
  refine Wp.callV (pc2 := 10) kX4_givePairsOf_156 vX4_joinValue (x_joinValue_1 V E r hr hj1) dX4_givePairsOf_7 rfl rfl rfl rfl rfl (Nat.le_of_ble_eq_true rfl) ?_
  rintro _ _ ⟨rfl, rfl⟩
  refine Wp.istore (pc2 := 12) dX4_givePairsOf_10 rfl (by decide) rfl ?_
  refine Wp.aload_n (pc2 := 13) dX4_givePairsOf_12 rfl rfl ?_
  refine Wp.getf (pc2 := 16) fX4_32 dX4_givePairsOf_13 rfl rfl rfl ?_
  refine Wp.getf (pc2 := 19) fX4_171 dX4_givePairsOf_16 rfl rfl rfl ?_
  refine Wp.istore (pc2 := 21) dX4_givePairsOf_19 rfl (by decide) rfl ?_
  refine Wp.heq (h' := hC (vs V 17 1 (V 17 1 + (V 0 26 - V 0 26))) E) ?_ ?_
  · rw [Nat.sub_self]
    have e : vs V 17 1 (V 17 1 + 0) = V := by
      funext x y
      simp only [vs]
      by_cases h1 : x = 17 <;> by_cases h2 : y = 1 <;> simp [h1, h2]
    rw [e]
  exact x_give_l_1 V E r hr hj0 hj1 h17 hq (V 0 23 - V 0 28) (V 0 28) V (by have := hq.1; omega) (Nat.le_refl _) (by rw [Nat.sub_self]; rfl) hV hV hg hF (Nat.le_refl _)
theorem x_givePairs (t : Nat) (ht : t < 2) (V E : zS) (r : Nat) (hr : r < 50) (hj0 : V 8 0 < 3) (hj1 : V 8 1 < 3) (h17 : V 17 t ≤ 2500) (hq : QI V) (hV : BV V) (hg : GI V) (hF : FI V t r (V 0 28)) : PM mX4_givePairsOf [.ref 0, .int (nI t), .int (nI r)] (hC V E) (fun zr zq => zr = none ∧ zq = hC (vs (mFinds0 V t r) 17 t (V 17 t + (mFinds0 V t r 0 26 - V 0 26))) E) := by
  rcases (show t = 0 ∨ t = 1 by omega) with rfl | rfl
  · exact x_givePairs_0 V E r hr hj0 hj1 h17 hq hV hg hF
  · exact x_givePairs_1 V E r hr hj0 hj1 h17 hq hV hg hF

set_option maxRecDepth 100000 in
set_option maxHeartbeats 4000000 in
theorem x_spill_l (E : zS) : ∀ (n : Nat) (V : zS), QI V → BV V → n ≤ V 0 23 - V 0 28 → Wp mX4_spillExcess (fun zr zq => zr = none ∧ zq = hC (spillN n V) E) 16 [.ref 0, .int (nI n), .null] [] (hC V E) := by
  intro n
  induction n with
  | zero =>
    intro V hq hV hn
    refine Wp.iload_n (pc2 := 17) dX4_spillExcess_16 rfl rfl ?_
    refine Wp.ifN_le (pc2 := 20) 73 dX4_spillExcess_17 rfl (by decide) (by omega) (fun c17 => ?_) (fun c17 => ?_)
    · refine Wp.retv dX4_spillExcess_73 rfl ?_
      exact ⟨rfl, rfl⟩
    · exfalso; omega
  | succ n ih =>
    intro V hq hV hn
    have h100 := hq.2.1
    have hl : V 0 28 < V 0 23 := by omega
    have hqq := (hq.2.2.1 _ hl).1
    refine Wp.iload_n (pc2 := 17) dX4_spillExcess_16 rfl rfl ?_
    refine Wp.ifN_le (pc2 := 20) 73 dX4_spillExcess_17 rfl (by decide) (by omega) (fun c17 => ?_) (fun c17 => ?_)
    · exfalso; omega
    · refine Wp.aload_n (pc2 := 21) dX4_spillExcess_20 rfl rfl ?_
      refine Wp.getf (pc2 := 24) fX4_32 dX4_spillExcess_21 rfl rfl rfl ?_
      refine Wp.getf (pc2 := 27) fX4_171 dX4_spillExcess_24 rfl rfl rfl ?_
      refine Wp.istore_n (pc2 := 28) dX4_spillExcess_27 rfl (by decide) rfl ?_
      refine Wp.aload_n (pc2 := 29) dX4_spillExcess_28 rfl rfl ?_
      refine Wp.getf (pc2 := 32) fX4_21 dX4_spillExcess_29 rfl rfl rfl ?_
      refine Wp.aload_n (pc2 := 33) dX4_spillExcess_32 rfl rfl ?_
      refine Wp.getf (pc2 := 36) fX4_32 dX4_spillExcess_33 rfl rfl rfl ?_
      refine Wp.iload_n (pc2 := 37) dX4_spillExcess_36 rfl rfl ?_
      refine Wp.callV (pc2 := 40) kX4_spillExcess_221 vX0_tableAt (x_mTableAt V E (V 0 28) hV (by omega)) dX4_spillExcess_37 rfl rfl rfl rfl rfl (Nat.le_of_ble_eq_true rfl) ?_
      rintro _ _ ⟨rfl, rfl⟩
      rcases (show V 22 (V 0 28) / 50 = 0 ∨ V 22 (V 0 28) / 50 = 1 by omega) with hq0 | hq0
      · rw [hq0]
        refine Wp.aald (pc2 := 41) dX4_spillExcess_40 rfl rfl (by decide) (by omega) (by decide) rfl ?_
        refine Wp.getf (pc2 := 44) fX4_141 dX4_spillExcess_41 rfl rfl rfl ?_
        refine Wp.aload_n (pc2 := 45) dX4_spillExcess_44 rfl rfl ?_
        refine Wp.getf (pc2 := 48) fX4_32 dX4_spillExcess_45 rfl rfl rfl ?_
        refine Wp.iload_n (pc2 := 49) dX4_spillExcess_48 rfl rfl ?_
        refine Wp.callV (pc2 := 52) kX4_spillExcess_217 vX0_rowAt (x_mRowAt V E (V 0 28) hV (by omega)) dX4_spillExcess_49 rfl rfl rfl rfl rfl (Nat.le_of_ble_eq_true rfl) ?_
        rintro _ _ ⟨rfl, rfl⟩
        refine Wp.iconN (pc2 := 53) 3 dX4_spillExcess_52 rfl ?_
        refine Wp.cast (pc2 := 54) dX4_spillExcess_53 rfl rfl (by omega) (by decide) ?_
        refine Wp.heq (hC_a20 _ _ _ _ (by omega)) ?_
        rw [show 0 + V 22 (V 0 28) % 50 = V 22 (V 0 28) by omega]
        refine Wp.aload_n (pc2 := 55) dX4_spillExcess_54 rfl rfl ?_
        refine Wp.getf (pc2 := 58) fX4_32 dX4_spillExcess_55 rfl rfl rfl ?_
        refine Wp.dup (pc2 := 59) dX4_spillExcess_58 rfl rfl ?_
        refine Wp.getf (pc2 := 62) fX4_171 dX4_spillExcess_59 rfl rfl rfl ?_
        refine Wp.iconN (pc2 := 63) 1 dX4_spillExcess_62 rfl ?_
        refine Wp.iaddN (pc2 := 64) dX4_spillExcess_63 rfl  ?_
        change Wp _ _ _ _ (.int (nI (V 0 28 + 1)) :: _) _
        refine Wp.putf (pc2 := 67) gX4_171 dX4_spillExcess_64 rfl rfl (Nat.le_of_ble_eq_true rfl) rfl rfl ?_
        refine Wp.heq (hC_o4_3 _ _ _) ?_
        change Wp _ _ _ _ _ (hC (mSpill1 V) E)
        change Wp _ _ _ _ _ (hC (mSpill1 V) E)
        refine Wp.iinc (pc2 := 70) dX4_spillExcess_67 rfl rfl (nI n) (pk_m1 n) (by decide) rfl ?_
        refine Wp.goto (pc2 := 16) dX4_spillExcess_70 (by decide) ?_
        refine Wp.fg [.ref 0, .int (nI n), .null] (And.intro (Or.inr rfl) (And.intro (Or.inr rfl) (And.intro (Or.inl rfl) trivial))) ?_
        exact ih (mSpill1 V) (QI_spill hq hl) (BV_spill1 hV (by omega)) (by have e23 : mSpill1 V 0 23 = V 0 23 := mSpill1_o (by decide); have e28 := mSpill1_28 V; omega)
      · rw [hq0]
        refine Wp.aald (pc2 := 41) dX4_spillExcess_40 rfl rfl (by decide) (by omega) (by decide) rfl ?_
        refine Wp.getf (pc2 := 44) fX4_141 dX4_spillExcess_41 rfl rfl rfl ?_
        refine Wp.aload_n (pc2 := 45) dX4_spillExcess_44 rfl rfl ?_
        refine Wp.getf (pc2 := 48) fX4_32 dX4_spillExcess_45 rfl rfl rfl ?_
        refine Wp.iload_n (pc2 := 49) dX4_spillExcess_48 rfl rfl ?_
        refine Wp.callV (pc2 := 52) kX4_spillExcess_217 vX0_rowAt (x_mRowAt V E (V 0 28) hV (by omega)) dX4_spillExcess_49 rfl rfl rfl rfl rfl (Nat.le_of_ble_eq_true rfl) ?_
        rintro _ _ ⟨rfl, rfl⟩
        refine Wp.iconN (pc2 := 53) 3 dX4_spillExcess_52 rfl ?_
        refine Wp.cast (pc2 := 54) dX4_spillExcess_53 rfl rfl (by omega) (by decide) ?_
        refine Wp.heq (hC_a28 _ _ _ _ (by omega)) ?_
        rw [show 50 + V 22 (V 0 28) % 50 = V 22 (V 0 28) by omega]
        refine Wp.aload_n (pc2 := 55) dX4_spillExcess_54 rfl rfl ?_
        refine Wp.getf (pc2 := 58) fX4_32 dX4_spillExcess_55 rfl rfl rfl ?_
        refine Wp.dup (pc2 := 59) dX4_spillExcess_58 rfl rfl ?_
        refine Wp.getf (pc2 := 62) fX4_171 dX4_spillExcess_59 rfl rfl rfl ?_
        refine Wp.iconN (pc2 := 63) 1 dX4_spillExcess_62 rfl ?_
        refine Wp.iaddN (pc2 := 64) dX4_spillExcess_63 rfl  ?_
        change Wp _ _ _ _ (.int (nI (V 0 28 + 1)) :: _) _
        refine Wp.putf (pc2 := 67) gX4_171 dX4_spillExcess_64 rfl rfl (Nat.le_of_ble_eq_true rfl) rfl rfl ?_
        refine Wp.heq (hC_o4_3 _ _ _) ?_
        change Wp _ _ _ _ _ (hC (mSpill1 V) E)
        change Wp _ _ _ _ _ (hC (mSpill1 V) E)
        refine Wp.iinc (pc2 := 70) dX4_spillExcess_67 rfl rfl (nI n) (pk_m1 n) (by decide) rfl ?_
        refine Wp.goto (pc2 := 16) dX4_spillExcess_70 (by decide) ?_
        refine Wp.fg [.ref 0, .int (nI n), .null] (And.intro (Or.inr rfl) (And.intro (Or.inr rfl) (And.intro (Or.inl rfl) trivial))) ?_
        exact ih (mSpill1 V) (QI_spill hq hl) (BV_spill1 hV (by omega)) (by have e23 : mSpill1 V 0 23 = V 0 23 := mSpill1_o (by decide); have e28 := mSpill1_28 V; omega)

set_option maxRecDepth 100000 in
set_option maxHeartbeats 4000000 in
theorem x_spill (V E : zS) (hq : QI V) (hV : BV V) : PM mX4_spillExcess [.ref 0] (hC V E) (fun zr zq => zr = none ∧ zq = hC (mSpills V) E) := by
  refine PM.of (by decide +kernel) (by simp [Value.category]) (Nat.le_of_ble_eq_true rfl) ?_
  refine Wp.aload_n (pc2 := 1) dX4_spillExcess_0 rfl rfl ?_
  refine Wp.getf (pc2 := 4) fX4_32 dX4_spillExcess_1 rfl rfl rfl ?_
  refine Wp.callV (pc2 := 7) kX4_spillExcess_169 vX0_size (x_mSize V E hq.1) dX4_spillExcess_4 rfl rfl rfl rfl rfl (Nat.le_of_ble_eq_true rfl) ?_
  rintro _ _ ⟨rfl, rfl⟩
  refine Wp.aload_n (pc2 := 8) dX4_spillExcess_7 rfl rfl ?_
  refine Wp.getf (pc2 := 11) fX4_32 dX4_spillExcess_8 rfl rfl rfl ?_
  refine Wp.getf (pc2 := 14) fX4_102 dX4_spillExcess_11 rfl rfl rfl ?_
  refine Wp.isub (pc2 := 15) dX4_spillExcess_14 rfl ?_
  refine Wp.istore_n (pc2 := 16) dX4_spillExcess_15 rfl (by decide) rfl ?_
  have h100 := hq.2.1
  have h8 := hV 0 8
  rcases Nat.lt_or_ge (V 0 8) (V 0 23 - V 0 28) with q | q
  · have e9 : nI (V 0 23 - V 0 28) - nI (V 0 8) = nI (V 0 23 - V 0 28 - V 0 8) := pk_sub (by omega)
    rw [e9]
    exact x_spill_l E _ V hq hV (by omega)
  · have e : mSpills V = V := by
      unfold mSpills
      rw [show V 0 23 - V 0 28 - V 0 8 = 0 by omega]
      rfl
    rw [e]
    have hle : nI (V 0 23 - V 0 28) - nI (V 0 8) ≤ 0 := by
      rw [Int32.le_iff_toInt_le, pk_sub_toInt (by omega) (by omega), Int32.toInt_zero]
      omega
    refine Wp.iload_n (pc2 := 17) dX4_spillExcess_16 rfl rfl ?_
    refine Wp.if_le (pc2 := 20) 73 dX4_spillExcess_17 rfl (by decide) (fun _ => ?_) (fun c => absurd hle c)
    exact Wp.retv dX4_spillExcess_73 rfl ⟨rfl, rfl⟩

set_option maxRecDepth 100000 in
set_option maxHeartbeats 4000000 in
theorem x_memory_ok (V E : zS) (n : Nat) (hq : QI V) (hV : BV V) (hn : n < 101) : PM mX4_memory [.ref 0, .int (nI n)] (hC V E) (fun zr zq => zr = some (.int (nI 1)) ∧ zq = hC (mSpills (vs V 0 8 n)) E) := by
  refine PM.of (by decide +kernel) (by simp [Value.category]) (Nat.le_of_ble_eq_true rfl) ?_
  refine Wp.iload_n (pc2 := 1) dX4_memory_0 rfl rfl ?_
  refine Wp.ifN_lt (pc2 := 4) 10 dX4_memory_1 rfl (by decide) (by omega) (fun c1 => ?_) (fun c1 => ?_)
  · exact absurd c1 id
  · refine Wp.iload_n (pc2 := 5) dX4_memory_4 rfl rfl ?_
    refine Wp.bipN (pc2 := 7) 100 dX4_memory_5 rfl (by decide +kernel) ?_
    refine Wp.icmpN_le (pc2 := 10) 12 dX4_memory_7 rfl (by decide) (by omega) (by decide) (fun c7 => ?_) (fun c7 => ?_)
    · refine Wp.aload_n (pc2 := 13) dX4_memory_12 rfl rfl ?_
      refine Wp.getf (pc2 := 16) fX4_32 dX4_memory_13 rfl rfl rfl ?_
      refine Wp.iload_n (pc2 := 17) dX4_memory_16 rfl rfl ?_
      refine Wp.putf (pc2 := 20) gX4_102 dX4_memory_17 rfl rfl (Nat.le_of_ble_eq_true rfl) rfl rfl ?_
      refine Wp.heq (hC_o4_1 _ _ _) ?_
      refine Wp.aload_n (pc2 := 21) dX4_memory_20 rfl rfl ?_
      refine Wp.callV (pc2 := 24) kX4_memory_105 vX4_spillExcess (x_spill (vs V 0 8 n) E (QI_o hq (Or.inl (by omega))) (hV.up (by omega))) dX4_memory_21 rfl rfl rfl rfl rfl (Nat.le_of_ble_eq_true rfl) ?_
      rintro _ _ ⟨rfl, rfl⟩
      refine Wp.iconN (pc2 := 25) 1 dX4_memory_24 rfl ?_
      refine Wp.ret dX4_memory_25 rfl (zb_nar true) ?_
      exact ⟨rfl, rfl⟩
    · exfalso; omega

set_option maxRecDepth 100000 in
set_option maxHeartbeats 4000000 in
theorem x_memory_no (V E : zS) (x : Int32) (hno : ¬ rg x 101) : PM mX4_memory [.ref 0, .int x] (hC V E) (fun zr zq => zr = some (.int (nI 0)) ∧ zq = hC V E) := by
  refine PM.of (by decide +kernel) (by simp [Value.category]) (Nat.le_of_ble_eq_true rfl) ?_
  refine Wp.iload_n (pc2 := 1) dX4_memory_0 rfl rfl ?_
  refine Wp.if_lt (pc2 := 4) 10 dX4_memory_1 rfl (by decide)  (fun c1 => ?_) (fun c1 => ?_)
  · refine Wp.iconN (pc2 := 11) 0 dX4_memory_10 rfl ?_
    refine Wp.ret dX4_memory_11 rfl (zb_nar false) ?_
    exact ⟨rfl, rfl⟩
  · refine Wp.iload_n (pc2 := 5) dX4_memory_4 rfl rfl ?_
    refine Wp.bipN (pc2 := 7) 100 dX4_memory_5 rfl (by decide +kernel) ?_
    refine Wp.icmp_le (pc2 := 10) 12 dX4_memory_7 rfl (by decide)  (fun c7 => ?_) (fun c7 => ?_)
    · exact absurd (rg_le (by decide) c1 c7) hno
    · refine Wp.iconN (pc2 := 11) 0 dX4_memory_10 rfl ?_
      refine Wp.ret dX4_memory_11 rfl (zb_nar false) ?_
      exact ⟨rfl, rfl⟩

