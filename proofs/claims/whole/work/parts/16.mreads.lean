/-- what holds of the reference's numbers at every call -/
def J_t (V : zS) : Prop := ∀ t, t < 2 → V 1 t ≤ 50 ∧ V 3 t ≤ 4 ∧ V 9 t ≤ V 3 t ∧ V 10 t ≤ V 1 t ∧ V 8 t < 3 ∧ V 12 t ≤ 1 ∧ V 15 t ≤ 200 * V 10 t ∧ V 16 t = V 10 t + V 15 t + V 17 t
def J_8 (V : zS) : Prop := ∀ j, j < 8 → V 4 j < 3 ∧ V 7 j ≤ 50 ∧ V 11 j < 4
def J_k (V : zS) : Prop := ∀ t k, t < 2 → k < 4 → V 13 (4 * t + k) ≤ 4 * V 10 t ∧ V 14 (4 * t + k) ≤ 4 * V 10 t
def J_o (V : zS) : Prop := ∀ t, t < 2 → (∀ j, j < V 9 t → V 11 (4 * t + j) < V 9 t) ∧ (∀ i j, i < V 9 t → j < V 9 t → V 11 (4 * t + i) = V 11 (4 * t + j) → i = j) ∧ ∀ x, x < V 9 t → ∃ j, j < V 9 t ∧ V 11 (4 * t + j) = x
def J_p (V : zS) : Prop := ∀ t r, t < 2 → r < 50 → (V 18 (50 * t + r) ≠ 0 ↔ r < V 10 t) ∧ V 18 (50 * t + r) ≤ 3
def J_gp (V : zS) : Prop := ∀ p, p < 2500 → V 20 p ≤ 1 ∧ (V 20 p ≠ 0 → 2 ≤ V 18 (p / 50) ∧ 2 ≤ V 18 (50 + p % 50))
def J_s (V : zS) : Prop := V 0 8 ≤ 100 ∧ V 0 9 ≤ 2 ∧ V 0 10 ≤ 2 ∧ V 0 29 ≤ 2 ∧ V 0 23 ≤ V 10 0 + V 10 1 ∧ V 17 0 + V 17 1 ≤ V 0 26 ∧ V 0 27 = V 16 0 + V 16 1 + 2 * (V 0 26 - V 17 0 - V 17 1) ∧ V 0 30 ≤ V 10 0 + V 10 1 ∧ V 0 31 ≤ V 10 0 + V 10 1 ∧ (V 0 11 = 0 → V 9 0 = 0 ∧ V 9 1 = 0)
def J_c (V : zS) : Prop := ∀ j, j < 300 → V 2 j < 100
def J_e (V : zS) : Prop := V 0 10 = 1 → ¬ endP V
def JV (V : zS) : Prop := BV V ∧ J_t V ∧ J_8 V ∧ J_k V ∧ J_o V ∧ QI V ∧ GI V ∧ J_p V ∧ J_gp V ∧ J_s V ∧ J_c V
/-- reading: the first part -/
def mRd1 (V : zS) (t : Nat) : zS := vs (if V 0 29 ≠ 0 ∧ V 0 29 ≠ t + 1 then vs (vs V 10 t (V 10 t + 1)) 0 30 (V 0 30 + 1) else vs V 10 t (V 10 t + 1)) 0 29 (t + 1)
theorem mRd1_o {V : zS} {t k j : Nat} (h : k ≠ 10 ∧ (k = 0 → j ≠ 29 ∧ j ≠ 30)) : mRd1 V t k j = V k j := by
  unfold mRd1
  by_cases hk : k = 0
  · subst hk
    rw [vs_i _ (h.2 rfl).1]
    split
    · rw [vs_i _ (h.2 rfl).2, vs_k _ (by decide)]
    · rw [vs_k _ (by decide)]
  · rw [vs_k _ hk]
    split
    · rw [vs_k _ hk, vs_k _ h.1]
    · rw [vs_k _ h.1]
theorem mRd1_10 (V : zS) (t j : Nat) : mRd1 V t 10 j = if j = t then V 10 t + 1 else V 10 j := by
  unfold mRd1
  rw [vs_k _ (by decide)]
  split
  · rw [vs_k _ (by decide), vs_at]
  · rw [vs_at]
def passB (V : zS) (t r k : Nat) : Bool := if V 5 (4 * t + k) = 0 then decide (V 2 (3 * (50 * t + r) + V 4 (4 * t + k)) < V 6 (4 * t + k)) else if V 5 (4 * t + k) = 1 then decide (V 2 (3 * (50 * t + r) + V 4 (4 * t + k)) = V 6 (4 * t + k)) else decide (V 6 (4 * t + k) < V 2 (3 * (50 * t + r) + V 4 (4 * t + k)))
theorem passB_iff {V : zS} {t r k : Nat} : passB V t r k = true ↔ passP V t r k := by
  unfold passB passP
  split
  · exact decide_eq_true_iff
  · split <;> exact decide_eq_true_iff
/-- a test is tried; it fails -/
def mT1 (V : zS) (t k : Nat) : zS := vs (vs V 13 (4 * t + V 11 (4 * t + k)) (V 13 (4 * t + V 11 (4 * t + k)) + 1)) 15 t (V 15 t + V 7 (4 * t + V 11 (4 * t + k)))
def mTf (V : zS) (t k : Nat) : zS := vs V 14 (4 * t + V 11 (4 * t + k)) (V 14 (4 * t + V 11 (4 * t + k)) + 1)
def tst (t r : Nat) : Nat → Nat → zS → zS × Bool
  | 0, _, V => (V, true)
  | n + 1, k, V => if passB V t r (V 11 (4 * t + k)) then tst t r n (k + 1) (mT1 V t k) else (mTf (mT1 V t k) t k, false)
theorem tst_t {t r n k : Nat} {V : zS} (h : passB V t r (V 11 (4 * t + k)) = true) : tst t r (n + 1) k V = tst t r n (k + 1) (mT1 V t k) := by rw [tst, if_pos h]
theorem tst_f {t r n k : Nat} {V : zS} (h : ¬ passB V t r (V 11 (4 * t + k)) = true) : tst t r (n + 1) k V = (mTf (mT1 V t k) t k, false) := by rw [tst, if_neg h]
theorem mT1_o {V : zS} {t k a b : Nat} (h : a ≠ 13 ∧ a ≠ 15) : mT1 V t k a b = V a b := by
  unfold mT1
  rw [vs_k _ h.2, vs_k _ h.1]
theorem mTf_o {V : zS} {t k a b : Nat} (h : a ≠ 14) : mTf V t k a b = V a b := by
  unfold mTf
  rw [vs_k _ h]
theorem tst_o {t r a b : Nat} (h : a ≠ 13 ∧ a ≠ 14 ∧ a ≠ 15) : ∀ (n k : Nat) (V : zS), (tst t r n k V).1 a b = V a b
  | 0, _, _ => rfl
  | n + 1, k, V => by
    unfold tst
    split
    · rw [tst_o h n (k + 1), mT1_o ⟨h.1, h.2.2⟩]
    · show mTf _ _ _ a b = _
      rw [mTf_o h.2.1, mT1_o ⟨h.1, h.2.2⟩]
/-- bounds while tests are tried -/
def tB (V : zS) (t n : Nat) : Prop := (∀ j, j < 8 → V 13 j + n ≤ 2 ^ 19 ∧ V 14 j + n ≤ 2 ^ 19) ∧ V 15 t + 50 * n ≤ 2 ^ 19 ∧ (∀ j, j < 8 → V 7 j ≤ 50 ∧ V 4 j < 3 ∧ V 11 j < 4)
theorem tB_1 {V : zS} {t n k : Nat} (h : tB V t (n + 1)) (hk : 4 * t + k < 8) : tB (mT1 V t k) t n := by
  obtain ⟨h1, h2, h3⟩ := h
  refine ⟨fun j hj => ?_, ?_, fun j hj => ?_⟩
  · have e13 : mT1 V t k 13 j = if j = 4 * t + V 11 (4 * t + k) then V 13 (4 * t + V 11 (4 * t + k)) + 1 else V 13 j := by simp [mT1, vs]
    rw [e13, mT1_o (by decide)]
    have := h1 j hj
    split
    · rename_i q; subst q; omega
    · omega
  · have e15 : mT1 V t k 15 t = V 15 t + V 7 (4 * t + V 11 (4 * t + k)) := by simp [mT1, vs]
    rw [e15]
    have q := (h3 _ hk).2.2
    rcases Nat.lt_or_ge (4 * t + V 11 (4 * t + k)) 8 with z | z
    · have := (h3 _ z).1; omega
    · omega
  · rw [mT1_o (by decide), mT1_o (by decide), mT1_o (by decide)]
    exact h3 j hj
theorem BV_T1 {V : zS} {t n k : Nat} (hV : BV V) (h : tB V t (n + 1)) (hk : 4 * t + k < 8) (hx : 4 * t + V 11 (4 * t + k) < 8) : BV (mT1 V t k) := by
  have q := (h.2.2 _ hx).1
  have q2 := (h.1 _ hx).1
  have q3 := h.2.1
  refine (hV.up ?_).up ?_ <;> omega

set_option maxRecDepth 100000 in
set_option maxHeartbeats 4000000 in
theorem m_reads_f (t r : Nat) (Q : Option Value → zh → Prop) (ht : t < 2) (k pd : Nat) (V : zS) (hV : BV V) (hk : k ≤ 5)
    (K : Wp mX5_reads Q 167 [.ref 0, .int (nI t), .int (nI r), .int (nI pd), .int (nI (zb false)), .null, .null] [] (hM V)) :
    Wp mX5_reads Q 56 [.ref 0, .int (nI t), .int (nI r), .int (nI pd), .int (nI (zb false)), .int (nI k), .null] [] (hM V) := by
  refine Wp.iload (pc2 := 58) dX5_reads_56 rfl rfl ?_
  refine Wp.aload_n (pc2 := 59) dX5_reads_58 rfl rfl ?_
  refine Wp.getf (pc2 := 62) fX5_41 dX5_reads_59 rfl rfl rfl ?_
  refine Wp.iload_n (pc2 := 63) dX5_reads_62 rfl rfl ?_
  refine Wp.ialdN (pc2 := 64) dX5_reads_63 rfl rfl (by omega) (by decide) ?_
  refine Wp.icmpN_ge (pc2 := 67) 167 dX5_reads_64 rfl (by decide) (by omega) (hV.l _ _) (fun c64 => ?_) (fun c64 => ?_)
  · refine Wp.fg [.ref 0, .int (nI t), .int (nI r), .int (nI pd), .int (nI (zb false)), .null, .null] (And.intro (Or.inr rfl) (And.intro (Or.inr rfl) (And.intro (Or.inr rfl) (And.intro (Or.inr rfl) (And.intro (Or.inr rfl) (And.intro (Or.inl rfl) (And.intro (Or.inl rfl) trivial))))))) ?_
    exact K
  · refine Wp.iload (pc2 := 69) dX5_reads_67 rfl rfl ?_
    refine Wp.ifN_eq (pc2 := 72) 167 dX5_reads_69 rfl (by decide) (by decide) (fun c69 => ?_) (fun c69 => ?_)
    · refine Wp.fg [.ref 0, .int (nI t), .int (nI r), .int (nI pd), .int (nI (zb false)), .null, .null] (And.intro (Or.inr rfl) (And.intro (Or.inr rfl) (And.intro (Or.inr rfl) (And.intro (Or.inr rfl) (And.intro (Or.inr rfl) (And.intro (Or.inl rfl) (And.intro (Or.inl rfl) trivial))))))) ?_
      exact K
    · exact absurd rfl c69

set_option maxRecDepth 100000 in
set_option maxHeartbeats 4000000 in
theorem m_reads_t (t r : Nat) (Q : Option Value → zh → Prop) (ht : t < 2) (hr : r < 50) : ∀ (n k pd : Nat) (V : zS), BV V → tB V t n → V 9 t = k + n → V 9 t ≤ 4 → pd + 50 * n ≤ 2 ^ 19 →
    (∀ W is, (W, is) = tst t r n k V → V 15 t ≤ W 15 t → W 15 t ≤ V 15 t + 50 * n → BV W → Wp mX5_reads Q 167 [.ref 0, .int (nI t), .int (nI r), .int (nI (pd + (W 15 t - V 15 t))), .int (nI (zb is)), .null, .null] [] (hM W)) →
    Wp mX5_reads Q 56 [.ref 0, .int (nI t), .int (nI r), .int (nI pd), .int (nI (zb true)), .int (nI k), .null] [] (hM V) := by
  intro n
  induction n with
  | zero =>
    intro k pd V hV hB h9 h94 hpd K
    refine Wp.iload (pc2 := 58) dX5_reads_56 rfl rfl ?_
    refine Wp.aload_n (pc2 := 59) dX5_reads_58 rfl rfl ?_
    refine Wp.getf (pc2 := 62) fX5_41 dX5_reads_59 rfl rfl rfl ?_
    refine Wp.iload_n (pc2 := 63) dX5_reads_62 rfl rfl ?_
    refine Wp.ialdN (pc2 := 64) dX5_reads_63 rfl rfl (by omega) (by decide) ?_
    refine Wp.icmpN_ge (pc2 := 67) 167 dX5_reads_64 rfl (by decide) (by omega) (by omega) (fun c64 => ?_) (fun c64 => ?_)
    · refine Wp.fg [.ref 0, .int (nI t), .int (nI r), .int (nI pd), .int (nI (zb true)), .null, .null] (And.intro (Or.inr rfl) (And.intro (Or.inr rfl) (And.intro (Or.inr rfl) (And.intro (Or.inr rfl) (And.intro (Or.inr rfl) (And.intro (Or.inl rfl) (And.intro (Or.inl rfl) trivial))))))) ?_
      have := K V true rfl (Nat.le_refl _) (by omega) hV
      rw [Nat.sub_self] at this
      exact this
    · exfalso; omega
  | succ n ih =>
    intro k pd V hV hB h9 h94 hpd K
    have hx4 := (hB.2.2 (4 * t + k) (by omega)).2.2
    have hx8 : 4 * t + V 11 (4 * t + k) < 8 := by omega
    have hB1 := tB_1 hB (show 4 * t + k < 8 by omega)
    have hV1 := BV_T1 hV hB (by omega) hx8
    have hpr := (hB.2.2 _ hx8).1
    have e15 : mT1 V t k 15 t = V 15 t + V 7 (4 * t + V 11 (4 * t + k)) := by simp [mT1, vs]
    have hps : passB V t r (V 11 (4 * t + k)) = passB (mT1 V t k) t r (V 11 (4 * t + k)) := by
      unfold passB
      simp only [mT1_o (V := V) (t := t) (k := k) (show (5 : Nat) ≠ 13 ∧ (5 : Nat) ≠ 15 by decide), mT1_o (V := V) (t := t) (k := k) (show (2 : Nat) ≠ 13 ∧ (2 : Nat) ≠ 15 by decide), mT1_o (V := V) (t := t) (k := k) (show (4 : Nat) ≠ 13 ∧ (4 : Nat) ≠ 15 by decide), mT1_o (V := V) (t := t) (k := k) (show (6 : Nat) ≠ 13 ∧ (6 : Nat) ≠ 15 by decide)]
    refine Wp.iload (pc2 := 58) dX5_reads_56 rfl rfl ?_
    refine Wp.aload_n (pc2 := 59) dX5_reads_58 rfl rfl ?_
    refine Wp.getf (pc2 := 62) fX5_41 dX5_reads_59 rfl rfl rfl ?_
    refine Wp.iload_n (pc2 := 63) dX5_reads_62 rfl rfl ?_
    refine Wp.ialdN (pc2 := 64) dX5_reads_63 rfl rfl (by omega) (by decide) ?_
    refine Wp.icmpN_ge (pc2 := 67) 167 dX5_reads_64 rfl (by decide) (by omega) (by omega) (fun c64 => ?_) (fun c64 => ?_)
    · first
        | (exfalso; omega)
        | exact absurd c69 (by decide)
    · refine Wp.iload (pc2 := 69) dX5_reads_67 rfl rfl ?_
      refine Wp.ifN_eq (pc2 := 72) 167 dX5_reads_69 rfl (by decide) (zb_lt _) (fun c69 => ?_) (fun c69 => ?_)
      · first
          | (exfalso; omega)
          | exact absurd c69 (by decide)
      · refine Wp.iconN (pc2 := 73) 4 dX5_reads_72 rfl ?_
        refine Wp.iload_n (pc2 := 74) dX5_reads_73 rfl rfl ?_
        refine Wp.imulN (pc2 := 75) dX5_reads_74 rfl  ?_
        refine Wp.aload_n (pc2 := 76) dX5_reads_75 rfl rfl ?_
        refine Wp.getf (pc2 := 79) fX5_47 dX5_reads_76 rfl rfl rfl ?_
        refine Wp.iconN (pc2 := 80) 4 dX5_reads_79 rfl ?_
        refine Wp.iload_n (pc2 := 81) dX5_reads_80 rfl rfl ?_
        refine Wp.imulN (pc2 := 82) dX5_reads_81 rfl  ?_
        refine Wp.iload (pc2 := 84) dX5_reads_82 rfl rfl ?_
        refine Wp.iaddN (pc2 := 85) dX5_reads_84 rfl  ?_
        refine Wp.ialdN (pc2 := 86) dX5_reads_85 rfl rfl (by omega) (by decide) ?_
        refine Wp.iaddN (pc2 := 87) dX5_reads_86 rfl  ?_
        refine Wp.istore (pc2 := 89) dX5_reads_87 rfl (by decide) rfl ?_
        refine Wp.aload_n (pc2 := 90) dX5_reads_89 rfl rfl ?_
        refine Wp.getf (pc2 := 93) fX5_54 dX5_reads_90 rfl rfl rfl ?_
        refine Wp.iload (pc2 := 95) dX5_reads_93 rfl rfl ?_
        refine Wp.dup2 (pc2 := 96) dX5_reads_95 rfl rfl rfl ?_
        refine Wp.ialdN (pc2 := 97) dX5_reads_96 rfl rfl (by omega) (by decide) ?_
        refine Wp.iconN (pc2 := 98) 1 dX5_reads_97 rfl ?_
        refine Wp.iaddN (pc2 := 99) dX5_reads_98 rfl  ?_
        change Wp _ _ _ _ (.int (nI (V 13 (4 * t + V 11 (4 * t + k)) + 1)) :: _) _
        refine Wp.iastN (pc2 := 100) dX5_reads_99 rfl rfl (by omega) (by decide) ?_
        refine Wp.heq (hM_a13 _ _ _) ?_
        refine Wp.iload_n (pc2 := 101) dX5_reads_100 rfl rfl ?_
        refine Wp.aload_n (pc2 := 102) dX5_reads_101 rfl rfl ?_
        refine Wp.getf (pc2 := 105) fX5_28 dX5_reads_102 rfl rfl rfl ?_
        refine Wp.iload (pc2 := 107) dX5_reads_105 rfl rfl ?_
        refine Wp.ialdN (pc2 := 108) dX5_reads_107 rfl rfl (by omega) (by decide) ?_
        refine Wp.iaddN (pc2 := 109) dX5_reads_108 rfl  ?_
        change Wp _ _ _ _ (.int (nI (pd + V 7 (4 * t + V 11 (4 * t + k)))) :: _) _
        refine Wp.istore_n (pc2 := 110) dX5_reads_109 rfl (by decide) rfl ?_
        refine Wp.aload_n (pc2 := 111) dX5_reads_110 rfl rfl ?_
        refine Wp.getf (pc2 := 114) fX5_60 dX5_reads_111 rfl rfl rfl ?_
        refine Wp.iload_n (pc2 := 115) dX5_reads_114 rfl rfl ?_
        refine Wp.dup2 (pc2 := 116) dX5_reads_115 rfl rfl rfl ?_
        refine Wp.ialdN (pc2 := 117) dX5_reads_116 rfl rfl (by omega) (by decide) ?_
        refine Wp.aload_n (pc2 := 118) dX5_reads_117 rfl rfl ?_
        refine Wp.getf (pc2 := 121) fX5_28 dX5_reads_118 rfl rfl rfl ?_
        refine Wp.iload (pc2 := 123) dX5_reads_121 rfl rfl ?_
        refine Wp.ialdN (pc2 := 124) dX5_reads_123 rfl rfl (by omega) (by decide) ?_
        refine Wp.iaddN (pc2 := 125) dX5_reads_124 rfl  ?_
        change Wp _ _ _ _ (.int (nI (V 15 t + V 7 (4 * t + V 11 (4 * t + k)))) :: _) _
        refine Wp.iastN (pc2 := 126) dX5_reads_125 rfl rfl (by omega) (by decide) ?_
        refine Wp.heq (hM_a15 _ _ _) ?_
        change Wp _ _ _ _ _ (hM (mT1 V t k))
        refine Wp.aload_n (pc2 := 127) dX5_reads_126 rfl rfl ?_
        refine Wp.iload_n (pc2 := 128) dX5_reads_127 rfl rfl ?_
        refine Wp.iload_n (pc2 := 129) dX5_reads_128 rfl rfl ?_
        refine Wp.aload_n (pc2 := 130) dX5_reads_129 rfl rfl ?_
        refine Wp.getf (pc2 := 133) fX5_47 dX5_reads_130 rfl rfl rfl ?_
        refine Wp.iconN (pc2 := 134) 4 dX5_reads_133 rfl ?_
        refine Wp.iload_n (pc2 := 135) dX5_reads_134 rfl rfl ?_
        refine Wp.imulN (pc2 := 136) dX5_reads_135 rfl  ?_
        refine Wp.iload (pc2 := 138) dX5_reads_136 rfl rfl ?_
        refine Wp.iaddN (pc2 := 139) dX5_reads_138 rfl  ?_
        refine Wp.ialdN (pc2 := 140) dX5_reads_139 rfl rfl (by omega) (by decide) ?_
        change Wp _ _ _ _ (.int (nI (V 11 (4 * t + k))) :: _) _
        refine Wp.callV (pc2 := 143) kX5_reads_135 vX5_passes (m_passes (mT1 V t k) t r (V 11 (4 * t + k)) hV1 ht hr hx4 (by rw [mT1_o (by decide)]; exact (hB.2.2 _ hx8).2.1)) dX5_reads_140 rfl rfl rfl rfl rfl (Nat.le_of_ble_eq_true rfl) ?_
        rintro _ _ ⟨⟨b, rfl, hb⟩, rfl⟩
        refine Wp.istore (pc2 := 145) dX5_reads_143 rfl (by decide) rfl ?_
        refine Wp.iload (pc2 := 147) dX5_reads_145 rfl rfl ?_
        refine Wp.ifN_ne (pc2 := 150) 161 dX5_reads_147 rfl (by decide) (zb_lt _) (fun c147 => ?_) (fun c147 => ?_)
        · refine Wp.iincN (pc2 := 164) dX5_reads_161 rfl rfl (by decide) rfl ?_
          refine Wp.goto (pc2 := 56) dX5_reads_164 (by decide) ?_
          have hp : passB V t r (V 11 (4 * t + k)) = true := by rw [hps]; exact passB_iff.mpr (zby hb c147)
          have eb := zb_1 c147
          rw [eb]
          refine Wp.fg [.ref 0, .int (nI t), .int (nI r), .int (nI (pd + V 7 (4 * t + V 11 (4 * t + k)))), .int (nI (zb true)), .int (nI (k + 1)), .null] (And.intro (Or.inr rfl) (And.intro (Or.inr rfl) (And.intro (Or.inr rfl) (And.intro (Or.inr rfl) (And.intro (Or.inr rfl) (And.intro (Or.inr rfl) (And.intro (Or.inl rfl) trivial))))))) ?_
          refine ih (k + 1) _ (mT1 V t k) hV1 hB1 (by rw [mT1_o (by decide)]; omega) (by rw [mT1_o (by decide)]; exact h94) (by omega) (fun W is hW h1 h2 hVW => ?_)
          have k1 := K W is (by rw [hW, tst_t hp]) (by omega) (by omega) hVW
          rw [show pd + V 7 (4 * t + V 11 (4 * t + k)) + (W 15 t - mT1 V t k 15 t) = pd + (W 15 t - V 15 t) by omega]
          exact k1
        · refine Wp.aload_n (pc2 := 151) dX5_reads_150 rfl rfl ?_
          refine Wp.getf (pc2 := 154) fX5_57 dX5_reads_151 rfl rfl rfl ?_
          refine Wp.iload (pc2 := 156) dX5_reads_154 rfl rfl ?_
          refine Wp.dup2 (pc2 := 157) dX5_reads_156 rfl rfl rfl ?_
          refine Wp.ialdN (pc2 := 158) dX5_reads_157 rfl rfl (by omega) (by decide) ?_
          refine Wp.iconN (pc2 := 159) 1 dX5_reads_158 rfl ?_
          refine Wp.iaddN (pc2 := 160) dX5_reads_159 rfl  ?_
          change Wp _ _ _ _ (.int (nI (mT1 V t k 14 (4 * t + mT1 V t k 11 (4 * t + k)) + 1)) :: _) _
          refine Wp.iastN (pc2 := 161) dX5_reads_160 rfl rfl (by omega) (by decide) ?_
          refine Wp.heq (hM_a14 _ _ _) ?_
          refine Wp.iincN (pc2 := 164) dX5_reads_161 rfl rfl (by decide) rfl ?_
          refine Wp.goto (pc2 := 56) dX5_reads_164 (by decide) ?_
          have hp : ¬ passB V t r (V 11 (4 * t + k)) = true := by rw [hps]; exact fun z => zbn hb c147 (passB_iff.mp z)
          have eb := zb_0 c147
          rw [eb]
          have hVf : BV (mTf (mT1 V t k) t k) := hV1.up (by
            have := (hB1.1 (4 * t + V 11 (4 * t + k)) hx8).2
            rw [mT1_o (a := 11) (by decide)]; omega)
          have e15f : mTf (mT1 V t k) t k 15 t = mT1 V t k 15 t := mTf_o (by decide)
          have k1 := K (mTf (mT1 V t k) t k) false (tst_f hp).symm (by omega) (by omega) hVf
          rw [show pd + (mTf (mT1 V t k) t k 15 t - V 15 t) = pd + V 7 (4 * t + V 11 (4 * t + k)) by omega] at k1
          refine Wp.fg [.ref 0, .int (nI t), .int (nI r), .int (nI (pd + V 7 (4 * t + V 11 (4 * t + k)))), .int (nI (zb false)), .int (nI (k + 1)), .null] (And.intro (Or.inr rfl) (And.intro (Or.inr rfl) (And.intro (Or.inr rfl) (And.intro (Or.inr rfl) (And.intro (Or.inr rfl) (And.intro (Or.inr rfl) (And.intro (Or.inl rfl) trivial))))))) ?_
          exact m_reads_f t r Q ht (k + 1) _ (mTf (mT1 V t k) t k) hVf (by omega) k1

