theorem tst_BV {t r : Nat} (ht : t < 2) : ∀ (n k : Nat) (V : zS), BV V → tB V t n → k + n ≤ 4 → BV (tst t r n k V).1
  | 0, _, _, h, _, _ => h
  | n + 1, k, V, hV, hB, hk => by
    have hx4 := (hB.2.2 (4 * t + k) (by omega)).2.2
    have hx8 : 4 * t + V 11 (4 * t + k) < 8 := by omega
    have hB1 := tB_1 hB (show 4 * t + k < 8 by omega)
    have hV1 := BV_T1 hV hB (by omega) hx8
    by_cases c : passB V t r (V 11 (4 * t + k)) = true
    · rw [tst_t c]; exact tst_BV ht n (k + 1) _ hV1 hB1 (by omega)
    · rw [tst_f c]
      exact hV1.up (by
        have := (hB1.1 (4 * t + V 11 (4 * t + k)) hx8).2
        rw [mT1_o (a := 11) (by decide)]; omega)
theorem BV_Rd1 {V : zS} (hV : BV V) {t : Nat} (ht : t < 2) (h1 : V 10 t < 2 ^ 20 - 1) (h2 : V 0 30 < 2 ^ 20 - 1) : BV (mRd1 V t) := by
  unfold mRd1
  refine BV.up ?_ (by omega)
  split
  · exact (hV.up (by omega)).up (by omega)
  · exact hV.up (by omega)
theorem JV_s {V : zS} (h : JV V) : V 10 0 ≤ 50 ∧ V 10 1 ≤ 50 ∧ V 0 26 ≤ 2500 ∧ V 0 30 ≤ 100 ∧ V 0 31 ≤ 100 ∧ V 15 0 ≤ 10000 ∧ V 15 1 ≤ 10000 ∧ V 17 0 ≤ 2500 ∧ V 17 1 ≤ 2500 ∧ V 0 27 ≤ 40000 := by
  obtain ⟨hV, jt, j8, jk, jo, hq, hg, jp, jgp, js, jc⟩ := h
  have a0 := jt 0 (by decide)
  have a1 := jt 1 (by decide)
  have g := GI_le hg
  obtain ⟨s1, s2, s3, s4, s5, s6, s7, s8, s9, s10⟩ := js
  omega
theorem JV_t {V : zS} (h : JV V) {t : Nat} (ht : t < 2) : V 10 t ≤ 50 ∧ V 15 t ≤ 10000 ∧ V 17 t ≤ 2500 := by
  have := JV_s h
  rcases (show t = 0 ∨ t = 1 by omega) with rfl | rfl <;> omega
theorem Rd1_tB {V : zS} (h : JV V) {t : Nat} (ht : t < 2) : tB (mRd1 V t) t (V 9 t) := by
  have hs := JV_t h ht
  obtain ⟨hV, jt, j8, jk, jo, hq, hg, jp, jgp, js, jc⟩ := h
  have a := jt t ht
  refine ⟨fun j hj => ?_, ?_, fun j hj => ?_⟩
  · rw [mRd1_o (by omega), mRd1_o (by omega)]
    have k := jk (j / 4) (j % 4) (by omega) (by omega)
    have a2 := jt (j / 4) (by omega)
    rw [show 4 * (j / 4) + j % 4 = j by omega] at k
    omega
  · rw [mRd1_o (by omega)]; omega
  · rw [mRd1_o (by omega), mRd1_o (by omega), mRd1_o (by omega)]
    have := j8 j hj; omega
theorem R2_o {V : zS} {t k j : Nat} (h : k ≠ 10 ∧ k ≠ 13 ∧ k ≠ 14 ∧ k ≠ 15 ∧ (k = 0 → j ≠ 29 ∧ j ≠ 30)) : (mR2 V t).1 k j = V k j := by
  unfold mR2
  rw [tst_o ⟨h.2.1, h.2.2.1, h.2.2.2.1⟩, mRd1_o ⟨h.1, h.2.2.2.2⟩]
theorem R3_o {V : zS} {t k j : Nat} (h : k ≠ 18 ∧ k ≠ 10 ∧ k ≠ 13 ∧ k ≠ 14 ∧ k ≠ 15 ∧ (k = 0 → j ≠ 29 ∧ j ≠ 30)) : mR3 V t k j = V k j := by
  unfold mR3
  rw [vs_k _ h.1, R2_o h.2]
theorem R3_18 (V : zS) (t e : Nat) : mR3 V t 18 e = if e = 50 * t + V 10 t then 1 else V 18 e := by
  unfold mR3
  rw [vs_at, R2_o (by omega)]
theorem R3_k {V : zS} {t k j : Nat} (h : k ≠ 18) : mR3 V t k j = (mR2 V t).1 k j := by
  unfold mR3
  rw [vs_k _ h]
theorem R2_10 (V : zS) (t j : Nat) : (mR2 V t).1 10 j = if j = t then V 10 t + 1 else V 10 j := by
  unfold mR2
  rw [tst_o (by decide), mRd1_10]
theorem R3_pre {V : zS} (h : JV V) {t : Nat} (ht : t < 2) (hr : V 10 t < V 1 t) : BV (mR3 V t) ∧ QI (mR3 V t) ∧ GI (mR3 V t) ∧ FI (mR3 V t) t (V 10 t) (mR3 V t 0 28) ∧ PI (mR3 V t) ∧ mR3 V t 18 (50 * t + V 10 t) < 2 ∧ mR3 V t 0 23 < 100 ∧ mR3 V t 17 t ≤ 2500 := by
  have hs := JV_t h ht
  have hss := JV_s h
  have hB := Rd1_tB h ht
  obtain ⟨hV, jt, j8, jk, jo, hq, hg, jp, jgp, js, jc⟩ := h
  have a := jt t ht
  have p0 := (jp t (V 10 t) ht (by omega)).1
  have hz : V 18 (50 * t + V 10 t) = 0 := by
    rcases Nat.eq_zero_or_pos (V 18 (50 * t + V 10 t)) with q | q
    · exact q
    · have := p0.mp (by omega); omega
  have e22 : ∀ j, mR3 V t 22 j = V 22 j := fun j => R3_o (by omega)
  have e20 : ∀ j, mR3 V t 20 j = V 20 j := fun j => R3_o (by omega)
  have e21 : ∀ j, mR3 V t 21 j = V 21 j := fun j => R3_o (by omega)
  have e26 : mR3 V t 0 26 = V 0 26 := R3_o (by omega)
  have e23 : mR3 V t 0 23 = V 0 23 := R3_o (by omega)
  have e28 : mR3 V t 0 28 = V 0 28 := R3_o (by omega)
  have q2 : QI (mR2 V t).1 := by
    unfold QI
    have f22 : ∀ j, (mR2 V t).1 22 j = V 22 j := fun j => R2_o (by omega)
    have f18 : ∀ j, (mR2 V t).1 18 j = V 18 j := fun j => R2_o (by omega)
    have f19 : ∀ j, (mR2 V t).1 19 j = V 19 j := fun j => R2_o (by omega)
    have f23 : (mR2 V t).1 0 23 = V 0 23 := R2_o (by omega)
    have f28 : (mR2 V t).1 0 28 = V 0 28 := R2_o (by omega)
    simp only [f22, f18, f19, f23, f28]
    exact hq
  have q3 : QI (mR3 V t) := QI_18 q2 (by rw [R2_o (by omega), hz]; decide) (by decide)
  have js5 := js.2.2.2.2.1
  refine ⟨(tst_BV ht _ _ _ (BV_Rd1 hV ht (by omega) (by omega)) hB (by omega)).up (by decide), q3, GI_o hg e26 e21 e20, fun j h1 h2 h3 => ?_, fun t' r' ht' hr' hne => ?_, by rw [R3_18, if_pos rfl]; decide, ?_, by rw [R3_o (by omega)]; omega⟩
  · rw [e22] at h3 ⊢
    rw [e20]
    have hj : j < V 0 23 := by omega
    have hjq := (hq.2.2.1 j hj).1
    have hab := fab_lt (t := t) (r := V 10 t) (x := V 22 j % 50) (by omega) (by omega)
    rcases Nat.eq_zero_or_pos (V 20 (50 * fa t (V 10 t) (V 22 j % 50) + fb t (V 10 t) (V 22 j % 50))) with q | q
    · exact q
    · exfalso
      have k := (jgp _ hab.1).2 (by omega)
      rw [show (50 * fa t (V 10 t) (V 22 j % 50) + fb t (V 10 t) (V 22 j % 50)) / 50 = fa t (V 10 t) (V 22 j % 50) by omega, show (50 * fa t (V 10 t) (V 22 j % 50) + fb t (V 10 t) (V 22 j % 50)) % 50 = fb t (V 10 t) (V 22 j % 50) by omega] at k
      rcases (show t = 0 ∨ t = 1 by omega) with rfl | rfl
      · have e : fa 0 (V 10 0) (V 22 j % 50) = V 10 0 := rfl
        rw [e] at k
        rw [show 50 * 0 + V 10 0 = V 10 0 by omega] at hz
        omega
      · have e : fb 1 (V 10 1) (V 22 j % 50) = V 10 1 := rfl
        rw [e] at k
        rw [show 50 * 1 + V 10 1 = 50 + V 10 1 by omega] at hz
        omega
  · rw [R3_18] at hne
    rw [R3_o (by omega)]
    by_cases q : 50 * t' + r' = 50 * t + V 10 t
    · have e1 : t' = t := by omega
      have e2 : r' = V 10 t := by omega
      rw [e1, e2]; exact hr
    · rw [if_neg q] at hne
      have := (jp t' r' ht' hr').1.mp hne
      have := (jt t' ht').2.2.2.1
      omega
  · have : V 10 0 + V 10 1 < 100 := by
      have b0 := jt 0 (by decide)
      have b1 := jt 1 (by decide)
      rcases (show t = 0 ∨ t = 1 by omega) with rfl | rfl <;> omega
    omega
/-- a row that was read, in all: R4 -/
theorem R4_all {V : zS} (h : JV V) {t : Nat} (ht : t < 2) (hr : V 10 t < V 1 t) :
    BV (mR4 V t) ∧ QI (mR4 V t) ∧ GI (mR4 V t) ∧ (∃ n, mPaid V t = 1 + ((mR2 V t).1 15 t - V 15 t) + n ∧ mR4 V t 0 26 = V 0 26 + n ∧ (∀ x, mR4 V t 17 x = if x = t then V 17 t + n else V 17 x)) ∧ mR4 V t 0 23 ≤ V 0 23 + 1 ∧
    (∀ e, (e ≠ 50 * t + V 10 t → mR4 V t 18 e = V 18 e ∨ (mR4 V t 18 e = 3 ∧ V 18 e = 2)) ∧ (e = 50 * t + V 10 t → 1 ≤ mR4 V t 18 e ∧ mR4 V t 18 e ≤ 3)) ∧
    (∀ p, p < 2500 → mR4 V t 20 p = V 20 p ∨ (mR4 V t 20 p = 1 ∧ 2 ≤ mR4 V t 18 (p / 50) ∧ 2 ≤ mR4 V t 18 (50 + p % 50))) ∧
    (∀ k j, k ≠ 17 ∧ k ≠ 18 ∧ k ≠ 19 ∧ k ≠ 22 ∧ k ≠ 20 ∧ k ≠ 21 ∧ (k = 0 → j ≠ 23 ∧ j ≠ 26 ∧ j ≠ 28) → mR4 V t k j = mR3 V t k j) := by
  obtain ⟨p1, p2, p3, p4, p5, p6, p7, p8⟩ := R3_pre h ht hr
  have hs := JV_t h ht
  obtain ⟨hV, jt, j8, jk, jo, hq, hg, jp, jgp, js, jc⟩ := h
  have a := jt t ht
  have e20 : ∀ j, mR3 V t 20 j = V 20 j := fun j => R3_o (by omega)
  have e17 : ∀ j, mR3 V t 17 j = V 17 j := fun j => R3_o (by omega)
  have e26 : mR3 V t 0 26 = V 0 26 := R3_o (by omega)
  have e23 : mR3 V t 0 23 = V 0 23 := R3_o (by omega)
  cases hok : (mR2 V t).2 with
  | false =>
    have e4 : mR4 V t = mR3 V t := by unfold mR4; rw [hok]; rfl
    rw [e4]
    refine ⟨p1, p2, p3, ⟨0, by unfold mPaid; rw [hok]; rfl, by omega, fun x => ?_⟩, by omega, fun e => ⟨fun q => ?_, fun q => ?_⟩, fun p hp => Or.inl (e20 p), fun k j _ => rfl⟩
    · rw [e17]
      split
      · rename_i q; rw [q]; rfl
      · rfl
    · rw [R3_18, if_neg q]; exact Or.inl rfl
    · rw [R3_18, if_pos q]; omega
  | true =>
    have e4 : mR4 V t = mFinds (mR3 V t) t (V 10 t) := by unfold mR4; rw [hok]; rfl
    obtain ⟨b1, b2, b3, b4, b5, b6, b7, b8, b9⟩ := mFinds_all ht (show V 10 t < 50 by omega) p2 p3 p4 p6 p7
    rw [e4]
    refine ⟨b3 p1 p8, b1, b2, ⟨mFinds0 (mR3 V t) t (V 10 t) 0 26 - mR3 V t 0 26, by unfold mPaid; rw [hok]; rfl, by omega, fun x => ?_⟩, by omega, fun e => ⟨fun q => ?_, fun q => ?_⟩, fun p hp => ?_, fun k j z => mFinds_o z⟩
    · rw [b7, e17, e17]
    · have := b8 e
      rw [if_neg q, R3_18, if_neg q] at this
      exact this
    · have := b8 e
      rw [if_pos q] at this
      omega
    · rcases b9 p with z | ⟨z, x, hx, h2, rfl⟩
      · exact Or.inl (by rw [z, e20])
      · right
        have hab := fab_lt (t := t) (r := V 10 t) (x := x) (by omega) hx
        refine ⟨z, ?_⟩
        have k1 : 2 ≤ mFinds (mR3 V t) t (V 10 t) 18 (50 * t + V 10 t) := by
          have := b8 (50 * t + V 10 t)
          rw [if_pos rfl] at this
          omega
        have k2 : 2 ≤ mFinds (mR3 V t) t (V 10 t) 18 (50 * (1 - t) + x) := by
          have := b8 (50 * (1 - t) + x)
          rw [if_neg (by omega), h2] at this
          omega
        rw [show (50 * fa t (V 10 t) x + fb t (V 10 t) x) / 50 = fa t (V 10 t) x by omega, show (50 * fa t (V 10 t) x + fb t (V 10 t) x) % 50 = fb t (V 10 t) x by omega]
        rcases (show t = 0 ∨ t = 1 by omega) with rfl | rfl
        · have e1 : fa 0 (V 10 0) x = V 10 0 := rfl
          have e2 : fb 0 (V 10 0) x = x := rfl
          rw [e1, e2]
          rw [show 50 * 0 + V 10 0 = V 10 0 by omega] at k1
          rw [show 50 * (1 - 0) + x = 50 + x by omega] at k2
          exact ⟨k1, k2⟩
        · have e1 : fa 1 (V 10 1) x = x := rfl
          have e2 : fb 1 (V 10 1) x = V 10 1 := rfl
          rw [e1, e2]
          rw [show 50 * 1 + V 10 1 = 50 + V 10 1 by omega] at k1
          rw [show 50 * (1 - 1) + x = x by omega] at k2
          exact ⟨k2, k1⟩
theorem R5_o {V : zS} {t k j : Nat} (h : k ≠ 16 ∧ (k = 0 → j ≠ 27)) : mR5 V t k j = mR4 V t k j := by
  unfold mR5
  by_cases hk : k = 0
  · subst hk; rw [vs_k _ (by decide), vs_i _ (h.2 rfl)]
  · rw [vs_k _ h.1, vs_k _ hk]
theorem JV_R5 {V : zS} (h : JV V) {t : Nat} (ht : t < 2) (hr : V 10 t < V 1 t) : JV (mR5 V t) := by
  obtain ⟨p1, p2, p3, ⟨n, pn, p4, p5⟩, p6, p7, p8, p9⟩ := R4_all h ht hr
  have hs := JV_t h ht
  have hss := JV_s h
  have hB := Rd1_tB h ht
  obtain ⟨hV, jt, j8, jk, jo, hq, hg, jp, jgp, js, jc⟩ := h
  have a := jt t ht
  have gle := GI_le p3
  -- numbers that stay
  have u : ∀ k j, k ≠ 16 ∧ k ≠ 17 ∧ k ≠ 18 ∧ k ≠ 19 ∧ k ≠ 22 ∧ k ≠ 20 ∧ k ≠ 21 ∧ k ≠ 10 ∧ k ≠ 13 ∧ k ≠ 14 ∧ k ≠ 15 ∧ (k = 0 → j ≠ 23 ∧ j ≠ 26 ∧ j ≠ 28 ∧ j ≠ 29 ∧ j ≠ 30 ∧ j ≠ 27) → mR5 V t k j = V k j := by
    intro k j z
    rw [R5_o (by omega), p9 k j (by omega), R3_o (by omega)]
  have u2 : ∀ k j, k = 10 ∨ k = 13 ∨ k = 14 ∨ k = 15 → mR5 V t k j = (mR2 V t).1 k j := by
    intro k j z
    rw [R5_o (by omega), p9 k j (by omega), R3_k (by omega)]
  have v10 : ∀ j, mR5 V t 10 j = if j = t then V 10 t + 1 else V 10 j := fun j => by rw [u2 10 j (by omega), R2_10]
  have hb := fun b => tst_b (r := V 10 t) ht (V 9 t) 0 (mRd1 V t) (by omega) (fun j hj => by rw [mRd1_o (by omega), mRd1_o (by omega)]; exact ⟨(j8 j hj).2.1, (j8 j hj).2.2⟩) b
  have m13 : ∀ j, mRd1 V t 13 j = V 13 j := fun j => mRd1_o (by omega)
  have m14 : ∀ j, mRd1 V t 14 j = V 14 j := fun j => mRd1_o (by omega)
  have m15 : ∀ j, mRd1 V t 15 j = V 15 j := fun j => mRd1_o (by omega)
  simp only [m13, m14, m15] at hb
  have v15t : V 15 t ≤ mR5 V t 15 t ∧ mR5 V t 15 t ≤ V 15 t + 200 := by
    rw [u2 15 t (by omega)]
    have := (hb t).2.2.2
    have e : (mR2 V t).1 15 t = (tst t (V 10 t) (V 9 t) 0 (mRd1 V t)).1 15 t := rfl
    omega
  have v15o : ∀ x, x ≠ t → mR5 V t 15 x = V 15 x := fun x hx => by
    rw [u2 15 x (by omega)]
    exact (hb x).2.2.1 hx
  have r416 : ∀ x, mR4 V t 16 x = V 16 x := fun x => by rw [p9 16 x (by omega), R3_o (by omega)]
  have v16 : ∀ x, mR5 V t 16 x = if x = t then V 16 t + mPaid V t else V 16 x := fun x => by
    unfold mR5
    rw [vs_at, r416, vs_k _ (by decide), r416]
  have v17 : ∀ x, mR5 V t 17 x = if x = t then V 17 t + n else V 17 x := fun x => by rw [R5_o (by omega), p5]
  have v26 : mR5 V t 0 26 = V 0 26 + n := by rw [R5_o (by omega), p4]
  have r427 : mR4 V t 0 27 = V 0 27 := by rw [p9 0 27 (by omega), R3_o (by omega)]
  have v27 : mR5 V t 0 27 = V 0 27 + mPaid V t := by
    unfold mR5
    rw [vs_k _ (by decide), vs_same, r427]
  have v18 : ∀ e, mR5 V t 18 e = mR4 V t 18 e := fun e => R5_o (by omega)
  have v20 : ∀ e, mR5 V t 20 e = mR4 V t 20 e := fun e => R5_o (by omega)
  have hpd : mPaid V t = 1 + (mR5 V t 15 t - V 15 t) + n := by rw [pn, u2 15 t (by omega)]
  have v9 : ∀ x, mR5 V t 9 x = V 9 x := fun x => u 9 x (by omega)
  have v11 : ∀ x, mR5 V t 11 x = V 11 x := fun x => u 11 x (by omega)
  have q5 : QI (mR5 V t) := by
    unfold mR5
    exact QI_o (QI_o p2 (Or.inl (by omega))) (Or.inr (by omega))
  obtain ⟨s1, s2, s3, s4, s5, s6, s7, s8, s9, s10⟩ := js
  have v29 : mR5 V t 0 29 = t + 1 := by
    rw [R5_o (by omega), p9 0 29 (by omega), R3_k (by omega)]
    unfold mR2
    rw [tst_o (by decide)]
    unfold mRd1
    rw [vs_same]
  have v30 : mR5 V t 0 30 ≤ V 0 30 + 1 := by
    rw [R5_o (by omega), p9 0 30 (by omega), R3_k (by omega)]
    unfold mR2
    rw [tst_o (by decide)]
    unfold mRd1
    rw [vs_i _ (by decide)]
    split
    · rw [vs_same]; exact Nat.le_refl _
    · rw [vs_k _ (by decide)]; omega
  have h10 : mR5 V t 10 0 + mR5 V t 10 1 = V 10 0 + V 10 1 + 1 := by
    rw [v10, v10]
    rcases (show t = 0 ∨ t = 1 by omega) with rfl | rfl
    · rw [if_pos rfl, if_neg (by decide)]; omega
    · rw [if_neg (by decide), if_pos rfl]; omega
  have h17 : mR5 V t 17 0 + mR5 V t 17 1 = V 17 0 + V 17 1 + n := by
    rw [v17, v17]
    rcases (show t = 0 ∨ t = 1 by omega) with rfl | rfl
    · rw [if_pos rfl, if_neg (by decide)]; omega
    · rw [if_neg (by decide), if_pos rfl]; omega
  have h16 : mR5 V t 16 0 + mR5 V t 16 1 = V 16 0 + V 16 1 + mPaid V t := by
    rw [v16, v16]
    rcases (show t = 0 ∨ t = 1 by omega) with rfl | rfl
    · rw [if_pos rfl, if_neg (by decide)]; omega
    · rw [if_neg (by decide), if_pos rfl]; omega
  have hpl : mPaid V t ≤ 1 + 200 + 2500 := by omega
  refine ⟨?_, fun x hx => ?_, fun j hj => ?_, fun x k hx hk => ?_, fun x hx => ?_, q5, ?_, fun x y hx hy => ?_, fun p hp => ?_, ?_, fun j hj => ?_⟩
  · unfold mR5
    refine (p1.up ?_).up ?_
    · rw [r427]; omega
    · rw [r416]; omega
  · have ax := jt x hx
    rw [u 1 x (by omega), u 3 x (by omega), v9, v10, u 8 x (by omega), u 12 x (by omega), v16, v17]
    by_cases q : x = t
    · subst q
      rw [if_pos rfl, if_pos rfl, if_pos rfl]
      omega
    · rw [if_neg q, if_neg q, if_neg q, v15o x q]
      exact ax
  · rw [u 4 j (by omega), u 7 j (by omega), v11]
    exact j8 j hj
  · have k0 := jk x k hx hk
    have hbk := hb (4 * x + k)
    have e13 : mR5 V t 13 (4 * x + k) = (tst t (V 10 t) (V 9 t) 0 (mRd1 V t)).1 13 (4 * x + k) := u2 13 _ (by omega)
    have e14 : mR5 V t 14 (4 * x + k) = (tst t (V 10 t) (V 9 t) 0 (mRd1 V t)).1 14 (4 * x + k) := u2 14 _ (by omega)
    rw [e13, e14, v10]
    by_cases q : x = t
    · rw [if_pos q]
      subst q
      omega
    · rw [if_neg q]
      have := hbk.2.1 (by omega)
      omega
  · rw [v9]
    have := jo x hx
    simp only [v11]
    exact this
  · exact GI_o p3 (R5_o (by omega)) (fun i => R5_o (by omega)) (fun p => R5_o (by omega))
  · rw [v18, v10]
    have k := p7 (50 * x + y)
    have j1 := jp x y hx hy
    by_cases q : 50 * x + y = 50 * t + V 10 t
    · have e1 : x = t := by omega
      have e2 : y = V 10 t := by omega
      have := k.2 q
      rw [if_pos e1]
      refine ⟨⟨fun _ => by omega, fun _ => by omega⟩, by omega⟩
    · have k1 := k.1 q
      have hrw : (if x = t then V 10 t + 1 else V 10 x) = (if x = t then V 10 t + 1 else V 10 x) := rfl
      have hlt : (y < (if x = t then V 10 t + 1 else V 10 x)) ↔ y < V 10 x := by
        by_cases q2 : x = t
        · rw [if_pos q2, q2]
          have : y ≠ V 10 t := fun z => q (by rw [q2, z])
          omega
        · rw [if_neg q2]
      rw [hlt, ← j1.1]
      refine ⟨by omega, by omega⟩
  · rw [v20]
    have j1 := jgp p hp
    rcases p8 p hp with z | ⟨z, z1, z2⟩
    · rw [z]
      refine ⟨j1.1, fun q => ?_⟩
      have j2 := j1.2 q
      rw [v18, v18]
      have k1 := p7 (p / 50)
      have k2 := p7 (50 + p % 50)
      have w : ∀ e, 2 ≤ V 18 e → e ≠ 50 * t + V 10 t := by
        intro e he hz
        have := (jp t (V 10 t) ht (by omega)).1.mp (by rw [← hz]; omega)
        omega
      have k3 := k1.1 (w _ j2.1)
      have k4 := k2.1 (w _ j2.2)
      omega
    · rw [z]
      exact ⟨Nat.le_refl _, fun _ => by rw [v18, v18]; exact ⟨z1, z2⟩⟩
  · have v23 : mR5 V t 0 23 ≤ V 0 23 + 1 := by rw [R5_o (by omega)]; exact p6
    have v31 : mR5 V t 0 31 = V 0 31 := u 0 31 (by omega)
    refine ⟨by rw [u 0 8 (by omega)]; exact s1, by rw [u 0 9 (by omega)]; exact s2, by rw [u 0 10 (by omega)]; exact s3, by omega, by omega, by omega, by omega, by omega, by omega, ?_⟩
    rw [u 0 11 (by omega), v9, v9]; exact s10
  · rw [u 2 j (by omega)]; exact jc j hj
theorem turnR_ex {V : zS} {t : Nat} {V' : zS} (h : turnR V t V') : ∃ o c, V' = vs (ordV V t o) 0 31 c ∧ c ≤ V 0 31 + 1 ∧ srtd V t (V 9 t) o := by
  obtain ⟨o, a1, a2, a3⟩ := h
  by_cases q : ∀ j, j < V 9 t → o j = V 11 (4 * t + j)
  · refine ⟨o, V 0 31, ?_, by omega, a1⟩
    rw [a2 q]
    have e : ordV V t o = V := ordV_self V t (fun j hj => by
      rcases Nat.lt_or_ge j (V 9 t) with z | z
      · exact q j z
      · exact a1.2.2.2 j z)
    rw [e]
    funext a b
    unfold vs
    split
    · split
      · rename_i h1 h2; rw [h1, h2]
      · rfl
    · rfl
  · have q2 : ∃ j, j < V 9 t ∧ o j ≠ V 11 (4 * t + j) := by
      apply Classical.byContradiction
      intro z
      exact q (fun j hj => Classical.byContradiction (fun w => z ⟨j, hj, w⟩))
    exact ⟨o, V 0 31 + 1, a3 q2, Nat.le_refl _, a1⟩
theorem mTurns_ex (V : zS) (t : Nat) : mTurns V t = V ∨ ∃ o c, mTurns V t = vs (ordV V t o) 0 31 c ∧ c ≤ V 0 31 + 1 ∧ srtd V t (V 9 t) o := by
  unfold mTurns
  split
  · unfold mTurn
    by_cases q : ∃ V', turnR V t V'
    · rw [dif_pos q]
      exact Or.inr (turnR_ex (Classical.choose_spec q))
    · rw [dif_neg q]; exact Or.inl rfl
  · exact Or.inl rfl
/-- a new order keeps what holds -/
theorem JV_ord {V : zS} (h : JV V) {t : Nat} (ht : t < 2) {o : Nat → Nat} {c : Nat} (hc : c ≤ V 10 0 + V 10 1) (hs : srtd V t (V 9 t) o) : JV (vs (ordV V t o) 0 31 c) := by
  have hss := JV_s h
  obtain ⟨hV, jt, j8, jk, jo, hq, hg, jp, jgp, js, jc⟩ := h
  have a := jt t ht
  have u : ∀ k j, k ≠ 11 → (k = 0 → j ≠ 31) → vs (ordV V t o) 0 31 c k j = V k j := by
    intro k j h1 h2
    by_cases hk : k = 0
    · subst hk; rw [vs_i _ (h2 rfl), ordV_k _ _ _ (by decide)]
    · rw [vs_k _ hk, ordV_k _ _ _ h1]
  have u11 : ∀ j, vs (ordV V t o) 0 31 c 11 j = ordV V t o 11 j := fun j => vs_k _ (by decide)
  have u31 : vs (ordV V t o) 0 31 c 0 31 = c := vs_same _ _ _ _
  have o4 : ∀ j, j < 4 → o j < 4 := by
    intro j hj
    rcases Nat.lt_or_ge j (V 9 t) with z | z
    · obtain ⟨i, hi, e⟩ := hs.2.1 j z
      rw [e]
      exact (j8 _ (by omega)).2.2
    · rw [hs.2.2.2 j z]
      exact (j8 _ (by omega)).2.2
  have e1 : ∀ k, k ≠ 11 → k ≠ 0 → ∀ j, vs (ordV V t o) 0 31 c k j = V k j := fun k h1 h2 j => u k j h1 (fun z => absurd z h2)
  refine ⟨(BV_ord hV t o4).up (by omega), fun x hx => ?_, fun j hj => ?_, fun x k hx hk => ?_, fun x hx => ?_, ?_, ?_, fun x y hx hy => ?_, fun p hp => ?_, ?_, fun j hj => ?_⟩
  · rw [e1 1 (by decide) (by decide), e1 3 (by decide) (by decide), e1 9 (by decide) (by decide), e1 10 (by decide) (by decide), e1 8 (by decide) (by decide), e1 12 (by decide) (by decide), e1 15 (by decide) (by decide), e1 16 (by decide) (by decide), e1 17 (by decide) (by decide)]
    exact jt x hx
  · rw [e1 4 (by decide) (by decide), e1 7 (by decide) (by decide), u11]
    refine ⟨(j8 j hj).1, (j8 j hj).2.1, ?_⟩
    unfold ordV
    split
    · exact o4 _ (by omega)
    · exact (j8 j hj).2.2
  · rw [e1 13 (by decide) (by decide), e1 14 (by decide) (by decide), e1 10 (by decide) (by decide)]
    exact jk x k hx hk
  · rw [e1 9 (by decide) (by decide)]
    simp only [u11]
    have ax := jt x hx
    by_cases q : x = t
    · subst q
      have e : ∀ j, j < V 9 x → ordV V x o 11 (4 * x + j) = o j := fun j hj => ordV_at V x o (by omega)
      have jx := jo x hx
      refine ⟨fun j hj => ?_, fun i j hi hj hij => ?_, fun y hy => ?_⟩
      · rw [e j hj]
        obtain ⟨i, hi, e2⟩ := hs.2.1 j hj
        rw [e2]; exact jx.1 i hi
      · rw [e i hi, e j hj] at hij
        rcases Nat.lt_trichotomy i j with z | z | z
        · have := hs.1 i j z hj
          rw [hij] at this
          exact absurd this (fun w => less_asym w w)
        · exact z
        · have := hs.1 j i z hi
          rw [hij] at this
          exact absurd this (fun w => less_asym w w)
      · obtain ⟨i, hi, e2⟩ := jx.2.2 y hy
        obtain ⟨j, hj, e3⟩ := hs.2.2.1 i hi
        exact ⟨j, hj, by rw [e j hj, ← e3]; exact e2⟩
    · have e : ∀ j, j < 4 → ordV V t o 11 (4 * x + j) = V 11 (4 * x + j) := by
        intro j hj
        unfold ordV
        rw [if_neg (by omega)]
      have jx := jo x hx
      refine ⟨fun j hj => ?_, fun i j hi hj hij => ?_, fun y hy => ?_⟩
      · rw [e j (by omega)]; exact jx.1 j hj
      · rw [e i (by omega), e j (by omega)] at hij
        exact jx.2.1 i j hi hj hij
      · obtain ⟨j, hj, e2⟩ := jx.2.2 y hy
        exact ⟨j, hj, by rw [e j (by omega)]; exact e2⟩
  · unfold QI
    simp only [u 0 23 (by decide) (by decide), u 0 28 (by decide) (by decide), e1 22 (by decide) (by decide), e1 19 (by decide) (by decide), e1 18 (by decide) (by decide)]
    exact hq
  · exact GI_o hg (u 0 26 (by decide) (by decide)) (e1 21 (by decide) (by decide)) (e1 20 (by decide) (by decide))
  · rw [e1 18 (by decide) (by decide), e1 10 (by decide) (by decide)]
    exact jp x y hx hy
  · rw [e1 20 (by decide) (by decide), e1 18 (by decide) (by decide), e1 18 (by decide) (by decide)]
    exact jgp p hp
  · obtain ⟨s1, s2, s3, s4, s5, s6, s7, s8, s9, s10⟩ := js
    unfold J_s
    rw [u 0 8 (by decide) (by decide), u 0 9 (by decide) (by decide), u 0 10 (by decide) (by decide), u 0 29 (by decide) (by decide), u 0 23 (by decide) (by decide), u 0 26 (by decide) (by decide), u 0 27 (by decide) (by decide), u 0 30 (by decide) (by decide), u 0 11 (by decide) (by decide), u31]
    simp only [e1 10 (by decide) (by decide), e1 17 (by decide) (by decide), e1 16 (by decide) (by decide), e1 9 (by decide) (by decide)]
    exact ⟨s1, s2, s3, s4, s5, s6, s7, s8, hc, s10⟩
  · rw [e1 2 (by decide) (by decide)]; exact jc j hj
theorem JV_reads {V : zS} (h : JV V) {t : Nat} (ht : t < 2) (hr : V 10 t < V 1 t) : JV (mReads V t) := by
  have h5 := JV_R5 h ht hr
  unfold mReads
  split
  · rcases mTurns_ex (mR5 V t) t with e | ⟨o, c, e, hc, hs⟩
    · rw [e]; exact h5
    · rw [e]
      refine JV_ord h5 ht ?_ hs
      have e31 : mR5 V t 0 31 = V 0 31 := by
        obtain ⟨-, -, -, -, -, -, -, p9⟩ := R4_all h ht hr
        rw [R5_o (by omega), p9 0 31 (by omega), R3_o (by omega)]
      have e10 : ∀ j, mR5 V t 10 j = if j = t then V 10 t + 1 else V 10 j := by
        obtain ⟨-, -, -, -, -, -, -, p9⟩ := R4_all h ht hr
        intro j
        rw [R5_o (by omega), p9 10 j (by omega), R3_k (by omega), R2_10]
      have s9 := h.2.2.2.2.2.2.2.2.2.1.2.2.2.2.2.2.2.2.1
      rw [e10, e10]
      rcases (show t = 0 ∨ t = 1 by omega) with rfl | rfl
      · rw [if_pos rfl, if_neg (by decide)]; omega
      · rw [if_neg (by decide), if_pos rfl]; omega
  · exact h5

