theorem mSpill1_o {V : zS} {k j : Nat} (h : k ≠ 18 ∧ (k = 0 → j ≠ 28)) : mSpill1 V k j = V k j := by
  unfold mSpill1
  by_cases hk : k = 0
  · subst hk; rw [vs_i _ (h.2 rfl), vs_k _ (by decide)]
  · rw [vs_k _ hk, vs_k _ h.1]
theorem spillN_o {k j : Nat} (h : k ≠ 18 ∧ (k = 0 → j ≠ 28)) : ∀ (n : Nat) (V : zS), spillN n V k j = V k j
  | 0, _ => rfl
  | n + 1, V => by
    show spillN n (mSpill1 V) k j = V k j
    rw [spillN_o h n, mSpill1_o h]
theorem spillN_all : ∀ (n : Nat) (V : zS), QI V → n ≤ V 0 23 - V 0 28 → QI (spillN n V) ∧ (BV V → BV (spillN n V)) ∧ spillN n V 0 28 = V 0 28 + n ∧ ∀ e, spillN n V 18 e = V 18 e ∨ (spillN n V 18 e = 3 ∧ V 18 e = 2)
  | 0, V, hq, _ => ⟨hq, fun h => h, rfl, fun _ => Or.inl rfl⟩
  | n + 1, V, hq, hn => by
    have hl : V 0 28 < V 0 23 := by omega
    have e23 : mSpill1 V 0 23 = V 0 23 := mSpill1_o (by decide)
    have e28 : mSpill1 V 0 28 = V 0 28 + 1 := by simp [mSpill1, vs]
    have e18 : ∀ i, mSpill1 V 18 i = if i = V 22 (V 0 28) then 3 else V 18 i := fun i => by simp [mSpill1, vs]
    have h2 : V 18 (V 22 (V 0 28)) = 2 := by rw [(hq.2.2.1 _ hl).2.2, if_neg (by omega)]
    obtain ⟨a1, a2, a3, a4⟩ := spillN_all n (mSpill1 V) (QI_spill hq hl) (by omega)
    have h100 := hq.2.1
    refine ⟨a1, fun h => a2 (BV_spill1 h (by omega)), ?_, fun e => ?_⟩
    · show spillN n (mSpill1 V) 0 28 = _
      omega
    · show spillN n (mSpill1 V) 18 e = _ ∨ (spillN n (mSpill1 V) 18 e = 3 ∧ _)
      have := a4 e
      rw [e18] at this
      by_cases q : e = V 22 (V 0 28)
      · rw [if_pos q] at this
        subst q
        rcases this with z | z
        · exact Or.inr ⟨z, h2⟩
        · omega
      · rw [if_neg q] at this; exact this
theorem mSpills_o {V : zS} {k j : Nat} (h : k ≠ 18 ∧ (k = 0 → j ≠ 28)) : mSpills V k j = V k j := spillN_o h _ V
theorem mSpills_all {V : zS} (hq : QI V) : QI (mSpills V) ∧ (BV V → BV (mSpills V)) ∧ ∀ e, mSpills V 18 e = V 18 e ∨ (mSpills V 18 e = 3 ∧ V 18 e = 2) := by
  obtain ⟨a1, a2, -, a4⟩ := spillN_all (V 0 23 - V 0 28 - V 0 8) V hq (by omega)
  exact ⟨a1, a2, a4⟩
theorem QI_18 {V : zS} (h : QI V) {e x : Nat} (he : V 18 e < 2) (hx : x < 2) : QI (vs V 18 e x) := by
  obtain ⟨q1, q2, q3, q4⟩ := h
  have o : ∀ k j, k ≠ 18 → vs V 18 e x k j = V k j := fun k j hk => vs_k V hk
  have hne : ∀ i, i < V 0 23 → V 22 i ≠ e := by
    intro i hi z
    have := (q3 i hi).2.2
    rw [z] at this
    split at this <;> omega
  refine ⟨by rw [o 0 28 (by decide), o 0 23 (by decide)]; exact q1, by rw [o 0 23 (by decide)]; exact q2, fun i hi => ?_, fun a ha hp => ?_⟩
  · rw [o 0 23 (by decide)] at hi
    rw [o 22 _ (by decide), o 19 _ (by decide), o 0 28 (by decide), vs_at, if_neg (hne i hi)]
    exact q3 i hi
  · rw [vs_at] at hp
    rw [o 0 23 (by decide)]
    by_cases q : a = e
    · rw [if_pos q] at hp; omega
    · rw [if_neg q] at hp
      obtain ⟨i, hi, hz⟩ := q4 a ha hp
      exact ⟨i, hi, by rw [o 22 _ (by decide)]; exact hz⟩
theorem GI_o {V W : zS} (h : GI V) (h1 : W 0 26 = V 0 26) (h2 : ∀ i, W 21 i = V 21 i) (h3 : ∀ p, W 20 p = V 20 p) : GI W := by
  unfold GI
  simp only [h1, h2, h3]
  exact h
/-- the pairs of a row -/
theorem fnd_all (t r : Nat) (ht : t < 2) (hr : r < 50) : ∀ (n i : Nat) (V : zS), i + n ≤ V 0 23 → QI V → GI V → FI V t r i →
    GI (fnd t r n i V) ∧ (BV V → BV (fnd t r n i V)) ∧ V 0 26 ≤ fnd t r n i V 0 26 ∧ (∀ p, fnd t r n i V 20 p = V 20 p ∨ (fnd t r n i V 20 p = 1 ∧ ∃ j, i ≤ j ∧ j < i + n ∧ V 22 j / 50 = 1 - t ∧ p = 50 * fa t r (V 22 j % 50) + fb t r (V 22 j % 50)))
  | 0, i, V, _, _, hg, _ => ⟨hg, fun h => h, Nat.le_refl _, fun _ => Or.inl rfl⟩
  | n + 1, i, V, hn, hq, hg, hF => by
    by_cases c : V 22 i / 50 = 1 - t ∧ alikeB V (fa t r (V 22 i % 50)) (fb t r (V 22 i % 50)) = true
    · have e : fnd t r (n + 1) i V = fnd t r n (i + 1) (mGive V (fa t r (V 22 i % 50)) (fb t r (V 22 i % 50))) := by rw [fnd, if_pos c]
      have hi : i < V 0 23 := by omega
      have hab := fab_lt (t := t) (x := V 22 i % 50) hr (by omega)
      have hz := hF i (Nat.le_refl _) hi c.1
      have hlt := GI_lt hg hab.1 hz
      have e23 : mGive V (fa t r (V 22 i % 50)) (fb t r (V 22 i % 50)) 0 23 = V 0 23 := mGive_o (by unfold gfree; omega)
      have e22 : ∀ j, mGive V (fa t r (V 22 i % 50)) (fb t r (V 22 i % 50)) 22 j = V 22 j := fun j => mGive_o (by unfold gfree; omega)
      have e26 : mGive V (fa t r (V 22 i % 50)) (fb t r (V 22 i % 50)) 0 26 = V 0 26 + 1 := by simp [mGive, vs]
      have e20 : ∀ p, mGive V (fa t r (V 22 i % 50)) (fb t r (V 22 i % 50)) 20 p = if p = 50 * fa t r (V 22 i % 50) + fb t r (V 22 i % 50) then 1 else V 20 p := fun p => by simp [mGive, vs]
      obtain ⟨a1, a2, a3, a4⟩ := fnd_all t r ht hr n (i + 1) _ (by omega) (QI_give hq) (GI_give hg hab.1 hz) (FI_give hq ht hr hi c.1 hF)
      rw [e]
      refine ⟨a1, fun h => a2 (BV_give h hab.1 hlt), by omega, fun p => ?_⟩
      rcases a4 p with z | ⟨z, j, z1, z2, z3, z4⟩
      · rw [z, e20]
        by_cases q : p = 50 * fa t r (V 22 i % 50) + fb t r (V 22 i % 50)
        · rw [if_pos q]; exact Or.inr ⟨rfl, i, Nat.le_refl _, by omega, c.1, q⟩
        · rw [if_neg q]; exact Or.inl rfl
      · rw [e22] at z3 z4
        exact Or.inr ⟨z, j, by omega, by omega, z3, z4⟩
    · have e : fnd t r (n + 1) i V = fnd t r n (i + 1) V := by rw [fnd, if_neg c]
      obtain ⟨a1, a2, a3, a4⟩ := fnd_all t r ht hr n (i + 1) V (by omega) hq hg (FI_mono hF (by omega))
      rw [e]
      refine ⟨a1, a2, a3, fun p => ?_⟩
      rcases a4 p with z | ⟨z, j, z1, z2, z3, z4⟩
      · exact Or.inl z
      · exact Or.inr ⟨z, j, by omega, by omega, z3, z4⟩
theorem mFinds1_o {V W : zS} {t r k j : Nat} (h : k ≠ 17 ∧ k ≠ 18 ∧ k ≠ 19 ∧ k ≠ 22 ∧ (k = 0 → j ≠ 23)) : mFinds1 V W t r k j = W k j := by
  unfold mFinds1
  by_cases hk : k = 0
  · subst hk; rw [vs_k _ (by decide), vs_i _ (h.2.2.2.2 rfl), vs_k _ (by decide), vs_k _ (by decide), vs_k _ (by decide)]
  · rw [vs_k _ h.2.2.2.1, vs_k _ hk, vs_k _ h.2.2.1, vs_k _ h.2.1, vs_k _ h.1]
theorem mFinds_o {V : zS} {t r k j : Nat} (h : k ≠ 17 ∧ k ≠ 18 ∧ k ≠ 19 ∧ k ≠ 22 ∧ k ≠ 20 ∧ k ≠ 21 ∧ (k = 0 → j ≠ 23 ∧ j ≠ 26 ∧ j ≠ 28)) : mFinds V t r k j = V k j := by
  unfold mFinds
  rw [mSpills_o ⟨h.2.1, fun z => (h.2.2.2.2.2.2 z).2.2⟩, mFinds1_o ⟨h.1, h.2.1, h.2.2.1, h.2.2.2.1, fun z => (h.2.2.2.2.2.2 z).1⟩]
  unfold mFinds0
  exact fnd_o ⟨h.2.2.2.2.1, h.2.2.2.2.2.1, fun z => (h.2.2.2.2.2.2 z).2.1⟩ _ _ _
/-- what finding does, in all -/
theorem mFinds_all {V : zS} {t r : Nat} (ht : t < 2) (hr : r < 50) (hq : QI V) (hg : GI V) (hF : FI V t r (V 0 28)) (h1 : V 18 (50 * t + r) < 2) (hc : V 0 23 < 100) :
    QI (mFinds V t r) ∧ GI (mFinds V t r) ∧ (BV V → V 17 t ≤ 2500 → BV (mFinds V t r)) ∧ V 0 26 ≤ mFinds0 V t r 0 26 ∧ mFinds V t r 0 26 = mFinds0 V t r 0 26 ∧ mFinds V t r 0 23 = V 0 23 + 1 ∧
    (∀ x, mFinds V t r 17 x = if x = t then V 17 t + (mFinds0 V t r 0 26 - V 0 26) else V 17 x) ∧
    (∀ e, (mFinds V t r 18 e = (if e = 50 * t + r then 2 else V 18 e)) ∨ (mFinds V t r 18 e = 3 ∧ (if e = 50 * t + r then 2 else V 18 e) = 2)) ∧
    (∀ p, mFinds V t r 20 p = V 20 p ∨ (mFinds V t r 20 p = 1 ∧ ∃ x, x < 50 ∧ V 18 (50 * (1 - t) + x) = 2 ∧ p = 50 * fa t r x + fb t r x)) := by
  obtain ⟨a1, a2, a3, a4⟩ := fnd_all t r ht hr (V 0 23 - V 0 28) (V 0 28) V (by have := hq.1; omega) hq hg hF
  have u : ∀ k j, gfree k j → mFinds0 V t r k j = V k j := fun k j z => fnd_o z _ _ _
  have u23 : mFinds0 V t r 0 23 = V 0 23 := u 0 23 (by unfold gfree; omega)
  have u28 : mFinds0 V t r 0 28 = V 0 28 := u 0 28 (by unfold gfree; omega)
  have u18 : ∀ j, mFinds0 V t r 18 j = V 18 j := fun j => u 18 j (by unfold gfree; omega)
  have u17 : ∀ j, mFinds0 V t r 17 j = V 17 j := fun j => u 17 j (by unfold gfree; omega)
  have u19 : ∀ j, mFinds0 V t r 19 j = V 19 j := fun j => u 19 j (by unfold gfree; omega)
  have u22 : ∀ j, mFinds0 V t r 22 j = V 22 j := fun j => u 22 j (by unfold gfree; omega)
  have hqW : QI (mFinds0 V t r) := by
    unfold QI
    simp only [u23, u28, u18, u19, u22]
    exact hq
  have hgW : GI (mFinds0 V t r) := a1
  have g26 := GI_le hgW
  have hQ2 := QI_new hqW ht hr (by rw [u18]; exact h1) (by omega) (mFinds0 V t r 17 t + (mFinds0 V t r 0 26 - V 0 26))
  obtain ⟨b1, b2, b3⟩ := mSpills_all hQ2
  have z26 : mFinds V t r 0 26 = mFinds0 V t r 0 26 := by
    unfold mFinds
    rw [mSpills_o (by decide), mFinds1_o (by decide)]
  have z23 : mFinds V t r 0 23 = V 0 23 + 1 := by
    unfold mFinds
    rw [mSpills_o (by decide), ← u23]
    simp [mFinds1, vs]
  have z20 : ∀ p, mFinds V t r 20 p = mFinds0 V t r 20 p := fun p => by
    unfold mFinds
    rw [mSpills_o (by omega), mFinds1_o (by omega)]
  have z21 : ∀ p, mFinds V t r 21 p = mFinds0 V t r 21 p := fun p => by
    unfold mFinds
    rw [mSpills_o (by omega), mFinds1_o (by omega)]
  refine ⟨b1, GI_o hgW z26 z21 z20, fun hV h17 => b2 ?_, a3, z26, z23, fun x => ?_, fun e => ?_, fun p => ?_⟩
  · have hVW := a2 hV
    exact ((((hVW.up (by rw [u17]; omega)).up (by decide)).up (by omega)).up (by omega)).up (by omega)
  · unfold mFinds
    rw [mSpills_o (by omega)]
    unfold mFinds1
    rw [vs_k _ (by decide), vs_k _ (by decide), vs_k _ (by decide), vs_k _ (by decide), vs_at, u17, u17]
  · have := b3 e
    have e18 : ∀ e, (vs (vs (vs (vs (vs (mFinds0 V t r) 17 t (mFinds0 V t r 17 t + (mFinds0 V t r 0 26 - V 0 26))) 18 (50 * t + r) 2) 19 (50 * t + r) (mFinds0 V t r 0 23)) 0 23 (mFinds0 V t r 0 23 + 1)) 22 (mFinds0 V t r 0 23) (50 * t + r)) 18 e = if e = 50 * t + r then 2 else V 18 e := by
      intro e
      rw [vs_k _ (by decide), vs_k _ (by decide), vs_k _ (by decide), vs_at, vs_k _ (by decide), u18]
    rw [e18] at this
    exact this
  · rw [z20]
    rcases a4 p with z | ⟨z, j, z1, z2, z3, z4⟩
    · exact Or.inl z
    · have hj : j < V 0 23 := by have := hq.1; omega
      have k := hq.2.2.1 j hj
      refine Or.inr ⟨z, V 22 j % 50, by omega, ?_, z4⟩
      rw [show 50 * (1 - t) + V 22 j % 50 = V 22 j by omega, k.2.2, if_neg (by omega)]
/-- a row is read -/
def mR2 (V : zS) (t : Nat) : zS × Bool := tst t (V 10 t) (V 9 t) 0 (mRd1 V t)
def mR3 (V : zS) (t : Nat) : zS := vs (mR2 V t).1 18 (50 * t + V 10 t) 1
def mR4 (V : zS) (t : Nat) : zS := if (mR2 V t).2 then mFinds (mR3 V t) t (V 10 t) else mR3 V t
def mPaid (V : zS) (t : Nat) : Nat := 1 + ((mR2 V t).1 15 t - V 15 t) + (if (mR2 V t).2 then mFinds0 (mR3 V t) t (V 10 t) 0 26 - mR3 V t 0 26 else 0)
def mR5 (V : zS) (t : Nat) : zS := vs (vs (mR4 V t) 0 27 (mR4 V t 0 27 + mPaid V t)) 16 t (mR4 V t 16 t + mPaid V t)
noncomputable def mReads (V : zS) (t : Nat) : zS := if mR5 V t 10 t % 4 = 0 then mTurns (mR5 V t) t else mR5 V t
theorem tst_b {t r : Nat} (ht : t < 2) : ∀ (n k : Nat) (V : zS), k + n ≤ 4 → (∀ j, j < 8 → V 7 j ≤ 50 ∧ V 11 j < 4) → ∀ b, (V 13 b ≤ (tst t r n k V).1 13 b ∧ (tst t r n k V).1 13 b ≤ V 13 b + n ∧ V 14 b ≤ (tst t r n k V).1 14 b ∧ (tst t r n k V).1 14 b ≤ V 14 b + n) ∧ ((b < 4 * t ∨ 4 * t + 4 ≤ b) → (tst t r n k V).1 13 b = V 13 b ∧ (tst t r n k V).1 14 b = V 14 b) ∧ (b ≠ t → (tst t r n k V).1 15 b = V 15 b) ∧ V 15 t ≤ (tst t r n k V).1 15 t ∧ (tst t r n k V).1 15 t ≤ V 15 t + 50 * n
  | 0, k, V, _, _, b => by simp [tst]
  | n + 1, k, V, hn, h8, b => by
    have hx := (h8 (4 * t + k) (by omega)).2
    have hp := (h8 (4 * t + V 11 (4 * t + k)) (by omega)).1
    have e13 : ∀ b, mT1 V t k 13 b = if b = 4 * t + V 11 (4 * t + k) then V 13 (4 * t + V 11 (4 * t + k)) + 1 else V 13 b := fun b => by simp [mT1, vs]
    have e15 : ∀ b, mT1 V t k 15 b = if b = t then V 15 t + V 7 (4 * t + V 11 (4 * t + k)) else V 15 b := fun b => by simp [mT1, vs]
    have e14 : ∀ b, mT1 V t k 14 b = V 14 b := fun b => mT1_o (by decide)
    have k13 : V 13 b ≤ mT1 V t k 13 b ∧ mT1 V t k 13 b ≤ V 13 b + 1 ∧ ((b < 4 * t ∨ 4 * t + 4 ≤ b) → mT1 V t k 13 b = V 13 b) := by
      rw [e13]
      split
      · rename_i q; subst q; omega
      · omega
    have k15 : mT1 V t k 15 t = V 15 t + V 7 (4 * t + V 11 (4 * t + k)) := by rw [e15, if_pos rfl]
    by_cases c : passB V t r (V 11 (4 * t + k)) = true
    · rw [tst_t c]
      have ih := tst_b (r := r) ht n (k + 1) (mT1 V t k) (by omega) (fun j hj => by rw [mT1_o (by decide), mT1_o (by decide)]; exact h8 j hj) b
      rw [e14] at ih
      obtain ⟨⟨i1, i2, i3, i4⟩, i5, i6, i7, i8⟩ := ih
      refine ⟨⟨by omega, by omega, by omega, by omega⟩, fun z => ⟨by rw [(i5 z).1]; exact k13.2.2 z, (i5 z).2⟩, fun z => ?_, by omega, by omega⟩
      rw [i6 z, e15, if_neg z]
    · rw [tst_f c]
      have f14 : ∀ b, mTf (mT1 V t k) t k 14 b = if b = 4 * t + V 11 (4 * t + k) then V 14 (4 * t + V 11 (4 * t + k)) + 1 else V 14 b := by
        intro b
        unfold mTf
        rw [vs_at, mT1_o (a := 11) (by decide), mT1_o (a := 14) (by decide), mT1_o (a := 14) (by decide)]
      have f13 : mTf (mT1 V t k) t k 13 b = mT1 V t k 13 b := mTf_o (by decide)
      have f15 : ∀ b, mTf (mT1 V t k) t k 15 b = mT1 V t k 15 b := fun b => mTf_o (by decide)
      have k14 : V 14 b ≤ mTf (mT1 V t k) t k 14 b ∧ mTf (mT1 V t k) t k 14 b ≤ V 14 b + 1 ∧ ((b < 4 * t ∨ 4 * t + 4 ≤ b) → mTf (mT1 V t k) t k 14 b = V 14 b) := by
        rw [f14]
        split
        · rename_i q; subst q; omega
        · omega
      show (_ ≤ mTf (mT1 V t k) t k 13 b ∧ _) ∧ _
      refine ⟨⟨by rw [f13]; omega, by show mTf (mT1 V t k) t k 13 b ≤ _; rw [f13]; omega, by show _ ≤ mTf (mT1 V t k) t k 14 b; omega, by show mTf (mT1 V t k) t k 14 b ≤ _; omega⟩, fun z => ⟨by show mTf (mT1 V t k) t k 13 b = _; rw [f13]; exact k13.2.2 z, k14.2.2 z⟩, fun z => ?_, ?_, ?_⟩
      · show mTf (mT1 V t k) t k 15 b = _
        rw [f15, e15, if_neg z]
      · show _ ≤ mTf (mT1 V t k) t k 15 t
        rw [f15]; omega
      · show mTf (mT1 V t k) t k 15 t ≤ _
        rw [f15]; omega

