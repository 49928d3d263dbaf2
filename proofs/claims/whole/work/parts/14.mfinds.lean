def alikeB (V : zS) (a b : Nat) : Bool := decide (V 2 (3 * (50 * 0 + a) + V 8 0) = V 2 (3 * (50 * 1 + b) + V 8 1))
theorem alikeB_iff {V : zS} {a b : Nat} : alikeB V a b = true ↔ alike V a b := by unfold alikeB alike; exact decide_eq_true_iff
def fa (t r x : Nat) : Nat := if t = 0 then r else x
def fb (t r x : Nat) : Nat := if t = 0 then x else r
/-- reading row r of table t gives pairs with the rows that came i, i + 1, .. -/
def fnd (t r : Nat) : Nat → Nat → zS → zS
  | 0, _, V => V
  | n + 1, i, V => fnd t r n (i + 1) (if V 22 i / 50 = 1 - t ∧ alikeB V (fa t r (V 22 i % 50)) (fb t r (V 22 i % 50)) = true then mGive V (fa t r (V 22 i % 50)) (fb t r (V 22 i % 50)) else V)
theorem fnd_add (t r : Nat) : ∀ (n m i : Nat) (V : zS), fnd t r (n + m) i V = fnd t r m (i + n) (fnd t r n i V)
  | 0, m, i, V => by rw [Nat.zero_add]; rfl
  | n + 1, m, i, V => by
    rw [show n + 1 + m = (n + m) + 1 by omega]
    show fnd t r (n + m) (i + 1) _ = fnd t r m (i + (n + 1)) (fnd t r n (i + 1) _)
    rw [fnd_add t r n m (i + 1), show i + (n + 1) = i + 1 + n by omega]
theorem fnd_skip (t r : Nat) : ∀ (n i : Nat) (V : zS), (∀ j, i ≤ j → j < i + n → V 22 j / 50 ≠ 1 - t) → fnd t r n i V = V
  | 0, _, _, _ => rfl
  | n + 1, i, V, h => by
    show fnd t r n (i + 1) _ = V
    rw [if_neg (fun z => h i (Nat.le_refl _) (by omega) z.1)]
    exact fnd_skip t r n (i + 1) V (fun j h1 h2 => h j (by omega) (by omega))
/-- what giving leaves as it was -/
def gfree (k j : Nat) : Prop := k ≠ 20 ∧ k ≠ 21 ∧ (k = 0 → j ≠ 26)
theorem mGive_o {V : zS} {a b k j : Nat} (h : gfree k j) : mGive V a b k j = V k j := by
  unfold mGive
  by_cases hk : k = 0
  · subst hk
    rw [vs_i _ (h.2.2 rfl), vs_k _ (by decide), vs_k _ (by decide)]
  · rw [vs_k _ hk, vs_k _ h.2.1, vs_k _ h.1]
theorem fnd_o {t r : Nat} {k j : Nat} (h : gfree k j) : ∀ (n i : Nat) (V : zS), fnd t r n i V k j = V k j
  | 0, _, _ => rfl
  | n + 1, i, V => by
    show fnd t r n (i + 1) _ k j = V k j
    rw [fnd_o h n (i + 1)]
    split
    · exact mGive_o h
    · rfl
theorem gf (k j : Nat) (h : gfree k j) : gfree k j := h
/-- what was given: the list and its marks -/
def GI (V : zS) : Prop := (∀ i, i < V 0 26 → V 21 i < 2500 ∧ V 20 (V 21 i) = 1) ∧ (∀ i j, i < V 0 26 → j < V 0 26 → V 21 i = V 21 j → i = j) ∧ ∀ p, p < 2500 → V 20 p ≠ 0 → ∃ i, i < V 0 26 ∧ V 21 i = p
theorem pigeon : ∀ (m n : Nat) (f : Nat → Nat), (∀ i, i < n → f i < m) → (∀ i j, i < n → j < n → f i = f j → i = j) → n ≤ m
  | 0, n, f, h, _ => by
    rcases Nat.eq_zero_or_pos n with q | q
    · omega
    · exact absurd (h 0 q) (Nat.not_lt_zero _)
  | m + 1, n, f, h, inj => by
    cases n with
    | zero => omega
    | succ n =>
      have := pigeon m n (fun i => if f i = m then f n else f i) (by
        intro i hi
        show (if f i = m then f n else f i) < m
        have h1 := h i (by omega)
        have h2 := h n (by omega)
        by_cases q : f i = m
        · rw [if_pos q]
          have : f n ≠ m := fun z => by have := inj i n (by omega) (by omega) (by omega); omega
          omega
        · rw [if_neg q]; omega) (by
        intro i j hi hj e
        have e : (if f i = m then f n else f i) = (if f j = m then f n else f j) := e
        by_cases q1 : f i = m <;> by_cases q2 : f j = m
        · exact inj i j (by omega) (by omega) (by omega)
        · rw [if_pos q1, if_neg q2] at e
          have := inj n j (by omega) (by omega) e
          omega
        · rw [if_neg q1, if_pos q2] at e
          have := inj i n (by omega) (by omega) e
          omega
        · rw [if_neg q1, if_neg q2] at e
          exact inj i j (by omega) (by omega) e)
      omega
theorem GI_le {V : zS} (h : GI V) : V 0 26 ≤ 2500 := pigeon 2500 (V 0 26) (V 21) (fun i hi => (h.1 i hi).1) h.2.1
theorem GI_lt {V : zS} (h : GI V) {p : Nat} (hp : p < 2500) (h0 : V 20 p = 0) : V 0 26 < 2500 := by
  have := pigeon 2500 (V 0 26 + 1) (fun i => if i < V 0 26 then V 21 i else p) (by
    intro i hi
    show (if i < V 0 26 then V 21 i else p) < 2500
    split
    · exact (h.1 i ‹_›).1
    · exact hp) (by
    intro i j hi hj e
    have e : (if i < V 0 26 then V 21 i else p) = (if j < V 0 26 then V 21 j else p) := e
    by_cases q1 : i < V 0 26 <;> by_cases q2 : j < V 0 26
    · rw [if_pos q1, if_pos q2] at e; exact h.2.1 i j q1 q2 e
    · rw [if_pos q1, if_neg q2] at e
      have := (h.1 i q1).2; rw [e, h0] at this; omega
    · rw [if_neg q1, if_pos q2] at e
      have := (h.1 j q2).2; rw [← e, h0] at this; omega
    · omega)
  omega
theorem GI_give {V : zS} (h : GI V) {a b : Nat} (hp : 50 * a + b < 2500) (h0 : V 20 (50 * a + b) = 0) : GI (mGive V a b) := by
  have e26 : mGive V a b 0 26 = V 0 26 + 1 := by simp [mGive, vs]
  have e21 : ∀ i, mGive V a b 21 i = if i = V 0 26 then 50 * a + b else V 21 i := fun i => by simp [mGive, vs]
  have e20 : ∀ i, mGive V a b 20 i = if i = 50 * a + b then 1 else V 20 i := fun i => by simp [mGive, vs]
  obtain ⟨h1, h2, h3⟩ := h
  refine ⟨fun i hi => ?_, fun i j hi hj e => ?_, fun p hp2 hq => ?_⟩
  · rw [e26] at hi
    rw [e21, e20]
    by_cases q : i = V 0 26
    · rw [if_pos q, if_pos rfl]; exact ⟨hp, rfl⟩
    · rw [if_neg q]
      have k := h1 i (by omega)
      refine ⟨k.1, ?_⟩
      rw [if_neg (fun z => by rw [z, h0] at k; omega)]
      exact k.2
  · rw [e26] at hi hj
    rw [e21, e21] at e
    by_cases q1 : i = V 0 26 <;> by_cases q2 : j = V 0 26
    · omega
    · rw [if_pos q1, if_neg q2] at e
      have := (h1 j (by omega)).2; rw [← e, h0] at this; omega
    · rw [if_neg q1, if_pos q2] at e
      have := (h1 i (by omega)).2; rw [e, h0] at this; omega
    · rw [if_neg q1, if_neg q2] at e
      exact h2 i j (by omega) (by omega) e
  · rw [e20] at hq
    by_cases q : p = 50 * a + b
    · exact ⟨V 0 26, by omega, by rw [e21, if_pos rfl]; exact q.symm⟩
    · rw [if_neg q] at hq
      obtain ⟨i, hi, he⟩ := h3 p hp2 hq
      exact ⟨i, by omega, by rw [e21, if_neg (by omega)]; exact he⟩
theorem BV_give {V : zS} (hV : BV V) {a b : Nat} (hp : 50 * a + b < 2500) (hg : V 0 26 < 2500) : BV (mGive V a b) := ((hV.up (by decide)).up (by omega)).up (by omega)
/-- the pairs to come aren't given yet -/
def FI (V : zS) (t r i : Nat) : Prop := ∀ j, i ≤ j → j < V 0 23 → V 22 j / 50 = 1 - t → V 20 (50 * fa t r (V 22 j % 50) + fb t r (V 22 j % 50)) = 0
theorem fab_inj {t r x y : Nat} (hr : r < 50) (hx : x < 50) (hy : y < 50) (e : 50 * fa t r x + fb t r x = 50 * fa t r y + fb t r y) : x = y := by
  unfold fa fb at e
  by_cases q : t = 0
  · simp only [q, if_true] at e; omega
  · simp only [q, if_false] at e; omega
theorem fab_lt {t r x : Nat} (hr : r < 50) (hx : x < 50) : 50 * fa t r x + fb t r x < 2500 ∧ fa t r x < 50 ∧ fb t r x < 50 := by
  unfold fa fb
  by_cases q : t = 0
  · simp only [q, if_true]; omega
  · simp only [q, if_false]; omega
theorem FI_give {V : zS} {t r i : Nat} (hq : QI V) (ht : t < 2) (hr : r < 50) (hi : i < V 0 23) (h5 : V 22 i / 50 = 1 - t) (h : FI V t r i) : FI (mGive V (fa t r (V 22 i % 50)) (fb t r (V 22 i % 50))) t r (i + 1) := by
  intro j h1 h2
  rw [mGive_o (by unfold gfree; omega)] at h2 ⊢
  intro h3
  have e20 : ∀ p, mGive V (fa t r (V 22 i % 50)) (fb t r (V 22 i % 50)) 20 p = if p = 50 * fa t r (V 22 i % 50) + fb t r (V 22 i % 50) then 1 else V 20 p := fun p => by simp [mGive, vs]
  rw [e20, if_neg]
  · exact h j (by omega) h2 h3
  · intro z
    have := fab_inj hr (by omega) (by omega) z
    have k : V 22 j = V 22 i := by omega
    have := QI_inj hq h2 hi k
    omega
theorem FI_mono {V : zS} {t r i j : Nat} (h : FI V t r i) (hij : i ≤ j) : FI V t r j := fun k h1 h2 => h k (by omega) h2
theorem QI_give {V : zS} {a b : Nat} (h : QI V) : QI (mGive V a b) := QI_o (QI_o (QI_o h (Or.inr (by decide))) (Or.inr (by decide))) (Or.inl (by decide))
/-- rows that are read are rows -/
def PI (V : zS) : Prop := ∀ t r, t < 2 → r < 50 → V 18 (50 * t + r) ≠ 0 → r < V 1 t
def mFinds0 (V : zS) (t r : Nat) : zS := fnd t r (V 0 23 - V 0 28) (V 0 28) V
def mFinds1 (V W : zS) (t r : Nat) : zS := vs (vs (vs (vs (vs W 17 t (W 17 t + (W 0 26 - V 0 26))) 18 (50 * t + r) 2) 19 (50 * t + r) (W 0 23)) 0 23 (W 0 23 + 1)) 22 (W 0 23) (50 * t + r)
def mFinds (V : zS) (t r : Nat) : zS := mSpills (mFinds1 V (mFinds0 V t r) t r)

set_option maxRecDepth 100000 in
set_option maxHeartbeats 4000000 in
theorem m_finds_n (V0 : zS) (t r : Nat) (Q : Option Value → zh → Prop) (ht : t < 2) (b : Nat) (V : zS) (hV : BV V) (hrw : V 1 (1 - t) ≤ 50) (hb : b < 2 ^ 30)
    (K : ∀ m, NX V (1 - t) b (V 1 (1 - t)) m → Wp mX5_finds Q 16 [.ref 0, .int (nI t), .int (nI r), .int (nI (V 0 26 - V0 0 26)), .int (zo b), .int (zo m), .null, .null] [] (hM V)) :
    Wp mX5_finds Q 84 [.ref 0, .int (nI t), .int (nI r), .int (nI (V 0 26 - V0 0 26)), .int (zo b), .null, .null, .null] [] (hM V) := by
  refine Wp.aload_n (pc2 := 85) dX5_finds_84 rfl rfl ?_
  refine Wp.iconN (pc2 := 86) 1 dX5_finds_85 rfl ?_
  refine Wp.iload_n (pc2 := 87) dX5_finds_86 rfl rfl ?_
  refine Wp.isubN (pc2 := 88) dX5_finds_87 rfl (by omega) ?_
  refine Wp.iload (pc2 := 90) dX5_finds_88 rfl rfl ?_
  refine Wp.callV (pc2 := 93) kX5_finds_145 vX5_nextIn (m_nextIn V (1 - t) b hV (by omega) hrw hb) dX5_finds_90 rfl rfl rfl rfl rfl (Nat.le_of_ble_eq_true rfl) ?_
  rintro _ _ ⟨⟨m, rfl, h⟩, rfl⟩
  refine Wp.istore (pc2 := 95) dX5_finds_93 rfl (by decide) rfl ?_
  refine Wp.goto (pc2 := 16) dX5_finds_95 (by decide) ?_
  exact K m h

set_option maxRecDepth 100000 in
set_option maxHeartbeats 4000000 in
theorem m_finds_l (V0 : zS) (t r : Nat) (Q : Option Value → zh → Prop) (ht : t < 2) (hr : r < 50) (hj0 : V0 8 0 < 3) (hj1 : V0 8 1 < 3) (hrw : V0 1 (1 - t) ≤ 50) (hPI : PI V0)
    (K : ∀ W, W = mFinds0 V0 t r → QI W → BV W → GI W → Wp mX5_finds Q 98 [.ref 0, .int (nI t), .int (nI r), .int (nI (W 0 26 - V0 0 26)), .null, .null, .null, .null] [] (hM W)) :
    ∀ (n cur b m : Nat) (V : zS), V 0 23 < cur + n → QI V → BV V → GI V → FI V t r cur → V = fnd t r (cur - V0 0 28) (V0 0 28) V0 → V0 0 28 ≤ cur → cur ≤ V 0 23 → b ≤ cur → (∀ i, i < V 0 23 → b ≤ i → V0 0 28 ≤ i → cur ≤ i) → V0 0 26 ≤ V 0 26 → NX V (1 - t) b (V 1 (1 - t)) m →
      Wp mX5_finds Q 16 [.ref 0, .int (nI t), .int (nI r), .int (nI (V 0 26 - V0 0 26)), .int (zo b), .int (zo m), .null, .null] [] (hM V) := by
  intro n
  induction n with
  | zero => intro cur b m V h1 h2 h3 h4 h5 h6 h7 h8; omega
  | succ n ih =>
    intro cur b m V hn hq hV hg hF hE hs hc hbc hbi hgm hNX
    have u : ∀ k j, gfree k j → V k j = V0 k j := fun k j z => by rw [hE]; exact fnd_o z _ _ _
    have u23 : V 0 23 = V0 0 23 := u 0 23 (by unfold gfree; omega)
    have u28 : V 0 28 = V0 0 28 := u 0 28 (by unfold gfree; omega)
    have u1 : V 1 (1 - t) = V0 1 (1 - t) := u 1 _ (by unfold gfree; omega)
    have u80 : V 8 0 = V0 8 0 := u 8 0 (by unfold gfree; omega)
    have u81 : V 8 1 = V0 8 1 := u 8 1 (by unfold gfree; omega)
    have u18 : ∀ j, V 18 j = V0 18 j := fun j => u 18 j (by unfold gfree; omega)
    have h100 := hq.2.1
    have hm30 : m < 2 ^ 30 := by
      rcases hNX with ⟨e, -⟩ | ⟨q, e, e2, -⟩ <;> omega
    have other : ∀ j, cur ≤ j → j < V 0 23 → V 22 j / 50 = 1 - t → V 22 j = 50 * (1 - t) + V 22 j % 50 ∧ V 22 j % 50 < V 1 (1 - t) ∧ inP V (1 - t) b (V 22 j % 50) ∧ V 19 (50 * (1 - t) + V 22 j % 50) = j := by
      intro j h1 h2 h3
      have k := hq.2.2.1 j h2
      have e : V 22 j = 50 * (1 - t) + V 22 j % 50 := by omega
      have k2 : V 18 (50 * (1 - t) + V 22 j % 50) = 2 := by rw [← e, k.2.2, if_neg (by omega)]
      have k3 : V 19 (50 * (1 - t) + V 22 j % 50) = j := by rw [← e]; exact k.2.1
      refine ⟨e, ?_, ⟨k2, by omega⟩, k3⟩
      rw [u1]
      exact hPI (1 - t) _ (by omega) (by omega) (by rw [← u18, k2]; decide)
    refine Wp.iload (pc2 := 18) dX5_finds_16 rfl rfl ?_
    refine Wp.icon (pc2 := 19) dX5_finds_18 rfl (-1) (by decide +kernel) ?_
    refine Wp.icmp_eq (pc2 := 22) 98 dX5_finds_19 rfl (by decide)  (fun c19 => ?_) (fun c19 => ?_)
    · have em : m = 0 := (zo_m1 hm30).mp c19
      subst em
      have hno : ∀ q, q < V 1 (1 - t) → ¬ inP V (1 - t) b q := by
        rcases hNX with ⟨-, h⟩ | ⟨q, e, -⟩
        · exact h
        · omega
      have e2 : V = mFinds0 V0 t r := by
        unfold mFinds0
        rw [show V0 0 23 - V0 0 28 = (cur - V0 0 28) + (V0 0 23 - cur) by omega, fnd_add, ← hE, fnd_skip]
        intro j h1 h2 h3
        have k := other j (by omega) (by omega) h3
        exact hno _ k.2.1 k.2.2.1
      refine Wp.fg [.ref 0, .int (nI t), .int (nI r), .int (nI (V 0 26 - V0 0 26)), .null, .null, .null, .null] (And.intro (Or.inr rfl) (And.intro (Or.inr rfl) (And.intro (Or.inr rfl) (And.intro (Or.inr rfl) (And.intro (Or.inl rfl) (And.intro (Or.inl rfl) (And.intro (Or.inl rfl) (And.intro (Or.inl rfl) trivial)))))))) ?_
      exact K V e2 hq hV hg
    · obtain ⟨x, rfl⟩ : ∃ x, m = x + 1 := ⟨m - 1, by have := zo_ne hm30 c19; omega⟩
      rcases hNX with ⟨e, -⟩ | ⟨x', ex, hx, hin, hmin⟩
      · omega
      have ex2 : x' = x := by omega
      subst ex2
      have hx50 : x' < 50 := by omega
      have hxe : 50 * (1 - t) + x' < 100 := by omega
      obtain ⟨i, hi, hqi⟩ := hq.2.2.2 (50 * (1 - t) + x') hxe (by rw [hin.1]; decide)
      have ki := hq.2.2.1 i hi
      rw [hqi] at ki
      have his : V 0 28 ≤ i := by
        rcases Nat.lt_or_ge i (V 0 28) with q | q
        · have := ki.2.2; rw [if_pos q, hin.1] at this; omega
        · exact q
      have hci : cur ≤ i := hbi i hi (by have := hin.2; omega) (by omega)
      have hskip : ∀ j, cur ≤ j → j < cur + (i - cur) → V 22 j / 50 ≠ 1 - t := by
        intro j h1 h2 h3
        have k := other j h1 (by omega) h3
        have := hmin _ k.2.1 k.2.2.1
        omega
      have hq5 : V 22 i / 50 = 1 - t := by omega
      have hqm : V 22 i % 50 = x' := by omega
      have hE2 : V = fnd t r (i - V0 0 28) (V0 0 28) V0 := by
        rw [show i - V0 0 28 = (cur - V0 0 28) + (i - cur) by omega, fnd_add, ← hE, fnd_skip _ _ _ _ _ (fun j h1 h2 => hskip j (by omega) (by omega))]
      have hstep : ∀ W, (if V 22 i / 50 = 1 - t ∧ alikeB V (fa t r x') (fb t r x') = true then mGive V (fa t r x') (fb t r x') else V) = W → W = fnd t r (i + 1 - V0 0 28) (V0 0 28) V0 := by
        intro W hW
        rw [show i + 1 - V0 0 28 = (i - V0 0 28) + 1 by omega, fnd_add, ← hE2, show V0 0 28 + (i - V0 0 28) = i by omega]
        show W = fnd t r 0 (i + 1) _
        rw [hqm]
        exact hW.symm
      have hfab := fab_lt (t := t) hr hx50
      have hzero : V 20 (50 * fa t r x' + fb t r x') = 0 := by
        have := hF i hci hi hq5
        rw [hqm] at this; exact this
      have hglt := GI_lt hg hfab.1 hzero
      rw [zo_s]
      have ki2 : V 19 (50 * (1 - t) + x') = i := ki.2.1
      refine Wp.aload_n (pc2 := 23) dX5_finds_22 rfl rfl ?_
      refine Wp.getf (pc2 := 26) fX5_72 dX5_finds_23 rfl rfl rfl ?_
      refine Wp.bipN (pc2 := 28) 50 dX5_finds_26 rfl (by decide +kernel) ?_
      refine Wp.iconN (pc2 := 29) 1 dX5_finds_28 rfl ?_
      refine Wp.iload_n (pc2 := 30) dX5_finds_29 rfl rfl ?_
      refine Wp.isubN (pc2 := 31) dX5_finds_30 rfl (by omega) ?_
      refine Wp.imulN (pc2 := 32) dX5_finds_31 rfl  ?_
      refine Wp.iload (pc2 := 34) dX5_finds_32 rfl rfl ?_
      refine Wp.iaddN (pc2 := 35) dX5_finds_34 rfl  ?_
      refine Wp.ialdN (pc2 := 36) dX5_finds_35 rfl rfl (by omega) (by decide) ?_
      rw [ki2]
      refine Wp.istore (pc2 := 38) dX5_finds_36 rfl (by decide) rfl ?_
      refine Wp.iload_n (pc2 := 39) dX5_finds_38 rfl rfl ?_
      refine Wp.ifN_ne (pc2 := 42) 46 dX5_finds_39 rfl (by decide) (by omega) (fun c39 => ?_) (fun c39 => ?_)
      · refine Wp.iload (pc2 := 48) dX5_finds_46 rfl rfl ?_
        refine Wp.istore (pc2 := 50) dX5_finds_48 rfl (by decide) rfl ?_
        refine Wp.iload_n (pc2 := 51) dX5_finds_50 rfl rfl ?_
        refine Wp.ifN_ne (pc2 := 54) 59 dX5_finds_51 rfl (by decide) (by omega) (fun c51 => ?_) (fun c51 => ?_)
        · refine Wp.iload_n (pc2 := 60) dX5_finds_59 rfl rfl ?_
          refine Wp.istore (pc2 := 62) dX5_finds_60 rfl (by decide) rfl ?_
          have eA : (if t = 0 then r else x') = fa t r x' := rfl
          refine Wp.fg [.ref 0, .int (nI t), .int (nI r), .int (nI (V 0 26 - V0 0 26)), .int (nI i), .null, .int (nI (fa t r x')), .int (nI (fb t r x'))] ?_ ?_
          · first
              | (simp only [fa, fb, if_pos c39]; exact (And.intro (Or.inr rfl) (And.intro (Or.inr rfl) (And.intro (Or.inr rfl) (And.intro (Or.inr rfl) (And.intro (Or.inr rfl) (And.intro (Or.inl rfl) (And.intro (Or.inr rfl) (And.intro (Or.inr rfl) trivial)))))))))
              | (simp only [fa, fb, if_neg c39]; exact (And.intro (Or.inr rfl) (And.intro (Or.inr rfl) (And.intro (Or.inr rfl) (And.intro (Or.inr rfl) (And.intro (Or.inr rfl) (And.intro (Or.inl rfl) (And.intro (Or.inr rfl) (And.intro (Or.inr rfl) trivial)))))))))
              | exact absurd c39 c51
              | exact absurd c51 c39
          refine Wp.aload_n (pc2 := 63) dX5_finds_62 rfl rfl ?_
          refine Wp.iload (pc2 := 65) dX5_finds_63 rfl rfl ?_
          refine Wp.iload (pc2 := 67) dX5_finds_65 rfl rfl ?_
          refine Wp.callV (pc2 := 70) kX5_finds_124 vX5_isAlike (m_isAlike V (fa t r x') (fb t r x') hV hfab.2.1 hfab.2.2 (by omega) (by omega)) dX5_finds_67 rfl rfl rfl rfl rfl (Nat.le_of_ble_eq_true rfl) ?_
          rintro _ _ ⟨⟨b, rfl, hb⟩, rfl⟩
          refine Wp.ifN_eq (pc2 := 73) 84 dX5_finds_70 rfl (by decide) (zb_lt _) (fun c70 => ?_) (fun c70 => ?_)
          · first
              | (have hal : alikeB V (fa t r x') (fb t r x') = true := alikeB_iff.mpr (zby hb c70)
                 have hW := hstep _ (if_pos ⟨hq5, hal⟩)
                 have hF2 : FI (mGive V (fa t r x') (fb t r x')) t r (i + 1) := by
                   have := FI_give hq ht hr hi hq5 (FI_mono hF hci)
                   rw [hqm] at this; exact this
                 have e23 : mGive V (fa t r x') (fb t r x') 0 23 = V 0 23 := mGive_o (by unfold gfree; omega)
                 have e1 : mGive V (fa t r x') (fb t r x') 1 (1 - t) = V 1 (1 - t) := mGive_o (by unfold gfree; omega)
                 have e26 : mGive V (fa t r x') (fb t r x') 0 26 = V 0 26 + 1 := by simp [mGive, vs]
                 refine Wp.fg [.ref 0, .int (nI t), .int (nI r), .int (nI (V 0 26 - V0 0 26 + 1)), .int (nI i), .null, .null, .null] (And.intro (Or.inr rfl) (And.intro (Or.inr rfl) (And.intro (Or.inr rfl) (And.intro (Or.inr rfl) (And.intro (Or.inr rfl) (And.intro (Or.inl rfl) (And.intro (Or.inl rfl) (And.intro (Or.inl rfl) trivial)))))))) ?_
                 rw [show V 0 26 - V0 0 26 + 1 = mGive V (fa t r x') (fb t r x') 0 26 - V0 0 26 by omega, ← zo_s i]
                 exact m_finds_n V0 t r Q ht (i + 1) _ (BV_give hV hfab.1 hglt) (by rw [e1, u1]; exact hrw) (by omega) (fun m h => ih (i + 1) (i + 1) m _ (by omega) (QI_give hq) (BV_give hV hfab.1 hglt) (GI_give hg hfab.1 hzero) hF2 hW (by omega) (by omega) (Nat.le_refl _) (fun j _ h _ => h) (by omega) h))
              | (have hal : ¬ (V 22 i / 50 = 1 - t ∧ alikeB V (fa t r x') (fb t r x') = true) := fun z => zbn hb c70 (alikeB_iff.mp z.2)
                 have hW := hstep _ (if_neg hal)
                 refine Wp.fg [.ref 0, .int (nI t), .int (nI r), .int (nI (V 0 26 - V0 0 26)), .int (nI i), .null, .null, .null] (And.intro (Or.inr rfl) (And.intro (Or.inr rfl) (And.intro (Or.inr rfl) (And.intro (Or.inr rfl) (And.intro (Or.inr rfl) (And.intro (Or.inl rfl) (And.intro (Or.inl rfl) (And.intro (Or.inl rfl) trivial)))))))) ?_
                 rw [← zo_s i]
                 exact m_finds_n V0 t r Q ht (i + 1) V hV (by omega) (by omega) (fun m h => ih (i + 1) (i + 1) m V (by omega) hq hV hg (FI_mono hF (by omega)) hW (by omega) (by omega) (Nat.le_refl _) (fun j _ h _ => h) hgm h))
          · refine Wp.aload_n (pc2 := 74) dX5_finds_73 rfl rfl ?_
            refine Wp.iload (pc2 := 76) dX5_finds_74 rfl rfl ?_
            refine Wp.iload (pc2 := 78) dX5_finds_76 rfl rfl ?_
            refine Wp.callV (pc2 := 81) kX5_finds_148 vX5_gives (m_gives V (fa t r x') (fb t r x') hfab.1 hglt) dX5_finds_78 rfl rfl rfl rfl rfl (Nat.le_of_ble_eq_true rfl) ?_
            rintro _ _ ⟨rfl, rfl⟩
            refine Wp.iincN (pc2 := 84) dX5_finds_81 rfl rfl (by decide) rfl ?_
            first
              | (have hal : alikeB V (fa t r x') (fb t r x') = true := alikeB_iff.mpr (zby hb c70)
                 have hW := hstep _ (if_pos ⟨hq5, hal⟩)
                 have hF2 : FI (mGive V (fa t r x') (fb t r x')) t r (i + 1) := by
                   have := FI_give hq ht hr hi hq5 (FI_mono hF hci)
                   rw [hqm] at this; exact this
                 have e23 : mGive V (fa t r x') (fb t r x') 0 23 = V 0 23 := mGive_o (by unfold gfree; omega)
                 have e1 : mGive V (fa t r x') (fb t r x') 1 (1 - t) = V 1 (1 - t) := mGive_o (by unfold gfree; omega)
                 have e26 : mGive V (fa t r x') (fb t r x') 0 26 = V 0 26 + 1 := by simp [mGive, vs]
                 refine Wp.fg [.ref 0, .int (nI t), .int (nI r), .int (nI (V 0 26 - V0 0 26 + 1)), .int (nI i), .null, .null, .null] (And.intro (Or.inr rfl) (And.intro (Or.inr rfl) (And.intro (Or.inr rfl) (And.intro (Or.inr rfl) (And.intro (Or.inr rfl) (And.intro (Or.inl rfl) (And.intro (Or.inl rfl) (And.intro (Or.inl rfl) trivial)))))))) ?_
                 rw [show V 0 26 - V0 0 26 + 1 = mGive V (fa t r x') (fb t r x') 0 26 - V0 0 26 by omega, ← zo_s i]
                 exact m_finds_n V0 t r Q ht (i + 1) _ (BV_give hV hfab.1 hglt) (by rw [e1, u1]; exact hrw) (by omega) (fun m h => ih (i + 1) (i + 1) m _ (by omega) (QI_give hq) (BV_give hV hfab.1 hglt) (GI_give hg hfab.1 hzero) hF2 hW (by omega) (by omega) (Nat.le_refl _) (fun j _ h _ => h) (by omega) h))
              | (have hal : ¬ (V 22 i / 50 = 1 - t ∧ alikeB V (fa t r x') (fb t r x') = true) := fun z => zbn hb c70 (alikeB_iff.mp z.2)
                 have hW := hstep _ (if_neg hal)
                 refine Wp.fg [.ref 0, .int (nI t), .int (nI r), .int (nI (V 0 26 - V0 0 26)), .int (nI i), .null, .null, .null] (And.intro (Or.inr rfl) (And.intro (Or.inr rfl) (And.intro (Or.inr rfl) (And.intro (Or.inr rfl) (And.intro (Or.inr rfl) (And.intro (Or.inl rfl) (And.intro (Or.inl rfl) (And.intro (Or.inl rfl) trivial)))))))) ?_
                 rw [← zo_s i]
                 exact m_finds_n V0 t r Q ht (i + 1) V hV (by omega) (by omega) (fun m h => ih (i + 1) (i + 1) m V (by omega) hq hV hg (FI_mono hF (by omega)) hW (by omega) (by omega) (Nat.le_refl _) (fun j _ h _ => h) hgm h))
        · refine Wp.iload (pc2 := 56) dX5_finds_54 rfl rfl ?_
          refine Wp.goto (pc2 := 60) dX5_finds_56 (by decide) ?_
          refine Wp.istore (pc2 := 62) dX5_finds_60 rfl (by decide) rfl ?_
          have eA : (if t = 0 then r else x') = fa t r x' := rfl
          refine Wp.fg [.ref 0, .int (nI t), .int (nI r), .int (nI (V 0 26 - V0 0 26)), .int (nI i), .null, .int (nI (fa t r x')), .int (nI (fb t r x'))] ?_ ?_
          · first
              | (simp only [fa, fb, if_pos c39]; exact (And.intro (Or.inr rfl) (And.intro (Or.inr rfl) (And.intro (Or.inr rfl) (And.intro (Or.inr rfl) (And.intro (Or.inr rfl) (And.intro (Or.inl rfl) (And.intro (Or.inr rfl) (And.intro (Or.inr rfl) trivial)))))))))
              | (simp only [fa, fb, if_neg c39]; exact (And.intro (Or.inr rfl) (And.intro (Or.inr rfl) (And.intro (Or.inr rfl) (And.intro (Or.inr rfl) (And.intro (Or.inr rfl) (And.intro (Or.inl rfl) (And.intro (Or.inr rfl) (And.intro (Or.inr rfl) trivial)))))))))
              | exact absurd c39 c51
              | exact absurd c51 c39
          refine Wp.aload_n (pc2 := 63) dX5_finds_62 rfl rfl ?_
          refine Wp.iload (pc2 := 65) dX5_finds_63 rfl rfl ?_
          refine Wp.iload (pc2 := 67) dX5_finds_65 rfl rfl ?_
          refine Wp.callV (pc2 := 70) kX5_finds_124 vX5_isAlike (m_isAlike V (fa t r x') (fb t r x') hV hfab.2.1 hfab.2.2 (by omega) (by omega)) dX5_finds_67 rfl rfl rfl rfl rfl (Nat.le_of_ble_eq_true rfl) ?_
          rintro _ _ ⟨⟨b, rfl, hb⟩, rfl⟩
          refine Wp.ifN_eq (pc2 := 73) 84 dX5_finds_70 rfl (by decide) (zb_lt _) (fun c70 => ?_) (fun c70 => ?_)
          · first
              | (have hal : alikeB V (fa t r x') (fb t r x') = true := alikeB_iff.mpr (zby hb c70)
                 have hW := hstep _ (if_pos ⟨hq5, hal⟩)
                 have hF2 : FI (mGive V (fa t r x') (fb t r x')) t r (i + 1) := by
                   have := FI_give hq ht hr hi hq5 (FI_mono hF hci)
                   rw [hqm] at this; exact this
                 have e23 : mGive V (fa t r x') (fb t r x') 0 23 = V 0 23 := mGive_o (by unfold gfree; omega)
                 have e1 : mGive V (fa t r x') (fb t r x') 1 (1 - t) = V 1 (1 - t) := mGive_o (by unfold gfree; omega)
                 have e26 : mGive V (fa t r x') (fb t r x') 0 26 = V 0 26 + 1 := by simp [mGive, vs]
                 refine Wp.fg [.ref 0, .int (nI t), .int (nI r), .int (nI (V 0 26 - V0 0 26 + 1)), .int (nI i), .null, .null, .null] (And.intro (Or.inr rfl) (And.intro (Or.inr rfl) (And.intro (Or.inr rfl) (And.intro (Or.inr rfl) (And.intro (Or.inr rfl) (And.intro (Or.inl rfl) (And.intro (Or.inl rfl) (And.intro (Or.inl rfl) trivial)))))))) ?_
                 rw [show V 0 26 - V0 0 26 + 1 = mGive V (fa t r x') (fb t r x') 0 26 - V0 0 26 by omega, ← zo_s i]
                 exact m_finds_n V0 t r Q ht (i + 1) _ (BV_give hV hfab.1 hglt) (by rw [e1, u1]; exact hrw) (by omega) (fun m h => ih (i + 1) (i + 1) m _ (by omega) (QI_give hq) (BV_give hV hfab.1 hglt) (GI_give hg hfab.1 hzero) hF2 hW (by omega) (by omega) (Nat.le_refl _) (fun j _ h _ => h) (by omega) h))
              | (have hal : ¬ (V 22 i / 50 = 1 - t ∧ alikeB V (fa t r x') (fb t r x') = true) := fun z => zbn hb c70 (alikeB_iff.mp z.2)
                 have hW := hstep _ (if_neg hal)
                 refine Wp.fg [.ref 0, .int (nI t), .int (nI r), .int (nI (V 0 26 - V0 0 26)), .int (nI i), .null, .null, .null] (And.intro (Or.inr rfl) (And.intro (Or.inr rfl) (And.intro (Or.inr rfl) (And.intro (Or.inr rfl) (And.intro (Or.inr rfl) (And.intro (Or.inl rfl) (And.intro (Or.inl rfl) (And.intro (Or.inl rfl) trivial)))))))) ?_
                 rw [← zo_s i]
                 exact m_finds_n V0 t r Q ht (i + 1) V hV (by omega) (by omega) (fun m h => ih (i + 1) (i + 1) m V (by omega) hq hV hg (FI_mono hF (by omega)) hW (by omega) (by omega) (Nat.le_refl _) (fun j _ h _ => h) hgm h))
          · refine Wp.aload_n (pc2 := 74) dX5_finds_73 rfl rfl ?_
            refine Wp.iload (pc2 := 76) dX5_finds_74 rfl rfl ?_
            refine Wp.iload (pc2 := 78) dX5_finds_76 rfl rfl ?_
            refine Wp.callV (pc2 := 81) kX5_finds_148 vX5_gives (m_gives V (fa t r x') (fb t r x') hfab.1 hglt) dX5_finds_78 rfl rfl rfl rfl rfl (Nat.le_of_ble_eq_true rfl) ?_
            rintro _ _ ⟨rfl, rfl⟩
            refine Wp.iincN (pc2 := 84) dX5_finds_81 rfl rfl (by decide) rfl ?_
            first
              | (have hal : alikeB V (fa t r x') (fb t r x') = true := alikeB_iff.mpr (zby hb c70)
                 have hW := hstep _ (if_pos ⟨hq5, hal⟩)
                 have hF2 : FI (mGive V (fa t r x') (fb t r x')) t r (i + 1) := by
                   have := FI_give hq ht hr hi hq5 (FI_mono hF hci)
                   rw [hqm] at this; exact this
                 have e23 : mGive V (fa t r x') (fb t r x') 0 23 = V 0 23 := mGive_o (by unfold gfree; omega)
                 have e1 : mGive V (fa t r x') (fb t r x') 1 (1 - t) = V 1 (1 - t) := mGive_o (by unfold gfree; omega)
                 have e26 : mGive V (fa t r x') (fb t r x') 0 26 = V 0 26 + 1 := by simp [mGive, vs]
                 refine Wp.fg [.ref 0, .int (nI t), .int (nI r), .int (nI (V 0 26 - V0 0 26 + 1)), .int (nI i), .null, .null, .null] (And.intro (Or.inr rfl) (And.intro (Or.inr rfl) (And.intro (Or.inr rfl) (And.intro (Or.inr rfl) (And.intro (Or.inr rfl) (And.intro (Or.inl rfl) (And.intro (Or.inl rfl) (And.intro (Or.inl rfl) trivial)))))))) ?_
                 rw [show V 0 26 - V0 0 26 + 1 = mGive V (fa t r x') (fb t r x') 0 26 - V0 0 26 by omega, ← zo_s i]
                 exact m_finds_n V0 t r Q ht (i + 1) _ (BV_give hV hfab.1 hglt) (by rw [e1, u1]; exact hrw) (by omega) (fun m h => ih (i + 1) (i + 1) m _ (by omega) (QI_give hq) (BV_give hV hfab.1 hglt) (GI_give hg hfab.1 hzero) hF2 hW (by omega) (by omega) (Nat.le_refl _) (fun j _ h _ => h) (by omega) h))
              | (have hal : ¬ (V 22 i / 50 = 1 - t ∧ alikeB V (fa t r x') (fb t r x') = true) := fun z => zbn hb c70 (alikeB_iff.mp z.2)
                 have hW := hstep _ (if_neg hal)
                 refine Wp.fg [.ref 0, .int (nI t), .int (nI r), .int (nI (V 0 26 - V0 0 26)), .int (nI i), .null, .null, .null] (And.intro (Or.inr rfl) (And.intro (Or.inr rfl) (And.intro (Or.inr rfl) (And.intro (Or.inr rfl) (And.intro (Or.inr rfl) (And.intro (Or.inl rfl) (And.intro (Or.inl rfl) (And.intro (Or.inl rfl) trivial)))))))) ?_
                 rw [← zo_s i]
                 exact m_finds_n V0 t r Q ht (i + 1) V hV (by omega) (by omega) (fun m h => ih (i + 1) (i + 1) m V (by omega) hq hV hg (FI_mono hF (by omega)) hW (by omega) (by omega) (Nat.le_refl _) (fun j _ h _ => h) hgm h))
      · refine Wp.iload_n (pc2 := 43) dX5_finds_42 rfl rfl ?_
        refine Wp.goto (pc2 := 48) dX5_finds_43 (by decide) ?_
        refine Wp.istore (pc2 := 50) dX5_finds_48 rfl (by decide) rfl ?_
        refine Wp.iload_n (pc2 := 51) dX5_finds_50 rfl rfl ?_
        refine Wp.ifN_ne (pc2 := 54) 59 dX5_finds_51 rfl (by decide) (by omega) (fun c51 => ?_) (fun c51 => ?_)
        · refine Wp.iload_n (pc2 := 60) dX5_finds_59 rfl rfl ?_
          refine Wp.istore (pc2 := 62) dX5_finds_60 rfl (by decide) rfl ?_
          have eA : (if t = 0 then r else x') = fa t r x' := rfl
          refine Wp.fg [.ref 0, .int (nI t), .int (nI r), .int (nI (V 0 26 - V0 0 26)), .int (nI i), .null, .int (nI (fa t r x')), .int (nI (fb t r x'))] ?_ ?_
          · first
              | (simp only [fa, fb, if_pos c39]; exact (And.intro (Or.inr rfl) (And.intro (Or.inr rfl) (And.intro (Or.inr rfl) (And.intro (Or.inr rfl) (And.intro (Or.inr rfl) (And.intro (Or.inl rfl) (And.intro (Or.inr rfl) (And.intro (Or.inr rfl) trivial)))))))))
              | (simp only [fa, fb, if_neg c39]; exact (And.intro (Or.inr rfl) (And.intro (Or.inr rfl) (And.intro (Or.inr rfl) (And.intro (Or.inr rfl) (And.intro (Or.inr rfl) (And.intro (Or.inl rfl) (And.intro (Or.inr rfl) (And.intro (Or.inr rfl) trivial)))))))))
              | exact absurd c39 c51
              | exact absurd c51 c39
          refine Wp.aload_n (pc2 := 63) dX5_finds_62 rfl rfl ?_
          refine Wp.iload (pc2 := 65) dX5_finds_63 rfl rfl ?_
          refine Wp.iload (pc2 := 67) dX5_finds_65 rfl rfl ?_
          refine Wp.callV (pc2 := 70) kX5_finds_124 vX5_isAlike (m_isAlike V (fa t r x') (fb t r x') hV hfab.2.1 hfab.2.2 (by omega) (by omega)) dX5_finds_67 rfl rfl rfl rfl rfl (Nat.le_of_ble_eq_true rfl) ?_
          rintro _ _ ⟨⟨b, rfl, hb⟩, rfl⟩
          refine Wp.ifN_eq (pc2 := 73) 84 dX5_finds_70 rfl (by decide) (zb_lt _) (fun c70 => ?_) (fun c70 => ?_)
          · first
              | (have hal : alikeB V (fa t r x') (fb t r x') = true := alikeB_iff.mpr (zby hb c70)
                 have hW := hstep _ (if_pos ⟨hq5, hal⟩)
                 have hF2 : FI (mGive V (fa t r x') (fb t r x')) t r (i + 1) := by
                   have := FI_give hq ht hr hi hq5 (FI_mono hF hci)
                   rw [hqm] at this; exact this
                 have e23 : mGive V (fa t r x') (fb t r x') 0 23 = V 0 23 := mGive_o (by unfold gfree; omega)
                 have e1 : mGive V (fa t r x') (fb t r x') 1 (1 - t) = V 1 (1 - t) := mGive_o (by unfold gfree; omega)
                 have e26 : mGive V (fa t r x') (fb t r x') 0 26 = V 0 26 + 1 := by simp [mGive, vs]
                 refine Wp.fg [.ref 0, .int (nI t), .int (nI r), .int (nI (V 0 26 - V0 0 26 + 1)), .int (nI i), .null, .null, .null] (And.intro (Or.inr rfl) (And.intro (Or.inr rfl) (And.intro (Or.inr rfl) (And.intro (Or.inr rfl) (And.intro (Or.inr rfl) (And.intro (Or.inl rfl) (And.intro (Or.inl rfl) (And.intro (Or.inl rfl) trivial)))))))) ?_
                 rw [show V 0 26 - V0 0 26 + 1 = mGive V (fa t r x') (fb t r x') 0 26 - V0 0 26 by omega, ← zo_s i]
                 exact m_finds_n V0 t r Q ht (i + 1) _ (BV_give hV hfab.1 hglt) (by rw [e1, u1]; exact hrw) (by omega) (fun m h => ih (i + 1) (i + 1) m _ (by omega) (QI_give hq) (BV_give hV hfab.1 hglt) (GI_give hg hfab.1 hzero) hF2 hW (by omega) (by omega) (Nat.le_refl _) (fun j _ h _ => h) (by omega) h))
              | (have hal : ¬ (V 22 i / 50 = 1 - t ∧ alikeB V (fa t r x') (fb t r x') = true) := fun z => zbn hb c70 (alikeB_iff.mp z.2)
                 have hW := hstep _ (if_neg hal)
                 refine Wp.fg [.ref 0, .int (nI t), .int (nI r), .int (nI (V 0 26 - V0 0 26)), .int (nI i), .null, .null, .null] (And.intro (Or.inr rfl) (And.intro (Or.inr rfl) (And.intro (Or.inr rfl) (And.intro (Or.inr rfl) (And.intro (Or.inr rfl) (And.intro (Or.inl rfl) (And.intro (Or.inl rfl) (And.intro (Or.inl rfl) trivial)))))))) ?_
                 rw [← zo_s i]
                 exact m_finds_n V0 t r Q ht (i + 1) V hV (by omega) (by omega) (fun m h => ih (i + 1) (i + 1) m V (by omega) hq hV hg (FI_mono hF (by omega)) hW (by omega) (by omega) (Nat.le_refl _) (fun j _ h _ => h) hgm h))
          · refine Wp.aload_n (pc2 := 74) dX5_finds_73 rfl rfl ?_
            refine Wp.iload (pc2 := 76) dX5_finds_74 rfl rfl ?_
            refine Wp.iload (pc2 := 78) dX5_finds_76 rfl rfl ?_
            refine Wp.callV (pc2 := 81) kX5_finds_148 vX5_gives (m_gives V (fa t r x') (fb t r x') hfab.1 hglt) dX5_finds_78 rfl rfl rfl rfl rfl (Nat.le_of_ble_eq_true rfl) ?_
            rintro _ _ ⟨rfl, rfl⟩
            refine Wp.iincN (pc2 := 84) dX5_finds_81 rfl rfl (by decide) rfl ?_
            first
              | (have hal : alikeB V (fa t r x') (fb t r x') = true := alikeB_iff.mpr (zby hb c70)
                 have hW := hstep _ (if_pos ⟨hq5, hal⟩)
                 have hF2 : FI (mGive V (fa t r x') (fb t r x')) t r (i + 1) := by
                   have := FI_give hq ht hr hi hq5 (FI_mono hF hci)
                   rw [hqm] at this; exact this
                 have e23 : mGive V (fa t r x') (fb t r x') 0 23 = V 0 23 := mGive_o (by unfold gfree; omega)
                 have e1 : mGive V (fa t r x') (fb t r x') 1 (1 - t) = V 1 (1 - t) := mGive_o (by unfold gfree; omega)
                 have e26 : mGive V (fa t r x') (fb t r x') 0 26 = V 0 26 + 1 := by simp [mGive, vs]
                 refine Wp.fg [.ref 0, .int (nI t), .int (nI r), .int (nI (V 0 26 - V0 0 26 + 1)), .int (nI i), .null, .null, .null] (And.intro (Or.inr rfl) (And.intro (Or.inr rfl) (And.intro (Or.inr rfl) (And.intro (Or.inr rfl) (And.intro (Or.inr rfl) (And.intro (Or.inl rfl) (And.intro (Or.inl rfl) (And.intro (Or.inl rfl) trivial)))))))) ?_
                 rw [show V 0 26 - V0 0 26 + 1 = mGive V (fa t r x') (fb t r x') 0 26 - V0 0 26 by omega, ← zo_s i]
                 exact m_finds_n V0 t r Q ht (i + 1) _ (BV_give hV hfab.1 hglt) (by rw [e1, u1]; exact hrw) (by omega) (fun m h => ih (i + 1) (i + 1) m _ (by omega) (QI_give hq) (BV_give hV hfab.1 hglt) (GI_give hg hfab.1 hzero) hF2 hW (by omega) (by omega) (Nat.le_refl _) (fun j _ h _ => h) (by omega) h))
              | (have hal : ¬ (V 22 i / 50 = 1 - t ∧ alikeB V (fa t r x') (fb t r x') = true) := fun z => zbn hb c70 (alikeB_iff.mp z.2)
                 have hW := hstep _ (if_neg hal)
                 refine Wp.fg [.ref 0, .int (nI t), .int (nI r), .int (nI (V 0 26 - V0 0 26)), .int (nI i), .null, .null, .null] (And.intro (Or.inr rfl) (And.intro (Or.inr rfl) (And.intro (Or.inr rfl) (And.intro (Or.inr rfl) (And.intro (Or.inr rfl) (And.intro (Or.inl rfl) (And.intro (Or.inl rfl) (And.intro (Or.inl rfl) trivial)))))))) ?_
                 rw [← zo_s i]
                 exact m_finds_n V0 t r Q ht (i + 1) V hV (by omega) (by omega) (fun m h => ih (i + 1) (i + 1) m V (by omega) hq hV hg (FI_mono hF (by omega)) hW (by omega) (by omega) (Nat.le_refl _) (fun j _ h _ => h) hgm h))
        · refine Wp.iload (pc2 := 56) dX5_finds_54 rfl rfl ?_
          refine Wp.goto (pc2 := 60) dX5_finds_56 (by decide) ?_
          refine Wp.istore (pc2 := 62) dX5_finds_60 rfl (by decide) rfl ?_
          have eA : (if t = 0 then r else x') = fa t r x' := rfl
          refine Wp.fg [.ref 0, .int (nI t), .int (nI r), .int (nI (V 0 26 - V0 0 26)), .int (nI i), .null, .int (nI (fa t r x')), .int (nI (fb t r x'))] ?_ ?_
          · first
              | (simp only [fa, fb, if_pos c39]; exact (And.intro (Or.inr rfl) (And.intro (Or.inr rfl) (And.intro (Or.inr rfl) (And.intro (Or.inr rfl) (And.intro (Or.inr rfl) (And.intro (Or.inl rfl) (And.intro (Or.inr rfl) (And.intro (Or.inr rfl) trivial)))))))))
              | (simp only [fa, fb, if_neg c39]; exact (And.intro (Or.inr rfl) (And.intro (Or.inr rfl) (And.intro (Or.inr rfl) (And.intro (Or.inr rfl) (And.intro (Or.inr rfl) (And.intro (Or.inl rfl) (And.intro (Or.inr rfl) (And.intro (Or.inr rfl) trivial)))))))))
              | exact absurd c39 c51
              | exact absurd c51 c39
          refine Wp.aload_n (pc2 := 63) dX5_finds_62 rfl rfl ?_
          refine Wp.iload (pc2 := 65) dX5_finds_63 rfl rfl ?_
          refine Wp.iload (pc2 := 67) dX5_finds_65 rfl rfl ?_
          refine Wp.callV (pc2 := 70) kX5_finds_124 vX5_isAlike (m_isAlike V (fa t r x') (fb t r x') hV hfab.2.1 hfab.2.2 (by omega) (by omega)) dX5_finds_67 rfl rfl rfl rfl rfl (Nat.le_of_ble_eq_true rfl) ?_
          rintro _ _ ⟨⟨b, rfl, hb⟩, rfl⟩
          refine Wp.ifN_eq (pc2 := 73) 84 dX5_finds_70 rfl (by decide) (zb_lt _) (fun c70 => ?_) (fun c70 => ?_)
          · first
              | (have hal : alikeB V (fa t r x') (fb t r x') = true := alikeB_iff.mpr (zby hb c70)
                 have hW := hstep _ (if_pos ⟨hq5, hal⟩)
                 have hF2 : FI (mGive V (fa t r x') (fb t r x')) t r (i + 1) := by
                   have := FI_give hq ht hr hi hq5 (FI_mono hF hci)
                   rw [hqm] at this; exact this
                 have e23 : mGive V (fa t r x') (fb t r x') 0 23 = V 0 23 := mGive_o (by unfold gfree; omega)
                 have e1 : mGive V (fa t r x') (fb t r x') 1 (1 - t) = V 1 (1 - t) := mGive_o (by unfold gfree; omega)
                 have e26 : mGive V (fa t r x') (fb t r x') 0 26 = V 0 26 + 1 := by simp [mGive, vs]
                 refine Wp.fg [.ref 0, .int (nI t), .int (nI r), .int (nI (V 0 26 - V0 0 26 + 1)), .int (nI i), .null, .null, .null] (And.intro (Or.inr rfl) (And.intro (Or.inr rfl) (And.intro (Or.inr rfl) (And.intro (Or.inr rfl) (And.intro (Or.inr rfl) (And.intro (Or.inl rfl) (And.intro (Or.inl rfl) (And.intro (Or.inl rfl) trivial)))))))) ?_
                 rw [show V 0 26 - V0 0 26 + 1 = mGive V (fa t r x') (fb t r x') 0 26 - V0 0 26 by omega, ← zo_s i]
                 exact m_finds_n V0 t r Q ht (i + 1) _ (BV_give hV hfab.1 hglt) (by rw [e1, u1]; exact hrw) (by omega) (fun m h => ih (i + 1) (i + 1) m _ (by omega) (QI_give hq) (BV_give hV hfab.1 hglt) (GI_give hg hfab.1 hzero) hF2 hW (by omega) (by omega) (Nat.le_refl _) (fun j _ h _ => h) (by omega) h))
              | (have hal : ¬ (V 22 i / 50 = 1 - t ∧ alikeB V (fa t r x') (fb t r x') = true) := fun z => zbn hb c70 (alikeB_iff.mp z.2)
                 have hW := hstep _ (if_neg hal)
                 refine Wp.fg [.ref 0, .int (nI t), .int (nI r), .int (nI (V 0 26 - V0 0 26)), .int (nI i), .null, .null, .null] (And.intro (Or.inr rfl) (And.intro (Or.inr rfl) (And.intro (Or.inr rfl) (And.intro (Or.inr rfl) (And.intro (Or.inr rfl) (And.intro (Or.inl rfl) (And.intro (Or.inl rfl) (And.intro (Or.inl rfl) trivial)))))))) ?_
                 rw [← zo_s i]
                 exact m_finds_n V0 t r Q ht (i + 1) V hV (by omega) (by omega) (fun m h => ih (i + 1) (i + 1) m V (by omega) hq hV hg (FI_mono hF (by omega)) hW (by omega) (by omega) (Nat.le_refl _) (fun j _ h _ => h) hgm h))
          · refine Wp.aload_n (pc2 := 74) dX5_finds_73 rfl rfl ?_
            refine Wp.iload (pc2 := 76) dX5_finds_74 rfl rfl ?_
            refine Wp.iload (pc2 := 78) dX5_finds_76 rfl rfl ?_
            refine Wp.callV (pc2 := 81) kX5_finds_148 vX5_gives (m_gives V (fa t r x') (fb t r x') hfab.1 hglt) dX5_finds_78 rfl rfl rfl rfl rfl (Nat.le_of_ble_eq_true rfl) ?_
            rintro _ _ ⟨rfl, rfl⟩
            refine Wp.iincN (pc2 := 84) dX5_finds_81 rfl rfl (by decide) rfl ?_
            first
              | (have hal : alikeB V (fa t r x') (fb t r x') = true := alikeB_iff.mpr (zby hb c70)
                 have hW := hstep _ (if_pos ⟨hq5, hal⟩)
                 have hF2 : FI (mGive V (fa t r x') (fb t r x')) t r (i + 1) := by
                   have := FI_give hq ht hr hi hq5 (FI_mono hF hci)
                   rw [hqm] at this; exact this
                 have e23 : mGive V (fa t r x') (fb t r x') 0 23 = V 0 23 := mGive_o (by unfold gfree; omega)
                 have e1 : mGive V (fa t r x') (fb t r x') 1 (1 - t) = V 1 (1 - t) := mGive_o (by unfold gfree; omega)
                 have e26 : mGive V (fa t r x') (fb t r x') 0 26 = V 0 26 + 1 := by simp [mGive, vs]
                 refine Wp.fg [.ref 0, .int (nI t), .int (nI r), .int (nI (V 0 26 - V0 0 26 + 1)), .int (nI i), .null, .null, .null] (And.intro (Or.inr rfl) (And.intro (Or.inr rfl) (And.intro (Or.inr rfl) (And.intro (Or.inr rfl) (And.intro (Or.inr rfl) (And.intro (Or.inl rfl) (And.intro (Or.inl rfl) (And.intro (Or.inl rfl) trivial)))))))) ?_
                 rw [show V 0 26 - V0 0 26 + 1 = mGive V (fa t r x') (fb t r x') 0 26 - V0 0 26 by omega, ← zo_s i]
                 exact m_finds_n V0 t r Q ht (i + 1) _ (BV_give hV hfab.1 hglt) (by rw [e1, u1]; exact hrw) (by omega) (fun m h => ih (i + 1) (i + 1) m _ (by omega) (QI_give hq) (BV_give hV hfab.1 hglt) (GI_give hg hfab.1 hzero) hF2 hW (by omega) (by omega) (Nat.le_refl _) (fun j _ h _ => h) (by omega) h))
              | (have hal : ¬ (V 22 i / 50 = 1 - t ∧ alikeB V (fa t r x') (fb t r x') = true) := fun z => zbn hb c70 (alikeB_iff.mp z.2)
                 have hW := hstep _ (if_neg hal)
                 refine Wp.fg [.ref 0, .int (nI t), .int (nI r), .int (nI (V 0 26 - V0 0 26)), .int (nI i), .null, .null, .null] (And.intro (Or.inr rfl) (And.intro (Or.inr rfl) (And.intro (Or.inr rfl) (And.intro (Or.inr rfl) (And.intro (Or.inr rfl) (And.intro (Or.inl rfl) (And.intro (Or.inl rfl) (And.intro (Or.inl rfl) trivial)))))))) ?_
                 rw [← zo_s i]
                 exact m_finds_n V0 t r Q ht (i + 1) V hV (by omega) (by omega) (fun m h => ih (i + 1) (i + 1) m V (by omega) hq hV hg (FI_mono hF (by omega)) hW (by omega) (by omega) (Nat.le_refl _) (fun j _ h _ => h) hgm h))

theorem QI_new {W : zS} (h : QI W) {t r : Nat} (ht : t < 2) (hr : r < 50) (h1 : W 18 (50 * t + r) < 2) (hc : W 0 23 < 100) (g : Nat) :
    QI (vs (vs (vs (vs (vs W 17 t g) 18 (50 * t + r) 2) 19 (50 * t + r) (W 0 23)) 0 23 (W 0 23 + 1)) 22 (W 0 23) (50 * t + r)) := by
  generalize hZ : vs (vs (vs (vs (vs W 17 t g) 18 (50 * t + r) 2) 19 (50 * t + r) (W 0 23)) 0 23 (W 0 23 + 1)) 22 (W 0 23) (50 * t + r) = Z
  have e23 : Z 0 23 = W 0 23 + 1 := by rw [← hZ]; simp [vs]
  have e28 : Z 0 28 = W 0 28 := by rw [← hZ]; simp [vs]
  have e22 : ∀ i, Z 22 i = if i = W 0 23 then 50 * t + r else W 22 i := fun i => by rw [← hZ]; simp [vs]
  have e19 : ∀ i, Z 19 i = if i = 50 * t + r then W 0 23 else W 19 i := fun i => by rw [← hZ]; simp [vs]
  have e18 : ∀ i, Z 18 i = if i = 50 * t + r then 2 else W 18 i := fun i => by rw [← hZ]; simp [vs]
  obtain ⟨q1, q2, q3, q4⟩ := h
  have hne : ∀ i, i < W 0 23 → W 22 i ≠ 50 * t + r := by
    intro i hi z
    have := (q3 i hi).2.2
    rw [z] at this
    split at this <;> omega
  refine ⟨by omega, by omega, fun i hi => ?_, fun e he hp => ?_⟩
  · rw [e22, e28]
    by_cases q : i = W 0 23
    · rw [if_pos q, e19, e18, if_pos rfl, if_pos rfl, if_neg (by omega)]
      exact ⟨by omega, q.symm, rfl⟩
    · have k := q3 i (by omega)
      rw [if_neg q, e19, e18, if_neg (hne i (by omega)), if_neg (hne i (by omega))]
      exact k
  · rw [e18] at hp
    by_cases q : e = 50 * t + r
    · exact ⟨W 0 23, by omega, by rw [e22, if_pos rfl]; exact q.symm⟩
    · rw [if_neg q] at hp
      obtain ⟨i, hi, hz⟩ := q4 e he hp
      exact ⟨i, by omega, by rw [e22, if_neg (by omega)]; exact hz⟩

set_option maxRecDepth 100000 in
set_option maxHeartbeats 4000000 in
theorem m_finds (V : zS) (t r : Nat) (ht : t < 2) (hr : r < 50) (hq : QI V) (hV : BV V) (hg : GI V) (hF : FI V t r (V 0 28)) (hj0 : V 8 0 < 3) (hj1 : V 8 1 < 3) (hrw : V 1 (1 - t) ≤ 50) (hPI : PI V) (h1 : V 18 (50 * t + r) < 2) (hc : V 0 23 < 100) (hgv : V 17 t ≤ 2500) : PM mX5_finds [.ref 0, .int (nI t), .int (nI r)] (hM V) (fun zr zq => zr = some (.int (nI (mFinds0 V t r 0 26 - V 0 26))) ∧ zq = hM (mFinds V t r)) := by
  refine PM.of (by decide +kernel) (by simp [Value.category]) (Nat.le_of_ble_eq_true rfl) ?_
  refine Wp.iconN (pc2 := 1) 0 dX5_finds_0 rfl ?_
  refine Wp.istore_n (pc2 := 2) dX5_finds_1 rfl (by decide) rfl ?_
  refine Wp.icon (pc2 := 3) dX5_finds_2 rfl (-1) (by decide +kernel) ?_
  refine Wp.istore (pc2 := 5) dX5_finds_3 rfl (by decide) rfl ?_
  refine Wp.aload_n (pc2 := 6) dX5_finds_5 rfl rfl ?_
  refine Wp.iconN (pc2 := 7) 1 dX5_finds_6 rfl ?_
  refine Wp.iload_n (pc2 := 8) dX5_finds_7 rfl rfl ?_
  refine Wp.isubN (pc2 := 9) dX5_finds_8 rfl (by omega) ?_
  refine Wp.iload (pc2 := 11) dX5_finds_9 rfl rfl ?_
  change Wp _ _ _ _ (.int (zo 0) :: _) _
  refine Wp.callV (pc2 := 14) kX5_finds_145 vX5_nextIn (m_nextIn V (1 - t) 0 hV (by omega) hrw (by decide)) dX5_finds_11 rfl rfl rfl rfl rfl (Nat.le_of_ble_eq_true rfl) ?_
  rintro _ _ ⟨⟨m, rfl, h⟩, rfl⟩
  refine Wp.istore (pc2 := 16) dX5_finds_14 rfl (by decide) rfl ?_
  refine Wp.leq (L' := [.ref 0, .int (nI t), .int (nI r), .int (nI (V 0 26 - V 0 26)), .int (zo 0), .int (zo m), .null, .null]) (by rw [Nat.sub_self]; rfl) ?_
  refine m_finds_l V t r _ ht hr hj0 hj1 hrw hPI (fun W hW hqW hVW hgW => ?_) (V 0 23 + 1) (V 0 28) 0 m V (by omega) hq hV hg hF (by rw [Nat.sub_self]; rfl) (Nat.le_refl _) hq.1 (Nat.zero_le _) (fun i _ _ h => h) (Nat.le_refl _) h
  have u : ∀ k j, gfree k j → W k j = V k j := fun k j z => by rw [hW]; exact fnd_o z _ _ _
  have u23 : W 0 23 = V 0 23 := u 0 23 (by unfold gfree; omega)
  have u18 : W 18 (50 * t + r) = V 18 (50 * t + r) := u 18 _ (by unfold gfree; omega)
  have u17 : W 17 t = V 17 t := u 17 _ (by unfold gfree; omega)
  have g26 := GI_le hgW
  have hQ2 := QI_new hqW ht hr (by omega) (by omega) (W 17 t + (W 0 26 - V 0 26))
  refine Wp.aload_n (pc2 := 99) dX5_finds_98 rfl rfl ?_
  refine Wp.getf (pc2 := 102) fX5_66 dX5_finds_99 rfl rfl rfl ?_
  refine Wp.iload_n (pc2 := 103) dX5_finds_102 rfl rfl ?_
  refine Wp.dup2 (pc2 := 104) dX5_finds_103 rfl rfl rfl ?_
  refine Wp.ialdN (pc2 := 105) dX5_finds_104 rfl rfl (by omega) (by decide) ?_
  refine Wp.iload_n (pc2 := 106) dX5_finds_105 rfl rfl ?_
  refine Wp.iaddN (pc2 := 107) dX5_finds_106 rfl  ?_
  refine Wp.iastN (pc2 := 108) dX5_finds_107 rfl rfl (by omega) (by decide) ?_
  refine Wp.heq (hM_a17 _ _ _) ?_
  refine Wp.aload_n (pc2 := 109) dX5_finds_108 rfl rfl ?_
  refine Wp.getf (pc2 := 112) fX5_69 dX5_finds_109 rfl rfl rfl ?_
  refine Wp.bipN (pc2 := 114) 50 dX5_finds_112 rfl (by decide +kernel) ?_
  refine Wp.iload_n (pc2 := 115) dX5_finds_114 rfl rfl ?_
  refine Wp.imulN (pc2 := 116) dX5_finds_115 rfl  ?_
  refine Wp.iload_n (pc2 := 117) dX5_finds_116 rfl rfl ?_
  refine Wp.iaddN (pc2 := 118) dX5_finds_117 rfl  ?_
  refine Wp.iconN (pc2 := 119) 2 dX5_finds_118 rfl ?_
  refine Wp.iastN (pc2 := 120) dX5_finds_119 rfl rfl (by omega) (by decide) ?_
  refine Wp.heq (hM_a18 _ _ _) ?_
  refine Wp.aload_n (pc2 := 121) dX5_finds_120 rfl rfl ?_
  refine Wp.getf (pc2 := 124) fX5_72 dX5_finds_121 rfl rfl rfl ?_
  refine Wp.bipN (pc2 := 126) 50 dX5_finds_124 rfl (by decide +kernel) ?_
  refine Wp.iload_n (pc2 := 127) dX5_finds_126 rfl rfl ?_
  refine Wp.imulN (pc2 := 128) dX5_finds_127 rfl  ?_
  refine Wp.iload_n (pc2 := 129) dX5_finds_128 rfl rfl ?_
  refine Wp.iaddN (pc2 := 130) dX5_finds_129 rfl  ?_
  refine Wp.aload_n (pc2 := 131) dX5_finds_130 rfl rfl ?_
  refine Wp.getf (pc2 := 134) fX5_100 dX5_finds_131 rfl rfl rfl ?_
  change Wp _ _ _ _ (.int (nI (W 0 23)) :: _) _
  refine Wp.iastN (pc2 := 135) dX5_finds_134 rfl rfl (by omega) (by decide) ?_
  refine Wp.heq (hM_a19 _ _ _) ?_
  refine Wp.aload_n (pc2 := 136) dX5_finds_135 rfl rfl ?_
  refine Wp.dup (pc2 := 137) dX5_finds_136 rfl rfl ?_
  refine Wp.getf (pc2 := 140) fX5_100 dX5_finds_137 rfl rfl rfl ?_
  refine Wp.iconN (pc2 := 141) 1 dX5_finds_140 rfl ?_
  refine Wp.iaddN (pc2 := 142) dX5_finds_141 rfl  ?_
  change Wp _ _ _ _ (.int (nI (W 0 23 + 1)) :: _) _
  refine Wp.putf (pc2 := 145) gX5_100 dX5_finds_142 rfl rfl (Nat.le_of_ble_eq_true rfl) rfl rfl ?_
  refine Wp.heq (hM_o0_23 _ _) ?_
  change Wp _ _ _ _ _ (hM (mFinds1 V W t r))
  refine Wp.aload_n (pc2 := 146) dX5_finds_145 rfl rfl ?_
  refine Wp.callV (pc2 := 149) kX5_finds_152 vX5_spills (m_spills (mFinds1 V W t r) hQ2 (((((hVW.up (by omega)).up (by decide)).up (by omega)).up (by omega)).up (by omega))) dX5_finds_146 rfl rfl rfl rfl rfl (Nat.le_of_ble_eq_true rfl) ?_
  rintro _ _ ⟨rfl, rfl⟩
  refine Wp.iload_n (pc2 := 150) dX5_finds_149 rfl rfl ?_
  refine Wp.ret dX5_finds_150 rfl rfl ?_
  unfold mFinds
  rw [← hW]
  exact ⟨rfl, rfl⟩

