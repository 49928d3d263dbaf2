/-- changes that leave what an ask has made -/
theorem JV_sh {V W : zS} (h : JV V) (hB : BV W) (u : ∀ k j, (k = 0 → j ≠ 9) → ¬ (1 ≤ k ∧ k ≤ 8) → k ≠ 12 → W k j = V k j) (ht : ∀ t, t < 2 → W 1 t ≤ 50 ∧ W 3 t ≤ 4 ∧ V 9 t ≤ W 3 t ∧ V 10 t ≤ W 1 t ∧ W 8 t < 3 ∧ W 12 t ≤ 1) (h8 : ∀ j, j < 8 → W 4 j < 3 ∧ W 7 j ≤ 50) (h9 : W 0 9 ≤ 2) (h2 : ∀ j, j < 300 → W 2 j < 100) : JV W := by
  obtain ⟨hV, jt, j8, jk, jo, hq, hg, jp, jgp, js, jc⟩ := h
  have e1 : ∀ k, k ≠ 0 → ¬ (1 ≤ k ∧ k ≤ 8) → k ≠ 12 → ∀ j, W k j = V k j := fun k h1 h2 h3 j => u k j (fun z => absurd z h1) h2 h3
  have e0 : ∀ j, j ≠ 9 → W 0 j = V 0 j := fun j hj => u 0 j (fun _ => hj) (by decide) (by decide)
  refine ⟨hB, fun y hy => ?_, fun j hj => ?_, fun y k hy hk => ?_, fun y hy => ?_, ?_, ?_, fun y z hy hz => ?_, fun q hq => ?_, ?_, h2⟩
  · simp only [e1 9 (by decide) (by decide) (by decide), e1 10 (by decide) (by decide) (by decide), e1 15 (by decide) (by decide) (by decide), e1 16 (by decide) (by decide) (by decide), e1 17 (by decide) (by decide) (by decide)]
    have a := ht y hy
    have b := jt y hy
    exact ⟨a.1, a.2.1, a.2.2.1, a.2.2.2.1, a.2.2.2.2.1, a.2.2.2.2.2, b.2.2.2.2.2.2.1, b.2.2.2.2.2.2.2⟩
  · rw [e1 11 (by decide) (by decide) (by decide)]
    exact ⟨(h8 j hj).1, (h8 j hj).2, (j8 j hj).2.2⟩
  · rw [e1 13 (by decide) (by decide) (by decide), e1 14 (by decide) (by decide) (by decide), e1 10 (by decide) (by decide) (by decide)]
    exact jk y k hy hk
  · simp only [e1 9 (by decide) (by decide) (by decide), e1 11 (by decide) (by decide) (by decide)]
    exact jo y hy
  · unfold QI
    simp only [e0 23 (by decide), e0 28 (by decide), e1 22 (by decide) (by decide) (by decide), e1 19 (by decide) (by decide) (by decide), e1 18 (by decide) (by decide) (by decide)]
    exact hq
  · exact GI_o hg (e0 26 (by decide)) (e1 21 (by decide) (by decide) (by decide)) (e1 20 (by decide) (by decide) (by decide))
  · rw [e1 18 (by decide) (by decide) (by decide), e1 10 (by decide) (by decide) (by decide)]
    exact jp y z hy hz
  · rw [e1 20 (by decide) (by decide) (by decide), e1 18 (by decide) (by decide) (by decide), e1 18 (by decide) (by decide) (by decide)]
    exact jgp q hq
  · obtain ⟨s1, s2, s3, s4, s5, s6, s7, s8, s9, s10⟩ := js
    unfold J_s
    rw [e0 8 (by decide), e0 10 (by decide), e0 29 (by decide), e0 23 (by decide), e0 26 (by decide), e0 27 (by decide), e0 30 (by decide), e0 31 (by decide), e0 11 (by decide)]
    simp only [e1 10 (by decide) (by decide) (by decide), e1 17 (by decide) (by decide) (by decide), e1 16 (by decide) (by decide) (by decide), e1 9 (by decide) (by decide) (by decide)]
    exact ⟨s1, h9, s3, s4, s5, s6, s7, s8, s9, s10⟩
theorem cand_cg {V W : zS} (h20 : ∀ p, W 20 p = V 20 p) (h1 : ∀ t, W 1 t = V 1 t) (h2 : ∀ j, W 2 j = V 2 j) (h8 : ∀ j, W 8 j = V 8 j) (h18 : ∀ e, 2 ≤ W 18 e ↔ 2 ≤ V 18 e) (q : Nat) : cand W q ↔ cand V q := by
  unfold cand alike
  rw [h20, h1, h1, h18, h18, h2, h2, h8, h8]
theorem LI_cg {V W E : zS} (h : LI V E) (h0 : W 0 10 = V 0 10) (h10 : ∀ t, W 10 t = V 10 t) (h1 : ∀ t, W 1 t = V 1 t) (hc : ∀ q, cand W q ↔ cand V q) : LI W E := by
  intro hs
  rw [h0] at hs
  have k := h hs
  have eb : bothR W ↔ bothR V := by unfold bothR; rw [h10, h10, h1, h1]
  refine ⟨fun hb => ?_, fun hb => k.2 (fun z => hb (eb.mpr z))⟩
  obtain ⟨a, b, c, d⟩ := k.1 (eb.mp hb)
  rw [h1, h1]
  exact ⟨a, b, (hc _).mpr c, fun q hq z => d q hq ((hc q).mp z)⟩
theorem LI_ne {V E : zS} (h : V 0 10 ≠ 1) : LI V E := fun z => absurd z h
theorem Je_ne {V : zS} (h : V 0 10 ≠ 1) : J_e V := fun z => absurd z h
theorem Je_cg {V W : zS} (h : J_e V) (h0 : W 0 10 = V 0 10) (h10 : ∀ t, W 10 t = V 10 t) (h1 : ∀ t, W 1 t = V 1 t) (hc : ∀ q, cand W q ↔ cand V q) : J_e W := by
  intro hs
  rw [h0] at hs
  intro he
  refine h hs ?_
  unfold endP at he ⊢
  rw [h10, h10, h1, h1] at he
  exact ⟨he.1, he.2.1, fun q hq z => he.2.2 q hq ((hc q).mpr z)⟩
theorem XI_cg {V W E : zS} (h : XI V E) (h9 : ∀ t, W 9 t = V 9 t) (h11 : ∀ j, W 11 j = V 11 j) (h26 : W 0 26 = V 0 26) (h17 : ∀ t, W 17 t = V 17 t) (hl : LI W E) : XI W E := by
  refine ⟨⟨h.1.1, fun t j ht hj => ?_⟩, ?_, hl⟩
  · rw [h9] at hj
    rw [h11]; exact h.1.2 t j ht hj
  · rw [h26, h17, h17]; exact h.2.1
theorem XI_E {V E E' : zS} (h : XI V E) (hB : BL E') (u : ∀ a b, (a = 0 ∨ a = 23 ∨ a = 31) → E' a b = E a b) : XI V E' := by
  refine ⟨⟨hB, fun t j ht hj => ?_⟩, ?_, ?_⟩
  · rw [u _ _ (by omega)]; exact h.1.2 t j ht hj
  · rw [u _ _ (by omega)]; exact h.2.1
  · intro hs
    have k := h.2.2 hs
    rw [u 0 0 (by omega), u 0 1 (by omega)]
    exact k
/-- of both classes, and what holds of them -/
def SI (V E : zS) : Prop := JE V ∧ XI V E
/-- both answer alike, and what holds goes on holding -/
def PP (mX mM : zm_I) (as : List Value) (V E : zS) : Prop := ∃ (r : Int32) (V' : zS), PM mM (.ref 0 :: as) (hM V) (fun zr zq => zr = some (.int r) ∧ zq = hM V') ∧ PM mX (.ref 0 :: as) (hC V E) (fun zr zq => zr = some (.int r) ∧ ∃ E', SI V' E' ∧ zq = hC V' E')
theorem PP.same {mX mM : zm_I} {as : List Value} {V E : zS} (h : SI V E) {r : Int32} (h1 : PM mM (.ref 0 :: as) (hM V) (fun zr zq => zr = some (.int r) ∧ zq = hM V)) (h2 : PM mX (.ref 0 :: as) (hC V E) (fun zr zq => zr = some (.int r) ∧ zq = hC V E)) : PP mX mM as V E :=
  ⟨r, V, h1, h2.mono (fun _ _ z => ⟨z.1, E, h, z.2⟩)⟩
theorem PP.to {mX mM : zm_I} {as : List Value} {V E V' : zS} (h : SI V' E) {r : Int32} (h1 : PM mM (.ref 0 :: as) (hM V) (fun zr zq => zr = some (.int r) ∧ zq = hM V')) (h2 : PM mX (.ref 0 :: as) (hC V E) (fun zr zq => zr = some (.int r) ∧ zq = hC V' E)) : PP mX mM as V E :=
  ⟨r, V', h1, h2.mono (fun _ _ z => ⟨z.1, E, h, z.2⟩)⟩

theorem SI_row {V E : zS} (h : SI V E) {t a b c : Nat} (ht : t < 2) (ha : a < 100) (hb : b < 100) (hc : c < 100) (hn : V 1 t < 50) (hs : V 0 10 ≠ 1) : SI (mRow V t a b c) E := by
  have hV := h.1.1.1
  have jt := h.1.1.2.1
  have jc := h.1.1.2.2.2.2.2.2.2.2.2.2
  have u : ∀ k j, k ≠ 1 → k ≠ 2 → mRow V t a b c k j = V k j := by
    intro k j h1 h2
    unfold mRow
    rw [vs_k _ h1, vs_k _ h2, vs_k _ h2, vs_k _ h2]
  have u1 : ∀ j, mRow V t a b c 1 j = if j = t then V 1 t + 1 else V 1 j := by
    intro j
    unfold mRow
    rw [vs_at, vs_k _ (by decide), vs_k _ (by decide), vs_k _ (by decide)]
  have u2 : ∀ j, j < 300 → mRow V t a b c 2 j < 100 := by
    intro j hj
    have := jc j hj
    unfold mRow
    rw [vs_k _ (by decide), vs_at, vs_at, vs_at]
    repeat' split
    all_goals omega
  have hJ : JV (mRow V t a b c) := by
    refine JV_sh h.1.1 ?_ (fun k j h1 h2 h3 => u k j (by omega) (by omega)) (fun x hx => ?_) (fun j hj => ?_) ?_ u2
    · unfold mRow
      exact ((((hV.up (by omega)).up (by omega)).up (by omega)).up (by omega))
    · have k := jt x hx
      rw [u1, u 3 _ (by decide) (by decide), u 8 _ (by decide) (by decide), u 12 _ (by decide) (by decide)]
      refine ⟨?_, k.2.1, k.2.2.1, ?_, k.2.2.2.2.1, k.2.2.2.2.2.1⟩
      · split
        · omega
        · exact k.1
      · split
        · rename_i q; subst q; omega
        · exact k.2.2.2.1
    · rw [u 4 _ (by decide) (by decide), u 7 _ (by decide) (by decide)]
      exact ⟨(h.1.1.2.2.1 j hj).1, (h.1.1.2.2.1 j hj).2.1⟩
    · rw [u 0 9 (by decide) (by decide)]
      exact h.1.1.2.2.2.2.2.2.2.2.2.1.2.1
  have hs' : mRow V t a b c 0 10 ≠ 1 := by rw [u 0 10 (by decide) (by decide)]; exact hs
  exact ⟨⟨hJ, Je_ne hs'⟩, XI_cg h.2 (fun _ => u 9 _ (by decide) (by decide)) (fun _ => u 11 _ (by decide) (by decide)) (u 0 26 (by decide) (by decide)) (fun _ => u 17 _ (by decide) (by decide)) (LI_ne hs')⟩
theorem P_row {V E : zS} (h : SI V E) (t c0 c1 c2 : Int32) : PP mX4_row mX5_row [.int t, .int c0, .int c1, .int c2] V E := by
  have jt := h.1.1.2.1
  by_cases q : ∃ t' a b c : Nat, (t' < 2 ∧ t = nI t') ∧ (a < 100 ∧ c0 = nI a) ∧ (b < 100 ∧ c1 = nI b) ∧ (c < 100 ∧ c2 = nI c) ∧ V 1 t' ≠ 50 ∧ V 0 10 ≠ 1
  · obtain ⟨t', a, b, c, ⟨ht, rfl⟩, ⟨ha, rfl⟩, ⟨hb, rfl⟩, ⟨hc, rfl⟩, hn, hs⟩ := q
    have := (jt t' ht).1
    exact PP.to (SI_row h ht ha hb hc (by omega) hs) (m_row_ok V t' a b c h.1.1.1 ht ha hb hc (by omega) hs) (x_row_ok t' ht V E a b c h.1.1.1 ha hb hc (by omega) hs)
  · exact PP.same h (m_row_no V t c0 c1 c2 h.1.1.1 q) (x_row_no V E t c0 c1 c2 h.1.1.1 (fun t ht => (jt t ht).1) q)
theorem SI_test {V E : zS} (h : SI V E) {t w p : Nat} (ht : t < 2) (h1 : w / 1000 < 3) (h2 : w / 100 % 10 ≤ 2) (hp : 1 ≤ p ∧ p ≤ 50) (hn : V 3 t < 4) (hs : V 0 10 ≠ 1) : SI (mTest V t w p) E := by
  have hV := h.1.1.1
  have jt := h.1.1.2.1
  have j8 := h.1.1.2.2.1
  have u : ∀ k j, ¬ (3 ≤ k ∧ k ≤ 7) → mTest V t w p k j = V k j := by
    intro k j h1
    unfold mTest
    rw [vs_k _ (by omega), vs_k _ (by omega), vs_k _ (by omega), vs_k _ (by omega), vs_k _ (by omega)]
  have u3 : ∀ j, mTest V t w p 3 j = if j = t then V 3 t + 1 else V 3 j := by
    intro j
    unfold mTest
    rw [vs_at, vs_k _ (by decide), vs_k _ (by decide), vs_k _ (by decide), vs_k _ (by decide)]
  have u4 : ∀ j, mTest V t w p 4 j = if j = 4 * t + V 3 t then w / 1000 else V 4 j := by
    intro j
    unfold mTest
    rw [vs_k _ (by decide), vs_k _ (by decide), vs_k _ (by decide), vs_k _ (by decide), vs_at]
  have u7 : ∀ j, mTest V t w p 7 j = if j = 4 * t + V 3 t then p else V 7 j := by
    intro j
    unfold mTest
    rw [vs_k _ (by decide), vs_at, vs_k _ (by decide), vs_k _ (by decide), vs_k _ (by decide)]
  have hJ : JV (mTest V t w p) := by
    refine JV_sh h.1.1 ?_ (fun k j g1 g2 g3 => u k j (by omega)) (fun x hx => ?_) (fun j hj => ?_) ?_ (fun j hj => by rw [u 2 j (by decide)]; exact h.1.1.2.2.2.2.2.2.2.2.2.2 j hj)
    · unfold mTest
      exact (((((hV.up (by omega)).up (by omega)).up (by omega)).up (by omega)).up (by omega))
    · have k := jt x hx
      rw [u3, u 1 _ (by decide), u 8 _ (by decide), u 12 _ (by decide)]
      refine ⟨k.1, ?_, ?_, k.2.2.2.1, k.2.2.2.2.1, k.2.2.2.2.2.1⟩
      · split
        · omega
        · exact k.2.1
      · split
        · rename_i q; subst q; omega
        · exact k.2.2.1
    · rw [u4, u7]
      have k := j8 j hj
      split
      · exact ⟨h1, hp.2⟩
      · exact ⟨k.1, k.2.1⟩
    · rw [u 0 9 (by decide)]
      exact h.1.1.2.2.2.2.2.2.2.2.2.1.2.1
  have hs' : mTest V t w p 0 10 ≠ 1 := by rw [u 0 10 (by decide)]; exact hs
  exact ⟨⟨hJ, Je_ne hs'⟩, XI_cg h.2 (fun _ => u 9 _ (by decide)) (fun _ => u 11 _ (by decide)) (u 0 26 (by decide)) (fun _ => u 17 _ (by decide)) (LI_ne hs')⟩
theorem P_test {V E : zS} (h : SI V E) (t w p : Int32) : PP mX4_test mX5_test [.int t, .int w, .int p] V E := by
  have jt := h.1.1.2.1
  by_cases q : ∃ t' w' p' : Nat, (t' < 2 ∧ t = nI t') ∧ (w' < 2 ^ 31 ∧ w = nI w') ∧ ((1 ≤ p' ∧ p' ≤ 50) ∧ p = nI p') ∧ w' / 1000 < 3 ∧ w' / 100 % 10 ≤ 2 ∧ V 3 t' ≠ 4 ∧ V 0 10 ≠ 1
  · obtain ⟨t', w', p', ⟨ht, rfl⟩, ⟨hw, rfl⟩, ⟨hp, rfl⟩, h1, h2, hn, hs⟩ := q
    have := (jt t' ht).2.1
    exact PP.to (SI_test h ht h1 h2 hp (by omega) hs) (m_test_ok V t' w' p' h.1.1.1 ht hw h1 h2 hp (by omega) hs) (x_test_ok t' ht V E w' p' h.1.1.1 hw h1 h2 hp (by omega) hs)
  · exact PP.same h (m_test_no V t w p h.1.1.1 q) (x_test_no V E t w p h.1.1.1 (fun t ht => (jt t ht).2.1) q)
theorem SI_join {V E : zS} (h : SI V E) {a b : Nat} (ha : a < 3) (hb : b < 3) (hs : V 0 10 ≠ 1) : SI (vs (vs V 8 0 a) 8 1 b) E := by
  have hV := h.1.1.1
  have jt := h.1.1.2.1
  have u : ∀ k j, k ≠ 8 → vs (vs V 8 0 a) 8 1 b k j = V k j := by
    intro k j h1
    rw [vs_k _ h1, vs_k _ h1]
  have hJ : JV (vs (vs V 8 0 a) 8 1 b) := by
    refine JV_sh h.1.1 ((hV.up (by omega)).up (by omega)) (fun k j g1 g2 g3 => u k j (by omega)) (fun x hx => ?_) (fun j hj => ?_) ?_ (fun j hj => by rw [u 2 j (by decide)]; exact h.1.1.2.2.2.2.2.2.2.2.2.2 j hj)
    · have k := jt x hx
      rw [u 1 _ (by decide), u 3 _ (by decide), u 12 _ (by decide), vs_at, vs_at]
      refine ⟨k.1, k.2.1, k.2.2.1, k.2.2.2.1, ?_, k.2.2.2.2.2.1⟩
      split
      · exact hb
      · split
        · exact ha
        · exact k.2.2.2.2.1
    · rw [u 4 _ (by decide), u 7 _ (by decide)]
      exact ⟨(h.1.1.2.2.1 j hj).1, (h.1.1.2.2.1 j hj).2.1⟩
    · rw [u 0 9 (by decide)]
      exact h.1.1.2.2.2.2.2.2.2.2.2.1.2.1
  have hs' : vs (vs V 8 0 a) 8 1 b 0 10 ≠ 1 := by rw [u 0 10 (by decide)]; exact hs
  exact ⟨⟨hJ, Je_ne hs'⟩, XI_cg h.2 (fun _ => u 9 _ (by decide)) (fun _ => u 11 _ (by decide)) (u 0 26 (by decide)) (fun _ => u 17 _ (by decide)) (LI_ne hs')⟩
theorem P_join {V E : zS} (h : SI V E) (c0 c1 : Int32) : PP mX4_join mX5_join [.int c0, .int c1] V E := by
  by_cases q : ∃ a b : Nat, (a < 3 ∧ c0 = nI a) ∧ (b < 3 ∧ c1 = nI b) ∧ V 0 10 ≠ 1
  · obtain ⟨a, b, ⟨ha, rfl⟩, ⟨hb, rfl⟩, hs⟩ := q
    exact PP.to (SI_join h ha hb hs) (m_join_ok V a b h.1.1.1 ha hb hs) (x_join_ok V E a b h.1.1.1 ha hb hs)
  · exact PP.same h (m_join_no V c0 c1 h.1.1.1 q) (x_join_no V E c0 c1 h.1.1.1 q)
theorem P_ask {V E : zS} (h : SI V E) : PP mX4_ask mX5_ask [] V E := by
  by_cases q : V 0 10 = 1
  · exact PP.same h (m_ask_no V h.1.1.1 q) (x_ask_no V E h.1.1.1 q)
  · exact ⟨_, mAsk V, m_ask_ok V h.1.1 q, (x_ask_ok V E h.1.1 h.2.1.1 q).mono (fun _ _ ⟨a, E', b, c⟩ => ⟨a, E', ⟨JE_ends (JV_ask0 h.1.1), c⟩, b⟩)⟩
theorem P_stop {V E : zS} (h : SI V E) : PP mX4_stop mX5_stop [] V E := by
  by_cases q : V 0 10 = 1
  · have hs' : vs V 0 10 0 0 10 ≠ 1 := by rw [vs_same]; decide
    exact PP.to ⟨⟨JV_state h.1.1 (by decide), Je_ne hs'⟩, XI_cg h.2 (fun _ => vs_k _ (by decide)) (fun _ => vs_k _ (by decide)) (vs_i _ (by decide)) (fun _ => vs_k _ (by decide)) (LI_ne hs')⟩ (m_stop_ok V h.1.1.1 q) (x_stop_ok V E h.1.1.1 q)
  · exact PP.same h (m_stop_no V h.1.1.1 q) (x_stop_no V E h.1.1.1 q)
theorem P_go {V E : zS} (h : SI V E) (x : Int32) : PP mX4_go mX5_go [.int x] V E := by
  by_cases q : rg x 201 ∧ V 0 10 = 1
  · obtain ⟨⟨n, hn, rfl⟩, hs⟩ := q
    exact ⟨_, goF n V, m_go_ok V n h.1 hn hs, (x_go_ok V E n h.1 h.2 hn hs).mono (fun _ _ ⟨a, E', b, c⟩ => ⟨a, E', ⟨JE_go n V h.1, c⟩, b⟩)⟩
  · exact PP.same h (m_go_no V x h.1.1.1 q) (x_go_no V E x h.1.1.1 q)
theorem JV_mem {V : zS} (h : JV V) {n : Nat} (hn : n < 101) : JV (mSpills (vs V 0 8 n)) ∧ ∀ e, 2 ≤ mSpills (vs V 0 8 n) 18 e ↔ 2 ≤ V 18 e := by
  obtain ⟨hV, jt, j8, jk, jo, hq, hg, jp, jgp, js, jc⟩ := h
  obtain ⟨a1, a2, a3⟩ := mSpills_all (QI_o (x := n) hq (Or.inl (show (0 : Nat) = 0 ∧ 8 ≠ 23 ∧ 8 ≠ 28 by decide)))
  have b18 : ∀ e, mSpills (vs V 0 8 n) 18 e = V 18 e ∨ (mSpills (vs V 0 8 n) 18 e = 3 ∧ V 18 e = 2) := fun e => by
    have := a3 e
    rw [vs_k _ (show (18 : Nat) ≠ 0 by decide)] at this
    exact this
  have e1 : ∀ k, k ≠ 0 → k ≠ 18 → ∀ j, mSpills (vs V 0 8 n) k j = V k j := fun k h1 h2 j => by rw [mSpills_o ⟨h2, fun z => absurd z h1⟩, vs_k _ h1]
  have e0 : ∀ j, j ≠ 8 → j ≠ 28 → mSpills (vs V 0 8 n) 0 j = V 0 j := fun j h1 h2 => by rw [mSpills_o ⟨by decide, fun _ => h2⟩, vs_i _ h1]
  have e8 : mSpills (vs V 0 8 n) 0 8 = n := by rw [mSpills_o ⟨by decide, fun _ => by decide⟩, vs_same]
  refine ⟨⟨a2 (hV.up (by omega)), fun y hy => ?_, fun j hj => ?_, fun y k hy hk => ?_, fun y hy => ?_, a1, ?_, fun y z hy hz => ?_, fun q hq => ?_, ?_, fun j hj => ?_⟩, fun e => ?_⟩
  · simp only [e1 1 (by decide) (by decide), e1 3 (by decide) (by decide), e1 9 (by decide) (by decide), e1 10 (by decide) (by decide), e1 8 (by decide) (by decide), e1 12 (by decide) (by decide), e1 15 (by decide) (by decide), e1 16 (by decide) (by decide), e1 17 (by decide) (by decide)]
    exact jt y hy
  · simp only [e1 4 (by decide) (by decide), e1 7 (by decide) (by decide), e1 11 (by decide) (by decide)]
    exact j8 j hj
  · simp only [e1 13 (by decide) (by decide), e1 14 (by decide) (by decide), e1 10 (by decide) (by decide)]
    exact jk y k hy hk
  · simp only [e1 9 (by decide) (by decide), e1 11 (by decide) (by decide)]
    exact jo y hy
  · exact GI_o hg (e0 26 (by decide) (by decide)) (e1 21 (by decide) (by decide)) (e1 20 (by decide) (by decide))
  · rw [e1 10 (by decide) (by decide)]
    have k := jp y z hy hz
    have b := b18 (50 * y + z)
    refine ⟨?_, by omega⟩
    rw [← k.1]; omega
  · rw [e1 20 (by decide) (by decide)]
    have k := jgp q hq
    have b := b18 (q / 50)
    have b' := b18 (50 + q % 50)
    refine ⟨k.1, fun z => ?_⟩
    have := k.2 z
    omega
  · obtain ⟨s1, s2, s3, s4, s5, s6, s7, s8, s9, s10⟩ := js
    unfold J_s
    rw [e8, e0 9 (by decide) (by decide), e0 10 (by decide) (by decide), e0 29 (by decide) (by decide), e0 23 (by decide) (by decide), e0 26 (by decide) (by decide), e0 27 (by decide) (by decide), e0 30 (by decide) (by decide), e0 31 (by decide) (by decide), e0 11 (by decide) (by decide)]
    simp only [e1 10 (by decide) (by decide), e1 17 (by decide) (by decide), e1 16 (by decide) (by decide), e1 9 (by decide) (by decide)]
    exact ⟨by omega, s2, s3, s4, s5, s6, s7, s8, s9, s10⟩
  · rw [e1 2 (by decide) (by decide)]; exact jc j hj
  · have b := b18 e
    omega
theorem SI_mem {V E : zS} (h : SI V E) {n : Nat} (hn : n < 101) : SI (mSpills (vs V 0 8 n)) E := by
  obtain ⟨hJ, h18⟩ := JV_mem h.1.1 hn
  have e1 : ∀ k, k ≠ 0 → k ≠ 18 → ∀ j, mSpills (vs V 0 8 n) k j = V k j := fun k h1 h2 j => by rw [mSpills_o ⟨h2, fun z => absurd z h1⟩, vs_k _ h1]
  have e0 : ∀ j, j ≠ 8 → j ≠ 28 → mSpills (vs V 0 8 n) 0 j = V 0 j := fun j h1 h2 => by rw [mSpills_o ⟨by decide, fun _ => h2⟩, vs_i _ h1]
  have hc := cand_cg (e1 20 (by decide) (by decide)) (e1 1 (by decide) (by decide)) (e1 2 (by decide) (by decide)) (e1 8 (by decide) (by decide)) h18
  exact ⟨⟨hJ, Je_cg h.1.2 (e0 10 (by decide) (by decide)) (e1 10 (by decide) (by decide)) (e1 1 (by decide) (by decide)) hc⟩, XI_cg h.2 (e1 9 (by decide) (by decide)) (e1 11 (by decide) (by decide)) (e0 26 (by decide) (by decide)) (e1 17 (by decide) (by decide)) (LI_cg h.2.2.2 (e0 10 (by decide) (by decide)) (e1 10 (by decide) (by decide)) (e1 1 (by decide) (by decide)) hc)⟩
theorem P_memory {V E : zS} (h : SI V E) (x : Int32) : PP mX4_memory mX5_memory [.int x] V E := by
  by_cases q : rg x 101
  · obtain ⟨n, hn, rfl⟩ := id q
    exact PP.to (SI_mem h hn) (m_memory_ok V n h.1.1.2.2.2.2.2.1 h.1.1.1 hn) (x_memory_ok V E n h.1.1.2.2.2.2.2.1 h.1.1.1 hn)
  · exact PP.same h (m_memory_no V x q) (x_memory_no V E x q)
theorem SI_one {V E : zS} (h : SI V E) {k i x : Nat} (hk : (k = 0 ∧ i = 9 ∧ x ≤ 2) ∨ (k = 12 ∧ x ≤ 1)) : SI (vs V k i x) E := by
  have u : ∀ a b, (a = 0 → b ≠ 9) → a ≠ 12 → vs V k i x a b = V a b := by
    intro a b h1 h2
    by_cases q : a = k
    · subst q
      rw [vs_i _ (by omega)]
    · exact vs_k _ q
  have e1 : ∀ a, a ≠ 0 → a ≠ 12 → ∀ b, vs V k i x a b = V a b := fun a h1 h2 b => u a b (fun z => absurd z h1) h2
  have e0 : ∀ b, b ≠ 9 → vs V k i x 0 b = V 0 b := fun b hb => u 0 b (fun _ => hb) (by decide)
  have hJ : JV (vs V k i x) := by
    refine JV_sh h.1.1 (h.1.1.1.up (by omega)) (fun a b g1 _ g3 => u a b g1 g3) (fun y hy => ?_) (fun j hj => ?_) ?_ (fun j hj => by rw [e1 2 (by decide) (by decide)]; exact h.1.1.2.2.2.2.2.2.2.2.2.2 j hj)
    · have a := h.1.1.2.1 y hy
      rw [e1 1 (by decide) (by decide), e1 3 (by decide) (by decide), e1 8 (by decide) (by decide)]
      refine ⟨a.1, a.2.1, a.2.2.1, a.2.2.2.1, a.2.2.2.2.1, ?_⟩
      unfold vs
      split
      · split
        · omega
        · exact a.2.2.2.2.2.1
      · exact a.2.2.2.2.2.1
    · rw [e1 4 (by decide) (by decide), e1 7 (by decide) (by decide)]
      exact ⟨(h.1.1.2.2.1 j hj).1, (h.1.1.2.2.1 j hj).2.1⟩
    · have := h.1.1.2.2.2.2.2.2.2.2.2.1.2.1
      unfold vs
      split
      · split
        · omega
        · exact this
      · exact this
  have hc := cand_cg (e1 20 (by decide) (by decide)) (e1 1 (by decide) (by decide)) (e1 2 (by decide) (by decide)) (e1 8 (by decide) (by decide)) (fun e => by rw [e1 18 (by decide) (by decide)])
  exact ⟨⟨hJ, Je_cg h.1.2 (e0 10 (by decide)) (e1 10 (by decide) (by decide)) (e1 1 (by decide) (by decide)) hc⟩, XI_cg h.2 (e1 9 (by decide) (by decide)) (e1 11 (by decide) (by decide)) (e0 26 (by decide)) (e1 17 (by decide) (by decide)) (LI_cg h.2.2.2 (e0 10 (by decide)) (e1 10 (by decide) (by decide)) (e1 1 (by decide) (by decide)) hc)⟩
theorem P_force {V E : zS} (h : SI V E) (x : Int32) : PP mX4_force mX5_force [.int x] V E := by
  by_cases q : ∃ n : Nat, n < 3 ∧ x = zo n
  · obtain ⟨n, hn, rfl⟩ := q
    exact PP.to (SI_one h (Or.inl ⟨rfl, rfl, by omega⟩)) (m_force_ok V n hn) (x_force_ok V E n hn)
  · exact PP.same h (m_force_no V x q) (x_force_no V E x q)
/-- an order that was set -/
theorem SI_order {V E E' : zS} (h : SI V E) {t d : Nat} (ht : t < 2) (hok : dOK (V 9 t) d) (hB : BL E') (hd : ∀ j, j < V 9 t → E' (19 + 8 * t + 4) j = dg d j) (hE : ∀ a b, a ≠ 19 + 8 * t + 4 → a ≠ 19 + 8 * t + 5 → E' a b = E a b) : SI (mOrder V t d) E' := by
  have jtt := h.1.1.2.1 t ht
  have hV := h.1.1.1
  have j8 := h.1.1.2.2.1
  have o4 : ∀ j, j < 4 → ordD V t d (V 9 t) j < 4 := by
    intro j hj
    unfold ordD
    split
    · rename_i q
      have := hok.1 j q; omega
    · exact (j8 _ (by omega)).2.2
  have ot : ∀ j, j < V 9 t → mOrder V t d 11 (4 * t + j) = dg d j := by
    intro j hj
    unfold mOrder
    rw [vs_k _ (by decide), ordV_at _ _ _ (by omega)]
    unfold ordD
    rw [if_pos hj]
  have oo : ∀ x, x < 2 → x ≠ t → ∀ j, j < 4 → mOrder V t d 11 (4 * x + j) = V 11 (4 * x + j) := by
    intro x hx hxt j hj
    unfold mOrder
    rw [vs_k _ (by decide)]
    unfold ordV
    rw [if_neg (by omega)]
  have u : ∀ a, a ≠ 11 → a ≠ 12 → ∀ b, mOrder V t d a b = V a b := by
    intro a h1 h2 b
    unfold mOrder
    rw [vs_k _ h2, ordV_k _ _ _ h1]
  have u12 : ∀ x, mOrder V t d 12 x = if x = t then 1 else V 12 x := by
    intro x
    unfold mOrder
    rw [vs_at, ordV_k _ _ _ (by decide)]
  have hc := cand_cg (u 20 (by decide) (by decide)) (u 1 (by decide) (by decide)) (u 2 (by decide) (by decide)) (u 8 (by decide) (by decide)) (fun e => by rw [u 18 (by decide) (by decide)])
  have hb8 : BV (mOrder V t d) := by
    unfold mOrder
    exact (BV_ord hV t o4).up (by omega)
  have inj := surj_inj hok.1 hok.2.1
  refine ⟨⟨?_, Je_cg h.1.2 (u 0 (by decide) (by decide) 10) (u 10 (by decide) (by decide)) (u 1 (by decide) (by decide)) hc⟩, ?_⟩
  · obtain ⟨_, jt, j8, jk, jo, hq, hg, jp, jgp, js, jc⟩ := h.1.1
    refine ⟨hb8, fun y hy => ?_, fun j hj => ?_, fun y k hy hk => ?_, fun y hy => ?_, ?_, ?_, fun y z hy hz => ?_, fun q hq => ?_, ?_, fun j hj => ?_⟩
    · simp only [u 1 (by decide) (by decide), u 3 (by decide) (by decide), u 9 (by decide) (by decide), u 10 (by decide) (by decide), u 8 (by decide) (by decide), u12, u 15 (by decide) (by decide), u 16 (by decide) (by decide), u 17 (by decide) (by decide)]
      have a := jt y hy
      refine ⟨a.1, a.2.1, a.2.2.1, a.2.2.2.1, a.2.2.2.2.1, ?_, a.2.2.2.2.2.2⟩
      split
      · omega
      · exact a.2.2.2.2.2.1
    · rw [u 4 (by decide) (by decide), u 7 (by decide) (by decide)]
      refine ⟨(j8 j hj).1, (j8 j hj).2.1, ?_⟩
      unfold mOrder
      rw [vs_k _ (by decide)]
      unfold ordV
      split
      · exact o4 _ (by omega)
      · exact (j8 j hj).2.2
    · rw [u 13 (by decide) (by decide), u 14 (by decide) (by decide), u 10 (by decide) (by decide)]
      exact jk y k hy hk
    · rw [u 9 (by decide) (by decide)]
      by_cases q : y = t
      · subst q
        refine ⟨fun j hj => by rw [ot j hj]; exact hok.1 j hj, fun i j hi hj e => ?_, fun x hx => ?_⟩
        · rw [ot i hi, ot j hj] at e
          rcases Nat.lt_trichotomy i j with z | z | z
          · exact absurd e (inj i j z hj)
          · exact z
          · exact absurd e.symm (inj j i z hi)
        · obtain ⟨k, hk, e⟩ := hok.2.1 x hx
          exact ⟨k, hk, by rw [ot k hk]; exact e⟩
      · have jy := jo y hy
        have ay := jt y hy
        refine ⟨fun j hj => by rw [oo y hy q j (by omega)]; exact jy.1 j hj, fun i j hi hj e => ?_, fun x hx => ?_⟩
        · rw [oo y hy q i (by omega), oo y hy q j (by omega)] at e
          exact jy.2.1 i j hi hj e
        · obtain ⟨k, hk, e⟩ := jy.2.2 x hx
          exact ⟨k, hk, by rw [oo y hy q k (by omega)]; exact e⟩
    · unfold QI
      simp only [u 0 (by decide) (by decide), u 22 (by decide) (by decide), u 19 (by decide) (by decide), u 18 (by decide) (by decide)]
      exact hq
    · exact GI_o hg (u 0 (by decide) (by decide) 26) (u 21 (by decide) (by decide)) (u 20 (by decide) (by decide))
    · rw [u 18 (by decide) (by decide), u 10 (by decide) (by decide)]
      exact jp y z hy hz
    · rw [u 20 (by decide) (by decide), u 18 (by decide) (by decide), u 18 (by decide) (by decide)]
      exact jgp q hq
    · unfold J_s
      simp only [u 0 (by decide) (by decide), u 10 (by decide) (by decide), u 17 (by decide) (by decide), u 16 (by decide) (by decide), u 9 (by decide) (by decide)]
      exact js
    · rw [u 2 (by decide) (by decide)]; exact jc j hj
  · refine ⟨⟨hB, fun x j hx hj => ?_⟩, ?_, ?_⟩
    · rw [u 9 (by decide) (by decide)] at hj
      by_cases q : x = t
      · subst q
        rw [ot j hj, show 23 + 8 * x = 19 + 8 * x + 4 by omega]
        exact hd j hj
      · have := h.1.1.2.1 x hx
        rw [oo x hx q j (by omega), hE _ _ (by omega) (by omega)]
        exact h.2.1.2 x j hx hj
    · rw [u 0 (by decide) (by decide), u 17 (by decide) (by decide), u 17 (by decide) (by decide), hE _ _ (by omega) (by omega)]
      exact h.2.2.1
    · have hl : LI V E' := by
        intro hs
        have k := h.2.2.2 hs
        rw [hE 0 0 (by omega) (by omega), hE 0 1 (by omega) (by omega)]
        exact k
      exact LI_cg hl (u 0 (by decide) (by decide) 10) (u 10 (by decide) (by decide)) (u 1 (by decide) (by decide)) hc
theorem P_order {V E : zS} (h : SI V E) (tt dd : Int32) : PP mX4_order mX5_order [.int tt, .int dd] V E := by
  have jt := h.1.1.2.1
  have h4 : ∀ t, t < 2 → V 9 t ≤ 4 := fun t ht => by have := jt t ht; omega
  by_cases q : ∃ t : Nat, (t < 2 ∧ tt = nI t) ∧ V 0 10 = 1 ∧ (dd = -1 ∨ ∃ d : Nat, d < 2 ^ 31 ∧ dd = nI d ∧ dOK (V 9 t) d)
  · obtain ⟨t, ⟨ht, rfl⟩, hs, rfl | ⟨d, hd, rfl, hok⟩⟩ := q
    · exact PP.to (SI_one h (Or.inr ⟨rfl, by decide⟩)) (m_order_none V t h.1.1.1 ht hs) (x_order_none t ht V E h.1.1.1 hs)
    · exact ⟨_, mOrder V t d, m_order_ok V t d h.1.1.1 ht (h4 t ht) hd hs hok, (x_order_ok t ht V E d h.1.1.1 h.2.1.1 hd (h4 t ht) hs hok).mono (fun _ _ ⟨a, E', b1, b2, b3, b4⟩ => ⟨a, E', SI_order h ht hok b1 b3 b4, b2⟩)⟩
  · exact ⟨_, V, m_order_no V tt dd h.1.1.1 h4 q, (x_order_no V E tt dd h.1.1.1 h.2.1.1 h4 q).mono (fun _ _ ⟨a, E', b1, b2, b3⟩ => ⟨a, E', ⟨h.1, XI_E h.2 b1 (fun a b z => b3 a b (by omega) (by omega))⟩, b2⟩)⟩
theorem P_ordered {V E : zS} (h : SI V E) (t k : Int32) : PP mX4_ordered mX5_ordered [.int t, .int k] V E := by
  have jt := h.1.1.2.1
  have h4 : ∀ t, t < 2 → V 9 t ≤ 4 := fun t ht => by have := jt t ht; omega
  have s10 := h.1.1.2.2.2.2.2.2.2.2.2.1.2.2.2.2.2.2.2.2.2
  by_cases q : ∃ t' k' : Nat, (t' < 2 ∧ t = nI t') ∧ (k' < V 9 t' ∧ k = nI k')
  · obtain ⟨t', k', ⟨ht, rfl⟩, ⟨hk, rfl⟩⟩ := q
    have h11 : V 0 11 ≠ 0 := fun z => by
      have := s10 z
      rcases (show t' = 0 ∨ t' = 1 by omega) with rfl | rfl <;> omega
    exact PP.same h (m_ordered_ok V t' k' h.1.1.1 ht (h4 t' ht) hk h11) (x_ordered_ok t' ht V E k' (h4 t' ht) hk (by rw [show 19 + 8 * t' + 4 = 23 + 8 * t' by omega]; exact h.2.1.2 t' k' ht hk))
  · exact PP.same h (m_ordered_no V t k h.1.1.1 h4 (fun ⟨a, b, c, d, _⟩ => q ⟨a, b, c, d⟩)) (x_ordered_no V E t k h4 q)
theorem P_told {V E : zS} (h : SI V E) (t k w : Int32) : PP mX4_told mX5_told [.int t, .int k, .int w] V E := by
  have h4 : ∀ t, t < 2 → V 3 t ≤ 4 := fun t ht => (h.1.1.2.1 t ht).2.1
  by_cases q : ∃ t' k' w' : Nat, (t' < 2 ∧ t = nI t') ∧ (k' < V 3 t' ∧ k = nI k') ∧ (w' < 3 ∧ w = nI w')
  · obtain ⟨t', k', w', ⟨ht, rfl⟩, ⟨hk, rfl⟩, ⟨hw, rfl⟩⟩ := q
    exact PP.same h (m_told_ok V t' k' w' ht (h4 t' ht) hk hw) (x_told_ok t' ht V E k' w' (h4 t' ht) hk hw)
  · exact PP.same h (m_told_no V t k w h4 q) (x_told_no V E t k w h4 q)
theorem P_given {V E : zS} (h : SI V E) (i t : Int32) : PP mX4_given mX5_given [.int i, .int t] V E := by
  have hg := GI_le h.1.1.2.2.2.2.2.2.1
  by_cases q : ∃ i' t' : Nat, (i' < V 0 26 ∧ i = nI i') ∧ (t' < 2 ∧ t = nI t')
  · obtain ⟨i', t', ⟨hi, rfl⟩, ⟨ht, rfl⟩⟩ := q
    exact PP.same h (m_given_ok V i' t' h.1.1.1 ht hg hi) (x_given_ok V E i' t' h.1.1.1 ht hg hi)
  · exact PP.same h (m_given_no V i t hg q) (x_given_no V E i t hg q)
theorem P_where {V E : zS} (h : SI V E) (t k : Int32) : PP mX4_where mX5_where [.int t, .int k] V E := by
  have h1 : ∀ t, t < 2 → V 1 t ≤ 50 := fun t ht => (h.1.1.2.1 t ht).1
  by_cases q : ∃ t' k' : Nat, (t' < 2 ∧ t = nI t') ∧ (k' < V 1 t' ∧ k = nI k')
  · obtain ⟨t', k', ⟨ht, rfl⟩, ⟨hk, rfl⟩⟩ := q
    exact PP.same h (m_where_ok V t' k' ht (h1 t' ht) hk) (x_where_ok t' ht V E k' (h1 t' ht) hk)
  · exact PP.same h (m_where_no V t k h1 q) (x_where_no V E t k h1 q)
theorem P_sum {V E : zS} (h : SI V E) (t c : Int32) : PP mX4_sum mX5_sum [.int t, .int c] V E := by
  by_cases q : rg t 2 ∧ rg c 3
  · obtain ⟨⟨t', ht, rfl⟩, ⟨c', hc, rfl⟩⟩ := q
    exact PP.same h (m_sum_ok V t' c' h.1.1.1 ht hc h.1.1.2.2.2.2.2.2.1) (x_sum_ok t' ht V E c' h.1.1.1 hc h.1.1.2.2.2.2.2.2.1)
  · exact PP.same h (m_sum_no V t c q) (x_sum_no V E t c q)
theorem P_plain {V E : zS} (h : SI V E) : PP mX4_plain mX5_plain [] V E := by
  have a0 := h.1.1.2.1 0 (by decide)
  have a1 := h.1.1.2.1 1 (by decide)
  exact ⟨_, V, m_plain V h.1.1.1 a0.2.2.2.2.1 a1.2.2.2.2.1 a0.2.1 a1.2.1 a0.1 a1.1 (fun j hj => (h.1.1.2.2.1 j hj).1), (x_plain V E h.1.1 h.2.1.1).mono (fun _ _ ⟨a, E', b1, b2, b3⟩ => ⟨a, E', ⟨h.1, XI_E h.2 b1 (fun a b z => b3 a b (by omega))⟩, b2⟩)⟩
theorem P_fixed {V E : zS} (h : SI V E) (t : Int32) : PP mX4_fixed mX5_fixed [.int t] V E := by
  by_cases q : rg t 2
  · obtain ⟨t', ht, rfl⟩ := q
    by_cases z : ∃ m, FX V t' m
    · obtain ⟨m, hm⟩ := z
      refine ⟨nI m, V, (m_fixed_ok V t' h.1.1 ht).mono (fun _ _ ⟨⟨m', hm', e⟩, b⟩ => ⟨by rw [e, FX_uniq hm hm'], b⟩), (x_fixed_ok t' ht V E h.1.1 h.2.1.1).mono (fun _ _ ⟨⟨m', hm', e⟩, E', b1, b2, b3⟩ => ⟨by rw [e, FX_uniq hm hm'], E', ⟨h.1, XI_E h.2 b1 (fun a b z => b3 a b (by omega) (by omega))⟩, b2⟩)⟩
    · exact ⟨0, V, (m_fixed_ok V t' h.1.1 ht).mono (fun _ _ ⟨⟨m', hm', e⟩, b⟩ => absurd ⟨m', hm'⟩ z), (x_fixed_ok t' ht V E h.1.1 h.2.1.1).mono (fun _ _ ⟨⟨m', hm', e⟩, _⟩ => absurd ⟨m', hm'⟩ z)⟩
  · exact PP.same h (m_fixed_no V t q) (x_fixed_no V E t q)
theorem P_cost {V E : zS} (h : SI V E) (t : Int32) : PP mX4_cost mX5_cost [.int t] V E := by
  by_cases q : rg t 2
  · obtain ⟨t', ht, rfl⟩ := q
    exact PP.same h (m_cost_ok V t' ht) (x_cost_ok t' ht V E)
  · exact PP.same h (m_cost_no V t q) (x_cost_no V E t q)
theorem P_count {V E : zS} (h : SI V E) (w : Int32) : PP mX4_count mX5_count [.int w] V E := by
  by_cases q : rg w 10
  · obtain ⟨w', hw, rfl⟩ := q
    have a0 := (h.1.1.2.1 0 (by decide)).2.2.2.2.2.2.2
    have a1 := (h.1.1.2.1 1 (by decide)).2.2.2.2.2.2.2
    have s7 := h.1.1.2.2.2.2.2.2.2.2.2.1.2.2.2.2.2.2.1
    have e2 := h.2.2.1
    exact PP.same h (m_count_ok V w' h.1.1.1 hw) (x_count_ok V E w' hw h.1.1.2.2.2.2.2.1 (by omega))
  · exact PP.same h (m_count_no V w q) (x_count_no V E w q)
/-- a new object -/
def V0 : zS := fun k j => if k = 0 ∧ j = 8 then 100 else if k = 0 ∧ j = 29 then 1 else 0
theorem SI_0 : SI V0 (fun _ _ => 0) := by
  have z : ∀ k j, k ≠ 0 → V0 k j = 0 := fun k j hk => by unfold V0; rw [if_neg (fun w => hk w.1), if_neg (fun w => hk w.1)]
  have z0 : ∀ j, j ≠ 8 → j ≠ 29 → V0 0 j = 0 := fun j h1 h2 => by unfold V0; rw [if_neg (fun w => h1 w.2), if_neg (fun w => h2 w.2)]
  have hB : BV V0 := by
    intro k j
    unfold V0
    split
    · decide
    · split <;> decide
  have hs : V0 0 10 ≠ 1 := by rw [z0 10 (by decide) (by decide)]; decide
  refine ⟨⟨⟨hB, fun t ht => ?_, fun j hj => ?_, fun t k _ _ => ?_, fun t ht => ?_, ?_, ?_, fun t r ht hr => ?_, fun p hp => ?_, ?_, fun j hj => ?_⟩, Je_ne hs⟩, ⟨fun _ _ => by show 0 < 2 ^ 31; decide, fun t j ht hj => ?_⟩, ?_, LI_ne hs⟩
  · rw [z 1 t (by decide), z 3 t (by decide), z 9 t (by decide), z 10 t (by decide), z 8 t (by decide), z 12 t (by decide), z 15 t (by decide), z 16 t (by decide), z 17 t (by decide)]
    exact ⟨by decide, by decide, by decide, by decide, by decide, by decide, by decide, rfl⟩
  · rw [z 4 j (by decide), z 7 j (by decide), z 11 j (by decide)]; omega
  · rw [z 13 _ (by decide), z 14 _ (by decide)]; omega
  · rw [z 9 _ (by decide)]
    exact ⟨fun j hj => by omega, fun i j hi => by omega, fun x hx => by omega⟩
  · refine ⟨by rw [z0 28 (by decide) (by decide)]; exact Nat.zero_le _, by rw [z0 23 (by decide) (by decide)]; decide, fun i hi => ?_, fun e he hp => ?_⟩
    · rw [z0 23 (by decide) (by decide)] at hi; omega
    · rw [z 18 _ (by decide)] at hp; omega
  · refine ⟨fun i hi => ?_, fun i j hi => ?_, fun p hp hne => ?_⟩
    · rw [z0 26 (by decide) (by decide)] at hi; omega
    · rw [z0 26 (by decide) (by decide)] at hi; omega
    · exact absurd (z 20 p (by decide)) hne
  · rw [z 18 _ (by decide), z 10 _ (by decide)]; omega
  · rw [z 20 _ (by decide)]
    exact ⟨by omega, fun w => absurd rfl w⟩
  · unfold J_s
    rw [show V0 0 8 = 100 from rfl, show V0 0 29 = 1 from rfl, z0 9 (by decide) (by decide), z0 10 (by decide) (by decide), z0 23 (by decide) (by decide), z0 26 (by decide) (by decide), z0 27 (by decide) (by decide), z0 30 (by decide) (by decide), z0 31 (by decide) (by decide), z 10 _ (by decide), z 10 _ (by decide), z 17 _ (by decide), z 17 _ (by decide), z 16 _ (by decide), z 16 _ (by decide), z 9 _ (by decide), z 9 _ (by decide)]
    omega
  · rw [z 2 _ (by decide)]; decide
  · rw [z 9 _ (by decide)] at hj; omega
  · rw [z0 26 (by decide) (by decide)]; rfl

