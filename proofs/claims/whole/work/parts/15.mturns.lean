/-- another order of the tests of table t -/
def ordV (V : zS) (t : Nat) (o : Nat → Nat) : zS := fun a b => if a = 11 ∧ 4 * t ≤ b ∧ b < 4 * t + 4 then o (b - 4 * t) else V a b
theorem ordV_at (V : zS) (t : Nat) (o : Nat → Nat) {j : Nat} (h : j < 4) : ordV V t o 11 (4 * t + j) = o j := by
  unfold ordV
  rw [if_pos ⟨rfl, by omega, by omega⟩, show 4 * t + j - 4 * t = j by omega]
theorem ordV_k (V : zS) (t : Nat) (o : Nat → Nat) {a b : Nat} (h : a ≠ 11) : ordV V t o a b = V a b := by
  unfold ordV
  rw [if_neg (fun z => h z.1)]
theorem ordV_vs (V : zS) (t : Nat) (o : Nat → Nat) {j : Nat} (x : Nat) (h : j < 4) : vs (ordV V t o) 11 (4 * t + j) x = ordV V t (fun i => if i = j then x else o i) := by
  funext a b
  unfold vs ordV
  by_cases q : a = 11
  · subst q
    by_cases q2 : b = 4 * t + j
    · subst q2
      rw [if_pos rfl, if_pos rfl, if_pos ⟨rfl, by omega, by omega⟩]
      show x = if _ = j then x else _
      rw [if_pos (by omega)]
    · rw [if_pos rfl, if_neg q2]
      by_cases q3 : 4 * t ≤ b ∧ b < 4 * t + 4
      · rw [if_pos ⟨rfl, q3⟩, if_pos ⟨rfl, q3⟩]
        show _ = if _ = j then x else _
        rw [if_neg (by omega)]
      · rw [if_neg (fun z => q3 z.2), if_neg (fun z => q3 z.2)]
  · rw [if_neg q, if_neg (fun z => q z.1), if_neg (fun z => q z.1)]
theorem ordV_self (V : zS) (t : Nat) {o : Nat → Nat} (h : ∀ j, j < 4 → o j = V 11 (4 * t + j)) : ordV V t o = V := by
  funext a b
  unfold ordV
  by_cases q : a = 11 ∧ 4 * t ≤ b ∧ b < 4 * t + 4
  · rw [if_pos q, h _ (by omega), q.1, show 4 * t + (b - 4 * t) = b by omega]
  · rw [if_neg q]
theorem ordV_less (V : zS) (t : Nat) (o : Nat → Nat) (a b : Nat) : lessP (ordV V t o) t a b ↔ lessP V t a b := by
  unfold lessP wgt
  simp only [ordV_k _ _ _ (show (7 : Nat) ≠ 11 by decide), ordV_k _ _ _ (show (13 : Nat) ≠ 11 by decide), ordV_k _ _ _ (show (14 : Nat) ≠ 11 by decide)]
theorem BV_ord {V : zS} (hV : BV V) (t : Nat) {o : Nat → Nat} (h : ∀ j, j < 4 → o j < 4) : BV (ordV V t o) := by
  intro a b
  unfold ordV
  split
  · have := h (b - 4 * t) (by omega); omega
  · exact hV a b
theorem lx_le {ca cb cd fa fb fd : Nat} (hb : 0 < fb) (h1 : ca * fb ≤ cb * fa) (h2 : cb * fd ≤ cd * fb) : ca * fd ≤ cd * fa := by
  have k1 := Nat.mul_le_mul_right fd h1
  have k2 := Nat.mul_le_mul_right fa h2
  have e1 : cb * fa * fd = cb * fd * fa := by rw [Nat.mul_assoc, Nat.mul_comm fa fd, ← Nat.mul_assoc]
  have e2 : ca * fb * fd = ca * fd * fb := by rw [Nat.mul_assoc, Nat.mul_comm fb fd, ← Nat.mul_assoc]
  have e3 : cd * fb * fa = cd * fa * fb := by rw [Nat.mul_assoc, Nat.mul_comm fb fa, ← Nat.mul_assoc]
  exact Nat.le_of_mul_le_mul_right (by omega : ca * fd * fb ≤ cd * fa * fb) hb
theorem lx_lt {ca cb cd fa fb fd : Nat} (hd : 0 < fd) (ha : 0 < fa) (h1 : ca * fb ≤ cb * fa) (h2 : cb * fd ≤ cd * fb) (h3 : ca * fb < cb * fa ∨ cb * fd < cd * fb) : ca * fd < cd * fa := by
  have k1 := Nat.mul_le_mul_right fd h1
  have k2 := Nat.mul_le_mul_right fa h2
  have e1 : cb * fa * fd = cb * fd * fa := by rw [Nat.mul_assoc, Nat.mul_comm fa fd, ← Nat.mul_assoc]
  have e2 : ca * fb * fd = ca * fd * fb := by rw [Nat.mul_assoc, Nat.mul_comm fb fd, ← Nat.mul_assoc]
  have e3 : cd * fb * fa = cd * fa * fb := by rw [Nat.mul_assoc, Nat.mul_comm fb fa, ← Nat.mul_assoc]
  have k : ca * fd * fb < cd * fa * fb := by
    rcases h3 with h | h
    · have := Nat.mul_lt_mul_of_pos_right h hd; omega
    · have := Nat.mul_lt_mul_of_pos_right h ha; omega
  exact Nat.lt_of_mul_lt_mul_right k
theorem less_trans {V : zS} {t a b d : Nat} (h1 : lessP V t a b) (h2 : lessP V t b d) : lessP V t a d := by
  unfold lessP wgt at *
  have pa : 0 < V 14 (4 * t + a) + 1 := Nat.succ_pos _
  have pb : 0 < V 14 (4 * t + b) + 1 := Nat.succ_pos _
  have pd : 0 < V 14 (4 * t + d) + 1 := Nat.succ_pos _
  have g1 := h1.elim Nat.le_of_lt (fun q => Nat.le_of_eq q.1)
  have g2 := h2.elim Nat.le_of_lt (fun q => Nat.le_of_eq q.1)
  have g3 := lx_le pb g1 g2
  rcases h1 with h1 | h1
  · exact Or.inl (lx_lt pd pa g1 g2 (Or.inl h1))
  · rcases h2 with h2 | h2
    · exact Or.inl (lx_lt pd pa g1 g2 (Or.inr h2))
    · rcases Nat.lt_or_ge (V 7 (4 * t + a) * (V 13 (4 * t + a) + 2) * (V 14 (4 * t + d) + 1)) (V 7 (4 * t + d) * (V 13 (4 * t + d) + 2) * (V 14 (4 * t + a) + 1)) with q | q
      · exact Or.inl q
      · exact Or.inr ⟨Nat.le_antisymm g3 q, by omega⟩
theorem less_tot (V : zS) (t a b : Nat) (h : a ≠ b) (hn : ¬ lessP V t a b) : lessP V t b a := by
  unfold lessP at *
  omega
theorem less_asym {V : zS} {t a b : Nat} (h1 : lessP V t a b) (h2 : lessP V t b a) : False := by
  unfold lessP at *
  omega
/-- the tests of table t in the order o: by price for each that fails -/
def srtd (V : zS) (t n : Nat) (o : Nat → Nat) : Prop := (∀ i j, i < j → j < n → lessP V t (o i) (o j)) ∧ (∀ j, j < n → ∃ i, i < n ∧ o j = V 11 (4 * t + i)) ∧ (∀ i, i < n → ∃ j, j < n ∧ V 11 (4 * t + i) = o j) ∧ ∀ j, n ≤ j → o j = V 11 (4 * t + j)
theorem srtd_le {V : zS} {t n : Nat} {o o' : Nat → Nat} (h : srtd V t n o) (h' : srtd V t n o') {k : Nat} (hk : k < n) (ih : ∀ j, j < k → o j = o' j) : o k = o' k ∨ lessP V t (o' k) (o k) := by
  obtain ⟨i, hi, e1⟩ := h.2.1 k hk
  obtain ⟨j, hj, e2⟩ := h'.2.2.1 i hi
  rcases Nat.lt_trichotomy j k with q | q | q
  · have := h.1 j k q hk
    rw [ih j q, ← e2, ← e1] at this
    exact absurd this (fun z => less_asym z z)
  · subst q; exact Or.inl (e1.trans e2)
  · have := h'.1 k j q hj
    rw [← e2, ← e1] at this
    exact Or.inr this
theorem srtd_uniq {V : zS} {t n : Nat} {o o' : Nat → Nat} (h : srtd V t n o) (h' : srtd V t n o') : o = o' := by
  have key : ∀ k, ∀ j, j < k → j < n → o j = o' j := by
    intro k
    induction k with
    | zero => intro j hj; omega
    | succ k ih =>
      intro j hj hn
      rcases Nat.lt_or_ge j k with q | q
      · exact ih j q hn
      · have e : j = k := by omega
        subst e
        rcases srtd_le h h' hn (fun i hi => ih i hi (by omega)) with q1 | q1
        · exact q1
        · rcases srtd_le h' h hn (fun i hi => (ih i hi (by omega)).symm) with q2 | q2
          · exact q2.symm
          · exact absurd q1 (fun z => less_asym z q2)
  funext j
  rcases Nat.lt_or_ge j n with q | q
  · exact key (j + 1) j (by omega) q
  · rw [h.2.2.2 j q, h'.2.2.2 j q]
def turnR (V : zS) (t : Nat) (V' : zS) : Prop := ∃ o, srtd V t (V 9 t) o ∧ ((∀ j, j < V 9 t → o j = V 11 (4 * t + j)) → V' = V) ∧ ((∃ j, j < V 9 t ∧ o j ≠ V 11 (4 * t + j)) → V' = vs (ordV V t o) 0 31 (V 0 31 + 1))
theorem turnR_uniq {V : zS} {t : Nat} {V1 V2 : zS} (h1 : turnR V t V1) (h2 : turnR V t V2) : V1 = V2 := by
  obtain ⟨o, a1, a2, a3⟩ := h1
  obtain ⟨o', b1, b2, b3⟩ := h2
  have e := srtd_uniq a1 b1
  subst e
  by_cases q : ∀ j, j < V 9 t → o j = V 11 (4 * t + j)
  · rw [a2 q, b2 q]
  · have q2 : ∃ j, j < V 9 t ∧ o j ≠ V 11 (4 * t + j) := by
      apply Classical.byContradiction
      intro z
      exact q (fun j hj => Classical.byContradiction (fun w => z ⟨j, hj, w⟩))
    rw [a3 q2, b3 q2]
noncomputable def mTurn (V : zS) (t : Nat) : zS := @dite _ (∃ V', turnR V t V') (Classical.propDecidable _) (fun h => Classical.choose h) (fun _ => V)
theorem mTurn_eq {V : zS} {t : Nat} {V' : zS} (h : turnR V t V') : mTurn V t = V' := by
  unfold mTurn
  have hx : ∃ V', turnR V t V' := ⟨V', h⟩
  rw [dif_pos hx]
  exact turnR_uniq (Classical.choose_spec hx) h
noncomputable def mTurns (V : zS) (t : Nat) : zS := if V 12 t = 0 then mTurn V t else V
/-- A with its element k moved down to p -/
def shf (A : Nat → Nat) (k p : Nat) : Nat → Nat := fun j => if p < j ∧ j ≤ k then A (j - 1) else A j
def insA (A : Nat → Nat) (k p : Nat) : Nat → Nat := fun j => if j = p then A k else shf A k p j
theorem shf_k (A : Nat → Nat) (k : Nat) : shf A k k = A := by
  funext j
  unfold shf
  rw [if_neg (by omega)]
theorem shf_s (A : Nat → Nat) {k p : Nat} (h1 : 1 ≤ p) (h2 : p ≤ k) : (fun i => if i = p then A (p - 1) else shf A k p i) = shf A k (p - 1) := by
  funext j
  unfold shf
  by_cases q : j = p
  · subst q
    rw [if_pos rfl, if_pos (by omega)]
  · rw [if_neg q]
    by_cases q2 : p < j ∧ j ≤ k
    · rw [if_pos q2, if_pos (by omega)]
    · rw [if_neg q2, if_neg (by omega)]
/-- the first k tests of table t stand in order -/
def oInv (V : zS) (t n k : Nat) (A : Nat → Nat) : Prop := (∀ i j, i < j → j < k → j < n → lessP V t (A i) (A j)) ∧ (∀ j, j < n → ∃ i, i < n ∧ A j = V 11 (4 * t + i)) ∧ (∀ i, i < n → ∃ j, j < n ∧ V 11 (4 * t + i) = A j) ∧ (∀ j, k ≤ j → A j = V 11 (4 * t + j)) ∧ (∀ i j, i < n → j < n → A i = A j → i = j) ∧ ∀ j, j < 4 → A j < 4
theorem oInv_ins {V : zS} {t n k p : Nat} {A : Nat → Nat} (h : oInv V t n k A) (hk : k < n) (h1 : 1 ≤ k) (hp : p ≤ k) (hn : n ≤ 4) (hl : ∀ j, p ≤ j → j < k → lessP V t (A k) (A j)) (hs : p = 0 ∨ ¬ lessP V t (A k) (A (p - 1))) : oInv V t n (k + 1) (insA A k p) := by
  obtain ⟨q1, q2, q3, q4, q5, q6⟩ := h
  have hlow : ∀ i, i < p → lessP V t (A i) (A k) := by
    intro i hi
    rcases hs with hs | hs
    · omega
    · have hne : A k ≠ A (p - 1) := fun z => by have := q5 k (p - 1) (by omega) (by omega) z; omega
      have hb := less_tot V t _ _ hne hs
      rcases Nat.lt_or_ge i (p - 1) with q | q
      · exact less_trans (q1 i (p - 1) q (by omega) (by omega)) hb
      · have : i = p - 1 := by omega
        rw [this]; exact hb
  have v1 : ∀ j, j < p → insA A k p j = A j := fun j hj => by unfold insA shf; rw [if_neg (by omega), if_neg (by omega)]
  have v2 : insA A k p p = A k := by unfold insA; rw [if_pos rfl]
  have v3 : ∀ j, p < j → j ≤ k → insA A k p j = A (j - 1) := fun j h1 h2 => by unfold insA shf; rw [if_neg (by omega), if_pos ⟨h1, h2⟩]
  have v4 : ∀ j, k < j → insA A k p j = A j := fun j hj => by unfold insA shf; rw [if_neg (by omega), if_neg (by omega)]
  have src : ∀ j, ∃ i, insA A k p j = A i ∧ (j ≤ k → i ≤ k) ∧ (k < j → i = j) ∧ (j < p → i = j) ∧ (j = p → i = k) ∧ (p < j → j ≤ k → i = j - 1) := by
    intro j
    rcases Nat.lt_trichotomy j p with q | q | q
    · exact ⟨j, v1 j q, by omega, by omega, by omega, by omega, by omega⟩
    · subst q; exact ⟨k, v2, by omega, by omega, by omega, by omega, by omega⟩
    · rcases Nat.lt_or_ge k j with q' | q'
      · exact ⟨j, v4 j q', by omega, by omega, by omega, by omega, by omega⟩
      · exact ⟨j - 1, v3 j q q', by omega, by omega, by omega, by omega, by omega⟩
  refine ⟨fun i j hij hj hjn => ?_, fun j hj => ?_, fun i hi => ?_, fun j hj => ?_, fun i j hi hj e => ?_, fun j hj => ?_⟩
  · rcases Nat.lt_trichotomy j p with b | b | b
    · rw [v1 i (by omega), v1 j b]; exact q1 i j hij (by omega) hjn
    · subst b; rw [v1 i hij, v2]; exact hlow i hij
    · rw [v3 j b (by omega)]
      rcases Nat.lt_trichotomy i p with c | c | c
      · rw [v1 i c]
        exact q1 i (j - 1) (by omega) (by omega) (by omega)
      · subst c; rw [v2]; exact hl (j - 1) (by omega) (by omega)
      · rw [v3 i c (by omega)]; exact q1 (i - 1) (j - 1) (by omega) (by omega) (by omega)
  · obtain ⟨i, e, e1, e2, -⟩ := src j
    rw [e]
    exact q2 i (by omega)
  · obtain ⟨j, hj, e⟩ := q3 i hi
    rcases Nat.lt_trichotomy j k with z | z | z
    · rcases Nat.lt_or_ge j p with y | y
      · exact ⟨j, hj, by rw [v1 j y]; exact e⟩
      · exact ⟨j + 1, by omega, by rw [v3 (j + 1) (by omega) (by omega)]; exact e⟩
    · exact ⟨p, by omega, by rw [v2, ← z]; exact e⟩
    · exact ⟨j, hj, by rw [v4 j z]; exact e⟩
  · rw [v4 j (by omega)]; exact q4 j (by omega)
  · obtain ⟨i', e1, a1, a2, a3, a4, a5⟩ := src i
    obtain ⟨j', e2, b1, b2, b3, b4, b5⟩ := src j
    rw [e1, e2] at e
    have hi' : i' < n := by omega
    have hj' : j' < n := by omega
    have := q5 i' j' hi' hj' e
    omega
  · obtain ⟨i', e1, a1, a2, -⟩ := src j
    rw [e1]
    exact q6 i' (by omega)
def oFlag (V : zS) (t n : Nat) (A : Nat → Nat) (is : Bool) : Prop := (is = false → ∀ j, A j = V 11 (4 * t + j)) ∧ (is = true → ∃ i j, i < j ∧ j < n ∧ lessP V t (V 11 (4 * t + j)) (V 11 (4 * t + i)))
theorem oInv_end {V : zS} {t k : Nat} {A : Nat → Nat} {is : Bool} (h : oInv V t (V 9 t) k A) (hk : V 9 t ≤ k) (hf : oFlag V t (V 9 t) A is) (hk1 : V 9 t = k ∨ is = false) : turnR V t (if is then vs (ordV V t A) 0 31 (V 0 31 + 1) else V) := by
  obtain ⟨q1, q2, q3, q4, q5, q6⟩ := h
  have hge : ∀ j, V 9 t ≤ j → A j = V 11 (4 * t + j) := by
    intro j hj
    rcases hk1 with e | e
    · exact q4 j (by omega)
    · exact hf.1 e j
  refine ⟨A, ⟨fun i j h1 h2 => q1 i j h1 (by omega) h2, q2, q3, hge⟩, fun hu => ?_, fun ⟨j, hj, hne⟩ => ?_⟩
  · cases is with
    | false => rfl
    | true =>
      obtain ⟨i, j, h1, h2, h3⟩ := hf.2 rfl
      rw [← hu i (by omega), ← hu j h2] at h3
      exact absurd (q1 i j h1 (by omega) h2) (fun z => less_asym z h3)
  · cases is with
    | false => exact absurd (hf.1 rfl j) hne
    | true => rfl

set_option maxRecDepth 100000 in
set_option maxHeartbeats 4000000 in
theorem m_turns_i (V : zS) (t k : Nat) (A : Nat → Nat) (Q : Option Value → zh → Prop) (hV : BV V) (ht : t < 2) (hk : k < V 9 t) (h1k : 1 ≤ k) (hn : V 9 t ≤ 4) (h : oInv V t (V 9 t) k A) (is0 : Bool) (hf : oFlag V t (V 9 t) A is0)
    (K : ∀ p is, p ≤ k → oInv V t (V 9 t) (k + 1) (insA A k p) → oFlag V t (V 9 t) (insA A k p) is → Wp mX5_turns Q 14 [.ref 0, .int (nI t), .int (nI (zb is)), .int (nI (k + 1)), .null, .null] [] (hM (ordV V t (insA A k p)))) :
    ∀ (n p : Nat) (is : Bool), p < n → p ≤ k → (∀ j, p ≤ j → j < k → lessP V t (A k) (A j)) → ((p = k ∧ is = is0) ∨ (is = true ∧ p < k)) → Wp mX5_turns Q 40 [.ref 0, .int (nI t), .int (nI (zb is)), .int (nI k), .int (nI (4 * t + p)), .int (nI (A k))] [] (hM (ordV V t (shf A k p))) := by
  have h6 := h.2.2.2.2.2
  intro n
  induction n with
  | zero => intro p is h1; omega
  | succ n ih =>
    intro p is hpn hp hl his
    have hs4 : ∀ j, j < 4 → shf A k p j < 4 := by
      intro j hj
      unfold shf
      split
      · exact h6 _ (by omega)
      · exact h6 j hj
    have leave : (p = 0 ∨ ¬ lessP V t (A k) (A (p - 1))) → Wp mX5_turns Q 91 [.ref 0, .int (nI t), .int (nI (zb is)), .int (nI k), .int (nI (4 * t + p)), .int (nI (A k))] [] (hM (ordV V t (shf A k p))) := by
      intro hs
      have hin := oInv_ins h hk h1k hp hn hl hs
      have hfl : oFlag V t (V 9 t) (insA A k p) is := by
        rcases his with ⟨e1, e2⟩ | ⟨e1, e2⟩
        · subst e1; subst e2
          have e : insA A p p = A := by
            funext j
            unfold insA
            rw [shf_k]
            by_cases q : j = p
            · rw [if_pos q, q]
            · rw [if_neg q]
          rw [e]; exact hf
        · refine ⟨fun z => (by rw [e1] at z; cases z), fun _ => ?_⟩
          cases is0 with
          | true => exact hf.2 rfl
          | false =>
            have hA := hf.1 rfl
            have := hl (k - 1) (by omega) (by omega)
            rw [hA k, hA (k - 1)] at this
            exact ⟨k - 1, k, by omega, hk, this⟩
      refine Wp.aload_n (pc2 := 92) dX5_turns_91 rfl rfl ?_
      refine Wp.getf (pc2 := 95) fX5_47 dX5_turns_92 rfl rfl rfl ?_
      refine Wp.iload (pc2 := 97) dX5_turns_95 rfl rfl ?_
      refine Wp.iload (pc2 := 99) dX5_turns_97 rfl rfl ?_
      refine Wp.iastN (pc2 := 100) dX5_turns_99 rfl rfl (by omega) (by decide) ?_
      refine Wp.heq (hM_a11 _ _ _) ?_
      rw [ordV_vs V t _ _ (by omega)]
      refine Wp.iincN (pc2 := 103) dX5_turns_100 rfl rfl (by decide) rfl ?_
      refine Wp.goto (pc2 := 14) dX5_turns_103 (by decide) ?_
      refine Wp.fg [.ref 0, .int (nI t), .int (nI (zb is)), .int (nI (k + 1)), .null, .null] (And.intro (Or.inr rfl) (And.intro (Or.inr rfl) (And.intro (Or.inr rfl) (And.intro (Or.inr rfl) (And.intro (Or.inl rfl) (And.intro (Or.inl rfl) trivial)))))) ?_
      exact K p is hp hin hfl
    refine Wp.iload (pc2 := 42) dX5_turns_40 rfl rfl ?_
    refine Wp.iconN (pc2 := 43) 4 dX5_turns_42 rfl ?_
    refine Wp.iload_n (pc2 := 44) dX5_turns_43 rfl rfl ?_
    refine Wp.imulN (pc2 := 45) dX5_turns_44 rfl  ?_
    refine Wp.icmpN_le (pc2 := 48) 91 dX5_turns_45 rfl (by decide) (by omega) (by omega) (fun c45 => ?_) (fun c45 => ?_)
    · first
        | exact leave (Or.inl (by omega))
        | exact leave (Or.inr (fun z => zbn hb c64 ((ordV_less V t _ _ _).mpr z)))
    · have hsp : shf A k p (p - 1) = A (p - 1) := by
        unfold shf
        rw [if_neg (by omega)]
      have e41 : 4 * t + p - 1 = 4 * t + (p - 1) := by omega
      refine Wp.aload_n (pc2 := 49) dX5_turns_48 rfl rfl ?_
      refine Wp.iload_n (pc2 := 50) dX5_turns_49 rfl rfl ?_
      refine Wp.iload (pc2 := 52) dX5_turns_50 rfl rfl ?_
      refine Wp.aload_n (pc2 := 53) dX5_turns_52 rfl rfl ?_
      refine Wp.getf (pc2 := 56) fX5_47 dX5_turns_53 rfl rfl rfl ?_
      refine Wp.iload (pc2 := 58) dX5_turns_56 rfl rfl ?_
      refine Wp.iconN (pc2 := 59) 1 dX5_turns_58 rfl ?_
      refine Wp.isubN (pc2 := 60) dX5_turns_59 rfl (by omega) ?_
      rw [e41]
      refine Wp.ialdN (pc2 := 61) dX5_turns_60 rfl rfl (by omega) (by decide) ?_
      rw [ordV_at V t _ (by omega), hsp]
      refine Wp.callV (pc2 := 64) kX5_turns_158 vX5_isCheaper (m_isCheaper (ordV V t (shf A k p)) t (A k) (A (p - 1)) (BV_ord hV t hs4) ht (h6 k (by omega)) (h6 (p - 1) (by omega))) dX5_turns_61 rfl rfl rfl rfl rfl (Nat.le_of_ble_eq_true rfl) ?_
      rintro _ _ ⟨⟨b, rfl, hb⟩, rfl⟩
      refine Wp.ifN_eq (pc2 := 67) 91 dX5_turns_64 rfl (by decide) (zb_lt _) (fun c64 => ?_) (fun c64 => ?_)
      · first
          | exact leave (Or.inl (by omega))
          | exact leave (Or.inr (fun z => zbn hb c64 ((ordV_less V t _ _ _).mpr z)))
      · refine Wp.aload_n (pc2 := 68) dX5_turns_67 rfl rfl ?_
        refine Wp.getf (pc2 := 71) fX5_47 dX5_turns_68 rfl rfl rfl ?_
        refine Wp.iload (pc2 := 73) dX5_turns_71 rfl rfl ?_
        refine Wp.aload_n (pc2 := 74) dX5_turns_73 rfl rfl ?_
        refine Wp.getf (pc2 := 77) fX5_47 dX5_turns_74 rfl rfl rfl ?_
        refine Wp.iload (pc2 := 79) dX5_turns_77 rfl rfl ?_
        refine Wp.iconN (pc2 := 80) 1 dX5_turns_79 rfl ?_
        refine Wp.isubN (pc2 := 81) dX5_turns_80 rfl (by omega) ?_
        rw [e41]
        refine Wp.ialdN (pc2 := 82) dX5_turns_81 rfl rfl (by omega) (by decide) ?_
        rw [ordV_at V t _ (by omega), hsp]
        refine Wp.iastN (pc2 := 83) dX5_turns_82 rfl rfl (by omega) (by decide) ?_
        refine Wp.heq (hM_a11 _ _ _) ?_
        rw [ordV_vs V t _ _ (by omega), shf_s A (by omega) hp]
        refine Wp.iinc (pc2 := 86) dX5_turns_83 rfl rfl (nI (4 * t + (p - 1))) (by rw [show 4 * t + p = (4 * t + (p - 1)) + 1 by omega]; exact pk_m1 _) (by decide) rfl ?_
        refine Wp.iconN (pc2 := 87) 1 dX5_turns_86 rfl ?_
        refine Wp.istore_n (pc2 := 88) dX5_turns_87 rfl (by decide) rfl ?_
        refine Wp.goto (pc2 := 40) dX5_turns_88 (by decide) ?_
        have hl2 : ∀ j, p - 1 ≤ j → j < k → lessP V t (A k) (A j) := by
          intro j h1 h2
          rcases Nat.lt_or_ge j p with q | q
          · have : j = p - 1 := by omega
            rw [this]
            exact (ordV_less V t _ _ _).mp (zby hb c64)
          · exact hl j q h2
        exact ih (p - 1) true (by omega) (by omega) hl2 (Or.inr ⟨rfl, by omega⟩)

set_option maxRecDepth 100000 in
set_option maxHeartbeats 4000000 in
theorem m_turns_o (V : zS) (t : Nat) (hV : BV V) (ht : t < 2) (hn : V 9 t ≤ 4) (h31 : V 0 31 < 2 ^ 20 - 1) : ∀ (n k : Nat) (A : Nat → Nat) (is : Bool), V 9 t < k + n → 1 ≤ k → oInv V t (V 9 t) k A → oFlag V t (V 9 t) A is → (V 9 t < k → k = 1) → Wp mX5_turns (fun zr zq => zr = none ∧ zq = hM (mTurn V t)) 14 [.ref 0, .int (nI t), .int (nI (zb is)), .int (nI k), .null, .null] [] (hM (ordV V t A)) := by
  intro n
  induction n with
  | zero =>
    intro k A is h1 h2 h h4 h5
    have hk1 := h5 (by omega)
    have hisf : is = false := by
      cases is with
      | false => rfl
      | true => obtain ⟨i, j, q1, q2, -⟩ := h4.2 rfl; omega
    have hend := oInv_end h (by omega) h4 (Or.inr hisf)
    rw [hisf] at hend
    have hA : ordV V t A = V := ordV_self V t (fun j _ => h4.1 hisf j)
    rw [hA, hisf]
    refine Wp.iload_n (pc2 := 15) dX5_turns_14 rfl rfl ?_
    refine Wp.aload_n (pc2 := 16) dX5_turns_15 rfl rfl ?_
    refine Wp.getf (pc2 := 19) fX5_41 dX5_turns_16 rfl rfl rfl ?_
    refine Wp.iload_n (pc2 := 20) dX5_turns_19 rfl rfl ?_
    refine Wp.ialdN (pc2 := 21) dX5_turns_20 rfl rfl (by omega) (by decide) ?_
    refine Wp.icmpN_ge (pc2 := 24) 106 dX5_turns_21 rfl (by decide) (by omega) (by omega) (fun c21 => ?_) (fun c21 => ?_)
    · refine Wp.iload_n (pc2 := 107) dX5_turns_106 rfl rfl ?_
      refine Wp.ifN_eq (pc2 := 110) 120 dX5_turns_107 rfl (by decide) (zb_lt _) (fun c107 => ?_) (fun c107 => ?_)
      · refine Wp.retv dX5_turns_120 rfl ?_
        rw [mTurn_eq hend]
        exact ⟨rfl, rfl⟩
      · exfalso; exact absurd c107 (by decide)
    · exfalso; omega
  | succ n ih =>
    intro k A is h1 h2 h h4 h5
    have h6 := h.2.2.2.2.2
    have e9 : ordV V t A 9 t = V 9 t := ordV_k V t A (by decide)
    have e31 : ordV V t A 0 31 = V 0 31 := ordV_k V t A (by decide)
    refine Wp.iload_n (pc2 := 15) dX5_turns_14 rfl rfl ?_
    refine Wp.aload_n (pc2 := 16) dX5_turns_15 rfl rfl ?_
    refine Wp.getf (pc2 := 19) fX5_41 dX5_turns_16 rfl rfl rfl ?_
    refine Wp.iload_n (pc2 := 20) dX5_turns_19 rfl rfl ?_
    refine Wp.ialdN (pc2 := 21) dX5_turns_20 rfl rfl (by omega) (by decide) ?_
    refine Wp.icmpN_ge (pc2 := 24) 106 dX5_turns_21 rfl (by decide) (by omega) (by omega) (fun c21 => ?_) (fun c21 => ?_)
    · refine Wp.iload_n (pc2 := 107) dX5_turns_106 rfl rfl ?_
      refine Wp.ifN_eq (pc2 := 110) 120 dX5_turns_107 rfl (by decide) (zb_lt _) (fun c107 => ?_) (fun c107 => ?_)
      · refine Wp.retv dX5_turns_120 rfl ?_
        have his := zb_0 c107
        have hend := oInv_end h (by omega) h4 (Or.inr his)
        rw [his] at hend
        have hA : ordV V t A = V := ordV_self V t (fun j _ => h4.1 his j)
        rw [hA, mTurn_eq hend]
        exact ⟨rfl, rfl⟩
      · have his := zb_1 c107
        have hend := oInv_end h (by omega) h4 (Or.inl (by
          rcases Nat.lt_or_ge (V 9 t) k with q | q
          · have hk1 := h5 q
            obtain ⟨i, j, q1, q2, -⟩ := h4.2 his
            omega
          · omega))
        rw [his, if_pos rfl] at hend
        refine Wp.aload_n (pc2 := 111) dX5_turns_110 rfl rfl ?_
        refine Wp.dup (pc2 := 112) dX5_turns_111 rfl rfl ?_
        refine Wp.getf (pc2 := 115) fX5_118 dX5_turns_112 rfl rfl rfl ?_
        refine Wp.iconN (pc2 := 116) 1 dX5_turns_115 rfl ?_
        refine Wp.iaddN (pc2 := 117) dX5_turns_116 rfl  ?_
        change Wp _ _ _ _ (.int (nI (ordV V t A 0 31 + 1)) :: _) _
        rw [e31]
        refine Wp.putf (pc2 := 120) gX5_118 dX5_turns_117 rfl rfl (Nat.le_of_ble_eq_true rfl) rfl rfl ?_
        refine Wp.heq (hM_o0_31 _ _) ?_
        refine Wp.retv dX5_turns_120 rfl ?_
        rw [mTurn_eq hend]
        exact ⟨rfl, rfl⟩
    · refine Wp.iconN (pc2 := 25) 4 dX5_turns_24 rfl ?_
      refine Wp.iload_n (pc2 := 26) dX5_turns_25 rfl rfl ?_
      refine Wp.imulN (pc2 := 27) dX5_turns_26 rfl  ?_
      refine Wp.iload_n (pc2 := 28) dX5_turns_27 rfl rfl ?_
      refine Wp.iaddN (pc2 := 29) dX5_turns_28 rfl  ?_
      refine Wp.istore (pc2 := 31) dX5_turns_29 rfl (by decide) rfl ?_
      refine Wp.aload_n (pc2 := 32) dX5_turns_31 rfl rfl ?_
      refine Wp.getf (pc2 := 35) fX5_47 dX5_turns_32 rfl rfl rfl ?_
      refine Wp.iload (pc2 := 37) dX5_turns_35 rfl rfl ?_
      have ek : k < 4 := by omega
      refine Wp.ialdN (pc2 := 38) dX5_turns_37 rfl rfl (by omega) (by decide) ?_
      rw [ordV_at V t _ ek]
      refine Wp.istore (pc2 := 40) dX5_turns_38 rfl (by decide) rfl ?_
      have hs := shf_k A k
      refine Wp.heq (h' := hM (ordV V t (shf A k k))) (by rw [hs]) ?_
      refine m_turns_i V t k A _ hV ht (by omega) h2 hn h is h4 (fun p is' hp hin hfl => ?_) (k + 1) k is (by omega) (Nat.le_refl _) (fun j h1 h2 => by omega) (Or.inl ⟨rfl, rfl⟩)
      exact ih (k + 1) (insA A k p) is' (by omega) (by omega) hin hfl (by omega)

set_option maxRecDepth 100000 in
set_option maxHeartbeats 4000000 in
theorem m_turns (V : zS) (t : Nat) (hV : BV V) (ht : t < 2) (hn : V 9 t ≤ 4) (h31 : V 0 31 < 2 ^ 20 - 1) (ho4 : ∀ j, j < 4 → V 11 (4 * t + j) < 4) (hinj : ∀ i j, i < V 9 t → j < V 9 t → V 11 (4 * t + i) = V 11 (4 * t + j) → i = j) : PM mX5_turns [.ref 0, .int (nI t)] (hM V) (fun zr zq => zr = none ∧ zq = hM (mTurns V t)) := by
  refine PM.of (by decide +kernel) (by simp [Value.category]) (Nat.le_of_ble_eq_true rfl) ?_
  refine Wp.aload_n (pc2 := 1) dX5_turns_0 rfl rfl ?_
  refine Wp.getf (pc2 := 4) fX5_50 dX5_turns_1 rfl rfl rfl ?_
  refine Wp.iload_n (pc2 := 5) dX5_turns_4 rfl rfl ?_
  refine Wp.zaldN (pc2 := 6) dX5_turns_5 rfl rfl (by omega) (by decide) ?_
  refine Wp.ifN_eq (pc2 := 9) 10 dX5_turns_6 rfl (by decide) (hV.l _ _) (fun c6 => ?_) (fun c6 => ?_)
  · unfold mTurns
    rw [if_pos c6]
    refine Wp.iconN (pc2 := 11) 0 dX5_turns_10 rfl ?_
    refine Wp.istore_n (pc2 := 12) dX5_turns_11 rfl (by decide) rfl ?_
    refine Wp.iconN (pc2 := 13) 1 dX5_turns_12 rfl ?_
    refine Wp.istore_n (pc2 := 14) dX5_turns_13 rfl (by decide) rfl ?_
    have hA : ordV V t (fun j => V 11 (4 * t + j)) = V := ordV_self V t (fun j _ => rfl)
    refine Wp.heq (h' := hM (ordV V t (fun j => V 11 (4 * t + j)))) (by rw [hA]) ?_
    exact m_turns_o V t hV ht hn h31 5 1 _ false (by omega) (by omega) ⟨fun i j h1 h2 h3 => by omega, fun j hj => ⟨j, hj, rfl⟩, fun i hi => ⟨i, hi, rfl⟩, fun j _ => rfl, hinj, ho4⟩ ⟨fun _ j => rfl, fun z => by cases z⟩ (fun _ => rfl)
  · refine Wp.retv dX5_turns_9 rfl ?_
    unfold mTurns
    rw [if_neg c6]
    exact ⟨rfl, rfl⟩

