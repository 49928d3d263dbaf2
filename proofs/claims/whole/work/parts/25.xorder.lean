/-- numbers that the machine can hold -/
def BL (E : zS) : Prop := ∀ k j, E k j < 2 ^ 31
theorem BL.l {E : zS} (h : BL E) (k j : Nat) : E k j < 2 ^ 31 := h k j
theorem BL.up {V : zS} (h : BL V) {k i x : Nat} (hx : x < 2 ^ 31) : BL (vs V k i x) := by
  intro a b
  unfold vs
  split
  · split
    · exact hx
    · exact h a b
  · exact h a b
def eSet (E : zS) (c : Nat) (f : Nat → Nat) : zS := fun a b => if a = c then f b else E a b
theorem eSet_at (E : zS) (c : Nat) (f : Nat → Nat) (b : Nat) : eSet E c f c b = f b := by unfold eSet; rw [if_pos rfl]
theorem eSet_o (E : zS) {c a : Nat} (f : Nat → Nat) (b : Nat) (h : a ≠ c) : eSet E c f a b = E a b := by unfold eSet; rw [if_neg h]
theorem eSet_vs (E : zS) (c : Nat) (f : Nat → Nat) (i x : Nat) : vs (eSet E c f) c i x = eSet E c (fun j => if j = i then x else f j) := by
  funext a b
  unfold vs eSet
  by_cases q : a = c
  · simp [q]
  · simp [q]
theorem eSet_self (E : zS) (c : Nat) : eSet E c (E c) = E := by
  funext a b
  unfold eSet
  by_cases q : a = c
  · simp [q]
  · simp [q]
/-- the first k tests, sorted -/
def sInv (V : zS) (t k : Nat) (A : Nat → Nat) : Prop := (∀ i j, i < j → j < k → lessP V t (A i) (A j)) ∧ (∀ j, j < k → A j < k) ∧ ∀ v, v < k → ∃ j, j < k ∧ A j = v
def insB (A : Nat → Nat) (k p : Nat) : Nat → Nat := fun j => if j = p then k else shf A k p j
theorem sInv_ins {V : zS} {t k p : Nat} {A : Nat → Nat} (h : sInv V t k A) (hp : p ≤ k) (hl : ∀ j, p ≤ j → j < k → lessP V t k (A j)) (hs : p = 0 ∨ ¬ lessP V t k (A (p - 1))) : sInv V t (k + 1) (insB A k p) := by
  obtain ⟨q1, q2, q3⟩ := h
  have hlow : ∀ i, i < p → lessP V t (A i) k := by
    intro i hi
    rcases hs with hs | hs
    · omega
    · have hne : k ≠ A (p - 1) := fun z => by have := q2 (p - 1) (by omega); omega
      have hb := less_tot V t _ _ hne hs
      rcases Nat.lt_or_ge i (p - 1) with q | q
      · exact less_trans (q1 i (p - 1) q (by omega)) hb
      · have : i = p - 1 := by omega
        rw [this]; exact hb
  have v1 : ∀ j, j < p → insB A k p j = A j := fun j hj => by unfold insB shf; rw [if_neg (by omega), if_neg (by omega)]
  have v2 : insB A k p p = k := by unfold insB; rw [if_pos rfl]
  have v3 : ∀ j, p < j → j ≤ k → insB A k p j = A (j - 1) := fun j h1 h2 => by unfold insB shf; rw [if_neg (by omega), if_pos ⟨h1, h2⟩]
  refine ⟨fun i j hij hj => ?_, fun j hj => ?_, fun v hv => ?_⟩
  · rcases Nat.lt_trichotomy j p with b | b | b
    · rw [v1 i (by omega), v1 j b]; exact q1 i j hij (by omega)
    · subst b; rw [v1 i hij, v2]; exact hlow i hij
    · rw [v3 j b (by omega)]
      rcases Nat.lt_trichotomy i p with c | c | c
      · rw [v1 i c]
        exact q1 i (j - 1) (by omega) (by omega)
      · subst c; rw [v2]; exact hl (j - 1) (by omega) (by omega)
      · rw [v3 i c (by omega)]; exact q1 (i - 1) (j - 1) (by omega) (by omega)
  · rcases Nat.lt_trichotomy j p with b | b | b
    · rw [v1 j b]; have := q2 j (by omega); omega
    · subst b; rw [v2]; omega
    · rw [v3 j b (by omega)]; have := q2 (j - 1) (by omega); omega
  · rcases Nat.lt_or_ge v k with b | b
    · obtain ⟨j, hj, e⟩ := q3 v b
      rcases Nat.lt_or_ge j p with c | c
      · exact ⟨j, by omega, by rw [v1 j c]; exact e⟩
      · exact ⟨j + 1, by omega, by rw [v3 (j + 1) (by omega) (by omega)]; exact e⟩
    · exact ⟨p, by omega, by rw [v2]; omega⟩
theorem insB_lt {A : Nat → Nat} {k p : Nat} (h : ∀ j, A j < 2 ^ 31) (hk : k < 2 ^ 31) : ∀ j, insB A k p j < 2 ^ 31 := by
  intro j
  unfold insB shf
  split
  · exact hk
  · split
    · exact h _
    · exact h _
theorem less_gt {V : zS} {t a b : Nat} (h : b < a) : lessP V t a b ↔ wgt V t a b < wgt V t b a := by
  unfold lessP
  omega

set_option maxRecDepth 100000 in
set_option maxHeartbeats 4000000 in
theorem x_sort_i_0 (V E : zS) (k : Nat) (A : Nat → Nat) (Q : Option Value → zh → Prop) (hw : wB V 0) (hk : k < 4) (h : sInv V 0 k A)
    (K : ∀ p, p ≤ k → sInv V 0 (k + 1) (insB A k p) → Wp mX2_sortIntoNewOrder Q 2 [.ref 19, .int (nI (k + 1)), .null] [] (hC V (eSet E 24 (insB A k p)))) :
    ∀ (n p : Nat), p < n → p ≤ k → (∀ j, p ≤ j → j < k → lessP V 0 k (A j)) → Wp mX2_sortIntoNewOrder Q 12 [.ref 19, .int (nI k), .int (nI p)] [] (hC V (eSet E 24 (shf A k p))) := by
  intro n
  induction n with
  | zero => intro p h1; omega
  | succ n ih =>
    intro p hpn hp hl
    have leave : (p = 0 ∨ ¬ lessP V 0 k (A (p - 1))) → Wp mX2_sortIntoNewOrder Q 52 [.ref 19, .int (nI k), .int (nI p)] [] (hC V (eSet E 24 (shf A k p))) := by
      intro hs
      have hin := sInv_ins h hp hl hs
      refine Wp.aload_n (pc2 := 53) dX2_sortIntoNewOrder_52 rfl rfl ?_
      refine Wp.getf (pc2 := 56) fX2_24 dX2_sortIntoNewOrder_53 rfl rfl rfl ?_
      refine Wp.iload_n (pc2 := 57) dX2_sortIntoNewOrder_56 rfl rfl ?_
      refine Wp.iload_n (pc2 := 58) dX2_sortIntoNewOrder_57 rfl rfl ?_
      refine Wp.iastN (pc2 := 59) dX2_sortIntoNewOrder_58 rfl rfl (by omega) (by decide) ?_
      refine Wp.heq (hC_a24 _ _ _ _) ?_
      rw [eSet_vs]
      refine Wp.iincN (pc2 := 62) dX2_sortIntoNewOrder_59 rfl rfl (by decide) rfl ?_
      refine Wp.goto (pc2 := 2) dX2_sortIntoNewOrder_62 (by decide) ?_
      refine Wp.fg [.ref 19, .int (nI (k + 1)), .null] (And.intro (Or.inr rfl) (And.intro (Or.inr rfl) (And.intro (Or.inl rfl) trivial))) ?_
      exact K p hp hin
    refine Wp.iload_n (pc2 := 13) dX2_sortIntoNewOrder_12 rfl rfl ?_
    refine Wp.ifN_le (pc2 := 16) 52 dX2_sortIntoNewOrder_13 rfl (by decide) (by omega) (fun c13 => ?_) (fun c13 => ?_)
    · exact leave (Or.inl c13)
    · have hsp : shf A k p (p - 1) = A (p - 1) := by
        unfold shf
        rw [if_neg (by omega)]
      have hlt := h.2.1 (p - 1) (by omega)
      refine Wp.aload_n (pc2 := 17) dX2_sortIntoNewOrder_16 rfl rfl ?_
      refine Wp.iload_n (pc2 := 18) dX2_sortIntoNewOrder_17 rfl rfl ?_
      refine Wp.aload_n (pc2 := 19) dX2_sortIntoNewOrder_18 rfl rfl ?_
      refine Wp.getf (pc2 := 22) fX2_24 dX2_sortIntoNewOrder_19 rfl rfl rfl ?_
      refine Wp.iload_n (pc2 := 23) dX2_sortIntoNewOrder_22 rfl rfl ?_
      refine Wp.iconN (pc2 := 24) 1 dX2_sortIntoNewOrder_23 rfl ?_
      refine Wp.isubN (pc2 := 25) dX2_sortIntoNewOrder_24 rfl (by omega) ?_
      refine Wp.ialdN (pc2 := 26) dX2_sortIntoNewOrder_25 rfl rfl (by omega) (by decide) ?_
      rw [eSet_at, hsp]
      refine Wp.callV (pc2 := 29) kX2_sortIntoNewOrder_88 vX2_isCheaperToFail (x_cheaper_0 V (eSet E 24 (shf A k p)) k (A (p - 1)) hk (by have := h.2.1 (p - 1) (by omega); omega) hw) dX2_sortIntoNewOrder_26 rfl rfl rfl rfl rfl (Nat.le_of_ble_eq_true rfl) ?_
      rintro _ _ ⟨⟨b, rfl, hb⟩, rfl⟩
      refine Wp.ifN_eq (pc2 := 32) 52 dX2_sortIntoNewOrder_29 rfl (by decide) (zb_lt _) (fun c29 => ?_) (fun c29 => ?_)
      · exact leave (Or.inr (fun z => zbn hb c29 ((less_gt hlt).mp z)))
      · refine Wp.aload_n (pc2 := 33) dX2_sortIntoNewOrder_32 rfl rfl ?_
        refine Wp.getf (pc2 := 36) fX2_24 dX2_sortIntoNewOrder_33 rfl rfl rfl ?_
        refine Wp.iload_n (pc2 := 37) dX2_sortIntoNewOrder_36 rfl rfl ?_
        refine Wp.aload_n (pc2 := 38) dX2_sortIntoNewOrder_37 rfl rfl ?_
        refine Wp.getf (pc2 := 41) fX2_24 dX2_sortIntoNewOrder_38 rfl rfl rfl ?_
        refine Wp.iload_n (pc2 := 42) dX2_sortIntoNewOrder_41 rfl rfl ?_
        refine Wp.iconN (pc2 := 43) 1 dX2_sortIntoNewOrder_42 rfl ?_
        refine Wp.isubN (pc2 := 44) dX2_sortIntoNewOrder_43 rfl (by omega) ?_
        refine Wp.ialdN (pc2 := 45) dX2_sortIntoNewOrder_44 rfl rfl (by omega) (by decide) ?_
        rw [eSet_at, hsp]
        refine Wp.iastN (pc2 := 46) dX2_sortIntoNewOrder_45 rfl rfl (by omega) (by decide) ?_
        refine Wp.heq (hC_a24 _ _ _ _) ?_
        rw [eSet_vs, shf_s A (by omega) hp]
        refine Wp.iinc (pc2 := 49) dX2_sortIntoNewOrder_46 rfl rfl (nI (p - 1)) (by rw [show p = (p - 1) + 1 by omega]; exact pk_m1 _) (by decide) rfl ?_
        refine Wp.goto (pc2 := 12) dX2_sortIntoNewOrder_49 (by decide) ?_
        refine ih (p - 1) (by omega) (by omega) (fun j h1 h2 => ?_)
        rcases Nat.lt_or_ge j p with q | q
        · have : j = p - 1 := by omega
          rw [this]
          exact (less_gt hlt).mpr (zby hb c29)
        · exact hl j q h2
set_option maxRecDepth 100000 in
set_option maxHeartbeats 4000000 in
theorem x_sort_o_0 (V E : zS) (hw : wB V 0) (hn : V 9 0 ≤ 4) : ∀ (n k : Nat) (A : Nat → Nat), k + n = V 9 0 → sInv V 0 k A → (∀ j, A j < 2 ^ 31) → Wp mX2_sortIntoNewOrder (fun zr zq => zr = none ∧ ∃ A, sInv V 0 (V 9 0) A ∧ (∀ j, A j < 2 ^ 31) ∧ zq = hC V (eSet E 24 A)) 2 [.ref 19, .int (nI k), .null] [] (hC V (eSet E 24 A)) := by
  intro n
  induction n with
  | zero =>
    intro k A hk h hA
    have e : k = V 9 0 := by omega
    subst e
    refine Wp.iload_n (pc2 := 3) dX2_sortIntoNewOrder_2 rfl rfl ?_
    refine Wp.aload_n (pc2 := 4) dX2_sortIntoNewOrder_3 rfl rfl ?_
    refine Wp.getf (pc2 := 7) fX2_49 dX2_sortIntoNewOrder_4 rfl rfl rfl ?_
    refine Wp.icmpN_ge (pc2 := 10) 65 dX2_sortIntoNewOrder_7 rfl (by decide) (by omega) (by omega) (fun c7 => ?_) (fun c7 => ?_)
    · refine Wp.retv dX2_sortIntoNewOrder_65 rfl ?_
      exact ⟨rfl, A, h, hA, rfl⟩
    · exfalso; omega
  | succ n ih =>
    intro k A hk h hA
    refine Wp.iload_n (pc2 := 3) dX2_sortIntoNewOrder_2 rfl rfl ?_
    refine Wp.aload_n (pc2 := 4) dX2_sortIntoNewOrder_3 rfl rfl ?_
    refine Wp.getf (pc2 := 7) fX2_49 dX2_sortIntoNewOrder_4 rfl rfl rfl ?_
    refine Wp.icmpN_ge (pc2 := 10) 65 dX2_sortIntoNewOrder_7 rfl (by decide) (by omega) (by omega) (fun c7 => ?_) (fun c7 => ?_)
    · exfalso; omega
    · refine Wp.iload_n (pc2 := 11) dX2_sortIntoNewOrder_10 rfl rfl ?_
      refine Wp.istore_n (pc2 := 12) dX2_sortIntoNewOrder_11 rfl (by decide) rfl ?_
      refine Wp.heq (h' := hC V (eSet E 24 (shf A k k))) (by rw [shf_k]) ?_
      exact x_sort_i_0 V E k A _ hw (by omega) h (fun p hp hin => ih (k + 1) _ (by omega) hin (insB_lt hA (by omega))) (k + 1) k (by omega) (Nat.le_refl _) (fun j h1 h2 => by omega)

set_option maxRecDepth 100000 in
set_option maxHeartbeats 4000000 in
theorem x_sort_i_1 (V E : zS) (k : Nat) (A : Nat → Nat) (Q : Option Value → zh → Prop) (hw : wB V 1) (hk : k < 4) (h : sInv V 1 k A)
    (K : ∀ p, p ≤ k → sInv V 1 (k + 1) (insB A k p) → Wp mX2_sortIntoNewOrder Q 2 [.ref 27, .int (nI (k + 1)), .null] [] (hC V (eSet E 32 (insB A k p)))) :
    ∀ (n p : Nat), p < n → p ≤ k → (∀ j, p ≤ j → j < k → lessP V 1 k (A j)) → Wp mX2_sortIntoNewOrder Q 12 [.ref 27, .int (nI k), .int (nI p)] [] (hC V (eSet E 32 (shf A k p))) := by
  intro n
  induction n with
  | zero => intro p h1; omega
  | succ n ih =>
    intro p hpn hp hl
    have leave : (p = 0 ∨ ¬ lessP V 1 k (A (p - 1))) → Wp mX2_sortIntoNewOrder Q 52 [.ref 27, .int (nI k), .int (nI p)] [] (hC V (eSet E 32 (shf A k p))) := by
      intro hs
      have hin := sInv_ins h hp hl hs
      refine Wp.aload_n (pc2 := 53) dX2_sortIntoNewOrder_52 rfl rfl ?_
      refine Wp.getf (pc2 := 56) fX2_24 dX2_sortIntoNewOrder_53 rfl rfl rfl ?_
      refine Wp.iload_n (pc2 := 57) dX2_sortIntoNewOrder_56 rfl rfl ?_
      refine Wp.iload_n (pc2 := 58) dX2_sortIntoNewOrder_57 rfl rfl ?_
      refine Wp.iastN (pc2 := 59) dX2_sortIntoNewOrder_58 rfl rfl (by omega) (by decide) ?_
      refine Wp.heq (hC_a32 _ _ _ _) ?_
      rw [eSet_vs]
      refine Wp.iincN (pc2 := 62) dX2_sortIntoNewOrder_59 rfl rfl (by decide) rfl ?_
      refine Wp.goto (pc2 := 2) dX2_sortIntoNewOrder_62 (by decide) ?_
      refine Wp.fg [.ref 27, .int (nI (k + 1)), .null] (And.intro (Or.inr rfl) (And.intro (Or.inr rfl) (And.intro (Or.inl rfl) trivial))) ?_
      exact K p hp hin
    refine Wp.iload_n (pc2 := 13) dX2_sortIntoNewOrder_12 rfl rfl ?_
    refine Wp.ifN_le (pc2 := 16) 52 dX2_sortIntoNewOrder_13 rfl (by decide) (by omega) (fun c13 => ?_) (fun c13 => ?_)
    · exact leave (Or.inl c13)
    · have hsp : shf A k p (p - 1) = A (p - 1) := by
        unfold shf
        rw [if_neg (by omega)]
      have hlt := h.2.1 (p - 1) (by omega)
      refine Wp.aload_n (pc2 := 17) dX2_sortIntoNewOrder_16 rfl rfl ?_
      refine Wp.iload_n (pc2 := 18) dX2_sortIntoNewOrder_17 rfl rfl ?_
      refine Wp.aload_n (pc2 := 19) dX2_sortIntoNewOrder_18 rfl rfl ?_
      refine Wp.getf (pc2 := 22) fX2_24 dX2_sortIntoNewOrder_19 rfl rfl rfl ?_
      refine Wp.iload_n (pc2 := 23) dX2_sortIntoNewOrder_22 rfl rfl ?_
      refine Wp.iconN (pc2 := 24) 1 dX2_sortIntoNewOrder_23 rfl ?_
      refine Wp.isubN (pc2 := 25) dX2_sortIntoNewOrder_24 rfl (by omega) ?_
      refine Wp.ialdN (pc2 := 26) dX2_sortIntoNewOrder_25 rfl rfl (by omega) (by decide) ?_
      rw [eSet_at, hsp]
      refine Wp.callV (pc2 := 29) kX2_sortIntoNewOrder_88 vX2_isCheaperToFail (x_cheaper_1 V (eSet E 32 (shf A k p)) k (A (p - 1)) hk (by have := h.2.1 (p - 1) (by omega); omega) hw) dX2_sortIntoNewOrder_26 rfl rfl rfl rfl rfl (Nat.le_of_ble_eq_true rfl) ?_
      rintro _ _ ⟨⟨b, rfl, hb⟩, rfl⟩
      refine Wp.ifN_eq (pc2 := 32) 52 dX2_sortIntoNewOrder_29 rfl (by decide) (zb_lt _) (fun c29 => ?_) (fun c29 => ?_)
      · exact leave (Or.inr (fun z => zbn hb c29 ((less_gt hlt).mp z)))
      · refine Wp.aload_n (pc2 := 33) dX2_sortIntoNewOrder_32 rfl rfl ?_
        refine Wp.getf (pc2 := 36) fX2_24 dX2_sortIntoNewOrder_33 rfl rfl rfl ?_
        refine Wp.iload_n (pc2 := 37) dX2_sortIntoNewOrder_36 rfl rfl ?_
        refine Wp.aload_n (pc2 := 38) dX2_sortIntoNewOrder_37 rfl rfl ?_
        refine Wp.getf (pc2 := 41) fX2_24 dX2_sortIntoNewOrder_38 rfl rfl rfl ?_
        refine Wp.iload_n (pc2 := 42) dX2_sortIntoNewOrder_41 rfl rfl ?_
        refine Wp.iconN (pc2 := 43) 1 dX2_sortIntoNewOrder_42 rfl ?_
        refine Wp.isubN (pc2 := 44) dX2_sortIntoNewOrder_43 rfl (by omega) ?_
        refine Wp.ialdN (pc2 := 45) dX2_sortIntoNewOrder_44 rfl rfl (by omega) (by decide) ?_
        rw [eSet_at, hsp]
        refine Wp.iastN (pc2 := 46) dX2_sortIntoNewOrder_45 rfl rfl (by omega) (by decide) ?_
        refine Wp.heq (hC_a32 _ _ _ _) ?_
        rw [eSet_vs, shf_s A (by omega) hp]
        refine Wp.iinc (pc2 := 49) dX2_sortIntoNewOrder_46 rfl rfl (nI (p - 1)) (by rw [show p = (p - 1) + 1 by omega]; exact pk_m1 _) (by decide) rfl ?_
        refine Wp.goto (pc2 := 12) dX2_sortIntoNewOrder_49 (by decide) ?_
        refine ih (p - 1) (by omega) (by omega) (fun j h1 h2 => ?_)
        rcases Nat.lt_or_ge j p with q | q
        · have : j = p - 1 := by omega
          rw [this]
          exact (less_gt hlt).mpr (zby hb c29)
        · exact hl j q h2
set_option maxRecDepth 100000 in
set_option maxHeartbeats 4000000 in
theorem x_sort_o_1 (V E : zS) (hw : wB V 1) (hn : V 9 1 ≤ 4) : ∀ (n k : Nat) (A : Nat → Nat), k + n = V 9 1 → sInv V 1 k A → (∀ j, A j < 2 ^ 31) → Wp mX2_sortIntoNewOrder (fun zr zq => zr = none ∧ ∃ A, sInv V 1 (V 9 1) A ∧ (∀ j, A j < 2 ^ 31) ∧ zq = hC V (eSet E 32 A)) 2 [.ref 27, .int (nI k), .null] [] (hC V (eSet E 32 A)) := by
  intro n
  induction n with
  | zero =>
    intro k A hk h hA
    have e : k = V 9 1 := by omega
    subst e
    refine Wp.iload_n (pc2 := 3) dX2_sortIntoNewOrder_2 rfl rfl ?_
    refine Wp.aload_n (pc2 := 4) dX2_sortIntoNewOrder_3 rfl rfl ?_
    refine Wp.getf (pc2 := 7) fX2_49 dX2_sortIntoNewOrder_4 rfl rfl rfl ?_
    refine Wp.icmpN_ge (pc2 := 10) 65 dX2_sortIntoNewOrder_7 rfl (by decide) (by omega) (by omega) (fun c7 => ?_) (fun c7 => ?_)
    · refine Wp.retv dX2_sortIntoNewOrder_65 rfl ?_
      exact ⟨rfl, A, h, hA, rfl⟩
    · exfalso; omega
  | succ n ih =>
    intro k A hk h hA
    refine Wp.iload_n (pc2 := 3) dX2_sortIntoNewOrder_2 rfl rfl ?_
    refine Wp.aload_n (pc2 := 4) dX2_sortIntoNewOrder_3 rfl rfl ?_
    refine Wp.getf (pc2 := 7) fX2_49 dX2_sortIntoNewOrder_4 rfl rfl rfl ?_
    refine Wp.icmpN_ge (pc2 := 10) 65 dX2_sortIntoNewOrder_7 rfl (by decide) (by omega) (by omega) (fun c7 => ?_) (fun c7 => ?_)
    · exfalso; omega
    · refine Wp.iload_n (pc2 := 11) dX2_sortIntoNewOrder_10 rfl rfl ?_
      refine Wp.istore_n (pc2 := 12) dX2_sortIntoNewOrder_11 rfl (by decide) rfl ?_
      refine Wp.heq (h' := hC V (eSet E 32 (shf A k k))) (by rw [shf_k]) ?_
      exact x_sort_i_1 V E k A _ hw (by omega) h (fun p hp hin => ih (k + 1) _ (by omega) hin (insB_lt hA (by omega))) (k + 1) k (by omega) (Nat.le_refl _) (fun j h1 h2 => by omega)

set_option maxRecDepth 100000 in
set_option maxHeartbeats 4000000 in
theorem x_sort_0 (V E : zS) (hE : BL E) (hw : wB V 0) (hn : V 9 0 ≤ 4) : PM mX2_sortIntoNewOrder [.ref 19] (hC V E) (fun zr zq => zr = none ∧ ∃ A, sInv V 0 (V 9 0) A ∧ (∀ j, A j < 2 ^ 31) ∧ zq = hC V (eSet E (19 + 5) A)) := by
  refine PM.of (by decide +kernel) (by simp [Value.category]) (Nat.le_of_ble_eq_true rfl) ?_
  refine Wp.iconN (pc2 := 1) 0 dX2_sortIntoNewOrder_0 rfl ?_
  refine Wp.istore_n (pc2 := 2) dX2_sortIntoNewOrder_1 rfl (by decide) rfl ?_
  refine Wp.heq (h' := hC V (eSet E 24 (E 24))) (by rw [eSet_self]) ?_
  exact x_sort_o_0 V E hw hn (V 9 0) 0 _ (by omega) ⟨fun i j h1 h2 => by omega, fun j hj => by omega, fun v hv => by omega⟩ (hE _)
set_option maxRecDepth 100000 in
set_option maxHeartbeats 4000000 in
theorem x_sort_1 (V E : zS) (hE : BL E) (hw : wB V 1) (hn : V 9 1 ≤ 4) : PM mX2_sortIntoNewOrder [.ref 27] (hC V E) (fun zr zq => zr = none ∧ ∃ A, sInv V 1 (V 9 1) A ∧ (∀ j, A j < 2 ^ 31) ∧ zq = hC V (eSet E (27 + 5) A)) := by
  refine PM.of (by decide +kernel) (by simp [Value.category]) (Nat.le_of_ble_eq_true rfl) ?_
  refine Wp.iconN (pc2 := 1) 0 dX2_sortIntoNewOrder_0 rfl ?_
  refine Wp.istore_n (pc2 := 2) dX2_sortIntoNewOrder_1 rfl (by decide) rfl ?_
  refine Wp.heq (h' := hC V (eSet E 32 (E 32))) (by rw [eSet_self]) ?_
  exact x_sort_o_1 V E hw hn (V 9 1) 0 _ (by omega) ⟨fun i j h1 h2 => by omega, fun j hj => by omega, fun v hv => by omega⟩ (hE _)
theorem x_sort (t : Nat) (ht : t < 2) (V E : zS) (hE : BL E) (hw : wB V t) (hn : V 9 t ≤ 4) : PM mX2_sortIntoNewOrder [.ref (19 + 8 * t)] (hC V E) (fun zr zq => zr = none ∧ ∃ A, sInv V t (V 9 t) A ∧ (∀ j, A j < 2 ^ 31) ∧ zq = hC V (eSet E ((19 + 8 * t) + 5) A)) := by
  rcases (show t = 0 ∨ t = 1 by omega) with rfl | rfl
  · exact x_sort_0 V E hE hw hn
  · exact x_sort_1 V E hE hw hn

def eCp (E : zS) (c c' n : Nat) : zS := fun a b => if a = c ∧ b < n then E c' b else E a b
theorem eCp_0 (E : zS) (c c' : Nat) : eCp E c c' 0 = E := by
  funext a b
  unfold eCp
  rw [if_neg (by omega)]
theorem eCp_s (E : zS) {c c' n : Nat} : vs (eCp E c c' n) c n (E c' n) = eCp E c c' (n + 1) := by
  funext a b
  unfold vs eCp
  by_cases q : a = c
  · by_cases q2 : b = n
    · rw [if_pos q, if_pos q2, if_pos ⟨q, by omega⟩, q2]
    · rw [if_pos q, if_neg q2]
      by_cases q3 : b < n
      · rw [if_pos ⟨q, q3⟩, if_pos ⟨q, by omega⟩]
      · rw [if_neg (fun z => q3 z.2), if_neg (by omega)]
  · rw [if_neg q, if_neg (fun z => q z.1), if_neg (fun z => q z.1)]
theorem eCp_k (E : zS) {c c' n : Nat} : eCp E c c' n c n = E c n := by
  unfold eCp
  rw [if_neg (by omega)]
theorem eCp_o (E : zS) {c c' n a b : Nat} (h : a ≠ c) : eCp E c c' n a b = E a b := by
  unfold eCp
  rw [if_neg (fun z => h z.1)]
theorem or_b (a : Bool) (x : Nat) (hx : x ≤ 1) : nI (zb a) ||| nI x = nI (zb (a || decide (x ≠ 0))) := by
  rcases (show x = 0 ∨ x = 1 by omega) with rfl | rfl <;> cases a <;> decide +kernel

set_option maxRecDepth 100000 in
set_option maxHeartbeats 4000000 in
theorem x_take_l_0 (V E : zS) (hE : BL E) (hn : V 9 0 ≤ 4) : ∀ (n k : Nat) (b : Bool), k + n = V 9 0 → (b = true ↔ ∃ j, j < k ∧ E 23 j ≠ E 24 j) → Wp mX2_takeNewOrder (fun zr zq => zbo (∃ j, j < V 9 0 ∧ E 23 j ≠ E 24 j) zr ∧ zq = hC V (eCp E 23 24 (V 9 0))) 4 [.ref 19, .int (nI (zb b)), .int (nI k)] [] (hC V (eCp E 23 24 k)) := by
  intro n
  induction n with
  | zero =>
    intro k b hk h
    have e : k = V 9 0 := by omega
    subst e
    refine Wp.iload_n (pc2 := 5) dX2_takeNewOrder_4 rfl rfl ?_
    refine Wp.aload_n (pc2 := 6) dX2_takeNewOrder_5 rfl rfl ?_
    refine Wp.getf (pc2 := 9) fX2_49 dX2_takeNewOrder_6 rfl rfl rfl ?_
    refine Wp.icmpN_ge (pc2 := 12) 53 dX2_takeNewOrder_9 rfl (by decide) (by omega) (by omega) (fun c9 => ?_) (fun c9 => ?_)
    · refine Wp.iload_n (pc2 := 54) dX2_takeNewOrder_53 rfl rfl ?_
      refine Wp.ret dX2_takeNewOrder_54 rfl (zb_nar b) ?_
      exact ⟨⟨b, rfl, h⟩, rfl⟩
    · exfalso; omega
  | succ n ih =>
    intro k b hk h
    have e1 : eCp E 23 24 k 23 k = E 23 k := eCp_k E
    have e2 : eCp E 23 24 k 24 k = E 24 k := eCp_o E (by decide)
    refine Wp.iload_n (pc2 := 5) dX2_takeNewOrder_4 rfl rfl ?_
    refine Wp.aload_n (pc2 := 6) dX2_takeNewOrder_5 rfl rfl ?_
    refine Wp.getf (pc2 := 9) fX2_49 dX2_takeNewOrder_6 rfl rfl rfl ?_
    refine Wp.icmpN_ge (pc2 := 12) 53 dX2_takeNewOrder_9 rfl (by decide) (by omega) (by omega) (fun c9 => ?_) (fun c9 => ?_)
    · exfalso; omega
    · refine Wp.iload_n (pc2 := 13) dX2_takeNewOrder_12 rfl rfl ?_
      refine Wp.aload_n (pc2 := 14) dX2_takeNewOrder_13 rfl rfl ?_
      refine Wp.getf (pc2 := 17) fX2_21 dX2_takeNewOrder_14 rfl rfl rfl ?_
      refine Wp.iload_n (pc2 := 18) dX2_takeNewOrder_17 rfl rfl ?_
      refine Wp.ialdN (pc2 := 19) dX2_takeNewOrder_18 rfl rfl (by omega) (by decide) ?_
      rw [e1]
      refine Wp.aload_n (pc2 := 20) dX2_takeNewOrder_19 rfl rfl ?_
      refine Wp.getf (pc2 := 23) fX2_24 dX2_takeNewOrder_20 rfl rfl rfl ?_
      refine Wp.iload_n (pc2 := 24) dX2_takeNewOrder_23 rfl rfl ?_
      refine Wp.ialdN (pc2 := 25) dX2_takeNewOrder_24 rfl rfl (by omega) (by decide) ?_
      rw [e2]
      refine Wp.icmpN_eq (pc2 := 28) 32 dX2_takeNewOrder_25 rfl (by decide) (hE.l _ _) (hE.l _ _) (fun c25 => ?_) (fun c25 => ?_)
      · refine Wp.iconN (pc2 := 33) 0 dX2_takeNewOrder_32 rfl ?_
        refine Wp.ior (pc2 := 34) dX2_takeNewOrder_33 rfl ?_
        refine Wp.top _ (or_b b _ (by decide)) ?_
        refine Wp.istore_n (pc2 := 35) dX2_takeNewOrder_34 rfl (by decide) rfl ?_
        refine Wp.aload_n (pc2 := 36) dX2_takeNewOrder_35 rfl rfl ?_
        refine Wp.getf (pc2 := 39) fX2_21 dX2_takeNewOrder_36 rfl rfl rfl ?_
        refine Wp.iload_n (pc2 := 40) dX2_takeNewOrder_39 rfl rfl ?_
        refine Wp.aload_n (pc2 := 41) dX2_takeNewOrder_40 rfl rfl ?_
        refine Wp.getf (pc2 := 44) fX2_24 dX2_takeNewOrder_41 rfl rfl rfl ?_
        refine Wp.iload_n (pc2 := 45) dX2_takeNewOrder_44 rfl rfl ?_
        refine Wp.ialdN (pc2 := 46) dX2_takeNewOrder_45 rfl rfl (by omega) (by decide) ?_
        rw [e2]
        refine Wp.iastN (pc2 := 47) dX2_takeNewOrder_46 rfl rfl (by omega) (by decide) ?_
        refine Wp.heq (hC_a23 _ _ _ _) ?_
        refine Wp.iincN (pc2 := 50) dX2_takeNewOrder_47 rfl rfl (by decide) rfl ?_
        refine Wp.goto (pc2 := 4) dX2_takeNewOrder_50 (by decide) ?_
        rw [eCp_s]
        refine ih (k + 1) _ (by omega) ?_
        rw [Bool.or_eq_true, h]
        constructor
        · rintro (⟨j, hj, hj2⟩ | z)
          · exact ⟨j, by omega, hj2⟩
          · exact absurd z (by decide)
        · rintro ⟨j, hj, hj2⟩
          rcases Nat.lt_or_ge j k with q | q
          · exact Or.inl ⟨j, q, hj2⟩
          · have : j = k := by omega
            subst this; exact absurd c25 hj2
      · refine Wp.iconN (pc2 := 29) 1 dX2_takeNewOrder_28 rfl ?_
        refine Wp.goto (pc2 := 33) dX2_takeNewOrder_29 (by decide) ?_
        refine Wp.ior (pc2 := 34) dX2_takeNewOrder_33 rfl ?_
        refine Wp.top _ (or_b b _ (by decide)) ?_
        refine Wp.istore_n (pc2 := 35) dX2_takeNewOrder_34 rfl (by decide) rfl ?_
        refine Wp.aload_n (pc2 := 36) dX2_takeNewOrder_35 rfl rfl ?_
        refine Wp.getf (pc2 := 39) fX2_21 dX2_takeNewOrder_36 rfl rfl rfl ?_
        refine Wp.iload_n (pc2 := 40) dX2_takeNewOrder_39 rfl rfl ?_
        refine Wp.aload_n (pc2 := 41) dX2_takeNewOrder_40 rfl rfl ?_
        refine Wp.getf (pc2 := 44) fX2_24 dX2_takeNewOrder_41 rfl rfl rfl ?_
        refine Wp.iload_n (pc2 := 45) dX2_takeNewOrder_44 rfl rfl ?_
        refine Wp.ialdN (pc2 := 46) dX2_takeNewOrder_45 rfl rfl (by omega) (by decide) ?_
        rw [e2]
        refine Wp.iastN (pc2 := 47) dX2_takeNewOrder_46 rfl rfl (by omega) (by decide) ?_
        refine Wp.heq (hC_a23 _ _ _ _) ?_
        refine Wp.iincN (pc2 := 50) dX2_takeNewOrder_47 rfl rfl (by decide) rfl ?_
        refine Wp.goto (pc2 := 4) dX2_takeNewOrder_50 (by decide) ?_
        rw [eCp_s]
        refine ih (k + 1) _ (by omega) ?_
        rw [Bool.or_eq_true, h]
        constructor
        · rintro (⟨j, hj, hj2⟩ | z)
          · exact ⟨j, by omega, hj2⟩
          · exact ⟨k, by omega, c25⟩
        · intro _
          exact Or.inr (by decide)

set_option maxRecDepth 100000 in
set_option maxHeartbeats 4000000 in
theorem x_take_l_1 (V E : zS) (hE : BL E) (hn : V 9 1 ≤ 4) : ∀ (n k : Nat) (b : Bool), k + n = V 9 1 → (b = true ↔ ∃ j, j < k ∧ E 31 j ≠ E 32 j) → Wp mX2_takeNewOrder (fun zr zq => zbo (∃ j, j < V 9 1 ∧ E 31 j ≠ E 32 j) zr ∧ zq = hC V (eCp E 31 32 (V 9 1))) 4 [.ref 27, .int (nI (zb b)), .int (nI k)] [] (hC V (eCp E 31 32 k)) := by
  intro n
  induction n with
  | zero =>
    intro k b hk h
    have e : k = V 9 1 := by omega
    subst e
    refine Wp.iload_n (pc2 := 5) dX2_takeNewOrder_4 rfl rfl ?_
    refine Wp.aload_n (pc2 := 6) dX2_takeNewOrder_5 rfl rfl ?_
    refine Wp.getf (pc2 := 9) fX2_49 dX2_takeNewOrder_6 rfl rfl rfl ?_
    refine Wp.icmpN_ge (pc2 := 12) 53 dX2_takeNewOrder_9 rfl (by decide) (by omega) (by omega) (fun c9 => ?_) (fun c9 => ?_)
    · refine Wp.iload_n (pc2 := 54) dX2_takeNewOrder_53 rfl rfl ?_
      refine Wp.ret dX2_takeNewOrder_54 rfl (zb_nar b) ?_
      exact ⟨⟨b, rfl, h⟩, rfl⟩
    · exfalso; omega
  | succ n ih =>
    intro k b hk h
    have e1 : eCp E 31 32 k 31 k = E 31 k := eCp_k E
    have e2 : eCp E 31 32 k 32 k = E 32 k := eCp_o E (by decide)
    refine Wp.iload_n (pc2 := 5) dX2_takeNewOrder_4 rfl rfl ?_
    refine Wp.aload_n (pc2 := 6) dX2_takeNewOrder_5 rfl rfl ?_
    refine Wp.getf (pc2 := 9) fX2_49 dX2_takeNewOrder_6 rfl rfl rfl ?_
    refine Wp.icmpN_ge (pc2 := 12) 53 dX2_takeNewOrder_9 rfl (by decide) (by omega) (by omega) (fun c9 => ?_) (fun c9 => ?_)
    · exfalso; omega
    · refine Wp.iload_n (pc2 := 13) dX2_takeNewOrder_12 rfl rfl ?_
      refine Wp.aload_n (pc2 := 14) dX2_takeNewOrder_13 rfl rfl ?_
      refine Wp.getf (pc2 := 17) fX2_21 dX2_takeNewOrder_14 rfl rfl rfl ?_
      refine Wp.iload_n (pc2 := 18) dX2_takeNewOrder_17 rfl rfl ?_
      refine Wp.ialdN (pc2 := 19) dX2_takeNewOrder_18 rfl rfl (by omega) (by decide) ?_
      rw [e1]
      refine Wp.aload_n (pc2 := 20) dX2_takeNewOrder_19 rfl rfl ?_
      refine Wp.getf (pc2 := 23) fX2_24 dX2_takeNewOrder_20 rfl rfl rfl ?_
      refine Wp.iload_n (pc2 := 24) dX2_takeNewOrder_23 rfl rfl ?_
      refine Wp.ialdN (pc2 := 25) dX2_takeNewOrder_24 rfl rfl (by omega) (by decide) ?_
      rw [e2]
      refine Wp.icmpN_eq (pc2 := 28) 32 dX2_takeNewOrder_25 rfl (by decide) (hE.l _ _) (hE.l _ _) (fun c25 => ?_) (fun c25 => ?_)
      · refine Wp.iconN (pc2 := 33) 0 dX2_takeNewOrder_32 rfl ?_
        refine Wp.ior (pc2 := 34) dX2_takeNewOrder_33 rfl ?_
        refine Wp.top _ (or_b b _ (by decide)) ?_
        refine Wp.istore_n (pc2 := 35) dX2_takeNewOrder_34 rfl (by decide) rfl ?_
        refine Wp.aload_n (pc2 := 36) dX2_takeNewOrder_35 rfl rfl ?_
        refine Wp.getf (pc2 := 39) fX2_21 dX2_takeNewOrder_36 rfl rfl rfl ?_
        refine Wp.iload_n (pc2 := 40) dX2_takeNewOrder_39 rfl rfl ?_
        refine Wp.aload_n (pc2 := 41) dX2_takeNewOrder_40 rfl rfl ?_
        refine Wp.getf (pc2 := 44) fX2_24 dX2_takeNewOrder_41 rfl rfl rfl ?_
        refine Wp.iload_n (pc2 := 45) dX2_takeNewOrder_44 rfl rfl ?_
        refine Wp.ialdN (pc2 := 46) dX2_takeNewOrder_45 rfl rfl (by omega) (by decide) ?_
        rw [e2]
        refine Wp.iastN (pc2 := 47) dX2_takeNewOrder_46 rfl rfl (by omega) (by decide) ?_
        refine Wp.heq (hC_a31 _ _ _ _) ?_
        refine Wp.iincN (pc2 := 50) dX2_takeNewOrder_47 rfl rfl (by decide) rfl ?_
        refine Wp.goto (pc2 := 4) dX2_takeNewOrder_50 (by decide) ?_
        rw [eCp_s]
        refine ih (k + 1) _ (by omega) ?_
        rw [Bool.or_eq_true, h]
        constructor
        · rintro (⟨j, hj, hj2⟩ | z)
          · exact ⟨j, by omega, hj2⟩
          · exact absurd z (by decide)
        · rintro ⟨j, hj, hj2⟩
          rcases Nat.lt_or_ge j k with q | q
          · exact Or.inl ⟨j, q, hj2⟩
          · have : j = k := by omega
            subst this; exact absurd c25 hj2
      · refine Wp.iconN (pc2 := 29) 1 dX2_takeNewOrder_28 rfl ?_
        refine Wp.goto (pc2 := 33) dX2_takeNewOrder_29 (by decide) ?_
        refine Wp.ior (pc2 := 34) dX2_takeNewOrder_33 rfl ?_
        refine Wp.top _ (or_b b _ (by decide)) ?_
        refine Wp.istore_n (pc2 := 35) dX2_takeNewOrder_34 rfl (by decide) rfl ?_
        refine Wp.aload_n (pc2 := 36) dX2_takeNewOrder_35 rfl rfl ?_
        refine Wp.getf (pc2 := 39) fX2_21 dX2_takeNewOrder_36 rfl rfl rfl ?_
        refine Wp.iload_n (pc2 := 40) dX2_takeNewOrder_39 rfl rfl ?_
        refine Wp.aload_n (pc2 := 41) dX2_takeNewOrder_40 rfl rfl ?_
        refine Wp.getf (pc2 := 44) fX2_24 dX2_takeNewOrder_41 rfl rfl rfl ?_
        refine Wp.iload_n (pc2 := 45) dX2_takeNewOrder_44 rfl rfl ?_
        refine Wp.ialdN (pc2 := 46) dX2_takeNewOrder_45 rfl rfl (by omega) (by decide) ?_
        rw [e2]
        refine Wp.iastN (pc2 := 47) dX2_takeNewOrder_46 rfl rfl (by omega) (by decide) ?_
        refine Wp.heq (hC_a31 _ _ _ _) ?_
        refine Wp.iincN (pc2 := 50) dX2_takeNewOrder_47 rfl rfl (by decide) rfl ?_
        refine Wp.goto (pc2 := 4) dX2_takeNewOrder_50 (by decide) ?_
        rw [eCp_s]
        refine ih (k + 1) _ (by omega) ?_
        rw [Bool.or_eq_true, h]
        constructor
        · rintro (⟨j, hj, hj2⟩ | z)
          · exact ⟨j, by omega, hj2⟩
          · exact ⟨k, by omega, c25⟩
        · intro _
          exact Or.inr (by decide)

set_option maxRecDepth 100000 in
set_option maxHeartbeats 4000000 in
theorem x_take_0 (V E : zS) (hE : BL E) (hn : V 9 0 ≤ 4) : PM mX2_takeNewOrder [.ref 19] (hC V E) (fun zr zq => zbo (∃ j, j < V 9 0 ∧ E (19 + 4) j ≠ E (19 + 5) j) zr ∧ zq = hC V (eCp E (19 + 4) (19 + 5) (V 9 0))) := by
  refine PM.of (by decide +kernel) (by simp [Value.category]) (Nat.le_of_ble_eq_true rfl) ?_
  refine Wp.iconN (pc2 := 1) 0 dX2_takeNewOrder_0 rfl ?_
  refine Wp.istore_n (pc2 := 2) dX2_takeNewOrder_1 rfl (by decide) rfl ?_
  refine Wp.iconN (pc2 := 3) 0 dX2_takeNewOrder_2 rfl ?_
  refine Wp.istore_n (pc2 := 4) dX2_takeNewOrder_3 rfl (by decide) rfl ?_
  refine Wp.heq (h' := hC V (eCp E 23 24 0)) (by rw [eCp_0]) ?_
  exact x_take_l_0 V E hE hn (V 9 0) 0 false (by omega) ⟨fun z => Bool.noConfusion z, fun ⟨j, hj, _⟩ => by omega⟩
set_option maxRecDepth 100000 in
set_option maxHeartbeats 4000000 in
theorem x_take_1 (V E : zS) (hE : BL E) (hn : V 9 1 ≤ 4) : PM mX2_takeNewOrder [.ref 27] (hC V E) (fun zr zq => zbo (∃ j, j < V 9 1 ∧ E (27 + 4) j ≠ E (27 + 5) j) zr ∧ zq = hC V (eCp E (27 + 4) (27 + 5) (V 9 1))) := by
  refine PM.of (by decide +kernel) (by simp [Value.category]) (Nat.le_of_ble_eq_true rfl) ?_
  refine Wp.iconN (pc2 := 1) 0 dX2_takeNewOrder_0 rfl ?_
  refine Wp.istore_n (pc2 := 2) dX2_takeNewOrder_1 rfl (by decide) rfl ?_
  refine Wp.iconN (pc2 := 3) 0 dX2_takeNewOrder_2 rfl ?_
  refine Wp.istore_n (pc2 := 4) dX2_takeNewOrder_3 rfl (by decide) rfl ?_
  refine Wp.heq (h' := hC V (eCp E 31 32 0)) (by rw [eCp_0]) ?_
  exact x_take_l_1 V E hE hn (V 9 1) 0 false (by omega) ⟨fun z => Bool.noConfusion z, fun ⟨j, hj, _⟩ => by omega⟩
theorem x_take (t : Nat) (ht : t < 2) (V E : zS) (hE : BL E) (hn : V 9 t ≤ 4) : PM mX2_takeNewOrder [.ref (19 + 8 * t)] (hC V E) (fun zr zq => zbo (∃ j, j < V 9 t ∧ E ((19 + 8 * t) + 4) j ≠ E ((19 + 8 * t) + 5) j) zr ∧ zq = hC V (eCp E ((19 + 8 * t) + 4) ((19 + 8 * t) + 5) (V 9 t))) := by
  rcases (show t = 0 ∨ t = 1 by omega) with rfl | rfl
  · exact x_take_0 V E hE hn
  · exact x_take_1 V E hE hn

theorem BL_eSet {E : zS} (hE : BL E) {c : Nat} {f : Nat → Nat} (hf : ∀ j, f j < 2 ^ 31) : BL (eSet E c f) := by
  intro a b
  unfold eSet
  split
  · exact hf b
  · exact hE a b
theorem BL_eCp {E : zS} (hE : BL E) {c c' n : Nat} : BL (eCp E c c' n) := by
  intro a b
  unfold eCp
  split
  · exact hE c' b
  · exact hE a b

set_option maxRecDepth 100000 in
set_option maxHeartbeats 4000000 in
theorem x_turnOrder_0 (V E : zS) (hE : BL E) (hw : wB V 0) (hn : V 9 0 ≤ 4) : PM mX2_turnOrder [.ref 19] (hC V E) (fun zr zq => ∃ A, sInv V 0 (V 9 0) A ∧ zbo (∃ j, j < V 9 0 ∧ E (19 + 4) j ≠ A j) zr ∧ ∃ E', BL E' ∧ zq = hC V E' ∧ (∀ j, j < V 9 0 → E' (19 + 4) j = A j) ∧ ∀ a b, a ≠ 19 + 4 → a ≠ 19 + 5 → E' a b = E a b) := by
  refine PM.of (by decide +kernel) (by simp [Value.category]) (Nat.le_of_ble_eq_true rfl) ?_
  refine Wp.aload_n (pc2 := 1) dX2_turnOrder_0 rfl rfl ?_
  refine Wp.callV (pc2 := 4) kX2_turnOrder_77 vX2_sortIntoNewOrder (x_sort_0 V E hE hw hn) dX2_turnOrder_1 rfl rfl rfl rfl rfl (Nat.le_of_ble_eq_true rfl) ?_
  rintro _ _ ⟨rfl, A, hA, hA2, rfl⟩
  refine Wp.aload_n (pc2 := 5) dX2_turnOrder_4 rfl rfl ?_
  refine Wp.callV (pc2 := 8) kX2_turnOrder_80 vX2_takeNewOrder (x_take_0 V (eSet E 24 A) (BL_eSet hE hA2) hn) dX2_turnOrder_5 rfl rfl rfl rfl rfl (Nat.le_of_ble_eq_true rfl) ?_
  rintro _ _ ⟨⟨b, rfl, hb⟩, rfl⟩
  refine Wp.ret dX2_turnOrder_8 rfl (zb_nar b) ?_
  refine ⟨A, hA, ⟨b, rfl, ?_⟩, _, BL_eCp (BL_eSet hE hA2), rfl, fun j hj => ?_, fun x y h1 h2 => ?_⟩
  · rw [hb]
    simp only [eSet_at, eSet_o E A _ (show 23 ≠ 24 by decide)]
  · show eCp (eSet E 24 A) 23 24 (V 9 0) 23 j = A j
    unfold eCp
    rw [if_pos ⟨rfl, hj⟩]
    exact eSet_at E 24 A j
  · rw [eCp_o _ h1, eSet_o E A y h2]
set_option maxRecDepth 100000 in
set_option maxHeartbeats 4000000 in
theorem x_turnOrder_1 (V E : zS) (hE : BL E) (hw : wB V 1) (hn : V 9 1 ≤ 4) : PM mX2_turnOrder [.ref 27] (hC V E) (fun zr zq => ∃ A, sInv V 1 (V 9 1) A ∧ zbo (∃ j, j < V 9 1 ∧ E (27 + 4) j ≠ A j) zr ∧ ∃ E', BL E' ∧ zq = hC V E' ∧ (∀ j, j < V 9 1 → E' (27 + 4) j = A j) ∧ ∀ a b, a ≠ 27 + 4 → a ≠ 27 + 5 → E' a b = E a b) := by
  refine PM.of (by decide +kernel) (by simp [Value.category]) (Nat.le_of_ble_eq_true rfl) ?_
  refine Wp.aload_n (pc2 := 1) dX2_turnOrder_0 rfl rfl ?_
  refine Wp.callV (pc2 := 4) kX2_turnOrder_77 vX2_sortIntoNewOrder (x_sort_1 V E hE hw hn) dX2_turnOrder_1 rfl rfl rfl rfl rfl (Nat.le_of_ble_eq_true rfl) ?_
  rintro _ _ ⟨rfl, A, hA, hA2, rfl⟩
  refine Wp.aload_n (pc2 := 5) dX2_turnOrder_4 rfl rfl ?_
  refine Wp.callV (pc2 := 8) kX2_turnOrder_80 vX2_takeNewOrder (x_take_1 V (eSet E 32 A) (BL_eSet hE hA2) hn) dX2_turnOrder_5 rfl rfl rfl rfl rfl (Nat.le_of_ble_eq_true rfl) ?_
  rintro _ _ ⟨⟨b, rfl, hb⟩, rfl⟩
  refine Wp.ret dX2_turnOrder_8 rfl (zb_nar b) ?_
  refine ⟨A, hA, ⟨b, rfl, ?_⟩, _, BL_eCp (BL_eSet hE hA2), rfl, fun j hj => ?_, fun x y h1 h2 => ?_⟩
  · rw [hb]
    simp only [eSet_at, eSet_o E A _ (show 31 ≠ 32 by decide)]
  · show eCp (eSet E 32 A) 31 32 (V 9 1) 31 j = A j
    unfold eCp
    rw [if_pos ⟨rfl, hj⟩]
    exact eSet_at E 32 A j
  · rw [eCp_o _ h1, eSet_o E A y h2]
theorem x_turnOrder (t : Nat) (ht : t < 2) (V E : zS) (hE : BL E) (hw : wB V t) (hn : V 9 t ≤ 4) : PM mX2_turnOrder [.ref (19 + 8 * t)] (hC V E) (fun zr zq => ∃ A, sInv V t (V 9 t) A ∧ zbo (∃ j, j < V 9 t ∧ E ((19 + 8 * t) + 4) j ≠ A j) zr ∧ ∃ E', BL E' ∧ zq = hC V E' ∧ (∀ j, j < V 9 t → E' ((19 + 8 * t) + 4) j = A j) ∧ ∀ a b, a ≠ (19 + 8 * t) + 4 → a ≠ (19 + 8 * t) + 5 → E' a b = E a b) := by
  rcases (show t = 0 ∨ t = 1 by omega) with rfl | rfl
  · exact x_turnOrder_0 V E hE hw hn
  · exact x_turnOrder_1 V E hE hw hn

theorem and16 {m x : Nat} (hm : m < 16) (hx : x < 4) : nI m &&& nI (2 ^ x) = nI (m &&& 2 ^ x) := by
  have : ∀ m, m < 16 → ∀ x, x < 4 → nI m &&& nI (2 ^ x) = nI (m &&& 2 ^ x) := by decide +kernel
  exact this m hm x hx
theorem and16b {m x : Nat} (hm : m < 16) (hx : x < 4) : (m &&& 2 ^ x) < 2 ^ 31 ∧ (m &&& 2 ^ x = 0 ↔ ¬ m.testBit x = true) := by
  have : ∀ m, m < 16 → ∀ x, x < 4 → (m &&& 2 ^ x) < 2 ^ 31 ∧ (m &&& 2 ^ x = 0 ↔ ¬ m.testBit x = true) := by decide +kernel
  exact this m hm x hx
/-- digits that are tests, none twice -/
def dIn (n d : Nat) : Prop := (∀ k, k < n → dg d k < n) ∧ (∀ i j, i < j → j < n → dg d i ≠ dg d j) ∧ d / 10 ^ n = 0
theorem dIn_iff {n d : Nat} : dIn n d ↔ dOK n d := by
  constructor
  · rintro ⟨h1, h2, h3⟩
    refine ⟨h1, fun x hx => ?_, h3⟩
    apply Classical.byContradiction
    intro hz
    have := pigeon n (n + 1) (fun i => if i < n then dg d i else x) (fun i hi => by
      show (if i < n then dg d i else x) < n
      split
      · exact h1 i ‹_›
      · exact hx) (fun i j hi hj e => by
      have e : (if i < n then dg d i else x) = (if j < n then dg d j else x) := e
      by_cases q1 : i < n <;> by_cases q2 : j < n
      · rw [if_pos q1, if_pos q2] at e
        rcases Nat.lt_trichotomy i j with z | z | z
        · exact absurd e (h2 i j z q2)
        · exact z
        · exact absurd e.symm (h2 j i z q1)
      · rw [if_pos q1, if_neg q2] at e; exact absurd ⟨i, q1, e⟩ hz
      · rw [if_neg q1, if_pos q2] at e; exact absurd ⟨j, q2, e.symm⟩ hz
      · omega)
    omega
  · rintro ⟨h1, h2, h3⟩
    refine ⟨h1, fun i j hij hj he => ?_, h3⟩
    -- a place for each value; j is left out, then
    have hg : ∀ x, ∃ k, x < n → (k < n ∧ dg d k = x ∧ k ≠ j) := by
      intro x
      by_cases hx : x < n
      · obtain ⟨k, hk, e⟩ := h2 x hx
        by_cases q : k = j
        · refine ⟨i, fun _ => ⟨by omega, ?_, by omega⟩⟩
          rw [he, ← q]; exact e
        · exact ⟨k, fun _ => ⟨hk, e, q⟩⟩
      · exact ⟨0, fun z => absurd z hx⟩
    obtain ⟨G, hG⟩ : ∃ G : Nat → Nat, ∀ x, x < n → (G x < n ∧ dg d (G x) = x ∧ G x ≠ j) := ⟨fun x => Classical.choose (hg x), fun x hx => Classical.choose_spec (hg x) hx⟩
    have := pigeon (n - 1) n (fun x => if G x < j then G x else G x - 1) (fun x hx => by
      have k := hG x hx
      show (if G x < j then G x else G x - 1) < n - 1
      split <;> omega) (fun x y hx hy e => by
      have k1 := hG x hx
      have k2 := hG y hy
      have e : (if G x < j then G x else G x - 1) = (if G y < j then G y else G y - 1) := e
      have e2 : G x = G y := by
        split at e <;> split at e <;> omega
      rw [← k1.2.1, ← k2.2.1, e2])
    omega

set_option maxRecDepth 100000 in
set_option maxHeartbeats 4000000 in
theorem x_readInto_l_0 (V E : zS) (d : Nat) (hd : d < 2 ^ 31) (hn : V 9 0 ≤ 4) : ∀ (n k : Nat) (A : Nat → Nat), k + n = V 9 0 → (∀ j, A j < 2 ^ 31) → (∀ j, j < k → dg d j < V 9 0) → (∀ i j, i < j → j < k → dg d i ≠ dg d j) → (∀ j, j < k → A j = dg d j) → Wp mX2_readIntoNewOrder (fun zr zq => ∃ A, (∀ j, A j < 2 ^ 31) ∧ zq = hC V (eSet E 24 A) ∧ zbo (dIn (V 9 0) d) zr ∧ (dIn (V 9 0) d → ∀ j, j < V 9 0 → A j = dg d j)) 7 [.ref 19, .null, .int (nI (d / 10 ^ k)), .int (nI (msk d k)), .int (nI k), .null] [] (hC V (eSet E 24 A)) := by
  intro n
  induction n with
  | zero =>
    intro k A hk hA h1 h2 h3
    have e : k = V 9 0 := by omega
    subst e
    refine Wp.iload (pc2 := 9) dX2_readIntoNewOrder_7 rfl rfl ?_
    refine Wp.aload_n (pc2 := 10) dX2_readIntoNewOrder_9 rfl rfl ?_
    refine Wp.getf (pc2 := 13) fX2_49 dX2_readIntoNewOrder_10 rfl rfl rfl ?_
    refine Wp.icmpN_ge (pc2 := 16) 69 dX2_readIntoNewOrder_13 rfl (by decide) (by omega) (by omega) (fun c13 => ?_) (fun c13 => ?_)
    · refine Wp.iload_n (pc2 := 70) dX2_readIntoNewOrder_69 rfl rfl ?_
      refine Wp.ifN_ne (pc2 := 73) 77 dX2_readIntoNewOrder_70 rfl (by decide) (by have := div_le' d (V 9 0); omega) (fun c70 => ?_) (fun c70 => ?_)
      · refine Wp.iconN (pc2 := 78) 0 dX2_readIntoNewOrder_77 rfl ?_
        refine Wp.ret dX2_readIntoNewOrder_78 rfl (by first | exact zb_nar true | exact zb_nar false) ?_
        exact ⟨A, hA, rfl, zbo_f (fun z => c70 z.2.2), fun z => absurd z.2.2 c70⟩
      · refine Wp.iconN (pc2 := 74) 1 dX2_readIntoNewOrder_73 rfl ?_
        refine Wp.goto (pc2 := 78) dX2_readIntoNewOrder_74 (by decide) ?_
        refine Wp.ret dX2_readIntoNewOrder_78 rfl (by first | exact zb_nar true | exact zb_nar false) ?_
        exact ⟨A, hA, rfl, zbo_t ⟨h1, h2, c70⟩, fun _ => h3⟩
    · exfalso; omega
  | succ n ih =>
    intro k A hk hA h1 h2 h3
    have hdk := div_le' d k
    have hm := msk_lt (d := d) k (fun j hj => by have := h1 j hj; omega)
    have ek : d / 10 ^ k % 10 = dg d k := rfl
    refine Wp.iload (pc2 := 9) dX2_readIntoNewOrder_7 rfl rfl ?_
    refine Wp.aload_n (pc2 := 10) dX2_readIntoNewOrder_9 rfl rfl ?_
    refine Wp.getf (pc2 := 13) fX2_49 dX2_readIntoNewOrder_10 rfl rfl rfl ?_
    refine Wp.icmpN_ge (pc2 := 16) 69 dX2_readIntoNewOrder_13 rfl (by decide) (by omega) (by omega) (fun c13 => ?_) (fun c13 => ?_)
    · exfalso; omega
    · refine Wp.iload_n (pc2 := 17) dX2_readIntoNewOrder_16 rfl rfl ?_
      refine Wp.bipN (pc2 := 19) 10 dX2_readIntoNewOrder_17 rfl (by decide +kernel) ?_
      refine Wp.iremN (pc2 := 20) dX2_readIntoNewOrder_19 rfl (by omega) (by decide) (by decide) ?_
      refine Wp.istore (pc2 := 22) dX2_readIntoNewOrder_20 rfl (by decide) rfl ?_
      refine Wp.iload_n (pc2 := 23) dX2_readIntoNewOrder_22 rfl rfl ?_
      refine Wp.bipN (pc2 := 25) 10 dX2_readIntoNewOrder_23 rfl (by decide +kernel) ?_
      refine Wp.idivN (pc2 := 26) dX2_readIntoNewOrder_25 rfl (by omega) (by decide) (by decide) ?_
      refine Wp.istore_n (pc2 := 27) dX2_readIntoNewOrder_26 rfl (by decide) rfl ?_
      refine Wp.iload (pc2 := 29) dX2_readIntoNewOrder_27 rfl rfl ?_
      refine Wp.aload_n (pc2 := 30) dX2_readIntoNewOrder_29 rfl rfl ?_
      refine Wp.getf (pc2 := 33) fX2_49 dX2_readIntoNewOrder_30 rfl rfl rfl ?_
      refine Wp.icmpN_ge (pc2 := 36) 45 dX2_readIntoNewOrder_33 rfl (by decide) (by omega) (by omega) (fun c33 => ?_) (fun c33 => ?_)
      · refine Wp.iconN (pc2 := 46) 0 dX2_readIntoNewOrder_45 rfl ?_
        refine Wp.ret dX2_readIntoNewOrder_46 rfl (zb_nar false) ?_
        exact ⟨A, hA, rfl, zbo_f (fun z => by have := z.1 k (by omega); omega), fun z => by have := z.1 k (by omega); omega⟩
      · refine Wp.iload_n (pc2 := 37) dX2_readIntoNewOrder_36 rfl rfl ?_
        refine Wp.iconN (pc2 := 38) 1 dX2_readIntoNewOrder_37 rfl ?_
        refine Wp.iload (pc2 := 40) dX2_readIntoNewOrder_38 rfl rfl ?_
        refine Wp.ishl (pc2 := 41) dX2_readIntoNewOrder_40 rfl ?_
        refine Wp.top (nI (2 ^ dg d k)) (shl1 (by omega)) ?_
        refine Wp.iand (pc2 := 42) dX2_readIntoNewOrder_41 rfl ?_
        refine Wp.top (nI (msk d k &&& 2 ^ dg d k)) (and16 hm (by omega)) ?_
        refine Wp.ifN_eq (pc2 := 45) 47 dX2_readIntoNewOrder_42 rfl (by decide) (and16b hm (by omega)).1 (fun c42 => ?_) (fun c42 => ?_)
        · refine Wp.iload_n (pc2 := 48) dX2_readIntoNewOrder_47 rfl rfl ?_
          refine Wp.iconN (pc2 := 49) 1 dX2_readIntoNewOrder_48 rfl ?_
          refine Wp.iload (pc2 := 51) dX2_readIntoNewOrder_49 rfl rfl ?_
          refine Wp.ishl (pc2 := 52) dX2_readIntoNewOrder_51 rfl ?_
          refine Wp.top (nI (2 ^ dg d k)) (shl1 (by omega)) ?_
          refine Wp.ior (pc2 := 53) dX2_readIntoNewOrder_52 rfl ?_
          refine Wp.top (nI (msk d (k + 1))) (or16 hm (by omega)) ?_
          refine Wp.istore_n (pc2 := 54) dX2_readIntoNewOrder_53 rfl (by decide) rfl ?_
          refine Wp.aload_n (pc2 := 55) dX2_readIntoNewOrder_54 rfl rfl ?_
          refine Wp.getf (pc2 := 58) fX2_24 dX2_readIntoNewOrder_55 rfl rfl rfl ?_
          refine Wp.iload (pc2 := 60) dX2_readIntoNewOrder_58 rfl rfl ?_
          refine Wp.iload (pc2 := 62) dX2_readIntoNewOrder_60 rfl rfl ?_
          refine Wp.iastN (pc2 := 63) dX2_readIntoNewOrder_62 rfl rfl (by omega) (by decide) ?_
          refine Wp.heq (hC_a24 _ _ _ _) ?_
          rw [eSet_vs]
          refine Wp.iincN (pc2 := 66) dX2_readIntoNewOrder_63 rfl rfl (by decide) rfl ?_
          refine Wp.goto (pc2 := 7) dX2_readIntoNewOrder_66 (by decide) ?_
          rw [dg_s]
          have hnb : ¬ ∃ j, j < k ∧ dg d j = dg d k := fun z => (and16b hm (by omega)).2.mp c42 ((msk_bit k).mpr z)
          refine Wp.fg [.ref 19, .null, .int (nI (d / 10 ^ (k + 1))), .int (nI (msk d (k + 1))), .int (nI (k + 1)), .null] (And.intro (Or.inr rfl) (And.intro (Or.inl rfl) (And.intro (Or.inr rfl) (And.intro (Or.inr rfl) (And.intro (Or.inr rfl) (And.intro (Or.inl rfl) trivial)))))) ?_
          refine ih (k + 1) _ (by omega) (fun j => ?_) (lt_s (p := fun j => dg d j < V 9 0) h1 (by omega)) (fun i j hij hj => ?_) (fun j hj => ?_)
          · show (if j = k then _ else A j) < 2 ^ 31
            split
            · omega
            · exact hA j
          · rcases Nat.lt_or_ge j k with q | q
            · exact h2 i j hij q
            · have : j = k := by omega
              subst this
              exact fun z => hnb ⟨i, hij, z⟩
          · show (if j = k then d / 10 ^ k % 10 else A j) = dg d j
            split
            · rename_i q; rw [q]; rfl
            · exact h3 j (by omega)
        · refine Wp.iconN (pc2 := 46) 0 dX2_readIntoNewOrder_45 rfl ?_
          refine Wp.ret dX2_readIntoNewOrder_46 rfl (zb_nar false) ?_
          have hex : ∃ j, j < k ∧ dg d j = dg d k := by
            apply Classical.byContradiction
            intro z
            exact c42 ((and16b hm (by omega)).2.mpr (fun w => z ((msk_bit k).mp w)))
          obtain ⟨j, hj, e⟩ := hex
          exact ⟨A, hA, rfl, zbo_f (fun z => z.2.1 j k hj (by omega) e), fun z => absurd e (z.2.1 j k hj (by omega))⟩

set_option maxRecDepth 100000 in
set_option maxHeartbeats 4000000 in
theorem x_readInto_l_1 (V E : zS) (d : Nat) (hd : d < 2 ^ 31) (hn : V 9 1 ≤ 4) : ∀ (n k : Nat) (A : Nat → Nat), k + n = V 9 1 → (∀ j, A j < 2 ^ 31) → (∀ j, j < k → dg d j < V 9 1) → (∀ i j, i < j → j < k → dg d i ≠ dg d j) → (∀ j, j < k → A j = dg d j) → Wp mX2_readIntoNewOrder (fun zr zq => ∃ A, (∀ j, A j < 2 ^ 31) ∧ zq = hC V (eSet E 32 A) ∧ zbo (dIn (V 9 1) d) zr ∧ (dIn (V 9 1) d → ∀ j, j < V 9 1 → A j = dg d j)) 7 [.ref 27, .null, .int (nI (d / 10 ^ k)), .int (nI (msk d k)), .int (nI k), .null] [] (hC V (eSet E 32 A)) := by
  intro n
  induction n with
  | zero =>
    intro k A hk hA h1 h2 h3
    have e : k = V 9 1 := by omega
    subst e
    refine Wp.iload (pc2 := 9) dX2_readIntoNewOrder_7 rfl rfl ?_
    refine Wp.aload_n (pc2 := 10) dX2_readIntoNewOrder_9 rfl rfl ?_
    refine Wp.getf (pc2 := 13) fX2_49 dX2_readIntoNewOrder_10 rfl rfl rfl ?_
    refine Wp.icmpN_ge (pc2 := 16) 69 dX2_readIntoNewOrder_13 rfl (by decide) (by omega) (by omega) (fun c13 => ?_) (fun c13 => ?_)
    · refine Wp.iload_n (pc2 := 70) dX2_readIntoNewOrder_69 rfl rfl ?_
      refine Wp.ifN_ne (pc2 := 73) 77 dX2_readIntoNewOrder_70 rfl (by decide) (by have := div_le' d (V 9 1); omega) (fun c70 => ?_) (fun c70 => ?_)
      · refine Wp.iconN (pc2 := 78) 0 dX2_readIntoNewOrder_77 rfl ?_
        refine Wp.ret dX2_readIntoNewOrder_78 rfl (by first | exact zb_nar true | exact zb_nar false) ?_
        exact ⟨A, hA, rfl, zbo_f (fun z => c70 z.2.2), fun z => absurd z.2.2 c70⟩
      · refine Wp.iconN (pc2 := 74) 1 dX2_readIntoNewOrder_73 rfl ?_
        refine Wp.goto (pc2 := 78) dX2_readIntoNewOrder_74 (by decide) ?_
        refine Wp.ret dX2_readIntoNewOrder_78 rfl (by first | exact zb_nar true | exact zb_nar false) ?_
        exact ⟨A, hA, rfl, zbo_t ⟨h1, h2, c70⟩, fun _ => h3⟩
    · exfalso; omega
  | succ n ih =>
    intro k A hk hA h1 h2 h3
    have hdk := div_le' d k
    have hm := msk_lt (d := d) k (fun j hj => by have := h1 j hj; omega)
    have ek : d / 10 ^ k % 10 = dg d k := rfl
    refine Wp.iload (pc2 := 9) dX2_readIntoNewOrder_7 rfl rfl ?_
    refine Wp.aload_n (pc2 := 10) dX2_readIntoNewOrder_9 rfl rfl ?_
    refine Wp.getf (pc2 := 13) fX2_49 dX2_readIntoNewOrder_10 rfl rfl rfl ?_
    refine Wp.icmpN_ge (pc2 := 16) 69 dX2_readIntoNewOrder_13 rfl (by decide) (by omega) (by omega) (fun c13 => ?_) (fun c13 => ?_)
    · exfalso; omega
    · refine Wp.iload_n (pc2 := 17) dX2_readIntoNewOrder_16 rfl rfl ?_
      refine Wp.bipN (pc2 := 19) 10 dX2_readIntoNewOrder_17 rfl (by decide +kernel) ?_
      refine Wp.iremN (pc2 := 20) dX2_readIntoNewOrder_19 rfl (by omega) (by decide) (by decide) ?_
      refine Wp.istore (pc2 := 22) dX2_readIntoNewOrder_20 rfl (by decide) rfl ?_
      refine Wp.iload_n (pc2 := 23) dX2_readIntoNewOrder_22 rfl rfl ?_
      refine Wp.bipN (pc2 := 25) 10 dX2_readIntoNewOrder_23 rfl (by decide +kernel) ?_
      refine Wp.idivN (pc2 := 26) dX2_readIntoNewOrder_25 rfl (by omega) (by decide) (by decide) ?_
      refine Wp.istore_n (pc2 := 27) dX2_readIntoNewOrder_26 rfl (by decide) rfl ?_
      refine Wp.iload (pc2 := 29) dX2_readIntoNewOrder_27 rfl rfl ?_
      refine Wp.aload_n (pc2 := 30) dX2_readIntoNewOrder_29 rfl rfl ?_
      refine Wp.getf (pc2 := 33) fX2_49 dX2_readIntoNewOrder_30 rfl rfl rfl ?_
      refine Wp.icmpN_ge (pc2 := 36) 45 dX2_readIntoNewOrder_33 rfl (by decide) (by omega) (by omega) (fun c33 => ?_) (fun c33 => ?_)
      · refine Wp.iconN (pc2 := 46) 0 dX2_readIntoNewOrder_45 rfl ?_
        refine Wp.ret dX2_readIntoNewOrder_46 rfl (zb_nar false) ?_
        exact ⟨A, hA, rfl, zbo_f (fun z => by have := z.1 k (by omega); omega), fun z => by have := z.1 k (by omega); omega⟩
      · refine Wp.iload_n (pc2 := 37) dX2_readIntoNewOrder_36 rfl rfl ?_
        refine Wp.iconN (pc2 := 38) 1 dX2_readIntoNewOrder_37 rfl ?_
        refine Wp.iload (pc2 := 40) dX2_readIntoNewOrder_38 rfl rfl ?_
        refine Wp.ishl (pc2 := 41) dX2_readIntoNewOrder_40 rfl ?_
        refine Wp.top (nI (2 ^ dg d k)) (shl1 (by omega)) ?_
        refine Wp.iand (pc2 := 42) dX2_readIntoNewOrder_41 rfl ?_
        refine Wp.top (nI (msk d k &&& 2 ^ dg d k)) (and16 hm (by omega)) ?_
        refine Wp.ifN_eq (pc2 := 45) 47 dX2_readIntoNewOrder_42 rfl (by decide) (and16b hm (by omega)).1 (fun c42 => ?_) (fun c42 => ?_)
        · refine Wp.iload_n (pc2 := 48) dX2_readIntoNewOrder_47 rfl rfl ?_
          refine Wp.iconN (pc2 := 49) 1 dX2_readIntoNewOrder_48 rfl ?_
          refine Wp.iload (pc2 := 51) dX2_readIntoNewOrder_49 rfl rfl ?_
          refine Wp.ishl (pc2 := 52) dX2_readIntoNewOrder_51 rfl ?_
          refine Wp.top (nI (2 ^ dg d k)) (shl1 (by omega)) ?_
          refine Wp.ior (pc2 := 53) dX2_readIntoNewOrder_52 rfl ?_
          refine Wp.top (nI (msk d (k + 1))) (or16 hm (by omega)) ?_
          refine Wp.istore_n (pc2 := 54) dX2_readIntoNewOrder_53 rfl (by decide) rfl ?_
          refine Wp.aload_n (pc2 := 55) dX2_readIntoNewOrder_54 rfl rfl ?_
          refine Wp.getf (pc2 := 58) fX2_24 dX2_readIntoNewOrder_55 rfl rfl rfl ?_
          refine Wp.iload (pc2 := 60) dX2_readIntoNewOrder_58 rfl rfl ?_
          refine Wp.iload (pc2 := 62) dX2_readIntoNewOrder_60 rfl rfl ?_
          refine Wp.iastN (pc2 := 63) dX2_readIntoNewOrder_62 rfl rfl (by omega) (by decide) ?_
          refine Wp.heq (hC_a32 _ _ _ _) ?_
          rw [eSet_vs]
          refine Wp.iincN (pc2 := 66) dX2_readIntoNewOrder_63 rfl rfl (by decide) rfl ?_
          refine Wp.goto (pc2 := 7) dX2_readIntoNewOrder_66 (by decide) ?_
          rw [dg_s]
          have hnb : ¬ ∃ j, j < k ∧ dg d j = dg d k := fun z => (and16b hm (by omega)).2.mp c42 ((msk_bit k).mpr z)
          refine Wp.fg [.ref 27, .null, .int (nI (d / 10 ^ (k + 1))), .int (nI (msk d (k + 1))), .int (nI (k + 1)), .null] (And.intro (Or.inr rfl) (And.intro (Or.inl rfl) (And.intro (Or.inr rfl) (And.intro (Or.inr rfl) (And.intro (Or.inr rfl) (And.intro (Or.inl rfl) trivial)))))) ?_
          refine ih (k + 1) _ (by omega) (fun j => ?_) (lt_s (p := fun j => dg d j < V 9 1) h1 (by omega)) (fun i j hij hj => ?_) (fun j hj => ?_)
          · show (if j = k then _ else A j) < 2 ^ 31
            split
            · omega
            · exact hA j
          · rcases Nat.lt_or_ge j k with q | q
            · exact h2 i j hij q
            · have : j = k := by omega
              subst this
              exact fun z => hnb ⟨i, hij, z⟩
          · show (if j = k then d / 10 ^ k % 10 else A j) = dg d j
            split
            · rename_i q; rw [q]; rfl
            · exact h3 j (by omega)
        · refine Wp.iconN (pc2 := 46) 0 dX2_readIntoNewOrder_45 rfl ?_
          refine Wp.ret dX2_readIntoNewOrder_46 rfl (zb_nar false) ?_
          have hex : ∃ j, j < k ∧ dg d j = dg d k := by
            apply Classical.byContradiction
            intro z
            exact c42 ((and16b hm (by omega)).2.mpr (fun w => z ((msk_bit k).mp w)))
          obtain ⟨j, hj, e⟩ := hex
          exact ⟨A, hA, rfl, zbo_f (fun z => z.2.1 j k hj (by omega) e), fun z => absurd e (z.2.1 j k hj (by omega))⟩

set_option maxRecDepth 100000 in
set_option maxHeartbeats 4000000 in
theorem x_readInto_0 (V E : zS) (d : Nat) (hE : BL E) (hd : d < 2 ^ 31) (hn : V 9 0 ≤ 4) : PM mX2_readIntoNewOrder [.ref 19, .int (nI d)] (hC V E) (fun zr zq => ∃ A, (∀ j, A j < 2 ^ 31) ∧ zq = hC V (eSet E (19 + 5) A) ∧ zbo (dIn (V 9 0) d) zr ∧ (dIn (V 9 0) d → ∀ j, j < V 9 0 → A j = dg d j)) := by
  refine PM.of (by decide +kernel) (by simp [Value.category]) (Nat.le_of_ble_eq_true rfl) ?_
  refine Wp.iload_n (pc2 := 1) dX2_readIntoNewOrder_0 rfl rfl ?_
  refine Wp.istore_n (pc2 := 2) dX2_readIntoNewOrder_1 rfl (by decide) rfl ?_
  refine Wp.iconN (pc2 := 3) 0 dX2_readIntoNewOrder_2 rfl ?_
  refine Wp.istore_n (pc2 := 4) dX2_readIntoNewOrder_3 rfl (by decide) rfl ?_
  refine Wp.iconN (pc2 := 5) 0 dX2_readIntoNewOrder_4 rfl ?_
  refine Wp.istore (pc2 := 7) dX2_readIntoNewOrder_5 rfl (by decide) rfl ?_
  refine Wp.heq (h' := hC V (eSet E 24 (E 24))) (by rw [eSet_self]) ?_
  refine Wp.fg [.ref 19, .null, .int (nI d), .int (nI 0), .int (nI 0), .null] (And.intro (Or.inr rfl) (And.intro (Or.inl rfl) (And.intro (Or.inr rfl) (And.intro (Or.inr rfl) (And.intro (Or.inr rfl) (And.intro (Or.inl rfl) trivial)))))) ?_
  refine Wp.leq (L' := [.ref 19, .null, .int (nI (d / 10 ^ 0)), .int (nI (msk d 0)), .int (nI 0), .null]) (by rw [Nat.pow_zero, Nat.div_one]; rfl) ?_
  exact x_readInto_l_0 V E d hd hn (V 9 0) 0 _ (by omega) (hE _) (fun j hj => by omega) (fun i j h1 h2 => by omega) (fun j hj => by omega)
set_option maxRecDepth 100000 in
set_option maxHeartbeats 4000000 in
theorem x_readInto_1 (V E : zS) (d : Nat) (hE : BL E) (hd : d < 2 ^ 31) (hn : V 9 1 ≤ 4) : PM mX2_readIntoNewOrder [.ref 27, .int (nI d)] (hC V E) (fun zr zq => ∃ A, (∀ j, A j < 2 ^ 31) ∧ zq = hC V (eSet E (27 + 5) A) ∧ zbo (dIn (V 9 1) d) zr ∧ (dIn (V 9 1) d → ∀ j, j < V 9 1 → A j = dg d j)) := by
  refine PM.of (by decide +kernel) (by simp [Value.category]) (Nat.le_of_ble_eq_true rfl) ?_
  refine Wp.iload_n (pc2 := 1) dX2_readIntoNewOrder_0 rfl rfl ?_
  refine Wp.istore_n (pc2 := 2) dX2_readIntoNewOrder_1 rfl (by decide) rfl ?_
  refine Wp.iconN (pc2 := 3) 0 dX2_readIntoNewOrder_2 rfl ?_
  refine Wp.istore_n (pc2 := 4) dX2_readIntoNewOrder_3 rfl (by decide) rfl ?_
  refine Wp.iconN (pc2 := 5) 0 dX2_readIntoNewOrder_4 rfl ?_
  refine Wp.istore (pc2 := 7) dX2_readIntoNewOrder_5 rfl (by decide) rfl ?_
  refine Wp.heq (h' := hC V (eSet E 32 (E 32))) (by rw [eSet_self]) ?_
  refine Wp.fg [.ref 27, .null, .int (nI d), .int (nI 0), .int (nI 0), .null] (And.intro (Or.inr rfl) (And.intro (Or.inl rfl) (And.intro (Or.inr rfl) (And.intro (Or.inr rfl) (And.intro (Or.inr rfl) (And.intro (Or.inl rfl) trivial)))))) ?_
  refine Wp.leq (L' := [.ref 27, .null, .int (nI (d / 10 ^ 0)), .int (nI (msk d 0)), .int (nI 0), .null]) (by rw [Nat.pow_zero, Nat.div_one]; rfl) ?_
  exact x_readInto_l_1 V E d hd hn (V 9 1) 0 _ (by omega) (hE _) (fun j hj => by omega) (fun i j h1 h2 => by omega) (fun j hj => by omega)
theorem x_readInto (t : Nat) (ht : t < 2) (V E : zS) (d : Nat) (hE : BL E) (hd : d < 2 ^ 31) (hn : V 9 t ≤ 4) : PM mX2_readIntoNewOrder [.ref (19 + 8 * t), .int (nI d)] (hC V E) (fun zr zq => ∃ A, (∀ j, A j < 2 ^ 31) ∧ zq = hC V (eSet E ((19 + 8 * t) + 5) A) ∧ zbo (dIn (V 9 t) d) zr ∧ (dIn (V 9 t) d → ∀ j, j < V 9 t → A j = dg d j)) := by
  rcases (show t = 0 ∨ t = 1 by omega) with rfl | rfl
  · exact x_readInto_0 V E d hE hd hn
  · exact x_readInto_1 V E d hE hd hn

set_option maxRecDepth 100000 in
set_option maxHeartbeats 4000000 in
theorem x_forceOrder_ok_0 (V E : zS) (d : Nat) (hE : BL E) (hd : d < 2 ^ 31) (hn : V 9 0 ≤ 4) (hok : dOK (V 9 0) d) : PM mX2_forceOrder [.ref 19, .int (nI d)] (hC V E) (fun zr zq => zr = some (.int (nI 1)) ∧ ∃ E', BL E' ∧ zq = hC (vs V 12 0 1) E' ∧ (∀ j, j < V 9 0 → E' (19 + 4) j = dg d j) ∧ ∀ a b, a ≠ 19 + 4 → a ≠ 19 + 5 → E' a b = E a b) := by
  refine PM.of (by decide +kernel) (by simp [Value.category]) (Nat.le_of_ble_eq_true rfl) ?_
  refine Wp.iload_n (pc2 := 1) dX2_forceOrder_0 rfl rfl ?_
  refine Wp.ifN_lt (pc2 := 4) 12 dX2_forceOrder_1 rfl (by decide) hd (fun c1 => ?_) (fun c1 => ?_)
  · exact absurd c1 id
  · refine Wp.aload_n (pc2 := 5) dX2_forceOrder_4 rfl rfl ?_
    refine Wp.iload_n (pc2 := 6) dX2_forceOrder_5 rfl rfl ?_
    refine Wp.callV (pc2 := 9) kX2_forceOrder_84 vX2_readIntoNewOrder (x_readInto_0 V E d hE hd hn) dX2_forceOrder_6 rfl rfl rfl rfl rfl (Nat.le_of_ble_eq_true rfl) ?_
    rintro _ _ ⟨A, hA, rfl, ⟨b, rfl, hb⟩, hA2⟩
    refine Wp.ifN_ne (pc2 := 12) 14 dX2_forceOrder_9 rfl (by decide) (zb_lt _) (fun c9 => ?_) (fun c9 => ?_)
    · refine Wp.aload_n (pc2 := 15) dX2_forceOrder_14 rfl rfl ?_
      refine Wp.callV (pc2 := 18) kX2_forceOrder_80 vX2_takeNewOrder (x_take_0 V (eSet E 24 A) (BL_eSet hE hA) hn) dX2_forceOrder_15 rfl rfl rfl rfl rfl (Nat.le_of_ble_eq_true rfl) ?_
      rintro _ _ ⟨⟨b2, rfl, -⟩, rfl⟩
      refine Wp.pop (pc2 := 19) dX2_forceOrder_18 rfl rfl ?_
      refine Wp.aload_n (pc2 := 20) dX2_forceOrder_19 rfl rfl ?_
      refine Wp.iconN (pc2 := 21) 1 dX2_forceOrder_20 rfl ?_
      refine Wp.putf (pc2 := 24) gX2_50 dX2_forceOrder_21 rfl rfl (Nat.le_of_ble_eq_true rfl) (zb_nar true) (zb_fits true) ?_
      refine Wp.heq (hC_o19_9 _ _ _) ?_
      refine Wp.iconN (pc2 := 25) 1 dX2_forceOrder_24 rfl ?_
      refine Wp.ret dX2_forceOrder_25 rfl (zb_nar true) ?_
      refine ⟨rfl, _, BL_eCp (BL_eSet hE hA), rfl, fun j hj => ?_, fun x y h1 h2 => ?_⟩
      · show eCp (eSet E 24 A) 23 24 (V 9 0) 23 j = dg d j
        unfold eCp
        rw [if_pos ⟨rfl, hj⟩]
        rw [eSet_at]
        exact hA2 (dIn_iff.mpr hok) j hj
      · rw [eCp_o _ h1, eSet_o E A y h2]
    · exact absurd (dIn_iff.mpr hok) (zbn hb c9)
set_option maxRecDepth 100000 in
set_option maxHeartbeats 4000000 in
theorem x_forceOrder_ok_1 (V E : zS) (d : Nat) (hE : BL E) (hd : d < 2 ^ 31) (hn : V 9 1 ≤ 4) (hok : dOK (V 9 1) d) : PM mX2_forceOrder [.ref 27, .int (nI d)] (hC V E) (fun zr zq => zr = some (.int (nI 1)) ∧ ∃ E', BL E' ∧ zq = hC (vs V 12 1 1) E' ∧ (∀ j, j < V 9 1 → E' (27 + 4) j = dg d j) ∧ ∀ a b, a ≠ 27 + 4 → a ≠ 27 + 5 → E' a b = E a b) := by
  refine PM.of (by decide +kernel) (by simp [Value.category]) (Nat.le_of_ble_eq_true rfl) ?_
  refine Wp.iload_n (pc2 := 1) dX2_forceOrder_0 rfl rfl ?_
  refine Wp.ifN_lt (pc2 := 4) 12 dX2_forceOrder_1 rfl (by decide) hd (fun c1 => ?_) (fun c1 => ?_)
  · exact absurd c1 id
  · refine Wp.aload_n (pc2 := 5) dX2_forceOrder_4 rfl rfl ?_
    refine Wp.iload_n (pc2 := 6) dX2_forceOrder_5 rfl rfl ?_
    refine Wp.callV (pc2 := 9) kX2_forceOrder_84 vX2_readIntoNewOrder (x_readInto_1 V E d hE hd hn) dX2_forceOrder_6 rfl rfl rfl rfl rfl (Nat.le_of_ble_eq_true rfl) ?_
    rintro _ _ ⟨A, hA, rfl, ⟨b, rfl, hb⟩, hA2⟩
    refine Wp.ifN_ne (pc2 := 12) 14 dX2_forceOrder_9 rfl (by decide) (zb_lt _) (fun c9 => ?_) (fun c9 => ?_)
    · refine Wp.aload_n (pc2 := 15) dX2_forceOrder_14 rfl rfl ?_
      refine Wp.callV (pc2 := 18) kX2_forceOrder_80 vX2_takeNewOrder (x_take_1 V (eSet E 32 A) (BL_eSet hE hA) hn) dX2_forceOrder_15 rfl rfl rfl rfl rfl (Nat.le_of_ble_eq_true rfl) ?_
      rintro _ _ ⟨⟨b2, rfl, -⟩, rfl⟩
      refine Wp.pop (pc2 := 19) dX2_forceOrder_18 rfl rfl ?_
      refine Wp.aload_n (pc2 := 20) dX2_forceOrder_19 rfl rfl ?_
      refine Wp.iconN (pc2 := 21) 1 dX2_forceOrder_20 rfl ?_
      refine Wp.putf (pc2 := 24) gX2_50 dX2_forceOrder_21 rfl rfl (Nat.le_of_ble_eq_true rfl) (zb_nar true) (zb_fits true) ?_
      refine Wp.heq (hC_o27_9 _ _ _) ?_
      refine Wp.iconN (pc2 := 25) 1 dX2_forceOrder_24 rfl ?_
      refine Wp.ret dX2_forceOrder_25 rfl (zb_nar true) ?_
      refine ⟨rfl, _, BL_eCp (BL_eSet hE hA), rfl, fun j hj => ?_, fun x y h1 h2 => ?_⟩
      · show eCp (eSet E 32 A) 31 32 (V 9 1) 31 j = dg d j
        unfold eCp
        rw [if_pos ⟨rfl, hj⟩]
        rw [eSet_at]
        exact hA2 (dIn_iff.mpr hok) j hj
      · rw [eCp_o _ h1, eSet_o E A y h2]
    · exact absurd (dIn_iff.mpr hok) (zbn hb c9)
theorem x_forceOrder_ok (t : Nat) (ht : t < 2) (V E : zS) (d : Nat) (hE : BL E) (hd : d < 2 ^ 31) (hn : V 9 t ≤ 4) (hok : dOK (V 9 t) d) : PM mX2_forceOrder [.ref (19 + 8 * t), .int (nI d)] (hC V E) (fun zr zq => zr = some (.int (nI 1)) ∧ ∃ E', BL E' ∧ zq = hC (vs V 12 t 1) E' ∧ (∀ j, j < V 9 t → E' ((19 + 8 * t) + 4) j = dg d j) ∧ ∀ a b, a ≠ (19 + 8 * t) + 4 → a ≠ (19 + 8 * t) + 5 → E' a b = E a b) := by
  rcases (show t = 0 ∨ t = 1 by omega) with rfl | rfl
  · exact x_forceOrder_ok_0 V E d hE hd hn hok
  · exact x_forceOrder_ok_1 V E d hE hd hn hok

set_option maxRecDepth 100000 in
set_option maxHeartbeats 4000000 in
theorem x_forceOrder_no_0 (V E : zS) (dd : Int32) (hE : BL E) (hn : V 9 0 ≤ 4) (hno : ¬ ∃ d : Nat, d < 2 ^ 31 ∧ dd = nI d ∧ dOK (V 9 0) d) : PM mX2_forceOrder [.ref 19, .int dd] (hC V E) (fun zr zq => zr = some (.int (nI 0)) ∧ ∃ E', BL E' ∧ zq = hC V E' ∧ ∀ a b, a ≠ 19 + 5 → E' a b = E a b) := by
  refine PM.of (by decide +kernel) (by simp [Value.category]) (Nat.le_of_ble_eq_true rfl) ?_
  refine Wp.iload_n (pc2 := 1) dX2_forceOrder_0 rfl rfl ?_
  refine Wp.if_lt (pc2 := 4) 12 dX2_forceOrder_1 rfl (by decide)  (fun c1 => ?_) (fun c1 => ?_)
  · refine Wp.iconN (pc2 := 13) 0 dX2_forceOrder_12 rfl ?_
    refine Wp.ret dX2_forceOrder_13 rfl (zb_nar false) ?_
    exact ⟨rfl, E, hE, rfl, fun _ _ _ => rfl⟩
  · obtain ⟨d, hd, rfl⟩ := nI_of c1
    refine Wp.aload_n (pc2 := 5) dX2_forceOrder_4 rfl rfl ?_
    refine Wp.iload_n (pc2 := 6) dX2_forceOrder_5 rfl rfl ?_
    refine Wp.callV (pc2 := 9) kX2_forceOrder_84 vX2_readIntoNewOrder (x_readInto_0 V E d hE hd hn) dX2_forceOrder_6 rfl rfl rfl rfl rfl (Nat.le_of_ble_eq_true rfl) ?_
    rintro _ _ ⟨A, hA, rfl, ⟨b, rfl, hb⟩, hA2⟩
    refine Wp.ifN_ne (pc2 := 12) 14 dX2_forceOrder_9 rfl (by decide) (zb_lt _) (fun c9 => ?_) (fun c9 => ?_)
    · exact absurd ⟨d, hd, rfl, dIn_iff.mp (zby hb c9)⟩ hno
    · refine Wp.iconN (pc2 := 13) 0 dX2_forceOrder_12 rfl ?_
      refine Wp.ret dX2_forceOrder_13 rfl (zb_nar false) ?_
      exact ⟨rfl, _, BL_eSet hE hA, rfl, fun x y h => eSet_o E A y h⟩
set_option maxRecDepth 100000 in
set_option maxHeartbeats 4000000 in
theorem x_forceOrder_no_1 (V E : zS) (dd : Int32) (hE : BL E) (hn : V 9 1 ≤ 4) (hno : ¬ ∃ d : Nat, d < 2 ^ 31 ∧ dd = nI d ∧ dOK (V 9 1) d) : PM mX2_forceOrder [.ref 27, .int dd] (hC V E) (fun zr zq => zr = some (.int (nI 0)) ∧ ∃ E', BL E' ∧ zq = hC V E' ∧ ∀ a b, a ≠ 27 + 5 → E' a b = E a b) := by
  refine PM.of (by decide +kernel) (by simp [Value.category]) (Nat.le_of_ble_eq_true rfl) ?_
  refine Wp.iload_n (pc2 := 1) dX2_forceOrder_0 rfl rfl ?_
  refine Wp.if_lt (pc2 := 4) 12 dX2_forceOrder_1 rfl (by decide)  (fun c1 => ?_) (fun c1 => ?_)
  · refine Wp.iconN (pc2 := 13) 0 dX2_forceOrder_12 rfl ?_
    refine Wp.ret dX2_forceOrder_13 rfl (zb_nar false) ?_
    exact ⟨rfl, E, hE, rfl, fun _ _ _ => rfl⟩
  · obtain ⟨d, hd, rfl⟩ := nI_of c1
    refine Wp.aload_n (pc2 := 5) dX2_forceOrder_4 rfl rfl ?_
    refine Wp.iload_n (pc2 := 6) dX2_forceOrder_5 rfl rfl ?_
    refine Wp.callV (pc2 := 9) kX2_forceOrder_84 vX2_readIntoNewOrder (x_readInto_1 V E d hE hd hn) dX2_forceOrder_6 rfl rfl rfl rfl rfl (Nat.le_of_ble_eq_true rfl) ?_
    rintro _ _ ⟨A, hA, rfl, ⟨b, rfl, hb⟩, hA2⟩
    refine Wp.ifN_ne (pc2 := 12) 14 dX2_forceOrder_9 rfl (by decide) (zb_lt _) (fun c9 => ?_) (fun c9 => ?_)
    · exact absurd ⟨d, hd, rfl, dIn_iff.mp (zby hb c9)⟩ hno
    · refine Wp.iconN (pc2 := 13) 0 dX2_forceOrder_12 rfl ?_
      refine Wp.ret dX2_forceOrder_13 rfl (zb_nar false) ?_
      exact ⟨rfl, _, BL_eSet hE hA, rfl, fun x y h => eSet_o E A y h⟩
theorem x_forceOrder_no (t : Nat) (ht : t < 2) (V E : zS) (dd : Int32) (hE : BL E) (hn : V 9 t ≤ 4) (hno : ¬ ∃ d : Nat, d < 2 ^ 31 ∧ dd = nI d ∧ dOK (V 9 t) d) : PM mX2_forceOrder [.ref (19 + 8 * t), .int dd] (hC V E) (fun zr zq => zr = some (.int (nI 0)) ∧ ∃ E', BL E' ∧ zq = hC V E' ∧ ∀ a b, a ≠ (19 + 8 * t) + 5 → E' a b = E a b) := by
  rcases (show t = 0 ∨ t = 1 by omega) with rfl | rfl
  · exact x_forceOrder_no_0 V E dd hE hn hno
  · exact x_forceOrder_no_1 V E dd hE hn hno

