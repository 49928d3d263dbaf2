/-- the tests that a row fails, as bits -/
def fmk (V : zS) (t r : Nat) : Nat → Nat
  | 0 => 0
  | x + 1 => if passB V t r x then fmk V t r x else fmk V t r x ||| 2 ^ x
theorem fmk_t {V : zS} {t r x : Nat} (h : passB V t r x = true) : fmk V t r (x + 1) = fmk V t r x := by rw [fmk, if_pos h]
theorem fmk_f {V : zS} {t r x : Nat} (h : ¬ passB V t r x = true) : fmk V t r (x + 1) = fmk V t r x ||| 2 ^ x := by rw [fmk, if_neg h]
theorem fmk_lt (V : zS) (t r : Nat) : ∀ k, fmk V t r k < 2 ^ k
  | 0 => by show 0 < 1; decide
  | k + 1 => by
    have h1 : fmk V t r k < 2 ^ (k + 1) := Nat.lt_of_lt_of_le (fmk_lt V t r k) (Nat.pow_le_pow_right (by decide) (by omega))
    by_cases h : passB V t r k = true
    · rw [fmk_t h]; exact h1
    · rw [fmk_f h]; exact Nat.or_lt_two_pow h1 (Nat.pow_lt_pow_right (by decide) (by omega))
theorem fmk_16 (V : zS) (t r : Nat) {k : Nat} (hk : k ≤ 4) : fmk V t r k < 16 := Nat.lt_of_lt_of_le (fmk_lt V t r k) (show 2 ^ k ≤ 2 ^ 4 from Nat.pow_le_pow_right (by decide) hk)
theorem fmk_bit {V : zS} {t r x : Nat} : ∀ k, (fmk V t r k).testBit x = true ↔ x < k ∧ ¬ passB V t r x = true
  | 0 => by
    constructor
    · intro h; simp [fmk] at h
    · rintro ⟨h, -⟩; omega
  | k + 1 => by
    have ih := fmk_bit (V := V) (t := t) (r := r) (x := x) k
    by_cases h : passB V t r k = true
    · rw [fmk_t h, ih]
      constructor
      · rintro ⟨a, b⟩; exact ⟨by omega, b⟩
      · rintro ⟨a, b⟩
        refine ⟨?_, b⟩
        rcases Nat.lt_or_ge x k with z | z
        · exact z
        · have : x = k := by omega
          rw [this] at b; exact absurd h b
    · rw [fmk_f h, Nat.testBit_or, Bool.or_eq_true, ih, Nat.testBit_two_pow, decide_eq_true_iff]
      constructor
      · rintro (⟨a, b⟩ | e)
        · exact ⟨by omega, b⟩
        · subst e; exact ⟨by omega, h⟩
      · rintro ⟨a, b⟩
        rcases Nat.lt_or_ge x k with z | z
        · exact Or.inl ⟨z, b⟩
        · exact Or.inr (by omega)
theorem and0 {a b : Nat} : a &&& b = 0 ↔ ∀ x, ¬ (a.testBit x = true ∧ b.testBit x = true) := by
  constructor
  · intro h x z
    have : (a &&& b).testBit x = true := by rw [Nat.testBit_and, z.1, z.2]; rfl
    rw [h] at this; simp at this
  · intro h
    apply Nat.eq_of_testBit_eq
    intro x
    rw [Nat.testBit_and, Nat.zero_testBit]
    cases h1 : a.testBit x with
    | false => rfl
    | true =>
      cases h2 : b.testBit x with
      | false => rfl
      | true => exact absurd ⟨h1, h2⟩ (h x)
def cnt (V : zS) (t n S : Nat) : Nat → Nat
  | 0 => 0
  | r + 1 => cnt V t n S r + (if fmk V t r n &&& S = 0 then 1 else 0)
theorem cnt_le (V : zS) (t n S : Nat) : ∀ r, cnt V t n S r ≤ r
  | 0 => Nat.le_refl 0
  | r + 1 => by
    have := cnt_le V t n S r
    unfold cnt
    split <;> omega
def pcs (V : zS) (t n R : Nat) (f : Nat → Nat) : Nat → Nat
  | 0 => 0
  | k + 1 => pcs V t n R f k + cnt V t n (mskf f k) R * V 7 (4 * t + f k)
theorem ab_and {V : zS} {t r n : Nat} {f : Nat → Nat} {k : Nat} (h : ∀ i, i < k → f i < n) : abB V t r f k = true ↔ fmk V t r n &&& mskf f k = 0 := by
  rw [abB_iff, and0]
  constructor
  · intro a x z
    obtain ⟨j, hj, e⟩ := (mskf_bit k).mp z.2
    exact ((fmk_bit n).mp z.1).2 (by rw [← e]; exact a j hj)
  · intro a j hj
    apply Classical.byContradiction
    intro hp
    exact a (f j) ⟨(fmk_bit n).mpr ⟨h j hj, hp⟩, (mskf_bit k).mpr ⟨j, hj, rfl⟩⟩
theorem pcs_R {V : zS} {t n R : Nat} {f : Nat → Nat} : ∀ k, (∀ i, i < k → f i < n) → pcs V t n (R + 1) f k = pcs V t n R f k + rsum V t R f k
  | 0, _ => rfl
  | k + 1, h => by
    have ih := pcs_R (V := V) (t := t) (n := n) (R := R) (f := f) k (fun i hi => h i (by omega))
    have hab := ab_and (V := V) (t := t) (r := R) (n := n) (f := f) (k := k) (fun i hi => h i (by omega))
    show pcs V t n (R + 1) f k + (cnt V t n (mskf f k) R + (if fmk V t R n &&& mskf f k = 0 then 1 else 0)) * V 7 (4 * t + f k) = pcs V t n R f k + cnt V t n (mskf f k) R * V 7 (4 * t + f k) + (rsum V t R f k + (if abB V t R f k then V 7 (4 * t + f k) else 0))
    rw [ih, Nat.add_mul]
    by_cases q : abB V t R f k = true
    · rw [if_pos q, if_pos (hab.mp q), Nat.one_mul]; omega
    · rw [if_neg q, if_neg (fun z => q (hab.mpr z)), Nat.zero_mul]; omega
theorem pcs_0 {V : zS} {t n : Nat} {f : Nat → Nat} : ∀ k, pcs V t n 0 f k = 0
  | 0 => rfl
  | k + 1 => by
    show pcs V t n 0 f k + 0 * _ = 0
    rw [pcs_0 k, Nat.zero_mul]
theorem csum_pcs {V : zS} {t n : Nat} {f : Nat → Nat} (h : ∀ i, i < n → f i < n) : ∀ R, csum V t f n R = pcs V t n R f n
  | 0 => (pcs_0 n).symm
  | R + 1 => by
    show csum V t f n R + rsum V t R f n = _
    rw [csum_pcs h R, pcs_R n h]
theorem pcs_congr {V : zS} {t n R : Nat} {f g : Nat → Nat} : ∀ k, (∀ j, j < k → f j = g j) → pcs V t n R f k = pcs V t n R g k
  | 0, _ => rfl
  | k + 1, h => by
    show pcs V t n R f k + _ = pcs V t n R g k + _
    rw [pcs_congr k (fun j hj => h j (by omega)), mskf_congr k (fun j hj => h j (by omega)), h k (by omega)]
/-- a way to a set, and what it costs -/
def AT (V : zS) (t n R T v : Nat) : Prop := ∃ (f : Nat → Nat) (k : Nat), (∀ i, i < k → f i < n) ∧ (∀ i j, i < j → j < k → f i ≠ f j) ∧ mskf f k = T ∧ pcs V t n R f k = v
theorem way_len {n k : Nat} {f : Nat → Nat} (h1 : ∀ i, i < k → f i < n) (h2 : ∀ i j, i < j → j < k → f i ≠ f j) : k ≤ n :=
  pigeon n k f h1 (fun i j hi hj e => by
    rcases Nat.lt_trichotomy i j with z | z | z
    · exact absurd e (h2 i j z hj)
    · exact z
    · exact absurd e.symm (h2 j i z hi))
theorem W_le {V : zS} {t n R S y : Nat} (h7 : ∀ j, j < 8 → V 7 j ≤ 50) (ht : t < 2) (hy : y < 4) (hR : R ≤ 50) : cnt V t n S R * V 7 (4 * t + y) ≤ 2500 := by
  have := mulb (Nat.le_trans (cnt_le V t n S R) hR) (h7 (4 * t + y) (by omega))
  omega
theorem pcs_le {V : zS} {t n R : Nat} {f : Nat → Nat} (h7 : ∀ j, j < 8 → V 7 j ≤ 50) (ht : t < 2) (hn : n ≤ 4) (hR : R ≤ 50) : ∀ k, (∀ i, i < k → f i < n) → pcs V t n R f k ≤ 2500 * k
  | 0, _ => Nat.le_refl 0
  | k + 1, h => by
    have ih := pcs_le h7 ht hn hR k (fun i hi => h i (by omega))
    have := W_le (n := n) (S := mskf f k) (y := f k) h7 ht (by have := h k (by omega); omega) hR
    show pcs V t n R f k + _ ≤ _
    omega
theorem AT_le {V : zS} {t n R T v : Nat} (h7 : ∀ j, j < 8 → V 7 j ≤ 50) (ht : t < 2) (hn : n ≤ 4) (hR : R ≤ 50) (h : AT V t n R T v) : v ≤ 10000 := by
  obtain ⟨f, k, h1, h2, -, rfl⟩ := h
  have := pcs_le h7 ht hn hR k h1
  have := way_len h1 h2
  omega
theorem AT_ext {V : zS} {t n R S v x : Nat} (h : AT V t n R S v) (hx : x < n) (hb : ¬ S.testBit x = true) : AT V t n R (S ||| 2 ^ x) (v + cnt V t n S R * V 7 (4 * t + x)) := by
  obtain ⟨f, k, h1, h2, rfl, rfl⟩ := h
  have e : ∀ j, j < k → (fun j => if j < k then f j else x) j = f j := fun j hj => by show (if j < k then f j else x) = f j; rw [if_pos hj]
  have ek : (fun j => if j < k then f j else x) k = x := by show (if k < k then f k else x) = x; rw [if_neg (by omega)]
  refine ⟨fun j => if j < k then f j else x, k + 1, fun i hi => ?_, fun i j hij hj => ?_, ?_, ?_⟩
  · rcases Nat.lt_or_ge i k with z | z
    · rw [e i z]; exact h1 i z
    · have : i = k := by omega
      rw [this, ek]; exact hx
  · rcases Nat.lt_or_ge j k with z | z
    · rw [e i (by omega), e j z]; exact h2 i j hij z
    · have : j = k := by omega
      rw [this, ek, e i (by omega)]
      exact fun w => hb ((mskf_bit k).mpr ⟨i, by omega, w⟩)
  · show mskf _ k ||| 2 ^ (fun j => if j < k then f j else x) k = _
    rw [ek, mskf_congr k e]
  · show pcs V t n R _ k + cnt V t n (mskf _ k) R * V 7 (4 * t + (fun j => if j < k then f j else x) k) = _
    rw [ek, mskf_congr k e, pcs_congr k e]
/-- the table of least costs, with the sets below s done, of s the tests below x -/
def dpJ (V : zS) (t n R s x : Nat) (L : Nat → Nat) : Prop := L 0 = 0 ∧ (∀ T, T < 2 ^ n → L T = 10001 ∨ AT V t n R T (L T)) ∧ ∀ S y, (S < s ∨ (S = s ∧ y < x)) → y < n → ¬ S.testBit y = true → L (S ||| 2 ^ y) ≤ L S + cnt V t n S R * V 7 (4 * t + y)
theorem set_pred {n s : Nat} (hn : n ≤ 4) (hs : s < 2 ^ n) (h0 : s ≠ 0) : ∃ y S, y < n ∧ S < s ∧ S ||| 2 ^ y = s ∧ ¬ S.testBit y = true := by
  have k0 : ∀ s, s < 1 → s ≠ 0 → (List.range 1).any (fun y => (List.range 1).any (fun S => decide (y < 0 ∧ S < s ∧ S ||| 2 ^ y = s ∧ ¬ S.testBit y = true))) = true := by decide +kernel
  have k1 : ∀ s, s < 2 → s ≠ 0 → (List.range 1).any (fun y => (List.range 2).any (fun S => decide (y < 1 ∧ S < s ∧ S ||| 2 ^ y = s ∧ ¬ S.testBit y = true))) = true := by decide +kernel
  have k2 : ∀ s, s < 4 → s ≠ 0 → (List.range 2).any (fun y => (List.range 4).any (fun S => decide (y < 2 ∧ S < s ∧ S ||| 2 ^ y = s ∧ ¬ S.testBit y = true))) = true := by decide +kernel
  have k3 : ∀ s, s < 8 → s ≠ 0 → (List.range 3).any (fun y => (List.range 8).any (fun S => decide (y < 3 ∧ S < s ∧ S ||| 2 ^ y = s ∧ ¬ S.testBit y = true))) = true := by decide +kernel
  have k4 : ∀ s, s < 16 → s ≠ 0 → (List.range 4).any (fun y => (List.range 16).any (fun S => decide (y < 4 ∧ S < s ∧ S ||| 2 ^ y = s ∧ ¬ S.testBit y = true))) = true := by decide +kernel
  have fin : ∀ a b n, (List.range a).any (fun y => (List.range b).any (fun S => decide (y < n ∧ S < s ∧ S ||| 2 ^ y = s ∧ ¬ S.testBit y = true))) = true → ∃ y S, y < n ∧ S < s ∧ S ||| 2 ^ y = s ∧ ¬ S.testBit y = true := by
    intro a b n h
    obtain ⟨y, -, h⟩ := List.any_eq_true.mp h
    obtain ⟨S, -, h⟩ := List.any_eq_true.mp h
    exact ⟨y, S, of_decide_eq_true h⟩
  have : n = 0 ∨ n = 1 ∨ n = 2 ∨ n = 3 ∨ n = 4 := by omega
  rcases this with rfl | rfl | rfl | rfl | rfl
  · exact fin _ _ _ (k0 s hs h0)
  · exact fin _ _ _ (k1 s hs h0)
  · exact fin _ _ _ (k2 s hs h0)
  · exact fin _ _ _ (k3 s hs h0)
  · exact fin _ _ _ (k4 s hs h0)
theorem set_up {n s x : Nat} (hn : n ≤ 4) (hs : s < 2 ^ n) (hx : x < n) : s ||| 2 ^ x < 2 ^ n ∧ (s.testBit x = true ↔ s ||| 2 ^ x = s) ∧ (¬ s.testBit x = true → s < s ||| 2 ^ x) := by
  have k : ∀ s, s < 16 → ∀ x, x < 4 → (s.testBit x = true ↔ s ||| 2 ^ x = s) ∧ (¬ s.testBit x = true → s < s ||| 2 ^ x) := by decide +kernel
  have h16 : s < 16 := Nat.lt_of_lt_of_le hs (show 2 ^ n ≤ 2 ^ 4 from Nat.pow_le_pow_right (by decide) hn)
  exact ⟨Nat.or_lt_two_pow hs (Nat.pow_lt_pow_right (by decide) hx), k s h16 x (by omega)⟩
theorem dp_small {V : zS} {t n R s x : Nat} {L : Nat → Nat} (h7 : ∀ j, j < 8 → V 7 j ≤ 50) (ht : t < 2) (hn : n ≤ 4) (hR : R ≤ 50) (h : dpJ V t n R s x L) : ∀ m T, T < m → T ≤ s → T < 2 ^ n → L T ≤ 10000 ∧ AT V t n R T (L T) := by
  intro m
  induction m with
  | zero => intro T h1; omega
  | succ m ih =>
    intro T h1 h2 h3
    have key : L T ≠ 10001 := by
      by_cases q : T = 0
      · rw [q, h.1]; decide
      · obtain ⟨y, S, a, b, c, d⟩ := set_pred hn h3 q
        have k1 := ih S (by omega) (by omega) (by omega)
        have k2 := h.2.2 S y (Or.inl (by omega)) a d
        rw [c] at k2
        have := AT_le h7 ht hn hR (AT_ext k1.2 a d)
        omega
    rcases h.2.1 T h3 with z | z
    · exact absurd z key
    · exact ⟨AT_le h7 ht hn hR z, z⟩
theorem dp_step {V : zS} {t n R s x : Nat} {L : Nat → Nat} (h7 : ∀ j, j < 8 → V 7 j ≤ 50) (ht : t < 2) (hn : n ≤ 4) (hR : R ≤ 50) (hs : s < 2 ^ n) (hx : x < n) (h : dpJ V t n R s x L) (hb : ¬ s.testBit x = true) : dpJ V t n R s (x + 1) (fun j => if j = s ||| 2 ^ x then min (L (s ||| 2 ^ x)) (L s + cnt V t n s R * V 7 (4 * t + x)) else L j) := by
  have hu := set_up hn hs hx
  have hlt := hu.2.2 hb
  obtain ⟨h0, hA, hB⟩ := id h
  have hsm := dp_small h7 ht hn hR h (s + 1) s (by omega) (Nat.le_refl _) hs
  have e : ∀ j, j ≠ s ||| 2 ^ x → (fun j => if j = s ||| 2 ^ x then min (L (s ||| 2 ^ x)) (L s + cnt V t n s R * V 7 (4 * t + x)) else L j) j = L j := fun j hj => by
    show (if j = s ||| 2 ^ x then _ else L j) = L j
    rw [if_neg hj]
  have eT : (fun j => if j = s ||| 2 ^ x then min (L (s ||| 2 ^ x)) (L s + cnt V t n s R * V 7 (4 * t + x)) else L j) (s ||| 2 ^ x) = min (L (s ||| 2 ^ x)) (L s + cnt V t n s R * V 7 (4 * t + x)) := by
    show (if s ||| 2 ^ x = s ||| 2 ^ x then _ else _) = _
    rw [if_pos rfl]
  refine ⟨by rw [e 0 (by omega)]; exact h0, fun T hT => ?_, fun S y hSy hy hSb => ?_⟩
  · by_cases q : T = s ||| 2 ^ x
    · rw [q, eT]
      rcases Nat.le_total (L (s ||| 2 ^ x)) (L s + cnt V t n s R * V 7 (4 * t + x)) with z | z
      · rw [Nat.min_eq_left z]; exact hA _ hu.1
      · rw [Nat.min_eq_right z]; exact Or.inr (AT_ext hsm.2 hx hb)
    · rw [e T q]; exact hA T hT
  · have hS : S ≠ s ||| 2 ^ x := by omega
    rw [e S hS]
    by_cases q : S ||| 2 ^ y = s ||| 2 ^ x
    · rw [q, eT]
      rcases hSy with z | ⟨z1, z2⟩
      · have := hB S y (Or.inl z) hy hSb
        rw [q] at this
        exact Nat.le_trans (Nat.min_le_left _ _) this
      · rcases Nat.lt_or_ge y x with w | w
        · have := hB S y (Or.inr ⟨z1, w⟩) hy hSb
          rw [q] at this
          exact Nat.le_trans (Nat.min_le_left _ _) this
        · have : y = x := by omega
          rw [this, z1]
          exact Nat.min_le_right _ _
    · rw [e _ q]
      refine hB S y ?_ hy hSb
      rcases hSy with z | ⟨z1, z2⟩
      · exact Or.inl z
      · refine Or.inr ⟨z1, ?_⟩
        rcases Nat.lt_or_ge y x with w | w
        · exact w
        · have : y = x := by omega
          rw [this, z1] at q
          exact absurd rfl q
theorem dp_skip {V : zS} {t n R s x : Nat} {L : Nat → Nat} (h : dpJ V t n R s x L) (hb : s.testBit x = true) : dpJ V t n R s (x + 1) L := by
  refine ⟨h.1, h.2.1, fun S y hSy hy hSb => h.2.2 S y ?_ hy hSb⟩
  rcases hSy with z | ⟨z1, z2⟩
  · exact Or.inl z
  · refine Or.inr ⟨z1, ?_⟩
    rcases Nat.lt_or_ge y x with w | w
    · exact w
    · have : y = x := by omega
      rw [this, z1] at hSb
      exact absurd hb hSb
theorem dp_next {V : zS} {t n R s : Nat} {L : Nat → Nat} (h : dpJ V t n R s n L) : dpJ V t n R (s + 1) 0 L := by
  refine ⟨h.1, h.2.1, fun S y hSy hy hSb => h.2.2 S y ?_ hy hSb⟩
  rcases hSy with z | ⟨z1, z2⟩
  · rcases Nat.lt_or_ge S s with w | w
    · exact Or.inl w
    · exact Or.inr ⟨by omega, hy⟩
  · omega
/-- a code for an order -/
def enc (f : Nat → Nat) : Nat → Nat
  | 0 => 0
  | k + 1 => enc f k + f k * 4 ^ k
theorem enc_lt {f : Nat → Nat} : ∀ k, (∀ i, i < k → f i < 4) → enc f k < 4 ^ k
  | 0, _ => by show 0 < 1; decide
  | k + 1, h => by
    have ih := enc_lt k (fun i hi => h i (by omega))
    have := mulb (show f k ≤ 3 by have := h k (by omega); omega) (Nat.le_refl (4 ^ k))
    show enc f k + f k * 4 ^ k < 4 ^ (k + 1)
    rw [Nat.pow_succ]; omega
theorem enc_cd {f : Nat → Nat} : ∀ k, (∀ i, i < k → f i < 4) → ∀ i, i < k → cd (enc f k) i = f i
  | 0, _, i, hi => by omega
  | k + 1, h, i, hi => by
    have hl := enc_lt k (fun i hi => h i (by omega))
    have hp : 0 < 4 ^ i := Nat.pow_pos (by decide)
    unfold cd
    show (enc f k + f k * 4 ^ k) / 4 ^ i % 4 = f i
    rcases Nat.lt_or_ge i k with z | z
    · obtain ⟨d, rfl⟩ : ∃ d, k = i + 1 + d := ⟨k - i - 1, by omega⟩
      have e : f (i + 1 + d) * 4 ^ (i + 1 + d) = 4 ^ i * (4 * (f (i + 1 + d) * 4 ^ d)) := by
        rw [Nat.pow_add, Nat.pow_succ]
        simp only [Nat.mul_assoc, Nat.mul_left_comm, Nat.mul_comm]
      rw [e, Nat.add_mul_div_left _ _ hp, Nat.add_mul_mod_self_left]
      exact enc_cd (i + 1 + d) (fun i hi => h i (by omega)) i z
    · have e : i = k := by omega
      subst e
      rw [Nat.add_mul_div_right _ _ hp, Nat.div_eq_of_lt hl, Nat.zero_add, Nat.mod_eq_of_lt (h i (by omega))]
theorem dp_end {V : zS} {t : Nat} {L : Nat → Nat} (h7 : ∀ j, j < 8 → V 7 j ≤ 50) (ht : t < 2) (hn : V 9 t ≤ 4) (hR : V 10 t ≤ 50) (h : dpJ V t (V 9 t) (V 10 t) (2 ^ V 9 t - 1) 0 L) : FX V t (L (2 ^ V 9 t - 1)) ∧ L (2 ^ V 9 t - 1) < 2 ^ 31 := by
  have hpos : 1 ≤ 2 ^ V 9 t := (p2lt hn).2
  have hsm := dp_small h7 ht hn hR h (2 ^ V 9 t) (2 ^ V 9 t - 1) (by omega) (Nat.le_refl _) (by omega)
  have way : ∀ (f : Nat → Nat) (k : Nat), (∀ i, i < k → f i < V 9 t) → (∀ i j, i < j → j < k → f i ≠ f j) → L (mskf f k) ≤ pcs V t (V 9 t) (V 10 t) f k := by
    intro f k
    induction k with
    | zero => intro _ _; show L 0 ≤ 0; rw [h.1]; exact Nat.le_refl 0
    | succ k ih =>
      intro h1 h2
      have ih := ih (fun i hi => h1 i (by omega)) (fun i j hij hj => h2 i j hij (by omega))
      have hb : ¬ (mskf f k).testBit (f k) = true := fun z => by
        obtain ⟨j, hj, e⟩ := (mskf_bit k).mp z
        exact h2 j k hj (by omega) e
      have hl := mskf_lt (n := V 9 t) k (fun j hj => h1 j (by omega))
      have hne : mskf f k ≠ 2 ^ V 9 t - 1 := fun z => by
        apply hb
        rw [z, Nat.testBit_two_pow_sub_one, decide_eq_true_iff]
        exact h1 k (by omega)
      have := h.2.2 (mskf f k) (f k) (Or.inl (by omega)) (h1 k (by omega)) hb
      show L (mskf f k ||| 2 ^ f k) ≤ pcs V t (V 9 t) (V 10 t) f k + _
      omega
  refine ⟨⟨?_, fun c hc hv => ?_⟩, by omega⟩
  · obtain ⟨f, k, h1, h2, h3, h4⟩ := hsm.2
    have hk : k = V 9 t := by
      have hle := way_len h1 h2
      have hge : V 9 t ≤ k := by
        have hg : ∀ x, ∃ i, x < V 9 t → (i < k ∧ f i = x) := by
          intro x
          by_cases hx : x < V 9 t
          · have : (mskf f k).testBit x = true := by rw [h3, Nat.testBit_two_pow_sub_one, decide_eq_true_iff]; exact hx
            obtain ⟨j, hj, e⟩ := (mskf_bit k).mp this
            exact ⟨j, fun _ => ⟨hj, e⟩⟩
          · exact ⟨0, fun z => absurd z hx⟩
        obtain ⟨G, hG⟩ : ∃ G : Nat → Nat, ∀ x, x < V 9 t → (G x < k ∧ f (G x) = x) := ⟨fun x => Classical.choose (hg x), fun x hx => Classical.choose_spec (hg x) hx⟩
        exact pigeon k (V 9 t) G (fun x hx => (hG x hx).1) (fun x y hx hy e => by rw [← (hG x hx).2, ← (hG y hy).2, e])
      omega
    subst hk
    have h4' : ∀ i, i < V 9 t → f i < 4 := fun i hi => by have := h1 i hi; omega
    have ec := enc_cd (V 9 t) h4'
    refine ⟨enc f (V 9 t), enc_lt (V 9 t) h4', ?_, ?_⟩
    · unfold vld
      rw [mskf_congr (V 9 t) ec]; exact h3
    · rw [csum_pcs (fun i hi => by rw [ec i hi]; exact h1 i hi), pcs_congr (V 9 t) ec]
      exact h4.symm
  · have hv2 := mskf_full.mp hv
    have := way (cd c) (V 9 t) hv2.1 (surj_inj hv2.1 hv2.2)
    rw [hv, ← csum_pcs hv2.1] at this
    exact this

