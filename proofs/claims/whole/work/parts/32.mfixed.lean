/-- the set of the first k values of f, as bits -/
def mskf (f : Nat → Nat) : Nat → Nat
  | 0 => 0
  | k + 1 => mskf f k ||| 2 ^ f k
theorem mskf_lt {f : Nat → Nat} {n : Nat} : ∀ (k : Nat), (∀ j, j < k → f j < n) → mskf f k < 2 ^ n
  | 0, _ => Nat.two_pow_pos n
  | k + 1, h => Nat.or_lt_two_pow (mskf_lt k (fun j hj => h j (by omega))) (Nat.pow_lt_pow_right (by decide) (h k (by omega)))
theorem mskf_bit {f : Nat → Nat} {x : Nat} : ∀ (k : Nat), (mskf f k).testBit x = true ↔ ∃ j, j < k ∧ f j = x
  | 0 => by
    constructor
    · intro h; simp [mskf] at h
    · rintro ⟨j, hj, -⟩; omega
  | k + 1 => by
    have ih := mskf_bit (f := f) (x := x) k
    show (mskf f k ||| 2 ^ f k).testBit x = true ↔ _
    rw [Nat.testBit_or, Bool.or_eq_true, ih, Nat.testBit_two_pow, decide_eq_true_iff]
    constructor
    · rintro (⟨j, hj, e⟩ | e)
      · exact ⟨j, by omega, e⟩
      · exact ⟨k, by omega, e⟩
    · rintro ⟨j, hj, e⟩
      rcases Nat.lt_or_ge j k with z | z
      · exact Or.inl ⟨j, z, e⟩
      · have : j = k := by omega
        subst this; exact Or.inr e
theorem mskf_congr {f g : Nat → Nat} : ∀ (k : Nat), (∀ j, j < k → f j = g j) → mskf f k = mskf g k
  | 0, _ => rfl
  | k + 1, h => by
    show mskf f k ||| 2 ^ f k = mskf g k ||| 2 ^ g k
    rw [mskf_congr k (fun j hj => h j (by omega)), h k (by omega)]
theorem mskf_full {f : Nat → Nat} {n : Nat} : mskf f n = 2 ^ n - 1 ↔ (∀ k, k < n → f k < n) ∧ ∀ x, x < n → ∃ k, k < n ∧ f k = x := by
  constructor
  · intro e
    refine ⟨fun k hk => ?_, fun x hx => ?_⟩
    · have h1 : (mskf f n).testBit (f k) = true := (mskf_bit n).mpr ⟨k, hk, rfl⟩
      rw [e, Nat.testBit_two_pow_sub_one, decide_eq_true_iff] at h1; exact h1
    · apply (mskf_bit n).mp
      rw [e, Nat.testBit_two_pow_sub_one, decide_eq_true_iff]; exact hx
  · rintro ⟨h, hs⟩
    apply Nat.eq_of_testBit_eq
    intro x
    rw [Nat.testBit_two_pow_sub_one]
    by_cases hx : x < n
    · rw [(mskf_bit n).mpr (hs x hx), decide_eq_true hx]
    · rw [decide_eq_false hx]
      cases hb : (mskf f n).testBit x with
      | false => rfl
      | true =>
        obtain ⟨j, hj, e⟩ := (mskf_bit n).mp hb
        have := h j hj; omega
theorem surj_inj {n : Nat} {f : Nat → Nat} (h1 : ∀ k, k < n → f k < n) (h2 : ∀ x, x < n → ∃ k, k < n ∧ f k = x) : ∀ i j, i < j → j < n → f i ≠ f j := by
  intro i j hij hj he
  have hg : ∀ x, ∃ k, x < n → (k < n ∧ f k = x ∧ k ≠ j) := by
    intro x
    by_cases hx : x < n
    · obtain ⟨k, hk, e⟩ := h2 x hx
      by_cases q : k = j
      · refine ⟨i, fun _ => ⟨by omega, ?_, by omega⟩⟩
        rw [he, ← q]; exact e
      · exact ⟨k, fun _ => ⟨hk, e, q⟩⟩
    · exact ⟨0, fun z => absurd z hx⟩
  obtain ⟨G, hG⟩ : ∃ G : Nat → Nat, ∀ x, x < n → (G x < n ∧ f (G x) = x ∧ G x ≠ j) := ⟨fun x => Classical.choose (hg x), fun x hx => Classical.choose_spec (hg x) hx⟩
  have := pigeon (n - 1) n (fun x => if G x < j then G x else G x - 1) (fun x hx => by
    have k := hG x hx
    show (if G x < j then G x else G x - 1) < n - 1
    split <;> omega) (fun x y hx hy e => by
    have k1 := hG x hx
    have k2 := hG y hy
    have e : (if G x < j then G x else G x - 1) = (if G y < j then G y else G y - 1) := e
    have e2 : G x = G y := by
      split at e <;> split at e <;> omega
    rw [← k1.2.1, ← k2.2.1, e2])
  omega
/-- all tests before the k-th pass -/
def abB (V : zS) (t r : Nat) (f : Nat → Nat) : Nat → Bool
  | 0 => true
  | k + 1 => abB V t r f k && passB V t r (f k)
def rsum (V : zS) (t r : Nat) (f : Nat → Nat) : Nat → Nat
  | 0 => 0
  | k + 1 => rsum V t r f k + (if abB V t r f k then V 7 (4 * t + f k) else 0)
theorem abB_iff {V : zS} {t r : Nat} {f : Nat → Nat} : ∀ k, abB V t r f k = true ↔ ∀ j, j < k → passB V t r (f j) = true
  | 0 => ⟨fun _ j hj => by omega, fun _ => rfl⟩
  | k + 1 => by
    show (abB V t r f k && passB V t r (f k)) = true ↔ _
    rw [Bool.and_eq_true, abB_iff k]
    constructor
    · rintro ⟨a, b⟩ j hj
      rcases Nat.lt_or_ge j k with z | z
      · exact a j z
      · have : j = k := by omega
        rw [this]; exact b
    · intro a
      exact ⟨fun j hj => a j (by omega), a k (by omega)⟩
theorem rsum_stop {V : zS} {t r : Nat} {f : Nat → Nat} {k : Nat} (h : abB V t r f k = false) : ∀ m, rsum V t r f (k + m) = rsum V t r f k
  | 0 => rfl
  | m + 1 => by
    show rsum V t r f (k + m) + (if abB V t r f (k + m) then _ else _) = _
    have : abB V t r f (k + m) = false := by
      cases hb : abB V t r f (k + m) with
      | false => rfl
      | true =>
        have := (abB_iff (k + m)).mp hb
        have h2 := (abB_iff (V := V) (t := t) (r := r) (f := f) k).mpr (fun j hj => this j (by omega))
        rw [h] at h2; cases h2
    rw [this, rsum_stop h m]; rfl
def csum (V : zS) (t : Nat) (f : Nat → Nat) (n : Nat) : Nat → Nat
  | 0 => 0
  | r + 1 => csum V t f n r + rsum V t r f n
theorem rsum_le {V : zS} {t r : Nat} {f : Nat → Nat} (h7 : ∀ j, j < 8 → V 7 j ≤ 50) (ht : t < 2) : ∀ k, (∀ j, j < k → f j < 4) → rsum V t r f k ≤ 50 * k
  | 0, _ => Nat.le_refl 0
  | k + 1, h => by
    have ih := rsum_le (r := r) h7 ht k (fun j hj => h j (by omega))
    have := h7 (4 * t + f k) (by have := h k (by omega); omega)
    unfold rsum
    split <;> omega
theorem csum_le {V : zS} {t : Nat} {f : Nat → Nat} {n : Nat} (h7 : ∀ j, j < 8 → V 7 j ≤ 50) (ht : t < 2) (hn : n ≤ 4) (h : ∀ j, j < n → f j < 4) : ∀ r, csum V t f n r ≤ 200 * r
  | 0 => Nat.le_refl 0
  | r + 1 => by
    have ih := csum_le h7 ht hn h r
    have := rsum_le (r := r) h7 ht n h
    show csum V t f n r + rsum V t r f n ≤ _
    omega
/-- the k-th test of a code -/
def cd (c k : Nat) : Nat := c / 4 ^ k % 4
theorem cd_lt (c k : Nat) : cd c k < 4 := Nat.mod_lt _ (by decide)
theorem cdI {c k : Nat} (hc : c < 256) (hk : k < 4) : (nI c >>> (nI (2 * k) &&& 31)) &&& nI 3 = nI (cd c k) := by
  have : ∀ c, c < 256 → ∀ k, k < 4 → (nI c >>> (nI (2 * k) &&& 31)) &&& nI 3 = nI (cd c k) := by decide +kernel
  exact this c hc k hk
theorem shl2 {n : Nat} (h : n ≤ 4) : nI 1 <<< (nI (2 * n) &&& 31) = nI (4 ^ n) := by
  have : ∀ n, n < 5 → nI 1 <<< (nI (2 * n) &&& 31) = nI (4 ^ n) := by decide +kernel
  exact this n (by omega)
theorem p4le {n : Nat} (h : n ≤ 4) : 4 ^ n ≤ 256 := by
  have : ∀ n, n < 5 → 4 ^ n ≤ 256 := by decide
  exact this n (by omega)
/-- a code of all tests, each once -/
def vld (n c : Nat) : Prop := mskf (cd c) n = 2 ^ n - 1
theorem vld_ex {n : Nat} (h : n ≤ 4) : ∃ c, c < 4 ^ n ∧ vld n c := by
  rcases (show n = 0 ∨ n = 1 ∨ n = 2 ∨ n = 3 ∨ n = 4 by omega) with rfl | rfl | rfl | rfl | rfl
  · exact ⟨0, by decide, by unfold vld; decide⟩
  · exact ⟨0, by decide, by unfold vld; decide⟩
  · exact ⟨4, by decide, by unfold vld; decide⟩
  · exact ⟨36, by decide, by unfold vld; decide⟩
  · exact ⟨228, by decide, by unfold vld; decide⟩
/-- the least sum of one order throughout -/
def FX (V : zS) (t m : Nat) : Prop := (∃ c, c < 4 ^ V 9 t ∧ vld (V 9 t) c ∧ m = csum V t (cd c) (V 9 t) (V 10 t)) ∧ ∀ c, c < 4 ^ V 9 t → vld (V 9 t) c → m ≤ csum V t (cd c) (V 9 t) (V 10 t)
theorem FX_uniq {V : zS} {t m m' : Nat} (h : FX V t m) (h' : FX V t m') : m = m' := by
  obtain ⟨⟨c, c1, c2, c3⟩, h2⟩ := h
  obtain ⟨⟨c', c1', c2', c3'⟩, h2'⟩ := h'
  have a := h2 c' c1' c2'
  have b := h2' c c1 c2
  omega

set_option maxRecDepth 100000 in
set_option maxHeartbeats 4000000 in
theorem m_costOf_1 (V : zS) (t c : Nat) (h : JV V) (ht : t < 2) (hc : c < 4 ^ V 9 t) (Q : Option Value → zh → Prop) (K : Wp mX5_costOf Q 40 [.ref 0, .int (nI t), .int (nI c), .int (nI (V 9 t)), .int (nI (mskf (cd c) (V 9 t))), .null, .null, .null, .null, .null] [] (hM V)) : ∀ (n k : Nat), k + n = V 9 t → Wp mX5_costOf Q 13 [.ref 0, .int (nI t), .int (nI c), .int (nI (V 9 t)), .int (nI (mskf (cd c) k)), .int (nI k), .null, .null, .null, .null] [] (hM V) := by
  have jt := h.2.1 t ht
  have hn4 : V 9 t ≤ 4 := by omega
  have h256 : c < 256 := Nat.lt_of_lt_of_le hc (p4le hn4)
  have hs := JV_t h ht
  have h7 : ∀ j, j < 8 → V 7 j ≤ 50 := fun j hj => (h.2.2.1 j hj).2.1
  have h4 : ∀ j, j < 8 → V 4 j < 3 := fun j hj => (h.2.2.1 j hj).1
  intro n
  induction n with
  | zero =>
    intro k hk
    have e : k = V 9 t := by omega
    subst e
    refine Wp.iload (pc2 := 15) dX5_costOf_13 rfl rfl ?_
    refine Wp.iload_n (pc2 := 16) dX5_costOf_15 rfl rfl ?_
    refine Wp.icmpN_ge (pc2 := 19) 40 dX5_costOf_16 rfl (by decide) (by omega) (by omega) (fun c16 => ?_) (fun c16 => ?_)
    · refine Wp.fg [.ref 0, .int (nI t), .int (nI c), .int (nI (V 9 t)), .int (nI (mskf (cd c) (V 9 t))), .null, .null, .null, .null, .null] (And.intro (Or.inr rfl) (And.intro (Or.inr rfl) (And.intro (Or.inr rfl) (And.intro (Or.inr rfl) (And.intro (Or.inr rfl) (And.intro (Or.inl rfl) (And.intro (Or.inl rfl) (And.intro (Or.inl rfl) (And.intro (Or.inl rfl) (And.intro (Or.inl rfl) trivial)))))))))) ?_
      exact K
    · exfalso; omega
  | succ n ih =>
    intro k hk
    have hm : mskf (cd c) k < 16 := mskf_lt (n := 4) k (fun j _ => cd_lt c j)
    refine Wp.iload (pc2 := 15) dX5_costOf_13 rfl rfl ?_
    refine Wp.iload_n (pc2 := 16) dX5_costOf_15 rfl rfl ?_
    refine Wp.icmpN_ge (pc2 := 19) 40 dX5_costOf_16 rfl (by decide) (by omega) (by omega) (fun c16 => ?_) (fun c16 => ?_)
    · exfalso; omega
    · refine Wp.iload (pc2 := 21) dX5_costOf_19 rfl rfl ?_
      refine Wp.iconN (pc2 := 22) 1 dX5_costOf_21 rfl ?_
      refine Wp.iload_n (pc2 := 23) dX5_costOf_22 rfl rfl ?_
      refine Wp.iconN (pc2 := 24) 2 dX5_costOf_23 rfl ?_
      refine Wp.iload (pc2 := 26) dX5_costOf_24 rfl rfl ?_
      refine Wp.imulN (pc2 := 27) dX5_costOf_26 rfl  ?_
      refine Wp.ishr (pc2 := 28) dX5_costOf_27 rfl ?_
      refine Wp.iconN (pc2 := 29) 3 dX5_costOf_28 rfl ?_
      refine Wp.iand (pc2 := 30) dX5_costOf_29 rfl ?_
      refine Wp.top (nI (cd c k)) (cdI h256 (by omega)) ?_
      refine Wp.ishl (pc2 := 31) dX5_costOf_30 rfl ?_
      refine Wp.top (nI (2 ^ cd c k)) (shl1 (by have := cd_lt c k; omega)) ?_
      refine Wp.ior (pc2 := 32) dX5_costOf_31 rfl ?_
      refine Wp.top (nI (mskf (cd c) (k + 1))) (or16 hm (cd_lt c k)) ?_
      refine Wp.istore (pc2 := 34) dX5_costOf_32 rfl (by decide) rfl ?_
      refine Wp.iincN (pc2 := 37) dX5_costOf_34 rfl rfl (by decide) rfl ?_
      refine Wp.goto (pc2 := 13) dX5_costOf_37 (by decide) ?_
      exact ih (k + 1) (by omega)

set_option maxRecDepth 100000 in
set_option maxHeartbeats 4000000 in
theorem m_costOf_3 (V : zS) (t c : Nat) (h : JV V) (ht : t < 2) (hc : c < 4 ^ V 9 t) (hv : ∀ k, k < V 9 t → cd c k < V 9 t) (r s : Nat) (hr : r < 50) (Q : Option Value → zh → Prop) (K : Wp mX5_costOf Q 129 [.ref 0, .int (nI t), .int (nI c), .int (nI (V 9 t)), .null, .int (nI (s + rsum V t r (cd c) (V 9 t))), .int (nI r), .null, .null, .null] [] (hM V)) : ∀ (n k : Nat), k + n = V 9 t → Wp mX5_costOf Q 75 [.ref 0, .int (nI t), .int (nI c), .int (nI (V 9 t)), .null, .int (nI (s + rsum V t r (cd c) k)), .int (nI r), .int (nI (zb (abB V t r (cd c) k))), .int (nI k), .null] [] (hM V) := by
  have jt := h.2.1 t ht
  have hn4 : V 9 t ≤ 4 := by omega
  have h256 : c < 256 := Nat.lt_of_lt_of_le hc (p4le hn4)
  have hs := JV_t h ht
  have h7 : ∀ j, j < 8 → V 7 j ≤ 50 := fun j hj => (h.2.2.1 j hj).2.1
  have h4 : ∀ j, j < 8 → V 4 j < 3 := fun j hj => (h.2.2.1 j hj).1
  intro n
  induction n with
  | zero =>
    intro k hk
    have e : k = V 9 t := by omega
    subst e
    refine Wp.iload (pc2 := 77) dX5_costOf_75 rfl rfl ?_
    refine Wp.iload_n (pc2 := 78) dX5_costOf_77 rfl rfl ?_
    refine Wp.icmpN_ge (pc2 := 81) 129 dX5_costOf_78 rfl (by decide) (by omega) (by omega) (fun c78 => ?_) (fun c78 => ?_)
    · refine Wp.fg [.ref 0, .int (nI t), .int (nI c), .int (nI (V 9 t)), .null, .int (nI (s + rsum V t r (cd c) (V 9 t))), .int (nI r), .null, .null, .null] (And.intro (Or.inr rfl) (And.intro (Or.inr rfl) (And.intro (Or.inr rfl) (And.intro (Or.inr rfl) (And.intro (Or.inl rfl) (And.intro (Or.inr rfl) (And.intro (Or.inr rfl) (And.intro (Or.inl rfl) (And.intro (Or.inl rfl) (And.intro (Or.inl rfl) trivial)))))))))) ?_
      exact K
    · exfalso; omega
  | succ n ih =>
    intro k hk
    have hck := cd_lt c k
    refine Wp.iload (pc2 := 77) dX5_costOf_75 rfl rfl ?_
    refine Wp.iload_n (pc2 := 78) dX5_costOf_77 rfl rfl ?_
    refine Wp.icmpN_ge (pc2 := 81) 129 dX5_costOf_78 rfl (by decide) (by omega) (by omega) (fun c78 => ?_) (fun c78 => ?_)
    · exfalso; omega
    · refine Wp.iload (pc2 := 83) dX5_costOf_81 rfl rfl ?_
      refine Wp.ifN_eq (pc2 := 86) 129 dX5_costOf_83 rfl (by decide) (zb_lt _) (fun c83 => ?_) (fun c83 => ?_)
      · have hf := zb_0 c83
        have e := rsum_stop hf (n + 1)
        rw [show k + (n + 1) = V 9 t by omega] at e
        refine Wp.fg [.ref 0, .int (nI t), .int (nI c), .int (nI (V 9 t)), .null, .int (nI (s + rsum V t r (cd c) k)), .int (nI r), .null, .null, .null] (And.intro (Or.inr rfl) (And.intro (Or.inr rfl) (And.intro (Or.inr rfl) (And.intro (Or.inr rfl) (And.intro (Or.inl rfl) (And.intro (Or.inr rfl) (And.intro (Or.inr rfl) (And.intro (Or.inl rfl) (And.intro (Or.inl rfl) (And.intro (Or.inl rfl) trivial)))))))))) ?_
        rw [e] at K
        exact K
      · refine Wp.iload_n (pc2 := 87) dX5_costOf_86 rfl rfl ?_
        refine Wp.iconN (pc2 := 88) 2 dX5_costOf_87 rfl ?_
        refine Wp.iload (pc2 := 90) dX5_costOf_88 rfl rfl ?_
        refine Wp.imulN (pc2 := 91) dX5_costOf_90 rfl  ?_
        refine Wp.ishr (pc2 := 92) dX5_costOf_91 rfl ?_
        refine Wp.iconN (pc2 := 93) 3 dX5_costOf_92 rfl ?_
        refine Wp.iand (pc2 := 94) dX5_costOf_93 rfl ?_
        refine Wp.top (nI (cd c k)) (cdI h256 (by omega)) ?_
        refine Wp.istore (pc2 := 96) dX5_costOf_94 rfl (by decide) rfl ?_
        refine Wp.iload (pc2 := 98) dX5_costOf_96 rfl rfl ?_
        refine Wp.aload_n (pc2 := 99) dX5_costOf_98 rfl rfl ?_
        refine Wp.getf (pc2 := 102) fX5_28 dX5_costOf_99 rfl rfl rfl ?_
        refine Wp.iconN (pc2 := 103) 4 dX5_costOf_102 rfl ?_
        refine Wp.iload_n (pc2 := 104) dX5_costOf_103 rfl rfl ?_
        refine Wp.imulN (pc2 := 105) dX5_costOf_104 rfl  ?_
        refine Wp.iload (pc2 := 107) dX5_costOf_105 rfl rfl ?_
        refine Wp.iaddN (pc2 := 108) dX5_costOf_107 rfl  ?_
        refine Wp.ialdN (pc2 := 109) dX5_costOf_108 rfl rfl (by omega) (by decide) ?_
        refine Wp.iaddN (pc2 := 110) dX5_costOf_109 rfl  ?_
        refine Wp.istore (pc2 := 112) dX5_costOf_110 rfl (by decide) rfl ?_
        refine Wp.aload_n (pc2 := 113) dX5_costOf_112 rfl rfl ?_
        refine Wp.iload_n (pc2 := 114) dX5_costOf_113 rfl rfl ?_
        refine Wp.iload (pc2 := 116) dX5_costOf_114 rfl rfl ?_
        refine Wp.iload (pc2 := 118) dX5_costOf_116 rfl rfl ?_
        refine Wp.callV (pc2 := 121) kX5_costOf_135 vX5_passes (m_passes V t r (cd c k) h.1 ht hr hck (h4 _ (by omega))) dX5_costOf_118 rfl rfl rfl rfl rfl (Nat.le_of_ble_eq_true rfl) ?_
        rintro _ _ ⟨⟨b, rfl, hb⟩, rfl⟩
        refine Wp.istore (pc2 := 123) dX5_costOf_121 rfl (by decide) rfl ?_
        refine Wp.iincN (pc2 := 126) dX5_costOf_123 rfl rfl (by decide) rfl ?_
        refine Wp.goto (pc2 := 75) dX5_costOf_126 (by decide) ?_
        have ha := zb_1 c83
        have e1 : rsum V t r (cd c) (k + 1) = rsum V t r (cd c) k + V 7 (4 * t + cd c k) := by
          show _ + (if abB V t r (cd c) k then _ else _) = _
          rw [ha]; rfl
        have e2 : abB V t r (cd c) (k + 1) = b := by
          show (abB V t r (cd c) k && passB V t r (cd c k)) = b
          rw [ha, Bool.true_and]
          cases b with
          | true => exact passB_iff.mpr (hb.mp rfl)
          | false =>
            cases hp : passB V t r (cd c k) with
            | false => rfl
            | true => exact Bool.noConfusion (hb.mpr (passB_iff.mp hp))
        have k1 := ih (k + 1) (by omega)
        rw [e1, e2, ← Nat.add_assoc] at k1
        refine Wp.fg [.ref 0, .int (nI t), .int (nI c), .int (nI (V 9 t)), .null, .int (nI (s + rsum V t r (cd c) k + V 7 (4 * t + cd c k))), .int (nI r), .int (nI (zb b)), .int (nI (k + 1)), .null] (And.intro (Or.inr rfl) (And.intro (Or.inr rfl) (And.intro (Or.inr rfl) (And.intro (Or.inr rfl) (And.intro (Or.inl rfl) (And.intro (Or.inr rfl) (And.intro (Or.inr rfl) (And.intro (Or.inr rfl) (And.intro (Or.inr rfl) (And.intro (Or.inl rfl) trivial)))))))))) ?_
        exact k1

set_option maxRecDepth 100000 in
set_option maxHeartbeats 4000000 in
theorem m_costOf_2 (V : zS) (t c : Nat) (h : JV V) (ht : t < 2) (hc : c < 4 ^ V 9 t) (hv : vld (V 9 t) c) : ∀ (n r : Nat), r + n = V 10 t → Wp mX5_costOf (fun zr zq => zq = hM V ∧ ((vld (V 9 t) c ∧ zr = some (.int (nI (csum V t (cd c) (V 9 t) (V 10 t))))) ∨ (¬ vld (V 9 t) c ∧ zr = some (.int (-1))))) 58 [.ref 0, .int (nI t), .int (nI c), .int (nI (V 9 t)), .null, .int (nI (csum V t (cd c) (V 9 t) r)), .int (nI r), .null, .null, .null] [] (hM V) := by
  have jt := h.2.1 t ht
  have hn4 : V 9 t ≤ 4 := by omega
  have h256 : c < 256 := Nat.lt_of_lt_of_le hc (p4le hn4)
  have hs := JV_t h ht
  have h7 : ∀ j, j < 8 → V 7 j ≤ 50 := fun j hj => (h.2.2.1 j hj).2.1
  have h4 : ∀ j, j < 8 → V 4 j < 3 := fun j hj => (h.2.2.1 j hj).1
  have hvv := mskf_full.mp hv
  intro n
  induction n with
  | zero =>
    intro r hr
    have e : r = V 10 t := by omega
    subst e
    refine Wp.iload (pc2 := 60) dX5_costOf_58 rfl rfl ?_
    refine Wp.aload_n (pc2 := 61) dX5_costOf_60 rfl rfl ?_
    refine Wp.getf (pc2 := 64) fX5_44 dX5_costOf_61 rfl rfl rfl ?_
    refine Wp.iload_n (pc2 := 65) dX5_costOf_64 rfl rfl ?_
    refine Wp.ialdN (pc2 := 66) dX5_costOf_65 rfl rfl (by omega) (by decide) ?_
    refine Wp.icmpN_ge (pc2 := 69) 135 dX5_costOf_66 rfl (by decide) (by omega) (by omega) (fun c66 => ?_) (fun c66 => ?_)
    · refine Wp.iload (pc2 := 137) dX5_costOf_135 rfl rfl ?_
      refine Wp.ret dX5_costOf_137 rfl rfl ?_
      exact ⟨rfl, Or.inl ⟨hv, rfl⟩⟩
    · exfalso; omega
  | succ n ih =>
    intro r hr
    refine Wp.iload (pc2 := 60) dX5_costOf_58 rfl rfl ?_
    refine Wp.aload_n (pc2 := 61) dX5_costOf_60 rfl rfl ?_
    refine Wp.getf (pc2 := 64) fX5_44 dX5_costOf_61 rfl rfl rfl ?_
    refine Wp.iload_n (pc2 := 65) dX5_costOf_64 rfl rfl ?_
    refine Wp.ialdN (pc2 := 66) dX5_costOf_65 rfl rfl (by omega) (by decide) ?_
    refine Wp.icmpN_ge (pc2 := 69) 135 dX5_costOf_66 rfl (by decide) (by omega) (by omega) (fun c66 => ?_) (fun c66 => ?_)
    · exfalso; omega
    · refine Wp.iconN (pc2 := 70) 1 dX5_costOf_69 rfl ?_
      refine Wp.istore (pc2 := 72) dX5_costOf_70 rfl (by decide) rfl ?_
      refine Wp.iconN (pc2 := 73) 0 dX5_costOf_72 rfl ?_
      refine Wp.istore (pc2 := 75) dX5_costOf_73 rfl (by decide) rfl ?_
      refine Wp.leq (L' := [.ref 0, .int (nI t), .int (nI c), .int (nI (V 9 t)), .null, .int (nI (csum V t (cd c) (V 9 t) r + rsum V t r (cd c) 0)), .int (nI r), .int (nI (zb (abB V t r (cd c) 0))), .int (nI 0), .null]) rfl ?_
      refine m_costOf_3 V t c h ht hc hvv.1 r (csum V t (cd c) (V 9 t) r) (by omega) _ ?_ (V 9 t) 0 (by omega)
      refine Wp.iincN (pc2 := 132) dX5_costOf_129 rfl rfl (by decide) rfl ?_
      refine Wp.goto (pc2 := 58) dX5_costOf_132 (by decide) ?_
      exact ih (r + 1) (by omega)

set_option maxRecDepth 100000 in
set_option maxHeartbeats 4000000 in
theorem m_costOf (V : zS) (t c : Nat) (h : JV V) (ht : t < 2) (hc : c < 4 ^ V 9 t) : PM mX5_costOf [.ref 0, .int (nI t), .int (nI c)] (hM V) (fun zr zq => zq = hM V ∧ ((vld (V 9 t) c ∧ zr = some (.int (nI (csum V t (cd c) (V 9 t) (V 10 t))))) ∨ (¬ vld (V 9 t) c ∧ zr = some (.int (-1))))) := by
  refine PM.of (by decide +kernel) (by simp [Value.category]) (Nat.le_of_ble_eq_true rfl) ?_
  have jt := h.2.1 t ht
  have hn4 : V 9 t ≤ 4 := by omega
  have h256 : c < 256 := Nat.lt_of_lt_of_le hc (p4le hn4)
  have hs := JV_t h ht
  have h7 : ∀ j, j < 8 → V 7 j ≤ 50 := fun j hj => (h.2.2.1 j hj).2.1
  have h4 : ∀ j, j < 8 → V 4 j < 3 := fun j hj => (h.2.2.1 j hj).1
  refine Wp.aload_n (pc2 := 1) dX5_costOf_0 rfl rfl ?_
  refine Wp.getf (pc2 := 4) fX5_41 dX5_costOf_1 rfl rfl rfl ?_
  refine Wp.iload_n (pc2 := 5) dX5_costOf_4 rfl rfl ?_
  refine Wp.ialdN (pc2 := 6) dX5_costOf_5 rfl rfl (by omega) (by decide) ?_
  refine Wp.istore_n (pc2 := 7) dX5_costOf_6 rfl (by decide) rfl ?_
  refine Wp.iconN (pc2 := 8) 0 dX5_costOf_7 rfl ?_
  refine Wp.istore (pc2 := 10) dX5_costOf_8 rfl (by decide) rfl ?_
  refine Wp.iconN (pc2 := 11) 0 dX5_costOf_10 rfl ?_
  refine Wp.istore (pc2 := 13) dX5_costOf_11 rfl (by decide) rfl ?_
  refine m_costOf_1 V t c h ht hc _ ?_ (V 9 t) 0 (by omega)
  have hp := p2lt hn4
  have hm : mskf (cd c) (V 9 t) < 16 := mskf_lt (n := 4) (V 9 t) (fun j _ => cd_lt c j)
  refine Wp.iload (pc2 := 42) dX5_costOf_40 rfl rfl ?_
  refine Wp.iconN (pc2 := 43) 1 dX5_costOf_42 rfl ?_
  refine Wp.iload_n (pc2 := 44) dX5_costOf_43 rfl rfl ?_
  refine Wp.ishl (pc2 := 45) dX5_costOf_44 rfl ?_
  refine Wp.top (nI (2 ^ V 9 t)) (shl1 (by omega)) ?_
  refine Wp.iconN (pc2 := 46) 1 dX5_costOf_45 rfl ?_
  refine Wp.isubN (pc2 := 47) dX5_costOf_46 rfl hp.2 ?_
  refine Wp.icmpN_eq (pc2 := 50) 52 dX5_costOf_47 rfl (by decide) (by omega) hp.1 (fun c47 => ?_) (fun c47 => ?_)
  · refine Wp.iconN (pc2 := 53) 0 dX5_costOf_52 rfl ?_
    refine Wp.istore (pc2 := 55) dX5_costOf_53 rfl (by decide) rfl ?_
    refine Wp.iconN (pc2 := 56) 0 dX5_costOf_55 rfl ?_
    refine Wp.istore (pc2 := 58) dX5_costOf_56 rfl (by decide) rfl ?_
    refine Wp.fg [.ref 0, .int (nI t), .int (nI c), .int (nI (V 9 t)), .null, .int (nI 0), .int (nI 0), .null, .null, .null] (And.intro (Or.inr rfl) (And.intro (Or.inr rfl) (And.intro (Or.inr rfl) (And.intro (Or.inr rfl) (And.intro (Or.inl rfl) (And.intro (Or.inr rfl) (And.intro (Or.inr rfl) (And.intro (Or.inl rfl) (And.intro (Or.inl rfl) (And.intro (Or.inl rfl) trivial)))))))))) ?_
    exact m_costOf_2 V t c h ht hc c47 (V 10 t) 0 (by omega)
  · refine Wp.icon (pc2 := 51) dX5_costOf_50 rfl (-1) (by decide +kernel) ?_
    refine Wp.ret dX5_costOf_51 rfl rfl ?_
    exact ⟨rfl, Or.inr ⟨c47, rfl⟩⟩

def FB (V : zS) (t k b : Nat) : Prop := (b = 0 ∧ ∀ c, c < k → ¬ vld (V 9 t) c) ∨ ∃ c, c < k ∧ vld (V 9 t) c ∧ b = csum V t (cd c) (V 9 t) (V 10 t) + 1 ∧ ∀ c', c' < k → vld (V 9 t) c' → csum V t (cd c) (V 9 t) (V 10 t) ≤ csum V t (cd c') (V 9 t) (V 10 t)
theorem FB_skip {V : zS} {t k b : Nat} (h : FB V t k b) (hn : ¬ vld (V 9 t) k) : FB V t (k + 1) b := by
  rcases h with ⟨h1, h2⟩ | ⟨c, h1, h2, h3, h4⟩
  · exact Or.inl ⟨h1, lt_s (p := fun c => ¬ vld (V 9 t) c) h2 hn⟩
  · exact Or.inr ⟨c, by omega, h2, h3, lt_s (p := fun c' => vld (V 9 t) c' → csum V t (cd c) (V 9 t) (V 10 t) ≤ csum V t (cd c') (V 9 t) (V 10 t)) h4 (fun z => absurd z hn)⟩
theorem FB_keep {V : zS} {t k b : Nat} (h : FB V t k (b + 1)) (hl : b ≤ csum V t (cd k) (V 9 t) (V 10 t)) : FB V t (k + 1) (b + 1) := by
  rcases h with ⟨h1, -⟩ | ⟨c, h1, h2, h3, h4⟩
  · omega
  · exact Or.inr ⟨c, by omega, h2, h3, lt_s (p := fun c' => vld (V 9 t) c' → csum V t (cd c) (V 9 t) (V 10 t) ≤ csum V t (cd c') (V 9 t) (V 10 t)) h4 (fun _ => by omega)⟩
theorem FB_new {V : zS} {t k b : Nat} (h : FB V t k b) (hv : vld (V 9 t) k) (hl : b = 0 ∨ csum V t (cd k) (V 9 t) (V 10 t) < b - 1) : FB V t (k + 1) (csum V t (cd k) (V 9 t) (V 10 t) + 1) := by
  refine Or.inr ⟨k, by omega, hv, rfl, lt_s (p := fun c' => vld (V 9 t) c' → csum V t (cd k) (V 9 t) (V 10 t) ≤ csum V t (cd c') (V 9 t) (V 10 t)) (fun c' hc' hv' => ?_) (fun _ => Nat.le_refl _)⟩
  rcases h with ⟨h1, h2⟩ | ⟨c, h1, h2, h3, h4⟩
  · exact absurd hv' (h2 c' hc')
  · have := h4 c' hc' hv'; omega

set_option maxRecDepth 100000 in
set_option maxHeartbeats 4000000 in
theorem m_fixed_l (V : zS) (t : Nat) (h : JV V) (ht : t < 2) : ∀ (n k b : Nat), k + n = 4 ^ V 9 t → FB V t k b → b < 2 ^ 30 → Wp mX5_fixed (fun zr zq => (∃ m, FX V t m ∧ zr = some (.int (nI m))) ∧ zq = hM V) 13 [.ref 0, .int (nI t), .int (zo b), .int (nI k), .null] [] (hM V) := by
  have jt := h.2.1 t ht
  have hn4 : V 9 t ≤ 4 := by omega
  have hp4 := p4le hn4
  have hs := JV_t h ht
  have h7 : ∀ j, j < 8 → V 7 j ≤ 50 := fun j hj => (h.2.2.1 j hj).2.1
  intro n
  induction n with
  | zero =>
    intro k b hk hF hb
    have e : k = 4 ^ V 9 t := by omega
    subst e
    refine Wp.iload_n (pc2 := 14) dX5_fixed_13 rfl rfl ?_
    refine Wp.iconN (pc2 := 15) 1 dX5_fixed_14 rfl ?_
    refine Wp.iconN (pc2 := 16) 2 dX5_fixed_15 rfl ?_
    refine Wp.aload_n (pc2 := 17) dX5_fixed_16 rfl rfl ?_
    refine Wp.getf (pc2 := 20) fX5_41 dX5_fixed_17 rfl rfl rfl ?_
    refine Wp.iload_n (pc2 := 21) dX5_fixed_20 rfl rfl ?_
    refine Wp.ialdN (pc2 := 22) dX5_fixed_21 rfl rfl (by omega) (by decide) ?_
    refine Wp.imulN (pc2 := 23) dX5_fixed_22 rfl  ?_
    refine Wp.ishl (pc2 := 24) dX5_fixed_23 rfl ?_
    refine Wp.top (nI (4 ^ V 9 t)) (shl2 hn4) ?_
    refine Wp.icmpN_ge (pc2 := 27) 61 dX5_fixed_24 rfl (by decide) (by omega) (by omega) (fun c24 => ?_) (fun c24 => ?_)
    · refine Wp.iload_n (pc2 := 62) dX5_fixed_61 rfl rfl ?_
      refine Wp.ret dX5_fixed_62 rfl rfl ?_
      rcases hF with ⟨-, h2⟩ | ⟨c, h1, h2, rfl, h4⟩
      · obtain ⟨c, c1, c2⟩ := vld_ex hn4
        exact absurd c2 (h2 c c1)
      · refine ⟨⟨_, ⟨⟨c, h1, h2, rfl⟩, h4⟩, ?_⟩, rfl⟩
        rw [zo_s]
    · exfalso; omega
  | succ n ih =>
    intro k b hk hF hb
    have hcs := csum_le (f := cd k) h7 ht hn4 (fun j _ => cd_lt k j) (V 10 t)
    have skip : FB V t (k + 1) b → Wp mX5_fixed (fun zr zq => (∃ m, FX V t m ∧ zr = some (.int (nI m))) ∧ zq = hM V) 55 [.ref 0, .int (nI t), .int (zo b), .int (nI k), .null] [] (hM V) := by
      intro hF2
      refine Wp.iincN (pc2 := 58) dX5_fixed_55 rfl rfl (by decide) rfl ?_
      refine Wp.goto (pc2 := 13) dX5_fixed_58 (by decide) ?_
      exact ih (k + 1) b (by omega) hF2 hb
    refine Wp.iload_n (pc2 := 14) dX5_fixed_13 rfl rfl ?_
    refine Wp.iconN (pc2 := 15) 1 dX5_fixed_14 rfl ?_
    refine Wp.iconN (pc2 := 16) 2 dX5_fixed_15 rfl ?_
    refine Wp.aload_n (pc2 := 17) dX5_fixed_16 rfl rfl ?_
    refine Wp.getf (pc2 := 20) fX5_41 dX5_fixed_17 rfl rfl rfl ?_
    refine Wp.iload_n (pc2 := 21) dX5_fixed_20 rfl rfl ?_
    refine Wp.ialdN (pc2 := 22) dX5_fixed_21 rfl rfl (by omega) (by decide) ?_
    refine Wp.imulN (pc2 := 23) dX5_fixed_22 rfl  ?_
    refine Wp.ishl (pc2 := 24) dX5_fixed_23 rfl ?_
    refine Wp.top (nI (4 ^ V 9 t)) (shl2 hn4) ?_
    refine Wp.icmpN_ge (pc2 := 27) 61 dX5_fixed_24 rfl (by decide) (by omega) (by omega) (fun c24 => ?_) (fun c24 => ?_)
    · exfalso; omega
    · refine Wp.aload_n (pc2 := 28) dX5_fixed_27 rfl rfl ?_
      refine Wp.iload_n (pc2 := 29) dX5_fixed_28 rfl rfl ?_
      refine Wp.iload_n (pc2 := 30) dX5_fixed_29 rfl rfl ?_
      refine Wp.callV (pc2 := 33) kX5_fixed_172 vX5_costOf (m_costOf V t k h ht (by omega)) dX5_fixed_30 rfl rfl rfl rfl rfl (Nat.le_of_ble_eq_true rfl) ?_
      rintro _ _ ⟨rfl, hz⟩
      rcases hz with ⟨hv, rfl⟩ | ⟨hv, rfl⟩
      rotate_left
      · refine Wp.istore (pc2 := 35) dX5_fixed_33 rfl (by decide) rfl ?_
        refine Wp.iload (pc2 := 37) dX5_fixed_35 rfl rfl ?_
        refine Wp.icon (pc2 := 38) dX5_fixed_37 rfl (-1) (by decide +kernel) ?_
        refine Wp.icmp_eq (pc2 := 41) 55 dX5_fixed_38 rfl (by decide) (fun _ => ?_) (fun c => absurd rfl c)
        refine Wp.fg [.ref 0, .int (nI t), .int (zo b), .int (nI k), .null] (And.intro (Or.inr rfl) (And.intro (Or.inr rfl) (And.intro (Or.inr rfl) (And.intro (Or.inr rfl) (And.intro (Or.inl rfl) trivial))))) ?_
        exact skip (FB_skip hF hv)
      refine Wp.istore (pc2 := 35) dX5_fixed_33 rfl (by decide) rfl ?_
      refine Wp.iload (pc2 := 37) dX5_fixed_35 rfl rfl ?_
      refine Wp.icon (pc2 := 38) dX5_fixed_37 rfl (-1) (by decide +kernel) ?_
      refine Wp.icmp_eq (pc2 := 41) 55 dX5_fixed_38 rfl (by decide)  (fun c38 => ?_) (fun c38 => ?_)
      · exact absurd c38 (nI_m1 (by omega))
      · refine Wp.iload_n (pc2 := 42) dX5_fixed_41 rfl rfl ?_
        refine Wp.icon (pc2 := 43) dX5_fixed_42 rfl (-1) (by decide +kernel) ?_
        refine Wp.icmp_eq (pc2 := 46) 52 dX5_fixed_43 rfl (by decide)  (fun c43 => ?_) (fun c43 => ?_)
        · refine Wp.iload (pc2 := 54) dX5_fixed_52 rfl rfl ?_
          refine Wp.istore_n (pc2 := 55) dX5_fixed_54 rfl (by decide) rfl ?_
          have hF2 := FB_new hF hv (Or.inl ((zo_m1 hb).mp c43))
          refine Wp.fg [.ref 0, .int (nI t), .int (nI (csum V t (cd k) (V 9 t) (V 10 t))), .int (nI k), .null] (And.intro (Or.inr rfl) (And.intro (Or.inr rfl) (And.intro (Or.inr rfl) (And.intro (Or.inr rfl) (And.intro (Or.inl rfl) trivial))))) ?_
          refine Wp.iincN (pc2 := 58) dX5_fixed_55 rfl rfl (by decide) rfl ?_
          refine Wp.goto (pc2 := 13) dX5_fixed_58 (by decide) ?_
          refine Wp.leq (L' := [.ref 0, .int (nI t), .int (zo (csum V t (cd k) (V 9 t) (V 10 t) + 1)), .int (nI (k + 1)), .null]) (by rw [zo_s]; rfl) ?_
          exact ih (k + 1) _ (by omega) hF2 (by omega)
        · obtain ⟨b, rfl⟩ : ∃ b1, b = b1 + 1 := ⟨b - 1, by have := zo_ne hb c43; omega⟩
          rw [zo_s]
          refine Wp.iload (pc2 := 48) dX5_fixed_46 rfl rfl ?_
          refine Wp.iload_n (pc2 := 49) dX5_fixed_48 rfl rfl ?_
          refine Wp.icmpN_ge (pc2 := 52) 55 dX5_fixed_49 rfl (by decide) (by omega) (by omega) (fun c49 => ?_) (fun c49 => ?_)
          · rw [← zo_s b]
            refine Wp.fg [.ref 0, .int (nI t), .int (zo (b + 1)), .int (nI k), .null] (And.intro (Or.inr rfl) (And.intro (Or.inr rfl) (And.intro (Or.inr rfl) (And.intro (Or.inr rfl) (And.intro (Or.inl rfl) trivial))))) ?_
            exact skip (FB_keep hF c49)
          · refine Wp.iload (pc2 := 54) dX5_fixed_52 rfl rfl ?_
            refine Wp.istore_n (pc2 := 55) dX5_fixed_54 rfl (by decide) rfl ?_
            have hF2 := FB_new hF hv (Or.inr c49)
            refine Wp.fg [.ref 0, .int (nI t), .int (nI (csum V t (cd k) (V 9 t) (V 10 t))), .int (nI k), .null] (And.intro (Or.inr rfl) (And.intro (Or.inr rfl) (And.intro (Or.inr rfl) (And.intro (Or.inr rfl) (And.intro (Or.inl rfl) trivial))))) ?_
            refine Wp.iincN (pc2 := 58) dX5_fixed_55 rfl rfl (by decide) rfl ?_
            refine Wp.goto (pc2 := 13) dX5_fixed_58 (by decide) ?_
            refine Wp.leq (L' := [.ref 0, .int (nI t), .int (zo (csum V t (cd k) (V 9 t) (V 10 t) + 1)), .int (nI (k + 1)), .null]) (by rw [zo_s]; rfl) ?_
            exact ih (k + 1) _ (by omega) hF2 (by omega)

set_option maxRecDepth 100000 in
set_option maxHeartbeats 4000000 in
theorem m_fixed_ok (V : zS) (t : Nat) (h : JV V) (ht : t < 2) : PM mX5_fixed [.ref 0, .int (nI t)] (hM V) (fun zr zq => (∃ m, FX V t m ∧ zr = some (.int (nI m))) ∧ zq = hM V) := by
  refine PM.of (by decide +kernel) (by simp [Value.category]) (Nat.le_of_ble_eq_true rfl) ?_
  refine Wp.iload_n (pc2 := 1) dX5_fixed_0 rfl rfl ?_
  refine Wp.callS (pc2 := 4) kX5_fixed_85 sX5_isTable (m_isTable_t _ t ht) dX5_fixed_1 rfl rfl rfl (Nat.le_of_ble_eq_true rfl) ?_
  rintro _ _ ⟨rfl, rfl⟩
  refine Wp.ifN_ne (pc2 := 7) 9 dX5_fixed_4 rfl (by decide) (by omega) (fun c4 => ?_) (fun c4 => ?_)
  · refine Wp.icon (pc2 := 10) dX5_fixed_9 rfl (-1) (by decide +kernel) ?_
    refine Wp.istore_n (pc2 := 11) dX5_fixed_10 rfl (by decide) rfl ?_
    refine Wp.iconN (pc2 := 12) 0 dX5_fixed_11 rfl ?_
    refine Wp.istore_n (pc2 := 13) dX5_fixed_12 rfl (by decide) rfl ?_
    refine Wp.leq (L' := [.ref 0, .int (nI t), .int (zo 0), .int (nI 0), .null]) rfl ?_
    exact m_fixed_l V t h ht (4 ^ V 9 t) 0 0 (by omega) (Or.inl ⟨rfl, fun c hc => by omega⟩) (by decide)
  · exfalso; omega

set_option maxRecDepth 100000 in
set_option maxHeartbeats 4000000 in
theorem m_fixed_no (V : zS) (t : Int32) (hno : ¬ rg t 2) : PM mX5_fixed [.ref 0, .int t] (hM V) (fun zr zq => zr = some (.int (-1)) ∧ zq = hM V) := by
  refine PM.of (by decide +kernel) (by simp [Value.category]) (Nat.le_of_ble_eq_true rfl) ?_
  refine Wp.iload_n (pc2 := 1) dX5_fixed_0 rfl rfl ?_
  refine Wp.callS (pc2 := 4) kX5_fixed_85 sX5_isTable (m_isTable _ t) dX5_fixed_1 rfl rfl rfl (Nat.le_of_ble_eq_true rfl) ?_
  rintro _ _ ⟨⟨b, rfl, hb⟩, rfl⟩
  refine Wp.ifN_ne (pc2 := 7) 9 dX5_fixed_4 rfl (by decide) (zb_lt _) (fun c4 => ?_) (fun c4 => ?_)
  · exact absurd (rg_t.mp (zby hb c4)) hno
  · refine Wp.icon (pc2 := 8) dX5_fixed_7 rfl (-1) (by decide +kernel) ?_
    refine Wp.ret dX5_fixed_8 rfl rfl ?_
    exact ⟨rfl, rfl⟩

