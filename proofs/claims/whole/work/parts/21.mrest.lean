/-- the k-th digit -/
def dg (d k : Nat) : Nat := d / 10 ^ k % 10
def msk (d : Nat) : Nat → Nat
  | 0 => 0
  | k + 1 => msk d k ||| 2 ^ dg d k
/-- digits that are all tests, each once -/
def dOK (n d : Nat) : Prop := (∀ k, k < n → dg d k < n) ∧ (∀ x, x < n → ∃ k, k < n ∧ dg d k = x) ∧ d / 10 ^ n = 0
theorem shl1 {x : Nat} (h : x < 5) : nI 1 <<< (nI x &&& 31) = nI (2 ^ x) := by
  have : ∀ x, x < 5 → nI 1 <<< (nI x &&& 31) = nI (2 ^ x) := by decide +kernel
  exact this x h
theorem or16 {m x : Nat} (hm : m < 16) (hx : x < 4) : nI m ||| nI (2 ^ x) = nI (m ||| 2 ^ x) := by
  have : ∀ m, m < 16 → ∀ x, x < 4 → nI m ||| nI (2 ^ x) = nI (m ||| 2 ^ x) := by decide +kernel
  exact this m hm x hx
theorem msk_lt {d : Nat} : ∀ (k : Nat), (∀ j, j < k → dg d j < 4) → msk d k < 16
  | 0, _ => by show 0 < 16; decide
  | k + 1, h => by
    have h1 := msk_lt (d := d) k (fun j hj => h j (by omega))
    have h2 := h k (by omega)
    have h3 : 2 ^ dg d k < 2 ^ 4 := Nat.pow_lt_pow_right (by decide) h2
    exact Nat.or_lt_two_pow (n := 4) h1 h3
theorem msk_bit {d x : Nat} : ∀ (k : Nat), (msk d k).testBit x = true ↔ ∃ j, j < k ∧ dg d j = x
  | 0 => by
    constructor
    · intro h; simp [msk] at h
    · rintro ⟨j, hj, -⟩; omega
  | k + 1 => by
    have ih := msk_bit (d := d) (x := x) k
    show (msk d k ||| 2 ^ dg d k).testBit x = true ↔ _
    rw [Nat.testBit_or, Bool.or_eq_true, ih, Nat.testBit_two_pow, decide_eq_true_iff]
    constructor
    · rintro (⟨j, hj, e⟩ | e)
      · exact ⟨j, by omega, e⟩
      · exact ⟨k, by omega, e⟩
    · rintro ⟨j, hj, e⟩
      rcases Nat.lt_or_ge j k with z | z
      · exact Or.inl ⟨j, z, e⟩
      · have : j = k := by omega
        subst this; exact Or.inr e
theorem msk_full {d n : Nat} (h : ∀ k, k < n → dg d k < n) : msk d n = 2 ^ n - 1 ↔ ∀ x, x < n → ∃ k, k < n ∧ dg d k = x := by
  constructor
  · intro e x hx
    apply (msk_bit n).mp
    rw [e, Nat.testBit_two_pow_sub_one, decide_eq_true_iff]; exact hx
  · intro hs
    apply Nat.eq_of_testBit_eq
    intro x
    rw [Nat.testBit_two_pow_sub_one]
    by_cases hx : x < n
    · rw [(msk_bit n).mpr (hs x hx), decide_eq_true hx]
    · rw [decide_eq_false hx]
      cases hb : (msk d n).testBit x with
      | false => rfl
      | true =>
        obtain ⟨j, hj, e⟩ := (msk_bit n).mp hb
        have := h j hj; omega
theorem dg_s (d k : Nat) : d / 10 ^ k / 10 = d / 10 ^ (k + 1) := by
  rw [Nat.div_div_eq_div_mul, Nat.pow_succ]
theorem div_le' (d k : Nat) : d / 10 ^ k ≤ d := Nat.div_le_self _ _
def ordD (V : zS) (t d n : Nat) : Nat → Nat := fun j => if j < n then dg d j else V 11 (4 * t + j)
def mOrder (V : zS) (t d : Nat) : zS := vs (ordV V t (ordD V t d (V 9 t))) 12 t 1
theorem p2lt {n : Nat} (h : n ≤ 4) : 2 ^ n - 1 < 2 ^ 31 ∧ 1 ≤ 2 ^ n := by
  have : ∀ n, n < 5 → 2 ^ n - 1 < 2 ^ 31 ∧ 1 ≤ 2 ^ n := by decide
  exact this n (by omega)

set_option maxRecDepth 100000 in
set_option maxHeartbeats 4000000 in
theorem m_order_1 (V : zS) (t d : Nat) (Q : Option Value → zh → Prop) (hV : BV V) (ht : t < 2) (hn : V 9 t ≤ 4) (hd : d < 2 ^ 31)
    (K0 : (¬ ∀ k, k < V 9 t → dg d k < V 9 t) → Q (some (.int (nI 0))) (hM V))
    (K : (∀ k, k < V 9 t → dg d k < V 9 t) → Wp mX5_order Q 92 [.ref 0, .int (nI t), .int (nI d), .int (nI (d / 10 ^ V 9 t)), .int (nI (msk d (V 9 t))), .null] [] (hM V)) :
    ∀ (n k : Nat), k + n = V 9 t → (∀ j, j < k → dg d j < V 9 t) → Wp mX5_order Q 44 [.ref 0, .int (nI t), .int (nI d), .int (nI (d / 10 ^ k)), .int (nI (msk d k)), .int (nI k)] [] (hM V) := by
  intro n
  induction n with
  | zero =>
    intro k hk h
    have e : k = V 9 t := by omega
    subst e
    refine Wp.iload (pc2 := 46) dX5_order_44 rfl rfl ?_
    refine Wp.aload_n (pc2 := 47) dX5_order_46 rfl rfl ?_
    refine Wp.getf (pc2 := 50) fX5_41 dX5_order_47 rfl rfl rfl ?_
    refine Wp.iload_n (pc2 := 51) dX5_order_50 rfl rfl ?_
    refine Wp.ialdN (pc2 := 52) dX5_order_51 rfl rfl (by omega) (by decide) ?_
    refine Wp.icmpN_ge (pc2 := 55) 92 dX5_order_52 rfl (by decide) (by omega) (by omega) (fun c52 => ?_) (fun c52 => ?_)
    · refine Wp.fg [.ref 0, .int (nI t), .int (nI d), .int (nI (d / 10 ^ V 9 t)), .int (nI (msk d (V 9 t))), .null] (And.intro (Or.inr rfl) (And.intro (Or.inr rfl) (And.intro (Or.inr rfl) (And.intro (Or.inr rfl) (And.intro (Or.inr rfl) (And.intro (Or.inl rfl) trivial)))))) ?_
      exact K h
    · exfalso; omega
  | succ n ih =>
    intro k hk h
    have hdk := div_le' d k
    have hm := msk_lt (d := d) k (fun j hj => by have := h j hj; omega)
    have ek : d / 10 ^ k % 10 = dg d k := rfl
    refine Wp.iload (pc2 := 46) dX5_order_44 rfl rfl ?_
    refine Wp.aload_n (pc2 := 47) dX5_order_46 rfl rfl ?_
    refine Wp.getf (pc2 := 50) fX5_41 dX5_order_47 rfl rfl rfl ?_
    refine Wp.iload_n (pc2 := 51) dX5_order_50 rfl rfl ?_
    refine Wp.ialdN (pc2 := 52) dX5_order_51 rfl rfl (by omega) (by decide) ?_
    refine Wp.icmpN_ge (pc2 := 55) 92 dX5_order_52 rfl (by decide) (by omega) (by omega) (fun c52 => ?_) (fun c52 => ?_)
    · exfalso; omega
    · refine Wp.iload_n (pc2 := 56) dX5_order_55 rfl rfl ?_
      refine Wp.bipN (pc2 := 58) 10 dX5_order_56 rfl (by decide +kernel) ?_
      refine Wp.iremN (pc2 := 59) dX5_order_58 rfl (by omega) (by decide) (by decide) ?_
      refine Wp.aload_n (pc2 := 60) dX5_order_59 rfl rfl ?_
      refine Wp.getf (pc2 := 63) fX5_41 dX5_order_60 rfl rfl rfl ?_
      refine Wp.iload_n (pc2 := 64) dX5_order_63 rfl rfl ?_
      refine Wp.ialdN (pc2 := 65) dX5_order_64 rfl rfl (by omega) (by decide) ?_
      refine Wp.icmpN_lt (pc2 := 68) 70 dX5_order_65 rfl (by decide) (by omega) (by omega) (fun c65 => ?_) (fun c65 => ?_)
      · refine Wp.iload (pc2 := 72) dX5_order_70 rfl rfl ?_
        refine Wp.iconN (pc2 := 73) 1 dX5_order_72 rfl ?_
        refine Wp.iload_n (pc2 := 74) dX5_order_73 rfl rfl ?_
        refine Wp.bipN (pc2 := 76) 10 dX5_order_74 rfl (by decide +kernel) ?_
        refine Wp.iremN (pc2 := 77) dX5_order_76 rfl (by omega) (by decide) (by decide) ?_
        refine Wp.ishl (pc2 := 78) dX5_order_77 rfl ?_
        refine Wp.top (nI (2 ^ dg d k)) (shl1 (by omega)) ?_
        refine Wp.ior (pc2 := 79) dX5_order_78 rfl ?_
        refine Wp.top (nI (msk d (k + 1))) (or16 hm (by omega)) ?_
        refine Wp.istore (pc2 := 81) dX5_order_79 rfl (by decide) rfl ?_
        refine Wp.iload_n (pc2 := 82) dX5_order_81 rfl rfl ?_
        refine Wp.bipN (pc2 := 84) 10 dX5_order_82 rfl (by decide +kernel) ?_
        refine Wp.idivN (pc2 := 85) dX5_order_84 rfl (by omega) (by decide) (by decide) ?_
        refine Wp.istore_n (pc2 := 86) dX5_order_85 rfl (by decide) rfl ?_
        refine Wp.iincN (pc2 := 89) dX5_order_86 rfl rfl (by decide) rfl ?_
        refine Wp.goto (pc2 := 44) dX5_order_89 (by decide) ?_
        rw [dg_s]
        exact ih (k + 1) (by omega) (lt_s (p := fun j => dg d j < V 9 t) h (by omega))
      · refine Wp.iconN (pc2 := 69) 0 dX5_order_68 rfl ?_
        refine Wp.ret dX5_order_69 rfl (zb_nar false) ?_
        exact K0 (fun z => by have := z k (by omega); omega)

set_option maxRecDepth 100000 in
set_option maxHeartbeats 4000000 in
theorem m_order_2 (V : zS) (t d : Nat) (Q : Option Value → zh → Prop) (hV : BV V) (ht : t < 2) (hn : V 9 t ≤ 4) (hd : d < 2 ^ 31)
    (K : Wp mX5_order Q 155 [.ref 0, .int (nI t), .null, .null, .null, .null] [] (hM (ordV V t (ordD V t d (V 9 t))))) :
    ∀ (n k : Nat), k + n = V 9 t → Wp mX5_order Q 118 [.ref 0, .int (nI t), .null, .int (nI (d / 10 ^ k)), .null, .int (nI k)] [] (hM (ordV V t (ordD V t d k))) := by
  have e9 : ∀ o, ordV V t o 9 t = V 9 t := fun o => ordV_k V t o (by decide)
  intro n
  induction n with
  | zero =>
    intro k hk
    have e : k = V 9 t := by omega
    subst e
    refine Wp.iload (pc2 := 120) dX5_order_118 rfl rfl ?_
    refine Wp.aload_n (pc2 := 121) dX5_order_120 rfl rfl ?_
    refine Wp.getf (pc2 := 124) fX5_41 dX5_order_121 rfl rfl rfl ?_
    refine Wp.iload_n (pc2 := 125) dX5_order_124 rfl rfl ?_
    refine Wp.ialdN (pc2 := 126) dX5_order_125 rfl rfl (by omega) (by decide) ?_
    refine Wp.icmpN_ge (pc2 := 129) 155 dX5_order_126 rfl (by decide) (by omega) (by rw [e9]; omega) (fun c126 => ?_) (fun c126 => ?_)
    · refine Wp.fg [.ref 0, .int (nI t), .null, .null, .null, .null] (And.intro (Or.inr rfl) (And.intro (Or.inr rfl) (And.intro (Or.inl rfl) (And.intro (Or.inl rfl) (And.intro (Or.inl rfl) (And.intro (Or.inl rfl) trivial)))))) ?_
      exact K
    · rw [e9] at c126
      exfalso; omega
  | succ n ih =>
    intro k hk
    have hdk := div_le' d k
    have eS : (fun i => if i = k then d / 10 ^ k % 10 else ordD V t d k i) = ordD V t d (k + 1) := by
      funext i
      unfold ordD
      by_cases q : i = k
      · rw [if_pos q, if_pos (by omega), q]; rfl
      · rw [if_neg q]
        by_cases q2 : i < k
        · rw [if_pos q2, if_pos (by omega)]
        · rw [if_neg q2, if_neg (by omega)]
    refine Wp.iload (pc2 := 120) dX5_order_118 rfl rfl ?_
    refine Wp.aload_n (pc2 := 121) dX5_order_120 rfl rfl ?_
    refine Wp.getf (pc2 := 124) fX5_41 dX5_order_121 rfl rfl rfl ?_
    refine Wp.iload_n (pc2 := 125) dX5_order_124 rfl rfl ?_
    refine Wp.ialdN (pc2 := 126) dX5_order_125 rfl rfl (by omega) (by decide) ?_
    refine Wp.icmpN_ge (pc2 := 129) 155 dX5_order_126 rfl (by decide) (by omega) (by rw [e9]; omega) (fun c126 => ?_) (fun c126 => ?_)
    · rw [e9] at c126
      exfalso; omega
    · refine Wp.aload_n (pc2 := 130) dX5_order_129 rfl rfl ?_
      refine Wp.getf (pc2 := 133) fX5_47 dX5_order_130 rfl rfl rfl ?_
      refine Wp.iconN (pc2 := 134) 4 dX5_order_133 rfl ?_
      refine Wp.iload_n (pc2 := 135) dX5_order_134 rfl rfl ?_
      refine Wp.imulN (pc2 := 136) dX5_order_135 rfl  ?_
      refine Wp.iload (pc2 := 138) dX5_order_136 rfl rfl ?_
      refine Wp.iaddN (pc2 := 139) dX5_order_138 rfl  ?_
      refine Wp.iload_n (pc2 := 140) dX5_order_139 rfl rfl ?_
      refine Wp.bipN (pc2 := 142) 10 dX5_order_140 rfl (by decide +kernel) ?_
      refine Wp.iremN (pc2 := 143) dX5_order_142 rfl (by omega) (by decide) (by decide) ?_
      refine Wp.iastN (pc2 := 144) dX5_order_143 rfl rfl (by omega) (by decide) ?_
      refine Wp.heq (hM_a11 _ _ _) ?_
      rw [ordV_vs V t _ _ (by omega), eS]
      refine Wp.iload_n (pc2 := 145) dX5_order_144 rfl rfl ?_
      refine Wp.bipN (pc2 := 147) 10 dX5_order_145 rfl (by decide +kernel) ?_
      refine Wp.idivN (pc2 := 148) dX5_order_147 rfl (by omega) (by decide) (by decide) ?_
      refine Wp.istore_n (pc2 := 149) dX5_order_148 rfl (by decide) rfl ?_
      refine Wp.iincN (pc2 := 152) dX5_order_149 rfl rfl (by decide) rfl ?_
      refine Wp.goto (pc2 := 118) dX5_order_152 (by decide) ?_
      rw [dg_s]
      exact ih (k + 1) (by omega)

set_option maxRecDepth 100000 in
set_option maxHeartbeats 4000000 in
theorem m_order_none (V : zS) (t : Nat) (hV : BV V) (ht : t < 2) (hs : V 0 10 = 1) : PM mX5_order [.ref 0, .int (nI t), .int (-1)] (hM V) (fun zr zq => zr = some (.int (nI (1))) ∧ zq = hM (vs V 12 t 0)) := by
  refine PM.of (by decide +kernel) (by simp [Value.category]) (Nat.le_of_ble_eq_true rfl) ?_
  refine Wp.iload_n (pc2 := 1) dX5_order_0 rfl rfl ?_
  refine Wp.callS (pc2 := 4) kX5_order_85 sX5_isTable (m_isTable_t _ t ht) dX5_order_1 rfl rfl rfl (Nat.le_of_ble_eq_true rfl) ?_
  rintro _ _ ⟨rfl, rfl⟩
  refine Wp.ifN_eq (pc2 := 7) 20 dX5_order_4 rfl (by decide) (by omega) (fun c4 => ?_) (fun c4 => ?_)
  · exfalso; omega
  · refine Wp.aload_n (pc2 := 8) dX5_order_7 rfl rfl ?_
    refine Wp.getf (pc2 := 11) fX5_89 dX5_order_8 rfl rfl rfl ?_
    refine Wp.iconN (pc2 := 12) 1 dX5_order_11 rfl ?_
    refine Wp.icmpN_ne (pc2 := 15) 20 dX5_order_12 rfl (by decide) (hV.l _ _) (by decide) (fun c12 => ?_) (fun c12 => ?_)
    · exfalso; omega
    · refine Wp.iload_n (pc2 := 16) dX5_order_15 rfl rfl ?_
      refine Wp.icon (pc2 := 17) dX5_order_16 rfl (-1) (by decide +kernel) ?_
      refine Wp.icmp_ge (pc2 := 20) 22 dX5_order_17 rfl (by decide)  (fun c17 => ?_) (fun c17 => ?_)
      · refine Wp.iload_n (pc2 := 23) dX5_order_22 rfl rfl ?_
        refine Wp.icon (pc2 := 24) dX5_order_23 rfl (-1) (by decide +kernel) ?_
        refine Wp.icmp_ne (pc2 := 27) 36 dX5_order_24 rfl (by decide)  (fun c24 => ?_) (fun c24 => ?_)
        · exact absurd rfl c24
        · refine Wp.aload_n (pc2 := 28) dX5_order_27 rfl rfl ?_
          refine Wp.getf (pc2 := 31) fX5_50 dX5_order_28 rfl rfl rfl ?_
          refine Wp.iload_n (pc2 := 32) dX5_order_31 rfl rfl ?_
          refine Wp.iconN (pc2 := 33) 0 dX5_order_32 rfl ?_
          refine Wp.zastN (pc2 := 34) dX5_order_33 rfl rfl (by omega) (by decide) (by decide +kernel) ?_
          refine Wp.heq (hM_a12 _ _ _) ?_
          refine Wp.iconN (pc2 := 35) 1 dX5_order_34 rfl ?_
          refine Wp.ret dX5_order_35 rfl (zb_nar true) ?_
          exact ⟨rfl, rfl⟩
      · exact absurd (Int32.le_refl (-1)) c17

set_option maxRecDepth 100000 in
set_option maxHeartbeats 4000000 in
theorem m_order_ok (V : zS) (t d : Nat) (hV : BV V) (ht : t < 2) (hn : V 9 t ≤ 4) (hd : d < 2 ^ 31) (hs : V 0 10 = 1) (hok : dOK (V 9 t) d) : PM mX5_order [.ref 0, .int (nI t), .int (nI d)] (hM V) (fun zr zq => zr = some (.int (nI (1))) ∧ zq = hM (mOrder V t d)) := by
  refine PM.of (by decide +kernel) (by simp [Value.category]) (Nat.le_of_ble_eq_true rfl) ?_
  refine Wp.iload_n (pc2 := 1) dX5_order_0 rfl rfl ?_
  refine Wp.callS (pc2 := 4) kX5_order_85 sX5_isTable (m_isTable_t _ t ht) dX5_order_1 rfl rfl rfl (Nat.le_of_ble_eq_true rfl) ?_
  rintro _ _ ⟨rfl, rfl⟩
  refine Wp.ifN_eq (pc2 := 7) 20 dX5_order_4 rfl (by decide) (by omega) (fun c4 => ?_) (fun c4 => ?_)
  · exfalso; omega
  · refine Wp.aload_n (pc2 := 8) dX5_order_7 rfl rfl ?_
    refine Wp.getf (pc2 := 11) fX5_89 dX5_order_8 rfl rfl rfl ?_
    refine Wp.iconN (pc2 := 12) 1 dX5_order_11 rfl ?_
    refine Wp.icmpN_ne (pc2 := 15) 20 dX5_order_12 rfl (by decide) (hV.l _ _) (by decide) (fun c12 => ?_) (fun c12 => ?_)
    · exfalso; omega
    · refine Wp.iload_n (pc2 := 16) dX5_order_15 rfl rfl ?_
      refine Wp.icon (pc2 := 17) dX5_order_16 rfl (-1) (by decide +kernel) ?_
      refine Wp.icmp_ge (pc2 := 20) 22 dX5_order_17 rfl (by decide)  (fun c17 => ?_) (fun c17 => ?_)
      · refine Wp.iload_n (pc2 := 23) dX5_order_22 rfl rfl ?_
        refine Wp.icon (pc2 := 24) dX5_order_23 rfl (-1) (by decide +kernel) ?_
        refine Wp.icmp_ne (pc2 := 27) 36 dX5_order_24 rfl (by decide)  (fun c24 => ?_) (fun c24 => ?_)
        · refine Wp.iload_n (pc2 := 37) dX5_order_36 rfl rfl ?_
          refine Wp.istore_n (pc2 := 38) dX5_order_37 rfl (by decide) rfl ?_
          refine Wp.iconN (pc2 := 39) 0 dX5_order_38 rfl ?_
          refine Wp.istore (pc2 := 41) dX5_order_39 rfl (by decide) rfl ?_
          refine Wp.iconN (pc2 := 42) 0 dX5_order_41 rfl ?_
          refine Wp.istore (pc2 := 44) dX5_order_42 rfl (by decide) rfl ?_
          refine Wp.leq (L' := [.ref 0, .int (nI t), .int (nI d), .int (nI (d / 10 ^ 0)), .int (nI (msk d 0)), .int (nI 0)]) (by rw [Nat.pow_zero, Nat.div_one]; rfl) ?_
          refine m_order_1 V t d _ hV ht hn hd (fun z => absurd hok.1 z) (fun h => ?_) (V 9 t) 0 (by omega) (fun j hj => by omega)
          have hp := p2lt hn
          have hm := msk_lt (d := d) (V 9 t) (fun j hj => by have := h j hj; omega)
          refine Wp.iload_n (pc2 := 93) dX5_order_92 rfl rfl ?_
          refine Wp.ifN_ne (pc2 := 96) 111 dX5_order_93 rfl (by decide) (by have := div_le' d (V 9 t); omega) (fun c93 => ?_) (fun c93 => ?_)
          · exact absurd hok.2.2 c93
          · refine Wp.iload (pc2 := 98) dX5_order_96 rfl rfl ?_
            refine Wp.iconN (pc2 := 99) 1 dX5_order_98 rfl ?_
            refine Wp.aload_n (pc2 := 100) dX5_order_99 rfl rfl ?_
            refine Wp.getf (pc2 := 103) fX5_41 dX5_order_100 rfl rfl rfl ?_
            refine Wp.iload_n (pc2 := 104) dX5_order_103 rfl rfl ?_
            refine Wp.ialdN (pc2 := 105) dX5_order_104 rfl rfl (by omega) (by decide) ?_
            refine Wp.ishl (pc2 := 106) dX5_order_105 rfl ?_
            refine Wp.top (nI (2 ^ V 9 t)) (shl1 (by omega)) ?_
            refine Wp.iconN (pc2 := 107) 1 dX5_order_106 rfl ?_
            refine Wp.isubN (pc2 := 108) dX5_order_107 rfl hp.2 ?_
            refine Wp.icmpN_eq (pc2 := 111) 113 dX5_order_108 rfl (by decide) (by omega) hp.1 (fun c108 => ?_) (fun c108 => ?_)
            · refine Wp.iload_n (pc2 := 114) dX5_order_113 rfl rfl ?_
              refine Wp.istore_n (pc2 := 115) dX5_order_114 rfl (by decide) rfl ?_
              refine Wp.iconN (pc2 := 116) 0 dX5_order_115 rfl ?_
              refine Wp.istore (pc2 := 118) dX5_order_116 rfl (by decide) rfl ?_
              refine Wp.fg [.ref 0, .int (nI t), .null, .int (nI d), .null, .int (nI 0)] (And.intro (Or.inr rfl) (And.intro (Or.inr rfl) (And.intro (Or.inl rfl) (And.intro (Or.inr rfl) (And.intro (Or.inl rfl) (And.intro (Or.inr rfl) trivial)))))) ?_
              have e0 : ordV V t (ordD V t d 0) = V := ordV_self V t (fun j _ => by unfold ordD; rw [if_neg (by omega)])
              refine Wp.heq (h' := hM (ordV V t (ordD V t d 0))) (by rw [e0]) ?_
              refine Wp.leq (L' := [.ref 0, .int (nI t), .null, .int (nI (d / 10 ^ 0)), .null, .int (nI 0)]) (by rw [Nat.pow_zero, Nat.div_one]) ?_
              refine m_order_2 V t d _ hV ht hn hd ?_ (V 9 t) 0 (by omega)
              refine Wp.aload_n (pc2 := 156) dX5_order_155 rfl rfl ?_
              refine Wp.getf (pc2 := 159) fX5_50 dX5_order_156 rfl rfl rfl ?_
              refine Wp.iload_n (pc2 := 160) dX5_order_159 rfl rfl ?_
              refine Wp.iconN (pc2 := 161) 1 dX5_order_160 rfl ?_
              refine Wp.zastN (pc2 := 162) dX5_order_161 rfl rfl (by omega) (by decide) (by decide +kernel) ?_
              refine Wp.heq (hM_a12 _ _ _) ?_
              refine Wp.iconN (pc2 := 163) 1 dX5_order_162 rfl ?_
              refine Wp.ret dX5_order_163 rfl (zb_nar true) ?_
              exact ⟨rfl, rfl⟩
            · exact absurd ((msk_full h).mpr hok.2.1) c108
        · exact absurd c24 (nI_m1 hd)
      · exact absurd (Int32.le_trans (by decide) (nI_pos' hd)) c17

set_option maxRecDepth 100000 in
set_option maxHeartbeats 4000000 in
theorem m_order_no (V : zS) (tt dd : Int32) (hV : BV V) (hn4 : ∀ t, t < 2 → V 9 t ≤ 4) (hno : ¬ ∃ t : Nat, (t < 2 ∧ tt = nI t) ∧ V 0 10 = 1 ∧ (dd = -1 ∨ ∃ d : Nat, d < 2 ^ 31 ∧ dd = nI d ∧ dOK (V 9 t) d)) : PM mX5_order [.ref 0, .int tt, .int dd] (hM V) (fun zr zq => zr = some (.int (nI 0)) ∧ zq = hM V) := by
  refine PM.of (by decide +kernel) (by simp [Value.category]) (Nat.le_of_ble_eq_true rfl) ?_
  refine Wp.iload_n (pc2 := 1) dX5_order_0 rfl rfl ?_
  refine Wp.callS (pc2 := 4) kX5_order_85 sX5_isTable (m_isTable _ tt) dX5_order_1 rfl rfl rfl (Nat.le_of_ble_eq_true rfl) ?_
  rintro _ _ ⟨⟨b, rfl, hb⟩, rfl⟩
  refine Wp.ifN_eq (pc2 := 7) 20 dX5_order_4 rfl (by decide) (zb_lt _) (fun c4 => ?_) (fun c4 => ?_)
  · refine Wp.iconN (pc2 := 21) 0 dX5_order_20 rfl ?_
    refine Wp.ret dX5_order_21 rfl (zb_nar false) ?_
    exact ⟨rfl, rfl⟩
  · obtain ⟨t, ht, rfl⟩ := rg_t.mp (zby hb c4)
    have hn := hn4 t ht
    refine Wp.aload_n (pc2 := 8) dX5_order_7 rfl rfl ?_
    refine Wp.getf (pc2 := 11) fX5_89 dX5_order_8 rfl rfl rfl ?_
    refine Wp.iconN (pc2 := 12) 1 dX5_order_11 rfl ?_
    refine Wp.icmpN_ne (pc2 := 15) 20 dX5_order_12 rfl (by decide) (hV.l _ _) (by decide) (fun c12 => ?_) (fun c12 => ?_)
    · refine Wp.iconN (pc2 := 21) 0 dX5_order_20 rfl ?_
      refine Wp.ret dX5_order_21 rfl (zb_nar false) ?_
      exact ⟨rfl, rfl⟩
    · refine Wp.iload_n (pc2 := 16) dX5_order_15 rfl rfl ?_
      refine Wp.icon (pc2 := 17) dX5_order_16 rfl (-1) (by decide +kernel) ?_
      refine Wp.icmp_ge (pc2 := 20) 22 dX5_order_17 rfl (by decide)  (fun c17 => ?_) (fun c17 => ?_)
      · refine Wp.iload_n (pc2 := 23) dX5_order_22 rfl rfl ?_
        refine Wp.icon (pc2 := 24) dX5_order_23 rfl (-1) (by decide +kernel) ?_
        refine Wp.icmp_ne (pc2 := 27) 36 dX5_order_24 rfl (by decide)  (fun c24 => ?_) (fun c24 => ?_)
        · refine Wp.iload_n (pc2 := 37) dX5_order_36 rfl rfl ?_
          refine Wp.istore_n (pc2 := 38) dX5_order_37 rfl (by decide) rfl ?_
          refine Wp.iconN (pc2 := 39) 0 dX5_order_38 rfl ?_
          refine Wp.istore (pc2 := 41) dX5_order_39 rfl (by decide) rfl ?_
          refine Wp.iconN (pc2 := 42) 0 dX5_order_41 rfl ?_
          refine Wp.istore (pc2 := 44) dX5_order_42 rfl (by decide) rfl ?_
          have hpos : ¬ dd < 0 := by
            intro z
            rw [Int32.lt_iff_toInt_lt] at z
            rw [Int32.le_iff_toInt_le] at c17
            have e1 : (-1 : Int32).toInt = -1 := by decide
            have e0 : (0 : Int32).toInt = 0 := by decide
            exact c24 (Int32.toInt_inj.mp (by omega))
          obtain ⟨d, hd, rfl⟩ := nI_of hpos
          have hnd : ¬ dOK (V 9 t) d := fun z => hno ⟨t, ⟨ht, rfl⟩, c12, Or.inr ⟨d, hd, rfl, z⟩⟩
          refine Wp.leq (L' := [.ref 0, .int (nI t), .int (nI d), .int (nI (d / 10 ^ 0)), .int (nI (msk d 0)), .int (nI 0)]) (by rw [Nat.pow_zero, Nat.div_one]; rfl) ?_
          refine m_order_1 V t d _ hV ht hn hd (fun _ => ⟨rfl, rfl⟩) (fun h => ?_) (V 9 t) 0 (by omega) (fun j hj => by omega)
          have hp := p2lt hn
          have hm := msk_lt (d := d) (V 9 t) (fun j hj => by have := h j hj; omega)
          refine Wp.iload_n (pc2 := 93) dX5_order_92 rfl rfl ?_
          refine Wp.ifN_ne (pc2 := 96) 111 dX5_order_93 rfl (by decide) (by have := div_le' d (V 9 t); omega) (fun c93 => ?_) (fun c93 => ?_)
          · refine Wp.iconN (pc2 := 112) 0 dX5_order_111 rfl ?_
            refine Wp.ret dX5_order_112 rfl (zb_nar false) ?_
            exact ⟨rfl, rfl⟩
          · refine Wp.iload (pc2 := 98) dX5_order_96 rfl rfl ?_
            refine Wp.iconN (pc2 := 99) 1 dX5_order_98 rfl ?_
            refine Wp.aload_n (pc2 := 100) dX5_order_99 rfl rfl ?_
            refine Wp.getf (pc2 := 103) fX5_41 dX5_order_100 rfl rfl rfl ?_
            refine Wp.iload_n (pc2 := 104) dX5_order_103 rfl rfl ?_
            refine Wp.ialdN (pc2 := 105) dX5_order_104 rfl rfl (by omega) (by decide) ?_
            refine Wp.ishl (pc2 := 106) dX5_order_105 rfl ?_
            refine Wp.top (nI (2 ^ V 9 t)) (shl1 (by omega)) ?_
            refine Wp.iconN (pc2 := 107) 1 dX5_order_106 rfl ?_
            refine Wp.isubN (pc2 := 108) dX5_order_107 rfl hp.2 ?_
            refine Wp.icmpN_eq (pc2 := 111) 113 dX5_order_108 rfl (by decide) (by omega) hp.1 (fun c108 => ?_) (fun c108 => ?_)
            · exact absurd ⟨h, (msk_full h).mp c108, c93⟩ hnd
            · refine Wp.iconN (pc2 := 112) 0 dX5_order_111 rfl ?_
              refine Wp.ret dX5_order_112 rfl (zb_nar false) ?_
              exact ⟨rfl, rfl⟩
        · exact absurd ⟨t, ⟨ht, rfl⟩, c12, Or.inl c24⟩ hno
      · refine Wp.iconN (pc2 := 21) 0 dX5_order_20 rfl ?_
        refine Wp.ret dX5_order_21 rfl (zb_nar false) ?_
        exact ⟨rfl, rfl⟩

def mSum (V : zS) (t c : Nat) : Nat → Nat
  | 0 => 0
  | n + 1 => mSum V t c n + V 2 (3 * (50 * t + mGiven V n t) + c)
theorem mGiven_lt {V : zS} {i t : Nat} (h : V 21 i < 2500) : mGiven V i t < 50 := by
  unfold mGiven
  split <;> omega

set_option maxRecDepth 100000 in
set_option maxHeartbeats 4000000 in
theorem m_sum_l (V : zS) (t c : Nat) (hV : BV V) (ht : t < 2) (hc : c < 3) (hg : GI V) : ∀ (n k : Nat), k + n = V 0 26 → Wp mX5_sum (fun zr zq => zr = some (.int (nI (mSum V t c (V 0 26)))) ∧ zq = hM V) 23 [.ref 0, .int (nI t), .int (nI c), .int (nI (mSum V t c k)), .int (nI k)] [] (hM V) := by
  have h26 := GI_le hg
  intro n
  induction n with
  | zero =>
    intro k hk
    have e : k = V 0 26 := by omega
    subst e
    refine Wp.iload (pc2 := 25) dX5_sum_23 rfl rfl ?_
    refine Wp.aload_n (pc2 := 26) dX5_sum_25 rfl rfl ?_
    refine Wp.getf (pc2 := 29) fX5_103 dX5_sum_26 rfl rfl rfl ?_
    refine Wp.icmpN_ge (pc2 := 32) 54 dX5_sum_29 rfl (by decide) (by omega) (by omega) (fun c29 => ?_) (fun c29 => ?_)
    · refine Wp.iload_n (pc2 := 55) dX5_sum_54 rfl rfl ?_
      refine Wp.ret dX5_sum_55 rfl rfl ?_
      exact ⟨rfl, rfl⟩
    · exfalso; omega
  | succ n ih =>
    intro k hk
    have hl := mGiven_lt (t := t) (hg.1 k (by omega)).1
    refine Wp.iload (pc2 := 25) dX5_sum_23 rfl rfl ?_
    refine Wp.aload_n (pc2 := 26) dX5_sum_25 rfl rfl ?_
    refine Wp.getf (pc2 := 29) fX5_103 dX5_sum_26 rfl rfl rfl ?_
    refine Wp.icmpN_ge (pc2 := 32) 54 dX5_sum_29 rfl (by decide) (by omega) (by omega) (fun c29 => ?_) (fun c29 => ?_)
    · exfalso; omega
    · refine Wp.iload_n (pc2 := 33) dX5_sum_32 rfl rfl ?_
      refine Wp.aload_n (pc2 := 34) dX5_sum_33 rfl rfl ?_
      refine Wp.iload_n (pc2 := 35) dX5_sum_34 rfl rfl ?_
      refine Wp.aload_n (pc2 := 36) dX5_sum_35 rfl rfl ?_
      refine Wp.iload (pc2 := 38) dX5_sum_36 rfl rfl ?_
      refine Wp.iload_n (pc2 := 39) dX5_sum_38 rfl rfl ?_
      refine Wp.callV (pc2 := 42) kX5_sum_167 vX5_given (m_given_ok V k t hV ht h26 (by omega)) dX5_sum_39 rfl rfl rfl rfl rfl (Nat.le_of_ble_eq_true rfl) ?_
      rintro _ _ ⟨rfl, rfl⟩
      refine Wp.iload_n (pc2 := 43) dX5_sum_42 rfl rfl ?_
      refine Wp.callV (pc2 := 46) kX5_sum_92 vX5_cell (m_cell V t (mGiven V k t) c (by omega)) dX5_sum_43 rfl rfl rfl rfl rfl (Nat.le_of_ble_eq_true rfl) ?_
      rintro _ _ ⟨rfl, rfl⟩
      refine Wp.iaddN (pc2 := 47) dX5_sum_46 rfl  ?_
      refine Wp.istore_n (pc2 := 48) dX5_sum_47 rfl (by decide) rfl ?_
      refine Wp.iincN (pc2 := 51) dX5_sum_48 rfl rfl (by decide) rfl ?_
      refine Wp.goto (pc2 := 23) dX5_sum_51 (by decide) ?_
      exact ih (k + 1) (by omega)

set_option maxRecDepth 100000 in
set_option maxHeartbeats 4000000 in
theorem m_sum_ok (V : zS) (t c : Nat) (hV : BV V) (ht : t < 2) (hc : c < 3) (hg : GI V) : PM mX5_sum [.ref 0, .int (nI t), .int (nI c)] (hM V) (fun zr zq => zr = some (.int (nI (mSum V t c (V 0 26)))) ∧ zq = hM V) := by
  refine PM.of (by decide +kernel) (by simp [Value.category]) (Nat.le_of_ble_eq_true rfl) ?_
  refine Wp.iload_n (pc2 := 1) dX5_sum_0 rfl rfl ?_
  refine Wp.callS (pc2 := 4) kX5_sum_85 sX5_isTable (m_isTable_t _ t ht) dX5_sum_1 rfl rfl rfl (Nat.le_of_ble_eq_true rfl) ?_
  rintro _ _ ⟨rfl, rfl⟩
  refine Wp.ifN_eq (pc2 := 7) 16 dX5_sum_4 rfl (by decide) (by omega) (fun c4 => ?_) (fun c4 => ?_)
  · exfalso; omega
  · refine Wp.iload_n (pc2 := 8) dX5_sum_7 rfl rfl ?_
    refine Wp.iconN (pc2 := 9) 0 dX5_sum_8 rfl ?_
    refine Wp.iconN (pc2 := 10) 2 dX5_sum_9 rfl ?_
    refine Wp.callS (pc2 := 13) kX5_sum_81 sX5_in (m_in_t _ _ _ _ ((rg_in (by decide)).mpr ⟨c, hc, rfl⟩)) dX5_sum_10 rfl rfl rfl (Nat.le_of_ble_eq_true rfl) ?_
    rintro _ _ ⟨rfl, rfl⟩
    refine Wp.ifN_ne (pc2 := 16) 18 dX5_sum_13 rfl (by decide) (by omega) (fun c13 => ?_) (fun c13 => ?_)
    · refine Wp.iconN (pc2 := 19) 0 dX5_sum_18 rfl ?_
      refine Wp.istore_n (pc2 := 20) dX5_sum_19 rfl (by decide) rfl ?_
      refine Wp.iconN (pc2 := 21) 0 dX5_sum_20 rfl ?_
      refine Wp.istore (pc2 := 23) dX5_sum_21 rfl (by decide) rfl ?_
      exact m_sum_l V t c hV ht hc hg (V 0 26) 0 (by omega)
    · exfalso; omega

set_option maxRecDepth 100000 in
set_option maxHeartbeats 4000000 in
theorem m_sum_no (V : zS) (t c : Int32) (hno : ¬ (rg t 2 ∧ rg c 3)) : PM mX5_sum [.ref 0, .int t, .int c] (hM V) (fun zr zq => zr = some (.int (-1)) ∧ zq = hM V) := by
  refine PM.of (by decide +kernel) (by simp [Value.category]) (Nat.le_of_ble_eq_true rfl) ?_
  refine Wp.iload_n (pc2 := 1) dX5_sum_0 rfl rfl ?_
  refine Wp.callS (pc2 := 4) kX5_sum_85 sX5_isTable (m_isTable _ t) dX5_sum_1 rfl rfl rfl (Nat.le_of_ble_eq_true rfl) ?_
  rintro _ _ ⟨⟨b1, rfl, hb1⟩, rfl⟩
  refine Wp.ifN_eq (pc2 := 7) 16 dX5_sum_4 rfl (by decide) (zb_lt _) (fun c4 => ?_) (fun c4 => ?_)
  · refine Wp.icon (pc2 := 17) dX5_sum_16 rfl (-1) (by decide +kernel) ?_
    refine Wp.ret dX5_sum_17 rfl rfl ?_
    exact ⟨rfl, rfl⟩
  · refine Wp.iload_n (pc2 := 8) dX5_sum_7 rfl rfl ?_
    refine Wp.iconN (pc2 := 9) 0 dX5_sum_8 rfl ?_
    refine Wp.iconN (pc2 := 10) 2 dX5_sum_9 rfl ?_
    refine Wp.callS (pc2 := 13) kX5_sum_81 sX5_in (m_in _ c _ _) dX5_sum_10 rfl rfl rfl (Nat.le_of_ble_eq_true rfl) ?_
    rintro _ _ ⟨⟨b2, rfl, hb2⟩, rfl⟩
    refine Wp.ifN_ne (pc2 := 16) 18 dX5_sum_13 rfl (by decide) (zb_lt _) (fun c13 => ?_) (fun c13 => ?_)
    · exact absurd ⟨rg_t.mp (zby hb1 c4), (rg_in (by decide)).mp (zby hb2 c13)⟩ hno
    · refine Wp.icon (pc2 := 17) dX5_sum_16 rfl (-1) (by decide +kernel) ?_
      refine Wp.ret dX5_sum_17 rfl rfl ?_
      exact ⟨rfl, rfl⟩

def allP (V : zS) (t r : Nat) : Prop := ∀ k, k < V 3 t → passP V t r k

set_option maxRecDepth 100000 in
set_option maxHeartbeats 4000000 in
theorem m_pAll_l (V : zS) (t r : Nat) (hV : BV V) (ht : t < 2) (hr : r < 50) (h3 : V 3 t ≤ 4) (h8 : ∀ j, j < 8 → V 4 j < 3) : ∀ (n k : Nat), k + n = V 3 t → (∀ j, j < k → passP V t r j) → Wp mX5_passesAll (fun zr zq => zbo (allP V t r) zr ∧ zq = hM V) 2 [.ref 0, .int (nI t), .int (nI r), .int (nI k)] [] (hM V) := by
  intro n
  induction n with
  | zero =>
    intro k hk h
    have e : k = V 3 t := by omega
    subst e
    refine Wp.iload_n (pc2 := 3) dX5_passesAll_2 rfl rfl ?_
    refine Wp.aload_n (pc2 := 4) dX5_passesAll_3 rfl rfl ?_
    refine Wp.getf (pc2 := 7) fX5_16 dX5_passesAll_4 rfl rfl rfl ?_
    refine Wp.iload_n (pc2 := 8) dX5_passesAll_7 rfl rfl ?_
    refine Wp.ialdN (pc2 := 9) dX5_passesAll_8 rfl rfl (by omega) (by decide) ?_
    refine Wp.icmpN_ge (pc2 := 12) 30 dX5_passesAll_9 rfl (by decide) (by omega) (by omega) (fun c9 => ?_) (fun c9 => ?_)
    · refine Wp.iconN (pc2 := 31) 1 dX5_passesAll_30 rfl ?_
      refine Wp.ret dX5_passesAll_31 rfl (zb_nar true) ?_
      exact ⟨zbo_t h, rfl⟩
    · exfalso; omega
  | succ n ih =>
    intro k hk h
    refine Wp.iload_n (pc2 := 3) dX5_passesAll_2 rfl rfl ?_
    refine Wp.aload_n (pc2 := 4) dX5_passesAll_3 rfl rfl ?_
    refine Wp.getf (pc2 := 7) fX5_16 dX5_passesAll_4 rfl rfl rfl ?_
    refine Wp.iload_n (pc2 := 8) dX5_passesAll_7 rfl rfl ?_
    refine Wp.ialdN (pc2 := 9) dX5_passesAll_8 rfl rfl (by omega) (by decide) ?_
    refine Wp.icmpN_ge (pc2 := 12) 30 dX5_passesAll_9 rfl (by decide) (by omega) (by omega) (fun c9 => ?_) (fun c9 => ?_)
    · exfalso; omega
    · refine Wp.aload_n (pc2 := 13) dX5_passesAll_12 rfl rfl ?_
      refine Wp.iload_n (pc2 := 14) dX5_passesAll_13 rfl rfl ?_
      refine Wp.iload_n (pc2 := 15) dX5_passesAll_14 rfl rfl ?_
      refine Wp.iload_n (pc2 := 16) dX5_passesAll_15 rfl rfl ?_
      refine Wp.callV (pc2 := 19) kX5_passesAll_135 vX5_passes (m_passes V t r k hV ht hr (by omega) (h8 _ (by omega))) dX5_passesAll_16 rfl rfl rfl rfl rfl (Nat.le_of_ble_eq_true rfl) ?_
      rintro _ _ ⟨⟨b, rfl, hb⟩, rfl⟩
      refine Wp.ifN_ne (pc2 := 22) 24 dX5_passesAll_19 rfl (by decide) (zb_lt _) (fun c19 => ?_) (fun c19 => ?_)
      · refine Wp.iincN (pc2 := 27) dX5_passesAll_24 rfl rfl (by decide) rfl ?_
        refine Wp.goto (pc2 := 2) dX5_passesAll_27 (by decide) ?_
        exact ih (k + 1) (by omega) (lt_s (p := fun j => passP V t r j) h (zby hb c19))
      · refine Wp.iconN (pc2 := 23) 0 dX5_passesAll_22 rfl ?_
        refine Wp.ret dX5_passesAll_23 rfl (zb_nar false) ?_
        exact ⟨zbo_f (fun z => zbn hb c19 (z k (by omega))), rfl⟩

set_option maxRecDepth 100000 in
set_option maxHeartbeats 4000000 in
theorem m_passesAll (V : zS) (t r : Nat) (hV : BV V) (ht : t < 2) (hr : r < 50) (h3 : V 3 t ≤ 4) (h8 : ∀ j, j < 8 → V 4 j < 3) : PM mX5_passesAll [.ref 0, .int (nI t), .int (nI r)] (hM V) (fun zr zq => zbo (allP V t r) zr ∧ zq = hM V) := by
  refine PM.of (by decide +kernel) (by simp [Value.category]) (Nat.le_of_ble_eq_true rfl) ?_
  refine Wp.iconN (pc2 := 1) 0 dX5_passesAll_0 rfl ?_
  refine Wp.istore_n (pc2 := 2) dX5_passesAll_1 rfl (by decide) rfl ?_
  exact m_pAll_l V t r hV ht hr h3 h8 (V 3 t) 0 (by omega) (fun j hj => by omega)

noncomputable def pl1 (V : zS) (a : Nat) : Nat → Nat
  | 0 => 0
  | b + 1 => pl1 V a b + @ite _ (alike V a b ∧ allP V 1 b) (Classical.propDecidable _) 1 0
noncomputable def pl0 (V : zS) : Nat → Nat
  | 0 => 0
  | a + 1 => pl0 V a + @ite _ (allP V 0 a) (Classical.propDecidable _) (pl1 V a (V 1 1)) 0
theorem pl1_t {V : zS} {a b : Nat} (h : alike V a b ∧ allP V 1 b) : pl1 V a (b + 1) = pl1 V a b + 1 := by show _ + _ = _; rw [if_pos h]
theorem pl1_f {V : zS} {a b : Nat} (h : ¬ (alike V a b ∧ allP V 1 b)) : pl1 V a (b + 1) = pl1 V a b + 0 := by show _ + _ = _; rw [if_neg h]
theorem pl0_t {V : zS} {a : Nat} (h : allP V 0 a) : pl0 V (a + 1) = pl0 V a + pl1 V a (V 1 1) := by show _ + _ = _; rw [if_pos h]
theorem pl0_f {V : zS} {a : Nat} (h : ¬ allP V 0 a) : pl0 V (a + 1) = pl0 V a := by show _ + _ = _; rw [if_neg h]; rfl

set_option maxRecDepth 100000 in
set_option maxHeartbeats 4000000 in
theorem m_plain_1 (V : zS) (hV : BV V) (hj0 : V 8 0 < 3) (hj1 : V 8 1 < 3) (h30 : V 3 0 ≤ 4) (h31 : V 3 1 ≤ 4) (hr0 : V 1 0 ≤ 50) (hr1 : V 1 1 ≤ 50) (h8 : ∀ j, j < 8 → V 4 j < 3) (a : Nat) (ha : a < 50) (Q : Option Value → zh → Prop) (x : Nat)
    (K : Wp mX5_plain Q 70 [.ref 0, .int (nI (x + pl1 V a (V 1 1))), .int (nI a), .null] [] (hM V)) : ∀ (n b : Nat), b + n = V 1 1 → Wp mX5_plain Q 28 [.ref 0, .int (nI (x + pl1 V a b)), .int (nI a), .int (nI b)] [] (hM V) := by
  intro n
  induction n with
  | zero =>
    intro b hb
    have e : b = V 1 1 := by omega
    subst e
    refine Wp.iload_n (pc2 := 29) dX5_plain_28 rfl rfl ?_
    refine Wp.aload_n (pc2 := 30) dX5_plain_29 rfl rfl ?_
    refine Wp.getf (pc2 := 33) fX5_7 dX5_plain_30 rfl rfl rfl ?_
    refine Wp.iconN (pc2 := 34) 1 dX5_plain_33 rfl ?_
    refine Wp.ialdN (pc2 := 35) dX5_plain_34 rfl rfl (by omega) (by decide) ?_
    refine Wp.icmpN_ge (pc2 := 38) 70 dX5_plain_35 rfl (by decide) (by omega) (by omega) (fun c35 => ?_) (fun c35 => ?_)
    · refine Wp.fg [.ref 0, .int (nI (x + pl1 V a (V 1 1))), .int (nI a), .null] (And.intro (Or.inr rfl) (And.intro (Or.inr rfl) (And.intro (Or.inr rfl) (And.intro (Or.inl rfl) trivial)))) ?_
      exact K
    · exfalso; omega
  | succ n ih =>
    intro b hb
    refine Wp.iload_n (pc2 := 29) dX5_plain_28 rfl rfl ?_
    refine Wp.aload_n (pc2 := 30) dX5_plain_29 rfl rfl ?_
    refine Wp.getf (pc2 := 33) fX5_7 dX5_plain_30 rfl rfl rfl ?_
    refine Wp.iconN (pc2 := 34) 1 dX5_plain_33 rfl ?_
    refine Wp.ialdN (pc2 := 35) dX5_plain_34 rfl rfl (by omega) (by decide) ?_
    refine Wp.icmpN_ge (pc2 := 38) 70 dX5_plain_35 rfl (by decide) (by omega) (by omega) (fun c35 => ?_) (fun c35 => ?_)
    · exfalso; omega
    · refine Wp.iload_n (pc2 := 39) dX5_plain_38 rfl rfl ?_
      refine Wp.aload_n (pc2 := 40) dX5_plain_39 rfl rfl ?_
      refine Wp.iload_n (pc2 := 41) dX5_plain_40 rfl rfl ?_
      refine Wp.iload_n (pc2 := 42) dX5_plain_41 rfl rfl ?_
      refine Wp.callV (pc2 := 45) kX5_plain_124 vX5_isAlike (m_isAlike V a b hV ha (by omega) hj0 hj1) dX5_plain_42 rfl rfl rfl rfl rfl (Nat.le_of_ble_eq_true rfl) ?_
      rintro _ _ ⟨⟨b1, rfl, hb1⟩, rfl⟩
      refine Wp.ifN_eq (pc2 := 48) 61 dX5_plain_45 rfl (by decide) (zb_lt _) (fun c45 => ?_) (fun c45 => ?_)
      · refine Wp.iconN (pc2 := 62) 0 dX5_plain_61 rfl ?_
        refine Wp.iaddN (pc2 := 63) dX5_plain_62 rfl  ?_
        refine Wp.istore_n (pc2 := 64) dX5_plain_63 rfl (by decide) rfl ?_
        refine Wp.iincN (pc2 := 67) dX5_plain_64 rfl rfl (by decide) rfl ?_
        refine Wp.goto (pc2 := 28) dX5_plain_67 (by decide) ?_
        have e := pl1_f (V := V) (a := a) (b := b) (fun z => zbn hb1 c45 z.1)
        rw [Nat.add_assoc, ← e]
        exact ih (b + 1) (by omega)
      · refine Wp.aload_n (pc2 := 49) dX5_plain_48 rfl rfl ?_
        refine Wp.iconN (pc2 := 50) 1 dX5_plain_49 rfl ?_
        refine Wp.iload_n (pc2 := 51) dX5_plain_50 rfl rfl ?_
        refine Wp.callV (pc2 := 54) kX5_plain_169 vX5_passesAll (m_passesAll V 1 b hV (by omega) (by omega) h31 h8) dX5_plain_51 rfl rfl rfl rfl rfl (Nat.le_of_ble_eq_true rfl) ?_
        rintro _ _ ⟨⟨b2, rfl, hb2⟩, rfl⟩
        refine Wp.ifN_eq (pc2 := 57) 61 dX5_plain_54 rfl (by decide) (zb_lt _) (fun c54 => ?_) (fun c54 => ?_)
        · refine Wp.iconN (pc2 := 62) 0 dX5_plain_61 rfl ?_
          refine Wp.iaddN (pc2 := 63) dX5_plain_62 rfl  ?_
          refine Wp.istore_n (pc2 := 64) dX5_plain_63 rfl (by decide) rfl ?_
          refine Wp.iincN (pc2 := 67) dX5_plain_64 rfl rfl (by decide) rfl ?_
          refine Wp.goto (pc2 := 28) dX5_plain_67 (by decide) ?_
          have e := pl1_f (V := V) (a := a) (b := b) (fun z => zbn hb2 c54 z.2)
          rw [Nat.add_assoc, ← e]
          exact ih (b + 1) (by omega)
        · refine Wp.iconN (pc2 := 58) 1 dX5_plain_57 rfl ?_
          refine Wp.goto (pc2 := 62) dX5_plain_58 (by decide) ?_
          refine Wp.iaddN (pc2 := 63) dX5_plain_62 rfl  ?_
          refine Wp.istore_n (pc2 := 64) dX5_plain_63 rfl (by decide) rfl ?_
          refine Wp.iincN (pc2 := 67) dX5_plain_64 rfl rfl (by decide) rfl ?_
          refine Wp.goto (pc2 := 28) dX5_plain_67 (by decide) ?_
          have e := pl1_t (V := V) (a := a) (b := b) ⟨zby hb1 c45, zby hb2 c54⟩
          rw [Nat.add_assoc, ← e]
          exact ih (b + 1) (by omega)

set_option maxRecDepth 100000 in
set_option maxHeartbeats 4000000 in
theorem m_plain_0 (V : zS) (hV : BV V) (hj0 : V 8 0 < 3) (hj1 : V 8 1 < 3) (h30 : V 3 0 ≤ 4) (h31 : V 3 1 ≤ 4) (hr0 : V 1 0 ≤ 50) (hr1 : V 1 1 ≤ 50) (h8 : ∀ j, j < 8 → V 4 j < 3) : ∀ (n a : Nat), a + n = V 1 0 → Wp mX5_plain (fun zr zq => zr = some (.int (nI (pl0 V (V 1 0)))) ∧ zq = hM V) 4 [.ref 0, .int (nI (pl0 V a)), .int (nI a), .null] [] (hM V) := by
  intro n
  induction n with
  | zero =>
    intro a ha
    have e : a = V 1 0 := by omega
    subst e
    refine Wp.iload_n (pc2 := 5) dX5_plain_4 rfl rfl ?_
    refine Wp.aload_n (pc2 := 6) dX5_plain_5 rfl rfl ?_
    refine Wp.getf (pc2 := 9) fX5_7 dX5_plain_6 rfl rfl rfl ?_
    refine Wp.iconN (pc2 := 10) 0 dX5_plain_9 rfl ?_
    refine Wp.ialdN (pc2 := 11) dX5_plain_10 rfl rfl (by omega) (by decide) ?_
    refine Wp.icmpN_ge (pc2 := 14) 76 dX5_plain_11 rfl (by decide) (by omega) (by omega) (fun c11 => ?_) (fun c11 => ?_)
    · refine Wp.iload_n (pc2 := 77) dX5_plain_76 rfl rfl ?_
      refine Wp.ret dX5_plain_77 rfl rfl ?_
      exact ⟨rfl, rfl⟩
    · exfalso; omega
  | succ n ih =>
    intro a ha
    refine Wp.iload_n (pc2 := 5) dX5_plain_4 rfl rfl ?_
    refine Wp.aload_n (pc2 := 6) dX5_plain_5 rfl rfl ?_
    refine Wp.getf (pc2 := 9) fX5_7 dX5_plain_6 rfl rfl rfl ?_
    refine Wp.iconN (pc2 := 10) 0 dX5_plain_9 rfl ?_
    refine Wp.ialdN (pc2 := 11) dX5_plain_10 rfl rfl (by omega) (by decide) ?_
    refine Wp.icmpN_ge (pc2 := 14) 76 dX5_plain_11 rfl (by decide) (by omega) (by omega) (fun c11 => ?_) (fun c11 => ?_)
    · exfalso; omega
    · refine Wp.aload_n (pc2 := 15) dX5_plain_14 rfl rfl ?_
      refine Wp.iconN (pc2 := 16) 0 dX5_plain_15 rfl ?_
      refine Wp.iload_n (pc2 := 17) dX5_plain_16 rfl rfl ?_
      refine Wp.callV (pc2 := 20) kX5_plain_169 vX5_passesAll (m_passesAll V 0 a hV (by omega) (by omega) h30 h8) dX5_plain_17 rfl rfl rfl rfl rfl (Nat.le_of_ble_eq_true rfl) ?_
      rintro _ _ ⟨⟨b, rfl, hb⟩, rfl⟩
      refine Wp.ifN_ne (pc2 := 23) 26 dX5_plain_20 rfl (by decide) (zb_lt _) (fun c20 => ?_) (fun c20 => ?_)
      · refine Wp.iconN (pc2 := 27) 0 dX5_plain_26 rfl ?_
        refine Wp.istore_n (pc2 := 28) dX5_plain_27 rfl (by decide) rfl ?_
        refine Wp.leq (L' := [.ref 0, .int (nI (pl0 V a + pl1 V a 0)), .int (nI a), .int (nI 0)]) rfl ?_
        refine m_plain_1 V hV hj0 hj1 h30 h31 hr0 hr1 h8 a (by omega) _ (pl0 V a) ?_ (V 1 1) 0 (by omega)
        rw [← pl0_t (zby hb c20)]
        refine Wp.iincN (pc2 := 73) dX5_plain_70 rfl rfl (by decide) rfl ?_
        refine Wp.goto (pc2 := 4) dX5_plain_73 (by decide) ?_
        exact ih (a + 1) (by omega)
      · refine Wp.goto (pc2 := 70) dX5_plain_23 (by decide) ?_
        refine Wp.iincN (pc2 := 73) dX5_plain_70 rfl rfl (by decide) rfl ?_
        refine Wp.goto (pc2 := 4) dX5_plain_73 (by decide) ?_
        have e := pl0_f (V := V) (a := a) (zbn hb c20)
        rw [← e]
        exact ih (a + 1) (by omega)

set_option maxRecDepth 100000 in
set_option maxHeartbeats 4000000 in
theorem m_plain (V : zS) (hV : BV V) (hj0 : V 8 0 < 3) (hj1 : V 8 1 < 3) (h30 : V 3 0 ≤ 4) (h31 : V 3 1 ≤ 4) (hr0 : V 1 0 ≤ 50) (hr1 : V 1 1 ≤ 50) (h8 : ∀ j, j < 8 → V 4 j < 3) : PM mX5_plain [.ref 0] (hM V) (fun zr zq => zr = some (.int (nI (pl0 V (V 1 0)))) ∧ zq = hM V) := by
  refine PM.of (by decide +kernel) (by simp [Value.category]) (Nat.le_of_ble_eq_true rfl) ?_
  refine Wp.iconN (pc2 := 1) 0 dX5_plain_0 rfl ?_
  refine Wp.istore_n (pc2 := 2) dX5_plain_1 rfl (by decide) rfl ?_
  refine Wp.iconN (pc2 := 3) 0 dX5_plain_2 rfl ?_
  refine Wp.istore_n (pc2 := 4) dX5_plain_3 rfl (by decide) rfl ?_
  exact m_plain_0 V hV hj0 hj1 h30 h31 hr0 hr1 h8 (V 1 0) 0 (by omega)

