theorem an16 {a b : Nat} (ha : a < 16) (hb : b < 16) : nI a &&& nI b = nI (a &&& b) := by
  have : ∀ a, a < 16 → ∀ b, b < 16 → nI a &&& nI b = nI (a &&& b) := by decide +kernel
  exact this a ha b hb
theorem andlt {a b : Nat} (ha : a < 16) : a &&& b < 2 ^ 31 := by
  have := Nat.and_le_left (n := a) (m := b)
  omega
theorem pw16 {n : Nat} (h : n ≤ 4) : 2 ^ n ≤ 16 ∧ 1 ≤ 2 ^ n := ⟨show 2 ^ n ≤ 2 ^ 4 from Nat.pow_le_pow_right (by decide) h, Nat.two_pow_pos n⟩
/-- the rows below r done -/
def ffE (V E : zS) (t c n r : Nat) : zS := eSet E c (fun j => if j < r then fmk V t j n else E c j)
/-- and of row r the tests below k -/
def ffI (V E : zS) (t c n r k : Nat) : zS := eSet E c (fun j => if j = r then fmk V t r k else if j < r then fmk V t j n else E c j)
theorem ffE_0 (V E : zS) (t c n : Nat) : ffE V E t c n 0 = E := by
  unfold ffE
  have : (fun j => if j < 0 then fmk V t j n else E c j) = E c := by
    funext j
    rw [if_neg (by omega)]
  rw [this, eSet_self]
theorem ffI_0 (V E : zS) (t c n r : Nat) : vs (ffE V E t c n r) c r 0 = ffI V E t c n r 0 := by
  unfold ffE ffI
  rw [eSet_vs]
  rfl
theorem ffI_n (V E : zS) (t c n r : Nat) : ffI V E t c n r n = ffE V E t c n (r + 1) := by
  unfold ffE ffI
  congr 1
  funext j
  by_cases q : j = r
  · rw [if_pos q, if_pos (by omega), q]
  · rw [if_neg q]
    by_cases q2 : j < r
    · rw [if_pos q2, if_pos (by omega)]
    · rw [if_neg q2, if_neg (by omega)]
theorem ffI_at (V E : zS) (t c n r k : Nat) : ffI V E t c n r k c r = fmk V t r k := by
  unfold ffI
  rw [eSet_at, if_pos rfl]
theorem ffI_t {V : zS} (E : zS) {t : Nat} (c n : Nat) {r k : Nat} (h : passB V t r k = true) : ffI V E t c n r k = ffI V E t c n r (k + 1) := by
  unfold ffI
  rw [fmk_t h]
theorem ffI_f {V : zS} (E : zS) {t : Nat} (c n : Nat) {r k : Nat} (h : ¬ passB V t r k = true) : vs (ffI V E t c n r k) c r (fmk V t r k ||| 2 ^ k) = ffI V E t c n r (k + 1) := by
  unfold ffI
  rw [eSet_vs, fmk_f h]
  congr 1
  funext j
  by_cases q : j = r
  · rw [if_pos q, if_pos q]
  · rw [if_neg q, if_neg q, if_neg q]
theorem BL_ffE {V E : zS} (hE : BL E) {t c n r : Nat} (hn : n ≤ 4) : BL (ffE V E t c n r) := by
  refine BL_eSet hE (fun v => ?_)
  split
  · have := fmk_16 V t v hn; omega
  · exact hE c v
theorem ffE_lt {V E : zS} {t c n r j : Nat} (h : j < r) : ffE V E t c n r c j = fmk V t j n := by
  unfold ffE
  rw [eSet_at, if_pos h]

set_option maxRecDepth 100000 in
set_option maxHeartbeats 4000000 in
theorem x_ff_i_0 (V E : zS) (h : JV V) (r : Nat) (hr : r < 50) (Q : Option Value → zh → Prop) (K : Wp mX2_findFailedTests Q 57 [.ref 19, .int (nI r), .null] [] (hC V (ffI V E 0 25 (V 9 0) r (V 9 0)))) : ∀ (m k : Nat), k + m = V 9 0 → Wp mX2_findFailedTests Q 19 [.ref 19, .int (nI r), .int (nI k)] [] (hC V (ffI V E 0 25 (V 9 0) r k)) := by
  have jt := h.2.1 0 (by decide)
  have hn4 : V 9 0 ≤ 4 := by omega
  have h7 : ∀ j, j < 8 → V 7 j ≤ 50 := fun j hj => (h.2.2.1 j hj).2.1
  have h8 : ∀ j, j < 8 → V 4 j < 3 := fun j hj => (h.2.2.1 j hj).1
  intro m
  induction m with
  | zero =>
    intro k hk
    have e : k = V 9 0 := by omega
    subst e
    refine Wp.iload_n (pc2 := 20) dX2_findFailedTests_19 rfl rfl ?_
    refine Wp.aload_n (pc2 := 21) dX2_findFailedTests_20 rfl rfl ?_
    refine Wp.getf (pc2 := 24) fX2_49 dX2_findFailedTests_21 rfl rfl rfl ?_
    refine Wp.icmpN_ge (pc2 := 27) 57 dX2_findFailedTests_24 rfl (by decide) (by omega) (by omega) (fun c24 => ?_) (fun c24 => ?_)
    · refine Wp.fg [.ref 19, .int (nI r), .null] (And.intro (Or.inr rfl) (And.intro (Or.inr rfl) (And.intro (Or.inl rfl) trivial))) ?_
      exact K
    · exfalso; omega
  | succ m ih =>
    intro k hk
    have hf := fmk_16 V 0 r (show k ≤ 4 by omega)
    refine Wp.iload_n (pc2 := 20) dX2_findFailedTests_19 rfl rfl ?_
    refine Wp.aload_n (pc2 := 21) dX2_findFailedTests_20 rfl rfl ?_
    refine Wp.getf (pc2 := 24) fX2_49 dX2_findFailedTests_21 rfl rfl rfl ?_
    refine Wp.icmpN_ge (pc2 := 27) 57 dX2_findFailedTests_24 rfl (by decide) (by omega) (by omega) (fun c24 => ?_) (fun c24 => ?_)
    · exfalso; omega
    · refine Wp.aload_n (pc2 := 28) dX2_findFailedTests_27 rfl rfl ?_
      refine Wp.getf (pc2 := 31) fX2_33 dX2_findFailedTests_28 rfl rfl rfl ?_
      refine Wp.iload_n (pc2 := 32) dX2_findFailedTests_31 rfl rfl ?_
      refine Wp.iload_n (pc2 := 33) dX2_findFailedTests_32 rfl rfl ?_
      refine Wp.callV (pc2 := 36) kX2_findFailedTests_73 vX3_passes (x_passes_0 V (ffI V E 0 25 (V 9 0) r k) r k h.1 hr (by omega) (h8 _ (by omega))) dX2_findFailedTests_33 rfl rfl rfl rfl rfl (Nat.le_of_ble_eq_true rfl) ?_
      rintro _ _ ⟨⟨b, rfl, hb⟩, rfl⟩
      refine Wp.ifN_ne (pc2 := 39) 51 dX2_findFailedTests_36 rfl (by decide) (zb_lt _) (fun c36 => ?_) (fun c36 => ?_)
      · rw [ffI_t E 25 (V 9 0) (passB_iff.mpr (hb.mp (zb_1 c36)))]
        refine Wp.iincN (pc2 := 54) dX2_findFailedTests_51 rfl rfl (by decide) rfl ?_
        refine Wp.goto (pc2 := 19) dX2_findFailedTests_54 (by decide) ?_
        exact ih (k + 1) (by omega)
      · refine Wp.aload_n (pc2 := 40) dX2_findFailedTests_39 rfl rfl ?_
        refine Wp.getf (pc2 := 43) fX2_27 dX2_findFailedTests_40 rfl rfl rfl ?_
        refine Wp.iload_n (pc2 := 44) dX2_findFailedTests_43 rfl rfl ?_
        refine Wp.dup2 (pc2 := 45) dX2_findFailedTests_44 rfl rfl rfl ?_
        refine Wp.ialdN (pc2 := 46) dX2_findFailedTests_45 rfl rfl (by omega) (by decide) ?_
        rw [ffI_at]
        refine Wp.iconN (pc2 := 47) 1 dX2_findFailedTests_46 rfl ?_
        refine Wp.iload_n (pc2 := 48) dX2_findFailedTests_47 rfl rfl ?_
        refine Wp.ishl (pc2 := 49) dX2_findFailedTests_48 rfl ?_
        refine Wp.top (nI (2 ^ k)) (shl1 (by omega)) ?_
        refine Wp.ior (pc2 := 50) dX2_findFailedTests_49 rfl ?_
        refine Wp.top (nI (fmk V 0 r k ||| 2 ^ k)) (or16 hf (by omega)) ?_
        refine Wp.iastN (pc2 := 51) dX2_findFailedTests_50 rfl rfl (by omega) (by decide) ?_
        refine Wp.heq (hC_a25 _ _ _ _) ?_
        have hp : ¬ passB V 0 r k = true := fun z => by
          have := hb.mpr (passB_iff.mp z)
          rw [this] at c36; exact absurd c36 (by decide)
        rw [ffI_f E 25 (V 9 0) hp]
        refine Wp.iincN (pc2 := 54) dX2_findFailedTests_51 rfl rfl (by decide) rfl ?_
        refine Wp.goto (pc2 := 19) dX2_findFailedTests_54 (by decide) ?_
        exact ih (k + 1) (by omega)

set_option maxRecDepth 100000 in
set_option maxHeartbeats 4000000 in
theorem x_ff_l_0 (V E : zS) (h : JV V) : ∀ (m r : Nat), r + m = V 10 0 → Wp mX2_findFailedTests (fun zr zq => zr = none ∧ zq = hC V (ffE V E 0 25 (V 9 0) (V 10 0))) 2 [.ref 19, .int (nI r), .null] [] (hC V (ffE V E 0 25 (V 9 0) r)) := by
  have jt := h.2.1 0 (by decide)
  have hn4 : V 9 0 ≤ 4 := by omega
  have h7 : ∀ j, j < 8 → V 7 j ≤ 50 := fun j hj => (h.2.2.1 j hj).2.1
  have h8 : ∀ j, j < 8 → V 4 j < 3 := fun j hj => (h.2.2.1 j hj).1
  intro m
  induction m with
  | zero =>
    intro r hr
    have e : r = V 10 0 := by omega
    subst e
    refine Wp.iload_n (pc2 := 3) dX2_findFailedTests_2 rfl rfl ?_
    refine Wp.aload_n (pc2 := 4) dX2_findFailedTests_3 rfl rfl ?_
    refine Wp.getf (pc2 := 7) fX2_54 dX2_findFailedTests_4 rfl rfl rfl ?_
    refine Wp.icmpN_ge (pc2 := 10) 63 dX2_findFailedTests_7 rfl (by decide) (by omega) (by omega) (fun c7 => ?_) (fun c7 => ?_)
    · refine Wp.retv dX2_findFailedTests_63 rfl ?_
      exact ⟨rfl, rfl⟩
    · exfalso; omega
  | succ m ih =>
    intro r hr
    refine Wp.iload_n (pc2 := 3) dX2_findFailedTests_2 rfl rfl ?_
    refine Wp.aload_n (pc2 := 4) dX2_findFailedTests_3 rfl rfl ?_
    refine Wp.getf (pc2 := 7) fX2_54 dX2_findFailedTests_4 rfl rfl rfl ?_
    refine Wp.icmpN_ge (pc2 := 10) 63 dX2_findFailedTests_7 rfl (by decide) (by omega) (by omega) (fun c7 => ?_) (fun c7 => ?_)
    · exfalso; omega
    · refine Wp.aload_n (pc2 := 11) dX2_findFailedTests_10 rfl rfl ?_
      refine Wp.getf (pc2 := 14) fX2_27 dX2_findFailedTests_11 rfl rfl rfl ?_
      refine Wp.iload_n (pc2 := 15) dX2_findFailedTests_14 rfl rfl ?_
      refine Wp.iconN (pc2 := 16) 0 dX2_findFailedTests_15 rfl ?_
      refine Wp.iastN (pc2 := 17) dX2_findFailedTests_16 rfl rfl (by omega) (by decide) ?_
      refine Wp.heq (hC_a25 _ _ _ _) ?_
      refine Wp.iconN (pc2 := 18) 0 dX2_findFailedTests_17 rfl ?_
      refine Wp.istore_n (pc2 := 19) dX2_findFailedTests_18 rfl (by decide) rfl ?_
      rw [ffI_0]
      refine x_ff_i_0 V E h r (by omega) _ ?_ (V 9 0) 0 (by omega)
      rw [ffI_n]
      refine Wp.iincN (pc2 := 60) dX2_findFailedTests_57 rfl rfl (by decide) rfl ?_
      refine Wp.goto (pc2 := 2) dX2_findFailedTests_60 (by decide) ?_
      exact ih (r + 1) (by omega)

set_option maxRecDepth 100000 in
set_option maxHeartbeats 4000000 in
theorem x_findFailedTests_0 (V E : zS) (h : JV V) : PM mX2_findFailedTests [.ref 19] (hC V E) (fun zr zq => zr = none ∧ zq = hC V (ffE V E 0 25 (V 9 0) (V 10 0))) := by
  refine PM.of (by decide +kernel) (by simp [Value.category]) (Nat.le_of_ble_eq_true rfl) ?_
  refine Wp.iconN (pc2 := 1) 0 dX2_findFailedTests_0 rfl ?_
  refine Wp.istore_n (pc2 := 2) dX2_findFailedTests_1 rfl (by decide) rfl ?_
  refine Wp.heq (h' := hC V (ffE V E 0 25 (V 9 0) 0)) (by rw [ffE_0]) ?_
  exact x_ff_l_0 V E h (V 10 0) 0 (by omega)

set_option maxRecDepth 100000 in
set_option maxHeartbeats 4000000 in
theorem x_rtp_l_0 (V E : zS) (h : JV V) (S : Nat) (hS : S < 16) (hF : ∀ r, r < V 10 0 → E 25 r = fmk V 0 r (V 9 0)) : ∀ (m r : Nat), r + m = V 10 0 → Wp mX2_rowsThatPass (fun zr zq => zr = some (.int (nI (cnt V 0 (V 9 0) S (V 10 0)))) ∧ zq = hC V E) 4 [.ref 19, .int (nI S), .int (nI (cnt V 0 (V 9 0) S r)), .int (nI r)] [] (hC V E) := by
  have jt := h.2.1 0 (by decide)
  have hn4 : V 9 0 ≤ 4 := by omega
  have h7 : ∀ j, j < 8 → V 7 j ≤ 50 := fun j hj => (h.2.2.1 j hj).2.1
  have h8 : ∀ j, j < 8 → V 4 j < 3 := fun j hj => (h.2.2.1 j hj).1
  intro m
  induction m with
  | zero =>
    intro r hr
    have e : r = V 10 0 := by omega
    subst e
    refine Wp.iload_n (pc2 := 5) dX2_rowsThatPass_4 rfl rfl ?_
    refine Wp.aload_n (pc2 := 6) dX2_rowsThatPass_5 rfl rfl ?_
    refine Wp.getf (pc2 := 9) fX2_54 dX2_rowsThatPass_6 rfl rfl rfl ?_
    refine Wp.icmpN_ge (pc2 := 12) 32 dX2_rowsThatPass_9 rfl (by decide) (by omega) (by omega) (fun c9 => ?_) (fun c9 => ?_)
    · refine Wp.iload_n (pc2 := 33) dX2_rowsThatPass_32 rfl rfl ?_
      refine Wp.ret dX2_rowsThatPass_33 rfl rfl ?_
      exact ⟨rfl, rfl⟩
    · exfalso; omega
  | succ m ih =>
    intro r hr
    have hf := fmk_16 V 0 r hn4
    have hFr := hF r (by omega)
    refine Wp.iload_n (pc2 := 5) dX2_rowsThatPass_4 rfl rfl ?_
    refine Wp.aload_n (pc2 := 6) dX2_rowsThatPass_5 rfl rfl ?_
    refine Wp.getf (pc2 := 9) fX2_54 dX2_rowsThatPass_6 rfl rfl rfl ?_
    refine Wp.icmpN_ge (pc2 := 12) 32 dX2_rowsThatPass_9 rfl (by decide) (by omega) (by omega) (fun c9 => ?_) (fun c9 => ?_)
    · exfalso; omega
    · refine Wp.aload_n (pc2 := 13) dX2_rowsThatPass_12 rfl rfl ?_
      refine Wp.getf (pc2 := 16) fX2_27 dX2_rowsThatPass_13 rfl rfl rfl ?_
      refine Wp.iload_n (pc2 := 17) dX2_rowsThatPass_16 rfl rfl ?_
      refine Wp.ialdN (pc2 := 18) dX2_rowsThatPass_17 rfl rfl (by omega) (by decide) ?_
      rw [hFr]
      refine Wp.iload_n (pc2 := 19) dX2_rowsThatPass_18 rfl rfl ?_
      refine Wp.iand (pc2 := 20) dX2_rowsThatPass_19 rfl ?_
      refine Wp.top (nI (fmk V 0 r (V 9 0) &&& S)) (an16 hf hS) ?_
      refine Wp.ifN_ne (pc2 := 23) 26 dX2_rowsThatPass_20 rfl (by decide) (andlt hf) (fun c20 => ?_) (fun c20 => ?_)
      · refine Wp.iincN (pc2 := 29) dX2_rowsThatPass_26 rfl rfl (by decide) rfl ?_
        refine Wp.goto (pc2 := 4) dX2_rowsThatPass_29 (by decide) ?_
        have e : cnt V 0 (V 9 0) S (r + 1) = cnt V 0 (V 9 0) S r := by
          show cnt V 0 (V 9 0) S r + (if fmk V 0 r (V 9 0) &&& S = 0 then 1 else 0) = _
          rw [if_neg c20, Nat.add_zero]
        have k1 := ih (r + 1) (by omega)
        rw [e] at k1
        exact k1
      · refine Wp.iincN (pc2 := 26) dX2_rowsThatPass_23 rfl rfl (by decide) rfl ?_
        refine Wp.iincN (pc2 := 29) dX2_rowsThatPass_26 rfl rfl (by decide) rfl ?_
        refine Wp.goto (pc2 := 4) dX2_rowsThatPass_29 (by decide) ?_
        have e : cnt V 0 (V 9 0) S (r + 1) = cnt V 0 (V 9 0) S r + 1 := by
          show cnt V 0 (V 9 0) S r + (if fmk V 0 r (V 9 0) &&& S = 0 then 1 else 0) = _
          rw [if_pos c20]
        have k1 := ih (r + 1) (by omega)
        rw [e] at k1
        exact k1

set_option maxRecDepth 100000 in
set_option maxHeartbeats 4000000 in
theorem x_rowsThatPass_0 (V E : zS) (h : JV V) (S : Nat) (hS : S < 16) (hF : ∀ r, r < V 10 0 → E 25 r = fmk V 0 r (V 9 0)) : PM mX2_rowsThatPass [.ref 19, .int (nI S)] (hC V E) (fun zr zq => zr = some (.int (nI (cnt V 0 (V 9 0) S (V 10 0)))) ∧ zq = hC V E) := by
  refine PM.of (by decide +kernel) (by simp [Value.category]) (Nat.le_of_ble_eq_true rfl) ?_
  refine Wp.iconN (pc2 := 1) 0 dX2_rowsThatPass_0 rfl ?_
  refine Wp.istore_n (pc2 := 2) dX2_rowsThatPass_1 rfl (by decide) rfl ?_
  refine Wp.iconN (pc2 := 3) 0 dX2_rowsThatPass_2 rfl ?_
  refine Wp.istore_n (pc2 := 4) dX2_rowsThatPass_3 rfl (by decide) rfl ?_
  exact x_rtp_l_0 V E h S hS hF (V 10 0) 0 (by omega)

set_option maxRecDepth 100000 in
set_option maxHeartbeats 4000000 in
theorem x_ff_i_1 (V E : zS) (h : JV V) (r : Nat) (hr : r < 50) (Q : Option Value → zh → Prop) (K : Wp mX2_findFailedTests Q 57 [.ref 27, .int (nI r), .null] [] (hC V (ffI V E 1 33 (V 9 1) r (V 9 1)))) : ∀ (m k : Nat), k + m = V 9 1 → Wp mX2_findFailedTests Q 19 [.ref 27, .int (nI r), .int (nI k)] [] (hC V (ffI V E 1 33 (V 9 1) r k)) := by
  have jt := h.2.1 1 (by decide)
  have hn4 : V 9 1 ≤ 4 := by omega
  have h7 : ∀ j, j < 8 → V 7 j ≤ 50 := fun j hj => (h.2.2.1 j hj).2.1
  have h8 : ∀ j, j < 8 → V 4 j < 3 := fun j hj => (h.2.2.1 j hj).1
  intro m
  induction m with
  | zero =>
    intro k hk
    have e : k = V 9 1 := by omega
    subst e
    refine Wp.iload_n (pc2 := 20) dX2_findFailedTests_19 rfl rfl ?_
    refine Wp.aload_n (pc2 := 21) dX2_findFailedTests_20 rfl rfl ?_
    refine Wp.getf (pc2 := 24) fX2_49 dX2_findFailedTests_21 rfl rfl rfl ?_
    refine Wp.icmpN_ge (pc2 := 27) 57 dX2_findFailedTests_24 rfl (by decide) (by omega) (by omega) (fun c24 => ?_) (fun c24 => ?_)
    · refine Wp.fg [.ref 27, .int (nI r), .null] (And.intro (Or.inr rfl) (And.intro (Or.inr rfl) (And.intro (Or.inl rfl) trivial))) ?_
      exact K
    · exfalso; omega
  | succ m ih =>
    intro k hk
    have hf := fmk_16 V 1 r (show k ≤ 4 by omega)
    refine Wp.iload_n (pc2 := 20) dX2_findFailedTests_19 rfl rfl ?_
    refine Wp.aload_n (pc2 := 21) dX2_findFailedTests_20 rfl rfl ?_
    refine Wp.getf (pc2 := 24) fX2_49 dX2_findFailedTests_21 rfl rfl rfl ?_
    refine Wp.icmpN_ge (pc2 := 27) 57 dX2_findFailedTests_24 rfl (by decide) (by omega) (by omega) (fun c24 => ?_) (fun c24 => ?_)
    · exfalso; omega
    · refine Wp.aload_n (pc2 := 28) dX2_findFailedTests_27 rfl rfl ?_
      refine Wp.getf (pc2 := 31) fX2_33 dX2_findFailedTests_28 rfl rfl rfl ?_
      refine Wp.iload_n (pc2 := 32) dX2_findFailedTests_31 rfl rfl ?_
      refine Wp.iload_n (pc2 := 33) dX2_findFailedTests_32 rfl rfl ?_
      refine Wp.callV (pc2 := 36) kX2_findFailedTests_73 vX3_passes (x_passes_1 V (ffI V E 1 33 (V 9 1) r k) r k h.1 hr (by omega) (h8 _ (by omega))) dX2_findFailedTests_33 rfl rfl rfl rfl rfl (Nat.le_of_ble_eq_true rfl) ?_
      rintro _ _ ⟨⟨b, rfl, hb⟩, rfl⟩
      refine Wp.ifN_ne (pc2 := 39) 51 dX2_findFailedTests_36 rfl (by decide) (zb_lt _) (fun c36 => ?_) (fun c36 => ?_)
      · rw [ffI_t E 33 (V 9 1) (passB_iff.mpr (hb.mp (zb_1 c36)))]
        refine Wp.iincN (pc2 := 54) dX2_findFailedTests_51 rfl rfl (by decide) rfl ?_
        refine Wp.goto (pc2 := 19) dX2_findFailedTests_54 (by decide) ?_
        exact ih (k + 1) (by omega)
      · refine Wp.aload_n (pc2 := 40) dX2_findFailedTests_39 rfl rfl ?_
        refine Wp.getf (pc2 := 43) fX2_27 dX2_findFailedTests_40 rfl rfl rfl ?_
        refine Wp.iload_n (pc2 := 44) dX2_findFailedTests_43 rfl rfl ?_
        refine Wp.dup2 (pc2 := 45) dX2_findFailedTests_44 rfl rfl rfl ?_
        refine Wp.ialdN (pc2 := 46) dX2_findFailedTests_45 rfl rfl (by omega) (by decide) ?_
        rw [ffI_at]
        refine Wp.iconN (pc2 := 47) 1 dX2_findFailedTests_46 rfl ?_
        refine Wp.iload_n (pc2 := 48) dX2_findFailedTests_47 rfl rfl ?_
        refine Wp.ishl (pc2 := 49) dX2_findFailedTests_48 rfl ?_
        refine Wp.top (nI (2 ^ k)) (shl1 (by omega)) ?_
        refine Wp.ior (pc2 := 50) dX2_findFailedTests_49 rfl ?_
        refine Wp.top (nI (fmk V 1 r k ||| 2 ^ k)) (or16 hf (by omega)) ?_
        refine Wp.iastN (pc2 := 51) dX2_findFailedTests_50 rfl rfl (by omega) (by decide) ?_
        refine Wp.heq (hC_a33 _ _ _ _) ?_
        have hp : ¬ passB V 1 r k = true := fun z => by
          have := hb.mpr (passB_iff.mp z)
          rw [this] at c36; exact absurd c36 (by decide)
        rw [ffI_f E 33 (V 9 1) hp]
        refine Wp.iincN (pc2 := 54) dX2_findFailedTests_51 rfl rfl (by decide) rfl ?_
        refine Wp.goto (pc2 := 19) dX2_findFailedTests_54 (by decide) ?_
        exact ih (k + 1) (by omega)

set_option maxRecDepth 100000 in
set_option maxHeartbeats 4000000 in
theorem x_ff_l_1 (V E : zS) (h : JV V) : ∀ (m r : Nat), r + m = V 10 1 → Wp mX2_findFailedTests (fun zr zq => zr = none ∧ zq = hC V (ffE V E 1 33 (V 9 1) (V 10 1))) 2 [.ref 27, .int (nI r), .null] [] (hC V (ffE V E 1 33 (V 9 1) r)) := by
  have jt := h.2.1 1 (by decide)
  have hn4 : V 9 1 ≤ 4 := by omega
  have h7 : ∀ j, j < 8 → V 7 j ≤ 50 := fun j hj => (h.2.2.1 j hj).2.1
  have h8 : ∀ j, j < 8 → V 4 j < 3 := fun j hj => (h.2.2.1 j hj).1
  intro m
  induction m with
  | zero =>
    intro r hr
    have e : r = V 10 1 := by omega
    subst e
    refine Wp.iload_n (pc2 := 3) dX2_findFailedTests_2 rfl rfl ?_
    refine Wp.aload_n (pc2 := 4) dX2_findFailedTests_3 rfl rfl ?_
    refine Wp.getf (pc2 := 7) fX2_54 dX2_findFailedTests_4 rfl rfl rfl ?_
    refine Wp.icmpN_ge (pc2 := 10) 63 dX2_findFailedTests_7 rfl (by decide) (by omega) (by omega) (fun c7 => ?_) (fun c7 => ?_)
    · refine Wp.retv dX2_findFailedTests_63 rfl ?_
      exact ⟨rfl, rfl⟩
    · exfalso; omega
  | succ m ih =>
    intro r hr
    refine Wp.iload_n (pc2 := 3) dX2_findFailedTests_2 rfl rfl ?_
    refine Wp.aload_n (pc2 := 4) dX2_findFailedTests_3 rfl rfl ?_
    refine Wp.getf (pc2 := 7) fX2_54 dX2_findFailedTests_4 rfl rfl rfl ?_
    refine Wp.icmpN_ge (pc2 := 10) 63 dX2_findFailedTests_7 rfl (by decide) (by omega) (by omega) (fun c7 => ?_) (fun c7 => ?_)
    · exfalso; omega
    · refine Wp.aload_n (pc2 := 11) dX2_findFailedTests_10 rfl rfl ?_
      refine Wp.getf (pc2 := 14) fX2_27 dX2_findFailedTests_11 rfl rfl rfl ?_
      refine Wp.iload_n (pc2 := 15) dX2_findFailedTests_14 rfl rfl ?_
      refine Wp.iconN (pc2 := 16) 0 dX2_findFailedTests_15 rfl ?_
      refine Wp.iastN (pc2 := 17) dX2_findFailedTests_16 rfl rfl (by omega) (by decide) ?_
      refine Wp.heq (hC_a33 _ _ _ _) ?_
      refine Wp.iconN (pc2 := 18) 0 dX2_findFailedTests_17 rfl ?_
      refine Wp.istore_n (pc2 := 19) dX2_findFailedTests_18 rfl (by decide) rfl ?_
      rw [ffI_0]
      refine x_ff_i_1 V E h r (by omega) _ ?_ (V 9 1) 0 (by omega)
      rw [ffI_n]
      refine Wp.iincN (pc2 := 60) dX2_findFailedTests_57 rfl rfl (by decide) rfl ?_
      refine Wp.goto (pc2 := 2) dX2_findFailedTests_60 (by decide) ?_
      exact ih (r + 1) (by omega)

set_option maxRecDepth 100000 in
set_option maxHeartbeats 4000000 in
theorem x_findFailedTests_1 (V E : zS) (h : JV V) : PM mX2_findFailedTests [.ref 27] (hC V E) (fun zr zq => zr = none ∧ zq = hC V (ffE V E 1 33 (V 9 1) (V 10 1))) := by
  refine PM.of (by decide +kernel) (by simp [Value.category]) (Nat.le_of_ble_eq_true rfl) ?_
  refine Wp.iconN (pc2 := 1) 0 dX2_findFailedTests_0 rfl ?_
  refine Wp.istore_n (pc2 := 2) dX2_findFailedTests_1 rfl (by decide) rfl ?_
  refine Wp.heq (h' := hC V (ffE V E 1 33 (V 9 1) 0)) (by rw [ffE_0]) ?_
  exact x_ff_l_1 V E h (V 10 1) 0 (by omega)

set_option maxRecDepth 100000 in
set_option maxHeartbeats 4000000 in
theorem x_rtp_l_1 (V E : zS) (h : JV V) (S : Nat) (hS : S < 16) (hF : ∀ r, r < V 10 1 → E 33 r = fmk V 1 r (V 9 1)) : ∀ (m r : Nat), r + m = V 10 1 → Wp mX2_rowsThatPass (fun zr zq => zr = some (.int (nI (cnt V 1 (V 9 1) S (V 10 1)))) ∧ zq = hC V E) 4 [.ref 27, .int (nI S), .int (nI (cnt V 1 (V 9 1) S r)), .int (nI r)] [] (hC V E) := by
  have jt := h.2.1 1 (by decide)
  have hn4 : V 9 1 ≤ 4 := by omega
  have h7 : ∀ j, j < 8 → V 7 j ≤ 50 := fun j hj => (h.2.2.1 j hj).2.1
  have h8 : ∀ j, j < 8 → V 4 j < 3 := fun j hj => (h.2.2.1 j hj).1
  intro m
  induction m with
  | zero =>
    intro r hr
    have e : r = V 10 1 := by omega
    subst e
    refine Wp.iload_n (pc2 := 5) dX2_rowsThatPass_4 rfl rfl ?_
    refine Wp.aload_n (pc2 := 6) dX2_rowsThatPass_5 rfl rfl ?_
    refine Wp.getf (pc2 := 9) fX2_54 dX2_rowsThatPass_6 rfl rfl rfl ?_
    refine Wp.icmpN_ge (pc2 := 12) 32 dX2_rowsThatPass_9 rfl (by decide) (by omega) (by omega) (fun c9 => ?_) (fun c9 => ?_)
    · refine Wp.iload_n (pc2 := 33) dX2_rowsThatPass_32 rfl rfl ?_
      refine Wp.ret dX2_rowsThatPass_33 rfl rfl ?_
      exact ⟨rfl, rfl⟩
    · exfalso; omega
  | succ m ih =>
    intro r hr
    have hf := fmk_16 V 1 r hn4
    have hFr := hF r (by omega)
    refine Wp.iload_n (pc2 := 5) dX2_rowsThatPass_4 rfl rfl ?_
    refine Wp.aload_n (pc2 := 6) dX2_rowsThatPass_5 rfl rfl ?_
    refine Wp.getf (pc2 := 9) fX2_54 dX2_rowsThatPass_6 rfl rfl rfl ?_
    refine Wp.icmpN_ge (pc2 := 12) 32 dX2_rowsThatPass_9 rfl (by decide) (by omega) (by omega) (fun c9 => ?_) (fun c9 => ?_)
    · exfalso; omega
    · refine Wp.aload_n (pc2 := 13) dX2_rowsThatPass_12 rfl rfl ?_
      refine Wp.getf (pc2 := 16) fX2_27 dX2_rowsThatPass_13 rfl rfl rfl ?_
      refine Wp.iload_n (pc2 := 17) dX2_rowsThatPass_16 rfl rfl ?_
      refine Wp.ialdN (pc2 := 18) dX2_rowsThatPass_17 rfl rfl (by omega) (by decide) ?_
      rw [hFr]
      refine Wp.iload_n (pc2 := 19) dX2_rowsThatPass_18 rfl rfl ?_
      refine Wp.iand (pc2 := 20) dX2_rowsThatPass_19 rfl ?_
      refine Wp.top (nI (fmk V 1 r (V 9 1) &&& S)) (an16 hf hS) ?_
      refine Wp.ifN_ne (pc2 := 23) 26 dX2_rowsThatPass_20 rfl (by decide) (andlt hf) (fun c20 => ?_) (fun c20 => ?_)
      · refine Wp.iincN (pc2 := 29) dX2_rowsThatPass_26 rfl rfl (by decide) rfl ?_
        refine Wp.goto (pc2 := 4) dX2_rowsThatPass_29 (by decide) ?_
        have e : cnt V 1 (V 9 1) S (r + 1) = cnt V 1 (V 9 1) S r := by
          show cnt V 1 (V 9 1) S r + (if fmk V 1 r (V 9 1) &&& S = 0 then 1 else 0) = _
          rw [if_neg c20, Nat.add_zero]
        have k1 := ih (r + 1) (by omega)
        rw [e] at k1
        exact k1
      · refine Wp.iincN (pc2 := 26) dX2_rowsThatPass_23 rfl rfl (by decide) rfl ?_
        refine Wp.iincN (pc2 := 29) dX2_rowsThatPass_26 rfl rfl (by decide) rfl ?_
        refine Wp.goto (pc2 := 4) dX2_rowsThatPass_29 (by decide) ?_
        have e : cnt V 1 (V 9 1) S (r + 1) = cnt V 1 (V 9 1) S r + 1 := by
          show cnt V 1 (V 9 1) S r + (if fmk V 1 r (V 9 1) &&& S = 0 then 1 else 0) = _
          rw [if_pos c20]
        have k1 := ih (r + 1) (by omega)
        rw [e] at k1
        exact k1

set_option maxRecDepth 100000 in
set_option maxHeartbeats 4000000 in
theorem x_rowsThatPass_1 (V E : zS) (h : JV V) (S : Nat) (hS : S < 16) (hF : ∀ r, r < V 10 1 → E 33 r = fmk V 1 r (V 9 1)) : PM mX2_rowsThatPass [.ref 27, .int (nI S)] (hC V E) (fun zr zq => zr = some (.int (nI (cnt V 1 (V 9 1) S (V 10 1)))) ∧ zq = hC V E) := by
  refine PM.of (by decide +kernel) (by simp [Value.category]) (Nat.le_of_ble_eq_true rfl) ?_
  refine Wp.iconN (pc2 := 1) 0 dX2_rowsThatPass_0 rfl ?_
  refine Wp.istore_n (pc2 := 2) dX2_rowsThatPass_1 rfl (by decide) rfl ?_
  refine Wp.iconN (pc2 := 3) 0 dX2_rowsThatPass_2 rfl ?_
  refine Wp.istore_n (pc2 := 4) dX2_rowsThatPass_3 rfl (by decide) rfl ?_
  exact x_rtp_l_1 V E h S hS hF (V 10 1) 0 (by omega)

theorem mmS : Cond.static Lib.Math.min.name ∈ zT := zT_t 436 (by decide +kernel) (by decide +kernel)
theorem mmC : Cond.code Lib.Math.min.name Lib.Math.min.code 2 (some .int) ∈ zT := zT_t 437 (by decide +kernel) (by decide +kernel)
theorem mmI : Cond.initialized "java/lang/Math" ∈ zT := zT_t 8 (by decide +kernel) (by decide +kernel)
theorem mmL : Cond.methodLink RX2 98 Lib.Math.min.name ∈ zT := zT_t 435 (by decide +kernel) (by decide +kernel)
theorem Wp.mmin {M : zm_I} {Q : Option Value → zh → Prop} {pc pc2 : Nat} {L st : List Value} {h : zh} {idx a b : Nat} (d : decode (zm_c M) pc = .ok (.invokestatic idx, 3)) (hp : pc + 3 = pc2) (hl : Cond.methodLink (zm_y M).cls idx Lib.Math.min.name ∈ zT) (hf : 1 ≤ (zm_R M).frames) (hlo : 21 ≤ (zm_R M).locals) (hr : (st.map fun v => v.category).sum ≤ 8) (ha : a < 2 ^ 31) (hb : b < 2 ^ 31) (k : Wp M Q pc2 L (.int (nI (min a b)) :: st) h) : Wp M Q pc L (.int (nI b) :: .int (nI a) :: st) h := by
  subst hp
  intro p l e s m args below meth c D ad ca A H locs ls C Hh hl'
  have hts := C.2.2.2.2.2.2.1
  have hr2 : (((st.map (zv ad)).map fun v => v.category).sum) ≤ 8 := by
    have e : (st.map (zv ad)).map (fun v => v.category) = st.map (fun v => v.category) := by
      rw [List.map_map]
      exact List.map_congr_left (fun v _ => zv_cat ad v)
    rw [e]; exact hr
  have em : (if nI b < nI a then nI b else nI a) = nI (min a b) := by
    by_cases q : b < a
    · rw [if_pos ((nI_ltI hb ha).mpr q), Nat.min_eq_right (Nat.le_of_lt q)]
    · rw [if_neg (fun z => q ((nI_ltI hb ha).mp z)), Nat.min_eq_left (Nat.le_of_not_lt q)]
  refine va_mmin C.1 C.2.1 (by rw [C.2.2.2.1, hl'.1]) C.2.2.2.2.1 (hts _ hl) (hts _ mmS) (hts _ mmI) (hts _ mmC) hf (by omega) (Nat.zero_le _) (Nat.zero_le _) d ?_
  rw [em]
  exact k p l e s m args below meth c D ad ca A H locs ls C Hh hl'

theorem lc_f {E : zS} {c : Nat} : (fun j => if j < 16 then nI 10001 else nI (E c j)) = fun j => nI (eSet E c (fun j => if j < 16 then 10001 else E c j) c j) := by
  funext j
  rw [eSet_at]
  by_cases q : j < 16
  · rw [if_pos q, if_pos q]
  · rw [if_neg q, if_neg q]
theorem dp_0 {V E : zS} {t n R c : Nat} (hn : n ≤ 4) : dpJ V t n R 0 0 (fun j => if j = 0 then 0 else if j < 16 then 10001 else E c j) := by
  refine ⟨rfl, fun T hT => ?_, fun S y h => by omega⟩
  have h16 := (pw16 hn).1
  by_cases q : T = 0
  · refine Or.inr ⟨fun _ => 0, 0, fun i hi => by omega, fun i j _ hj => by omega, ?_, ?_⟩
    · rw [q]; rfl
    · rw [q]; rfl
  · refine Or.inl ?_
    show (if T = 0 then 0 else if T < 16 then 10001 else E c T) = 10001
    rw [if_neg q, if_pos (by omega)]

theorem hC_l0 (V E : zS) : (hC V E).set 26 (.inl (0, 16, .inl (fun j => if j < 16 then nI 10001 else nI (E 26 j)))) = hC V (eSet E 26 (fun j => if j < 16 then 10001 else E 26 j)) := by
  rw [lc_f]
  rfl
theorem ffr_0 (V E : zS) (L : Nat → Nat) : ∀ r, r < V 10 0 → eSet (ffE V E 0 25 (V 9 0) (V 10 0)) 26 L 25 r = fmk V 0 r (V 9 0) := by
  intro r hr
  rw [eSet_o _ _ _ (by decide)]
  exact ffE_lt hr

set_option maxRecDepth 100000 in
set_option maxHeartbeats 4000000 in
theorem x_cf_i_0 (V E : zS) (h : JV V) (hE : BL E) (s : Nat) (hs : s < 2 ^ V 9 0) (Q : Option Value → zh → Prop) (K : ∀ L, dpJ V 0 (V 9 0) (V 10 0) s (V 9 0) L → (∀ j, L j < 2 ^ 31) → Wp mX2_cheapestFixedOrder Q 115 [.ref 19, .int (nI (2 ^ V 9 0)), .int (nI s), .null, .null, .null, .null] [] (hC V (eSet (ffE V E 0 25 (V 9 0) (V 10 0)) 26 L))) : ∀ (m x : Nat) (L : Nat → Nat), x + m = V 9 0 → dpJ V 0 (V 9 0) (V 10 0) s x L → (∀ j, L j < 2 ^ 31) → Wp mX2_cheapestFixedOrder Q 46 [.ref 19, .int (nI (2 ^ V 9 0)), .int (nI s), .int (nI (cnt V 0 (V 9 0) s (V 10 0))), .int (nI x), .null, .null] [] (hC V (eSet (ffE V E 0 25 (V 9 0) (V 10 0)) 26 L)) := by
  have jt := h.2.1 0 (by decide)
  have hn4 : V 9 0 ≤ 4 := by omega
  have h7 : ∀ j, j < 8 → V 7 j ≤ 50 := fun j hj => (h.2.2.1 j hj).2.1
  have h8 : ∀ j, j < 8 → V 4 j < 3 := fun j hj => (h.2.2.1 j hj).1
  have hpw := pw16 hn4
  have hR50 : V 10 0 ≤ 50 := by omega
  intro m
  induction m with
  | zero =>
    intro x L hx hd hL
    have e : x = V 9 0 := by omega
    subst e
    refine Wp.iload (pc2 := 48) dX2_cheapestFixedOrder_46 rfl rfl ?_
    refine Wp.aload_n (pc2 := 49) dX2_cheapestFixedOrder_48 rfl rfl ?_
    refine Wp.getf (pc2 := 52) fX2_49 dX2_cheapestFixedOrder_49 rfl rfl rfl ?_
    refine Wp.icmpN_ge (pc2 := 55) 115 dX2_cheapestFixedOrder_52 rfl (by decide) (by omega) (by omega) (fun c52 => ?_) (fun c52 => ?_)
    · refine Wp.fg [.ref 19, .int (nI (2 ^ V 9 0)), .int (nI s), .null, .null, .null, .null] (And.intro (Or.inr rfl) (And.intro (Or.inr rfl) (And.intro (Or.inr rfl) (And.intro (Or.inl rfl) (And.intro (Or.inl rfl) (And.intro (Or.inl rfl) (And.intro (Or.inl rfl) trivial))))))) ?_
      exact K L hd hL
    · exfalso; omega
  | succ m ih =>
    intro x L hx hd hL
    have hu := set_up hn4 hs (show x < V 9 0 by omega)
    have hsm := dp_small h7 (by decide) hn4 hR50 hd (s + 1) s (by omega) (Nat.le_refl _) hs
    have hw := W_le (V := V) (t := 0) (n := (V 9 0)) (S := s) (y := x) (R := (V 10 0)) h7 (by decide) (by omega) hR50
    refine Wp.iload (pc2 := 48) dX2_cheapestFixedOrder_46 rfl rfl ?_
    refine Wp.aload_n (pc2 := 49) dX2_cheapestFixedOrder_48 rfl rfl ?_
    refine Wp.getf (pc2 := 52) fX2_49 dX2_cheapestFixedOrder_49 rfl rfl rfl ?_
    refine Wp.icmpN_ge (pc2 := 55) 115 dX2_cheapestFixedOrder_52 rfl (by decide) (by omega) (by omega) (fun c52 => ?_) (fun c52 => ?_)
    · exfalso; omega
    · refine Wp.iload_n (pc2 := 56) dX2_cheapestFixedOrder_55 rfl rfl ?_
      refine Wp.iconN (pc2 := 57) 1 dX2_cheapestFixedOrder_56 rfl ?_
      refine Wp.iload (pc2 := 59) dX2_cheapestFixedOrder_57 rfl rfl ?_
      refine Wp.ishl (pc2 := 60) dX2_cheapestFixedOrder_59 rfl ?_
      refine Wp.top (nI (2 ^ x)) (shl1 (by omega)) ?_
      refine Wp.ior (pc2 := 61) dX2_cheapestFixedOrder_60 rfl ?_
      refine Wp.top (nI (s ||| 2 ^ x)) (or16 (by omega) (by omega)) ?_
      refine Wp.istore (pc2 := 63) dX2_cheapestFixedOrder_61 rfl (by decide) rfl ?_
      refine Wp.iload (pc2 := 65) dX2_cheapestFixedOrder_63 rfl rfl ?_
      refine Wp.iload_n (pc2 := 66) dX2_cheapestFixedOrder_65 rfl rfl ?_
      refine Wp.icmpN_eq (pc2 := 69) 109 dX2_cheapestFixedOrder_66 rfl (by decide) (by omega) (by omega) (fun c66 => ?_) (fun c66 => ?_)
      · refine Wp.iincN (pc2 := 112) dX2_cheapestFixedOrder_109 rfl rfl (by decide) rfl ?_
        refine Wp.goto (pc2 := 46) dX2_cheapestFixedOrder_112 (by decide) ?_
        refine Wp.fg [.ref 19, .int (nI (2 ^ V 9 0)), .int (nI s), .int (nI (cnt V 0 (V 9 0) s (V 10 0))), .int (nI (x + 1)), .null, .null] (And.intro (Or.inr rfl) (And.intro (Or.inr rfl) (And.intro (Or.inr rfl) (And.intro (Or.inr rfl) (And.intro (Or.inr rfl) (And.intro (Or.inl rfl) (And.intro (Or.inl rfl) trivial))))))) ?_
        exact ih (x + 1) L (by omega) (dp_skip hd (hu.2.1.mpr c66)) hL
      · refine Wp.aload_n (pc2 := 70) dX2_cheapestFixedOrder_69 rfl rfl ?_
        refine Wp.getf (pc2 := 73) fX2_30 dX2_cheapestFixedOrder_70 rfl rfl rfl ?_
        refine Wp.iload_n (pc2 := 74) dX2_cheapestFixedOrder_73 rfl rfl ?_
        refine Wp.ialdN (pc2 := 75) dX2_cheapestFixedOrder_74 rfl rfl (by omega) (by decide) ?_
        rw [eSet_at]
        refine Wp.iload_n (pc2 := 76) dX2_cheapestFixedOrder_75 rfl rfl ?_
        refine Wp.aload_n (pc2 := 77) dX2_cheapestFixedOrder_76 rfl rfl ?_
        refine Wp.getf (pc2 := 80) fX2_33 dX2_cheapestFixedOrder_77 rfl rfl rfl ?_
        refine Wp.getf (pc2 := 83) fX2_70 dX2_cheapestFixedOrder_80 rfl rfl rfl ?_
        refine Wp.iload (pc2 := 85) dX2_cheapestFixedOrder_83 rfl rfl ?_
        refine Wp.cald (pc2 := 86) dX2_cheapestFixedOrder_85 rfl rfl (by omega) (by decide) ?_
        refine Wp.imulN (pc2 := 87) dX2_cheapestFixedOrder_86 rfl  ?_
        change Wp _ _ _ _ (.int (nI (cnt V 0 (V 9 0) s (V 10 0) * V 7 (4 * 0 + x))) :: _) _
        refine Wp.iaddN (pc2 := 88) dX2_cheapestFixedOrder_87 rfl  ?_
        refine Wp.istore (pc2 := 90) dX2_cheapestFixedOrder_88 rfl (by decide) rfl ?_
        refine Wp.aload_n (pc2 := 91) dX2_cheapestFixedOrder_90 rfl rfl ?_
        refine Wp.getf (pc2 := 94) fX2_30 dX2_cheapestFixedOrder_91 rfl rfl rfl ?_
        refine Wp.iload (pc2 := 96) dX2_cheapestFixedOrder_94 rfl rfl ?_
        refine Wp.aload_n (pc2 := 97) dX2_cheapestFixedOrder_96 rfl rfl ?_
        refine Wp.getf (pc2 := 100) fX2_30 dX2_cheapestFixedOrder_97 rfl rfl rfl ?_
        refine Wp.iload (pc2 := 102) dX2_cheapestFixedOrder_100 rfl rfl ?_
        refine Wp.ialdN (pc2 := 103) dX2_cheapestFixedOrder_102 rfl rfl (by omega) (by decide) ?_
        rw [eSet_at]
        refine Wp.iload (pc2 := 105) dX2_cheapestFixedOrder_103 rfl rfl ?_
        refine Wp.mmin (pc2 := 108) dX2_cheapestFixedOrder_105 rfl mmL (Nat.le_of_ble_eq_true rfl) (Nat.le_of_ble_eq_true rfl) (Nat.le_of_ble_eq_true rfl) (hL _) (by omega) ?_
        refine Wp.iastN (pc2 := 109) dX2_cheapestFixedOrder_108 rfl rfl (by omega) (by decide) ?_
        refine Wp.heq (hC_a26 _ _ _ _) ?_
        refine Wp.iincN (pc2 := 112) dX2_cheapestFixedOrder_109 rfl rfl (by decide) rfl ?_
        refine Wp.goto (pc2 := 46) dX2_cheapestFixedOrder_112 (by decide) ?_
        refine Wp.fg [.ref 19, .int (nI (2 ^ V 9 0)), .int (nI s), .int (nI (cnt V 0 (V 9 0) s (V 10 0))), .int (nI (x + 1)), .null, .null] (And.intro (Or.inr rfl) (And.intro (Or.inr rfl) (And.intro (Or.inr rfl) (And.intro (Or.inr rfl) (And.intro (Or.inr rfl) (And.intro (Or.inl rfl) (And.intro (Or.inl rfl) trivial))))))) ?_
        rw [eSet_vs]
        exact ih (x + 1) _ (by omega) (dp_step h7 (by decide) hn4 hR50 hs (by omega) hd (fun z => c66 (hu.2.1.mp z))) (fun j => by
          show (if j = s ||| 2 ^ x then min (L (s ||| 2 ^ x)) (L s + cnt V 0 (V 9 0) s (V 10 0) * V 7 (4 * 0 + x)) else L j) < 2 ^ 31
          split
          · exact Nat.lt_of_le_of_lt (Nat.min_le_left _ _) (hL _)
          · exact hL j)

set_option maxRecDepth 100000 in
set_option maxHeartbeats 4000000 in
theorem x_cf_o_0 (V E : zS) (h : JV V) (hE : BL E) : ∀ (m s : Nat) (L : Nat → Nat), s + m = 2 ^ V 9 0 - 1 → dpJ V 0 (V 9 0) (V 10 0) s 0 L → (∀ j, L j < 2 ^ 31) → Wp mX2_cheapestFixedOrder (fun zr zq => (∃ m, FX V 0 m ∧ zr = some (.int (nI m))) ∧ ∃ E', BL E' ∧ zq = hC V E' ∧ ∀ a b, a ≠ 19 + 6 → a ≠ 19 + 7 → E' a b = E a b) 30 [.ref 19, .int (nI (2 ^ V 9 0)), .int (nI s), .null, .null, .null, .null] [] (hC V (eSet (ffE V E 0 25 (V 9 0) (V 10 0)) 26 L)) := by
  have jt := h.2.1 0 (by decide)
  have hn4 : V 9 0 ≤ 4 := by omega
  have h7 : ∀ j, j < 8 → V 7 j ≤ 50 := fun j hj => (h.2.2.1 j hj).2.1
  have h8 : ∀ j, j < 8 → V 4 j < 3 := fun j hj => (h.2.2.1 j hj).1
  have hpw := pw16 hn4
  have hR50 : V 10 0 ≤ 50 := by omega
  intro m
  induction m with
  | zero =>
    intro s L hs hd hL
    have e : s = 2 ^ V 9 0 - 1 := by omega
    subst e
    have hend := dp_end h7 (by decide) hn4 hR50 hd
    refine Wp.iload_n (pc2 := 31) dX2_cheapestFixedOrder_30 rfl rfl ?_
    refine Wp.iload_n (pc2 := 32) dX2_cheapestFixedOrder_31 rfl rfl ?_
    refine Wp.iconN (pc2 := 33) 1 dX2_cheapestFixedOrder_32 rfl ?_
    refine Wp.isubN (pc2 := 34) dX2_cheapestFixedOrder_33 rfl (by omega) ?_
    refine Wp.icmpN_ge (pc2 := 37) 121 dX2_cheapestFixedOrder_34 rfl (by decide) (by omega) (by omega) (fun c34 => ?_) (fun c34 => ?_)
    · refine Wp.aload_n (pc2 := 122) dX2_cheapestFixedOrder_121 rfl rfl ?_
      refine Wp.getf (pc2 := 125) fX2_30 dX2_cheapestFixedOrder_122 rfl rfl rfl ?_
      refine Wp.iload_n (pc2 := 126) dX2_cheapestFixedOrder_125 rfl rfl ?_
      refine Wp.iconN (pc2 := 127) 1 dX2_cheapestFixedOrder_126 rfl ?_
      refine Wp.isubN (pc2 := 128) dX2_cheapestFixedOrder_127 rfl (by omega) ?_
      refine Wp.ialdN (pc2 := 129) dX2_cheapestFixedOrder_128 rfl rfl (by omega) (by decide) ?_
      rw [eSet_at]
      refine Wp.ret dX2_cheapestFixedOrder_129 rfl rfl ?_
      refine ⟨⟨_, hend.1, rfl⟩, _, BL_eSet (BL_ffE hE hn4) hL, rfl, fun a b h1 h2 => ?_⟩
      rw [eSet_o _ _ _ h2]
      exact eSet_o _ _ _ h1
    · exfalso; omega
  | succ m ih =>
    intro s L hs hd hL
    refine Wp.iload_n (pc2 := 31) dX2_cheapestFixedOrder_30 rfl rfl ?_
    refine Wp.iload_n (pc2 := 32) dX2_cheapestFixedOrder_31 rfl rfl ?_
    refine Wp.iconN (pc2 := 33) 1 dX2_cheapestFixedOrder_32 rfl ?_
    refine Wp.isubN (pc2 := 34) dX2_cheapestFixedOrder_33 rfl (by omega) ?_
    refine Wp.icmpN_ge (pc2 := 37) 121 dX2_cheapestFixedOrder_34 rfl (by decide) (by omega) (by omega) (fun c34 => ?_) (fun c34 => ?_)
    · exfalso; omega
    · refine Wp.aload_n (pc2 := 38) dX2_cheapestFixedOrder_37 rfl rfl ?_
      refine Wp.iload_n (pc2 := 39) dX2_cheapestFixedOrder_38 rfl rfl ?_
      refine Wp.callV (pc2 := 42) kX2_cheapestFixedOrder_94 vX2_rowsThatPass (x_rowsThatPass_0 V (eSet (ffE V E 0 25 (V 9 0) (V 10 0)) 26 L) h s (by omega) (ffr_0 V E L)) dX2_cheapestFixedOrder_39 rfl rfl rfl rfl rfl (Nat.le_of_ble_eq_true rfl) ?_
      rintro _ _ ⟨rfl, rfl⟩
      refine Wp.istore_n (pc2 := 43) dX2_cheapestFixedOrder_42 rfl (by decide) rfl ?_
      refine Wp.iconN (pc2 := 44) 0 dX2_cheapestFixedOrder_43 rfl ?_
      refine Wp.istore (pc2 := 46) dX2_cheapestFixedOrder_44 rfl (by decide) rfl ?_
      refine Wp.fg [.ref 19, .int (nI (2 ^ V 9 0)), .int (nI s), .int (nI (cnt V 0 (V 9 0) s (V 10 0))), .int (nI 0), .null, .null] (And.intro (Or.inr rfl) (And.intro (Or.inr rfl) (And.intro (Or.inr rfl) (And.intro (Or.inr rfl) (And.intro (Or.inr rfl) (And.intro (Or.inl rfl) (And.intro (Or.inl rfl) trivial))))))) ?_
      refine x_cf_i_0 V E h hE s (by omega) _ (fun L' hd' hL' => ?_) (V 9 0) 0 L (by omega) hd hL
      refine Wp.iincN (pc2 := 118) dX2_cheapestFixedOrder_115 rfl rfl (by decide) rfl ?_
      refine Wp.goto (pc2 := 30) dX2_cheapestFixedOrder_118 (by decide) ?_
      exact ih (s + 1) L' (by omega) (dp_next hd') hL'

set_option maxRecDepth 100000 in
set_option maxHeartbeats 4000000 in
theorem x_cheapest_0 (V E : zS) (h : JV V) (hE : BL E) : PM mX2_cheapestFixedOrder [.ref 19] (hC V E) (fun zr zq => (∃ m, FX V 0 m ∧ zr = some (.int (nI m))) ∧ ∃ E', BL E' ∧ zq = hC V E' ∧ ∀ a b, a ≠ 19 + 6 → a ≠ 19 + 7 → E' a b = E a b) := by
  refine PM.of (by decide +kernel) (by simp [Value.category]) (Nat.le_of_ble_eq_true rfl) ?_
  have jt := h.2.1 0 (by decide)
  have hn4 : V 9 0 ≤ 4 := by omega
  have h7 : ∀ j, j < 8 → V 7 j ≤ 50 := fun j hj => (h.2.2.1 j hj).2.1
  have h8 : ∀ j, j < 8 → V 4 j < 3 := fun j hj => (h.2.2.1 j hj).1
  have hpw := pw16 hn4
  have hR50 : V 10 0 ≤ 50 := by omega
  refine Wp.aload_n (pc2 := 1) dX2_cheapestFixedOrder_0 rfl rfl ?_
  refine Wp.callV (pc2 := 4) kX2_cheapestFixedOrder_91 vX2_findFailedTests (x_findFailedTests_0 V E h) dX2_cheapestFixedOrder_1 rfl rfl rfl rfl rfl (Nat.le_of_ble_eq_true rfl) ?_
  rintro _ _ ⟨rfl, rfl⟩
  refine Wp.iconN (pc2 := 5) 1 dX2_cheapestFixedOrder_4 rfl ?_
  refine Wp.aload_n (pc2 := 6) dX2_cheapestFixedOrder_5 rfl rfl ?_
  refine Wp.getf (pc2 := 9) fX2_49 dX2_cheapestFixedOrder_6 rfl rfl rfl ?_
  refine Wp.ishl (pc2 := 10) dX2_cheapestFixedOrder_9 rfl ?_
  refine Wp.top (nI (2 ^ V 9 0)) (shl1 (by omega)) ?_
  refine Wp.istore_n (pc2 := 11) dX2_cheapestFixedOrder_10 rfl (by decide) rfl ?_
  refine Wp.aload_n (pc2 := 12) dX2_cheapestFixedOrder_11 rfl rfl ?_
  refine Wp.getf (pc2 := 15) fX2_30 dX2_cheapestFixedOrder_12 rfl rfl rfl ?_
  refine Wp.sipN (pc2 := 18) 10001 dX2_cheapestFixedOrder_15 rfl (by decide +kernel) ?_
  refine Wp.callS (pc2 := 21) kX2_cheapestFixedOrder_37 sJ7_fill_53178 (x_fill _ 26 16 _ (nI 10001) rfl (by decide)) dX2_cheapestFixedOrder_18 rfl rfl rfl (Nat.le_of_ble_eq_true rfl) ?_
  rintro _ _ ⟨rfl, rfl⟩
  refine Wp.heq (hC_l0 _ _) ?_
  refine Wp.aload_n (pc2 := 22) dX2_cheapestFixedOrder_21 rfl rfl ?_
  refine Wp.getf (pc2 := 25) fX2_30 dX2_cheapestFixedOrder_22 rfl rfl rfl ?_
  refine Wp.iconN (pc2 := 26) 0 dX2_cheapestFixedOrder_25 rfl ?_
  refine Wp.iconN (pc2 := 27) 0 dX2_cheapestFixedOrder_26 rfl ?_
  refine Wp.iastN (pc2 := 28) dX2_cheapestFixedOrder_27 rfl rfl (by omega) (by decide) ?_
  refine Wp.heq (hC_a26 _ _ _ _) ?_
  refine Wp.iconN (pc2 := 29) 0 dX2_cheapestFixedOrder_28 rfl ?_
  refine Wp.istore_n (pc2 := 30) dX2_cheapestFixedOrder_29 rfl (by decide) rfl ?_
  rw [eSet_vs]
  refine x_cf_o_0 V E h hE (2 ^ V 9 0 - 1) 0 _ (by omega) (dp_0 (E := (ffE V E 0 25 (V 9 0) (V 10 0))) (c := 26) hn4) (fun j => ?_)
  show (if j = 0 then 0 else if j < 16 then 10001 else (ffE V E 0 25 (V 9 0) (V 10 0)) 26 j) < 2 ^ 31
  split
  · decide
  · split
    · decide
    · exact BL_ffE hE hn4 _ _

theorem hC_l1 (V E : zS) : (hC V E).set 34 (.inl (0, 16, .inl (fun j => if j < 16 then nI 10001 else nI (E 34 j)))) = hC V (eSet E 34 (fun j => if j < 16 then 10001 else E 34 j)) := by
  rw [lc_f]
  rfl
theorem ffr_1 (V E : zS) (L : Nat → Nat) : ∀ r, r < V 10 1 → eSet (ffE V E 1 33 (V 9 1) (V 10 1)) 34 L 33 r = fmk V 1 r (V 9 1) := by
  intro r hr
  rw [eSet_o _ _ _ (by decide)]
  exact ffE_lt hr

set_option maxRecDepth 100000 in
set_option maxHeartbeats 4000000 in
theorem x_cf_i_1 (V E : zS) (h : JV V) (hE : BL E) (s : Nat) (hs : s < 2 ^ V 9 1) (Q : Option Value → zh → Prop) (K : ∀ L, dpJ V 1 (V 9 1) (V 10 1) s (V 9 1) L → (∀ j, L j < 2 ^ 31) → Wp mX2_cheapestFixedOrder Q 115 [.ref 27, .int (nI (2 ^ V 9 1)), .int (nI s), .null, .null, .null, .null] [] (hC V (eSet (ffE V E 1 33 (V 9 1) (V 10 1)) 34 L))) : ∀ (m x : Nat) (L : Nat → Nat), x + m = V 9 1 → dpJ V 1 (V 9 1) (V 10 1) s x L → (∀ j, L j < 2 ^ 31) → Wp mX2_cheapestFixedOrder Q 46 [.ref 27, .int (nI (2 ^ V 9 1)), .int (nI s), .int (nI (cnt V 1 (V 9 1) s (V 10 1))), .int (nI x), .null, .null] [] (hC V (eSet (ffE V E 1 33 (V 9 1) (V 10 1)) 34 L)) := by
  have jt := h.2.1 1 (by decide)
  have hn4 : V 9 1 ≤ 4 := by omega
  have h7 : ∀ j, j < 8 → V 7 j ≤ 50 := fun j hj => (h.2.2.1 j hj).2.1
  have h8 : ∀ j, j < 8 → V 4 j < 3 := fun j hj => (h.2.2.1 j hj).1
  have hpw := pw16 hn4
  have hR50 : V 10 1 ≤ 50 := by omega
  intro m
  induction m with
  | zero =>
    intro x L hx hd hL
    have e : x = V 9 1 := by omega
    subst e
    refine Wp.iload (pc2 := 48) dX2_cheapestFixedOrder_46 rfl rfl ?_
    refine Wp.aload_n (pc2 := 49) dX2_cheapestFixedOrder_48 rfl rfl ?_
    refine Wp.getf (pc2 := 52) fX2_49 dX2_cheapestFixedOrder_49 rfl rfl rfl ?_
    refine Wp.icmpN_ge (pc2 := 55) 115 dX2_cheapestFixedOrder_52 rfl (by decide) (by omega) (by omega) (fun c52 => ?_) (fun c52 => ?_)
    · refine Wp.fg [.ref 27, .int (nI (2 ^ V 9 1)), .int (nI s), .null, .null, .null, .null] (And.intro (Or.inr rfl) (And.intro (Or.inr rfl) (And.intro (Or.inr rfl) (And.intro (Or.inl rfl) (And.intro (Or.inl rfl) (And.intro (Or.inl rfl) (And.intro (Or.inl rfl) trivial))))))) ?_
      exact K L hd hL
    · exfalso; omega
  | succ m ih =>
    intro x L hx hd hL
    have hu := set_up hn4 hs (show x < V 9 1 by omega)
    have hsm := dp_small h7 (by decide) hn4 hR50 hd (s + 1) s (by omega) (Nat.le_refl _) hs
    have hw := W_le (V := V) (t := 1) (n := (V 9 1)) (S := s) (y := x) (R := (V 10 1)) h7 (by decide) (by omega) hR50
    refine Wp.iload (pc2 := 48) dX2_cheapestFixedOrder_46 rfl rfl ?_
    refine Wp.aload_n (pc2 := 49) dX2_cheapestFixedOrder_48 rfl rfl ?_
    refine Wp.getf (pc2 := 52) fX2_49 dX2_cheapestFixedOrder_49 rfl rfl rfl ?_
    refine Wp.icmpN_ge (pc2 := 55) 115 dX2_cheapestFixedOrder_52 rfl (by decide) (by omega) (by omega) (fun c52 => ?_) (fun c52 => ?_)
    · exfalso; omega
    · refine Wp.iload_n (pc2 := 56) dX2_cheapestFixedOrder_55 rfl rfl ?_
      refine Wp.iconN (pc2 := 57) 1 dX2_cheapestFixedOrder_56 rfl ?_
      refine Wp.iload (pc2 := 59) dX2_cheapestFixedOrder_57 rfl rfl ?_
      refine Wp.ishl (pc2 := 60) dX2_cheapestFixedOrder_59 rfl ?_
      refine Wp.top (nI (2 ^ x)) (shl1 (by omega)) ?_
      refine Wp.ior (pc2 := 61) dX2_cheapestFixedOrder_60 rfl ?_
      refine Wp.top (nI (s ||| 2 ^ x)) (or16 (by omega) (by omega)) ?_
      refine Wp.istore (pc2 := 63) dX2_cheapestFixedOrder_61 rfl (by decide) rfl ?_
      refine Wp.iload (pc2 := 65) dX2_cheapestFixedOrder_63 rfl rfl ?_
      refine Wp.iload_n (pc2 := 66) dX2_cheapestFixedOrder_65 rfl rfl ?_
      refine Wp.icmpN_eq (pc2 := 69) 109 dX2_cheapestFixedOrder_66 rfl (by decide) (by omega) (by omega) (fun c66 => ?_) (fun c66 => ?_)
      · refine Wp.iincN (pc2 := 112) dX2_cheapestFixedOrder_109 rfl rfl (by decide) rfl ?_
        refine Wp.goto (pc2 := 46) dX2_cheapestFixedOrder_112 (by decide) ?_
        refine Wp.fg [.ref 27, .int (nI (2 ^ V 9 1)), .int (nI s), .int (nI (cnt V 1 (V 9 1) s (V 10 1))), .int (nI (x + 1)), .null, .null] (And.intro (Or.inr rfl) (And.intro (Or.inr rfl) (And.intro (Or.inr rfl) (And.intro (Or.inr rfl) (And.intro (Or.inr rfl) (And.intro (Or.inl rfl) (And.intro (Or.inl rfl) trivial))))))) ?_
        exact ih (x + 1) L (by omega) (dp_skip hd (hu.2.1.mpr c66)) hL
      · refine Wp.aload_n (pc2 := 70) dX2_cheapestFixedOrder_69 rfl rfl ?_
        refine Wp.getf (pc2 := 73) fX2_30 dX2_cheapestFixedOrder_70 rfl rfl rfl ?_
        refine Wp.iload_n (pc2 := 74) dX2_cheapestFixedOrder_73 rfl rfl ?_
        refine Wp.ialdN (pc2 := 75) dX2_cheapestFixedOrder_74 rfl rfl (by omega) (by decide) ?_
        rw [eSet_at]
        refine Wp.iload_n (pc2 := 76) dX2_cheapestFixedOrder_75 rfl rfl ?_
        refine Wp.aload_n (pc2 := 77) dX2_cheapestFixedOrder_76 rfl rfl ?_
        refine Wp.getf (pc2 := 80) fX2_33 dX2_cheapestFixedOrder_77 rfl rfl rfl ?_
        refine Wp.getf (pc2 := 83) fX2_70 dX2_cheapestFixedOrder_80 rfl rfl rfl ?_
        refine Wp.iload (pc2 := 85) dX2_cheapestFixedOrder_83 rfl rfl ?_
        refine Wp.cald (pc2 := 86) dX2_cheapestFixedOrder_85 rfl rfl (by omega) (by decide) ?_
        refine Wp.imulN (pc2 := 87) dX2_cheapestFixedOrder_86 rfl  ?_
        change Wp _ _ _ _ (.int (nI (cnt V 1 (V 9 1) s (V 10 1) * V 7 (4 * 1 + x))) :: _) _
        refine Wp.iaddN (pc2 := 88) dX2_cheapestFixedOrder_87 rfl  ?_
        refine Wp.istore (pc2 := 90) dX2_cheapestFixedOrder_88 rfl (by decide) rfl ?_
        refine Wp.aload_n (pc2 := 91) dX2_cheapestFixedOrder_90 rfl rfl ?_
        refine Wp.getf (pc2 := 94) fX2_30 dX2_cheapestFixedOrder_91 rfl rfl rfl ?_
        refine Wp.iload (pc2 := 96) dX2_cheapestFixedOrder_94 rfl rfl ?_
        refine Wp.aload_n (pc2 := 97) dX2_cheapestFixedOrder_96 rfl rfl ?_
        refine Wp.getf (pc2 := 100) fX2_30 dX2_cheapestFixedOrder_97 rfl rfl rfl ?_
        refine Wp.iload (pc2 := 102) dX2_cheapestFixedOrder_100 rfl rfl ?_
        refine Wp.ialdN (pc2 := 103) dX2_cheapestFixedOrder_102 rfl rfl (by omega) (by decide) ?_
        rw [eSet_at]
        refine Wp.iload (pc2 := 105) dX2_cheapestFixedOrder_103 rfl rfl ?_
        refine Wp.mmin (pc2 := 108) dX2_cheapestFixedOrder_105 rfl mmL (Nat.le_of_ble_eq_true rfl) (Nat.le_of_ble_eq_true rfl) (Nat.le_of_ble_eq_true rfl) (hL _) (by omega) ?_
        refine Wp.iastN (pc2 := 109) dX2_cheapestFixedOrder_108 rfl rfl (by omega) (by decide) ?_
        refine Wp.heq (hC_a34 _ _ _ _) ?_
        refine Wp.iincN (pc2 := 112) dX2_cheapestFixedOrder_109 rfl rfl (by decide) rfl ?_
        refine Wp.goto (pc2 := 46) dX2_cheapestFixedOrder_112 (by decide) ?_
        refine Wp.fg [.ref 27, .int (nI (2 ^ V 9 1)), .int (nI s), .int (nI (cnt V 1 (V 9 1) s (V 10 1))), .int (nI (x + 1)), .null, .null] (And.intro (Or.inr rfl) (And.intro (Or.inr rfl) (And.intro (Or.inr rfl) (And.intro (Or.inr rfl) (And.intro (Or.inr rfl) (And.intro (Or.inl rfl) (And.intro (Or.inl rfl) trivial))))))) ?_
        rw [eSet_vs]
        exact ih (x + 1) _ (by omega) (dp_step h7 (by decide) hn4 hR50 hs (by omega) hd (fun z => c66 (hu.2.1.mp z))) (fun j => by
          show (if j = s ||| 2 ^ x then min (L (s ||| 2 ^ x)) (L s + cnt V 1 (V 9 1) s (V 10 1) * V 7 (4 * 1 + x)) else L j) < 2 ^ 31
          split
          · exact Nat.lt_of_le_of_lt (Nat.min_le_left _ _) (hL _)
          · exact hL j)

set_option maxRecDepth 100000 in
set_option maxHeartbeats 4000000 in
theorem x_cf_o_1 (V E : zS) (h : JV V) (hE : BL E) : ∀ (m s : Nat) (L : Nat → Nat), s + m = 2 ^ V 9 1 - 1 → dpJ V 1 (V 9 1) (V 10 1) s 0 L → (∀ j, L j < 2 ^ 31) → Wp mX2_cheapestFixedOrder (fun zr zq => (∃ m, FX V 1 m ∧ zr = some (.int (nI m))) ∧ ∃ E', BL E' ∧ zq = hC V E' ∧ ∀ a b, a ≠ 27 + 6 → a ≠ 27 + 7 → E' a b = E a b) 30 [.ref 27, .int (nI (2 ^ V 9 1)), .int (nI s), .null, .null, .null, .null] [] (hC V (eSet (ffE V E 1 33 (V 9 1) (V 10 1)) 34 L)) := by
  have jt := h.2.1 1 (by decide)
  have hn4 : V 9 1 ≤ 4 := by omega
  have h7 : ∀ j, j < 8 → V 7 j ≤ 50 := fun j hj => (h.2.2.1 j hj).2.1
  have h8 : ∀ j, j < 8 → V 4 j < 3 := fun j hj => (h.2.2.1 j hj).1
  have hpw := pw16 hn4
  have hR50 : V 10 1 ≤ 50 := by omega
  intro m
  induction m with
  | zero =>
    intro s L hs hd hL
    have e : s = 2 ^ V 9 1 - 1 := by omega
    subst e
    have hend := dp_end h7 (by decide) hn4 hR50 hd
    refine Wp.iload_n (pc2 := 31) dX2_cheapestFixedOrder_30 rfl rfl ?_
    refine Wp.iload_n (pc2 := 32) dX2_cheapestFixedOrder_31 rfl rfl ?_
    refine Wp.iconN (pc2 := 33) 1 dX2_cheapestFixedOrder_32 rfl ?_
    refine Wp.isubN (pc2 := 34) dX2_cheapestFixedOrder_33 rfl (by omega) ?_
    refine Wp.icmpN_ge (pc2 := 37) 121 dX2_cheapestFixedOrder_34 rfl (by decide) (by omega) (by omega) (fun c34 => ?_) (fun c34 => ?_)
    · refine Wp.aload_n (pc2 := 122) dX2_cheapestFixedOrder_121 rfl rfl ?_
      refine Wp.getf (pc2 := 125) fX2_30 dX2_cheapestFixedOrder_122 rfl rfl rfl ?_
      refine Wp.iload_n (pc2 := 126) dX2_cheapestFixedOrder_125 rfl rfl ?_
      refine Wp.iconN (pc2 := 127) 1 dX2_cheapestFixedOrder_126 rfl ?_
      refine Wp.isubN (pc2 := 128) dX2_cheapestFixedOrder_127 rfl (by omega) ?_
      refine Wp.ialdN (pc2 := 129) dX2_cheapestFixedOrder_128 rfl rfl (by omega) (by decide) ?_
      rw [eSet_at]
      refine Wp.ret dX2_cheapestFixedOrder_129 rfl rfl ?_
      refine ⟨⟨_, hend.1, rfl⟩, _, BL_eSet (BL_ffE hE hn4) hL, rfl, fun a b h1 h2 => ?_⟩
      rw [eSet_o _ _ _ h2]
      exact eSet_o _ _ _ h1
    · exfalso; omega
  | succ m ih =>
    intro s L hs hd hL
    refine Wp.iload_n (pc2 := 31) dX2_cheapestFixedOrder_30 rfl rfl ?_
    refine Wp.iload_n (pc2 := 32) dX2_cheapestFixedOrder_31 rfl rfl ?_
    refine Wp.iconN (pc2 := 33) 1 dX2_cheapestFixedOrder_32 rfl ?_
    refine Wp.isubN (pc2 := 34) dX2_cheapestFixedOrder_33 rfl (by omega) ?_
    refine Wp.icmpN_ge (pc2 := 37) 121 dX2_cheapestFixedOrder_34 rfl (by decide) (by omega) (by omega) (fun c34 => ?_) (fun c34 => ?_)
    · exfalso; omega
    · refine Wp.aload_n (pc2 := 38) dX2_cheapestFixedOrder_37 rfl rfl ?_
      refine Wp.iload_n (pc2 := 39) dX2_cheapestFixedOrder_38 rfl rfl ?_
      refine Wp.callV (pc2 := 42) kX2_cheapestFixedOrder_94 vX2_rowsThatPass (x_rowsThatPass_1 V (eSet (ffE V E 1 33 (V 9 1) (V 10 1)) 34 L) h s (by omega) (ffr_1 V E L)) dX2_cheapestFixedOrder_39 rfl rfl rfl rfl rfl (Nat.le_of_ble_eq_true rfl) ?_
      rintro _ _ ⟨rfl, rfl⟩
      refine Wp.istore_n (pc2 := 43) dX2_cheapestFixedOrder_42 rfl (by decide) rfl ?_
      refine Wp.iconN (pc2 := 44) 0 dX2_cheapestFixedOrder_43 rfl ?_
      refine Wp.istore (pc2 := 46) dX2_cheapestFixedOrder_44 rfl (by decide) rfl ?_
      refine Wp.fg [.ref 27, .int (nI (2 ^ V 9 1)), .int (nI s), .int (nI (cnt V 1 (V 9 1) s (V 10 1))), .int (nI 0), .null, .null] (And.intro (Or.inr rfl) (And.intro (Or.inr rfl) (And.intro (Or.inr rfl) (And.intro (Or.inr rfl) (And.intro (Or.inr rfl) (And.intro (Or.inl rfl) (And.intro (Or.inl rfl) trivial))))))) ?_
      refine x_cf_i_1 V E h hE s (by omega) _ (fun L' hd' hL' => ?_) (V 9 1) 0 L (by omega) hd hL
      refine Wp.iincN (pc2 := 118) dX2_cheapestFixedOrder_115 rfl rfl (by decide) rfl ?_
      refine Wp.goto (pc2 := 30) dX2_cheapestFixedOrder_118 (by decide) ?_
      exact ih (s + 1) L' (by omega) (dp_next hd') hL'

set_option maxRecDepth 100000 in
set_option maxHeartbeats 4000000 in
theorem x_cheapest_1 (V E : zS) (h : JV V) (hE : BL E) : PM mX2_cheapestFixedOrder [.ref 27] (hC V E) (fun zr zq => (∃ m, FX V 1 m ∧ zr = some (.int (nI m))) ∧ ∃ E', BL E' ∧ zq = hC V E' ∧ ∀ a b, a ≠ 27 + 6 → a ≠ 27 + 7 → E' a b = E a b) := by
  refine PM.of (by decide +kernel) (by simp [Value.category]) (Nat.le_of_ble_eq_true rfl) ?_
  have jt := h.2.1 1 (by decide)
  have hn4 : V 9 1 ≤ 4 := by omega
  have h7 : ∀ j, j < 8 → V 7 j ≤ 50 := fun j hj => (h.2.2.1 j hj).2.1
  have h8 : ∀ j, j < 8 → V 4 j < 3 := fun j hj => (h.2.2.1 j hj).1
  have hpw := pw16 hn4
  have hR50 : V 10 1 ≤ 50 := by omega
  refine Wp.aload_n (pc2 := 1) dX2_cheapestFixedOrder_0 rfl rfl ?_
  refine Wp.callV (pc2 := 4) kX2_cheapestFixedOrder_91 vX2_findFailedTests (x_findFailedTests_1 V E h) dX2_cheapestFixedOrder_1 rfl rfl rfl rfl rfl (Nat.le_of_ble_eq_true rfl) ?_
  rintro _ _ ⟨rfl, rfl⟩
  refine Wp.iconN (pc2 := 5) 1 dX2_cheapestFixedOrder_4 rfl ?_
  refine Wp.aload_n (pc2 := 6) dX2_cheapestFixedOrder_5 rfl rfl ?_
  refine Wp.getf (pc2 := 9) fX2_49 dX2_cheapestFixedOrder_6 rfl rfl rfl ?_
  refine Wp.ishl (pc2 := 10) dX2_cheapestFixedOrder_9 rfl ?_
  refine Wp.top (nI (2 ^ V 9 1)) (shl1 (by omega)) ?_
  refine Wp.istore_n (pc2 := 11) dX2_cheapestFixedOrder_10 rfl (by decide) rfl ?_
  refine Wp.aload_n (pc2 := 12) dX2_cheapestFixedOrder_11 rfl rfl ?_
  refine Wp.getf (pc2 := 15) fX2_30 dX2_cheapestFixedOrder_12 rfl rfl rfl ?_
  refine Wp.sipN (pc2 := 18) 10001 dX2_cheapestFixedOrder_15 rfl (by decide +kernel) ?_
  refine Wp.callS (pc2 := 21) kX2_cheapestFixedOrder_37 sJ7_fill_53178 (x_fill _ 34 16 _ (nI 10001) rfl (by decide)) dX2_cheapestFixedOrder_18 rfl rfl rfl (Nat.le_of_ble_eq_true rfl) ?_
  rintro _ _ ⟨rfl, rfl⟩
  refine Wp.heq (hC_l1 _ _) ?_
  refine Wp.aload_n (pc2 := 22) dX2_cheapestFixedOrder_21 rfl rfl ?_
  refine Wp.getf (pc2 := 25) fX2_30 dX2_cheapestFixedOrder_22 rfl rfl rfl ?_
  refine Wp.iconN (pc2 := 26) 0 dX2_cheapestFixedOrder_25 rfl ?_
  refine Wp.iconN (pc2 := 27) 0 dX2_cheapestFixedOrder_26 rfl ?_
  refine Wp.iastN (pc2 := 28) dX2_cheapestFixedOrder_27 rfl rfl (by omega) (by decide) ?_
  refine Wp.heq (hC_a34 _ _ _ _) ?_
  refine Wp.iconN (pc2 := 29) 0 dX2_cheapestFixedOrder_28 rfl ?_
  refine Wp.istore_n (pc2 := 30) dX2_cheapestFixedOrder_29 rfl (by decide) rfl ?_
  rw [eSet_vs]
  refine x_cf_o_1 V E h hE (2 ^ V 9 1 - 1) 0 _ (by omega) (dp_0 (E := (ffE V E 1 33 (V 9 1) (V 10 1))) (c := 34) hn4) (fun j => ?_)
  show (if j = 0 then 0 else if j < 16 then 10001 else (ffE V E 1 33 (V 9 1) (V 10 1)) 34 j) < 2 ^ 31
  split
  · decide
  · split
    · decide
    · exact BL_ffE hE hn4 _ _

set_option maxRecDepth 100000 in
set_option maxHeartbeats 4000000 in
theorem x_fixed_ok_0 (V E : zS) (h : JV V) (hE : BL E) : PM mX4_fixed [.ref 0, .int (nI 0)] (hC V E) (fun zr zq => (∃ m, FX V 0 m ∧ zr = some (.int (nI m))) ∧ ∃ E', BL E' ∧ zq = hC V E' ∧ ∀ a b, a ≠ 19 + 6 → a ≠ 19 + 7 → E' a b = E a b) := by
  refine PM.of (by decide +kernel) (by simp [Value.category]) (Nat.le_of_ble_eq_true rfl) ?_
  refine Wp.iload_n (pc2 := 1) dX4_fixed_0 rfl rfl ?_
  refine Wp.callS (pc2 := 4) kX4_fixed_53 sX4_isTable (x_isTable_t _ 0 (by decide)) dX4_fixed_1 rfl rfl rfl (Nat.le_of_ble_eq_true rfl) ?_
  rintro _ _ ⟨rfl, rfl⟩
  refine Wp.ifN_eq (pc2 := 7) 19 dX4_fixed_4 rfl (by decide) (by omega) (fun c4 => ?_) (fun c4 => ?_)
  · exfalso; omega
  · refine Wp.aload_n (pc2 := 8) dX4_fixed_7 rfl rfl ?_
    refine Wp.getf (pc2 := 11) fX4_21 dX4_fixed_8 rfl rfl rfl ?_
    refine Wp.iload_n (pc2 := 12) dX4_fixed_11 rfl rfl ?_
    refine Wp.aald (pc2 := 13) dX4_fixed_12 rfl rfl (by decide) (by omega) (by decide) rfl ?_
    refine Wp.callV (pc2 := 16) kX4_fixed_159 vX2_cheapestFixedOrder (x_cheapest_0 V E h hE) dX4_fixed_13 rfl rfl rfl rfl rfl (Nat.le_of_ble_eq_true rfl) ?_
    rintro _ _ ⟨⟨m, hm, rfl⟩, E', q1, rfl, q2⟩
    refine Wp.goto (pc2 := 20) dX4_fixed_16 (by decide) ?_
    refine Wp.ret dX4_fixed_20 rfl rfl ?_
    exact ⟨⟨m, hm, rfl⟩, E', q1, rfl, q2⟩
set_option maxRecDepth 100000 in
set_option maxHeartbeats 4000000 in
theorem x_fixed_ok_1 (V E : zS) (h : JV V) (hE : BL E) : PM mX4_fixed [.ref 0, .int (nI 1)] (hC V E) (fun zr zq => (∃ m, FX V 1 m ∧ zr = some (.int (nI m))) ∧ ∃ E', BL E' ∧ zq = hC V E' ∧ ∀ a b, a ≠ 27 + 6 → a ≠ 27 + 7 → E' a b = E a b) := by
  refine PM.of (by decide +kernel) (by simp [Value.category]) (Nat.le_of_ble_eq_true rfl) ?_
  refine Wp.iload_n (pc2 := 1) dX4_fixed_0 rfl rfl ?_
  refine Wp.callS (pc2 := 4) kX4_fixed_53 sX4_isTable (x_isTable_t _ 1 (by decide)) dX4_fixed_1 rfl rfl rfl (Nat.le_of_ble_eq_true rfl) ?_
  rintro _ _ ⟨rfl, rfl⟩
  refine Wp.ifN_eq (pc2 := 7) 19 dX4_fixed_4 rfl (by decide) (by omega) (fun c4 => ?_) (fun c4 => ?_)
  · exfalso; omega
  · refine Wp.aload_n (pc2 := 8) dX4_fixed_7 rfl rfl ?_
    refine Wp.getf (pc2 := 11) fX4_21 dX4_fixed_8 rfl rfl rfl ?_
    refine Wp.iload_n (pc2 := 12) dX4_fixed_11 rfl rfl ?_
    refine Wp.aald (pc2 := 13) dX4_fixed_12 rfl rfl (by decide) (by omega) (by decide) rfl ?_
    refine Wp.callV (pc2 := 16) kX4_fixed_159 vX2_cheapestFixedOrder (x_cheapest_1 V E h hE) dX4_fixed_13 rfl rfl rfl rfl rfl (Nat.le_of_ble_eq_true rfl) ?_
    rintro _ _ ⟨⟨m, hm, rfl⟩, E', q1, rfl, q2⟩
    refine Wp.goto (pc2 := 20) dX4_fixed_16 (by decide) ?_
    refine Wp.ret dX4_fixed_20 rfl rfl ?_
    exact ⟨⟨m, hm, rfl⟩, E', q1, rfl, q2⟩
theorem x_fixed_ok (t : Nat) (ht : t < 2) (V E : zS) (h : JV V) (hE : BL E) : PM mX4_fixed [.ref 0, .int (nI t)] (hC V E) (fun zr zq => (∃ m, FX V t m ∧ zr = some (.int (nI m))) ∧ ∃ E', BL E' ∧ zq = hC V E' ∧ ∀ a b, a ≠ (19 + 8 * t) + 6 → a ≠ (19 + 8 * t) + 7 → E' a b = E a b) := by
  rcases (show t = 0 ∨ t = 1 by omega) with rfl | rfl
  · exact x_fixed_ok_0 V E h hE
  · exact x_fixed_ok_1 V E h hE

set_option maxRecDepth 100000 in
set_option maxHeartbeats 4000000 in
theorem x_fixed_no (V E : zS) (t : Int32) (hno : ¬ rg t 2) : PM mX4_fixed [.ref 0, .int t] (hC V E) (fun zr zq => zr = some (.int (-1)) ∧ zq = hC V E) := by
  refine PM.of (by decide +kernel) (by simp [Value.category]) (Nat.le_of_ble_eq_true rfl) ?_
  refine Wp.iload_n (pc2 := 1) dX4_fixed_0 rfl rfl ?_
  refine Wp.callS (pc2 := 4) kX4_fixed_53 sX4_isTable (x_isTable _ t) dX4_fixed_1 rfl rfl rfl (Nat.le_of_ble_eq_true rfl) ?_
  rintro _ _ ⟨⟨b, rfl, hb⟩, rfl⟩
  refine Wp.ifN_eq (pc2 := 7) 19 dX4_fixed_4 rfl (by decide) (zb_lt _) (fun c4 => ?_) (fun c4 => ?_)
  · refine Wp.icon (pc2 := 20) dX4_fixed_19 rfl (-1) (by decide +kernel) ?_
    refine Wp.ret dX4_fixed_20 rfl rfl ?_
    exact ⟨rfl, rfl⟩
  · exact absurd (zby hb c4) hno

