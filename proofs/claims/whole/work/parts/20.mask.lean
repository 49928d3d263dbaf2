def itr (f : zS → Nat → zS) : Nat → zS → zS
  | 0, V => V
  | n + 1, V => f (itr f n V) n
theorem itr_BV {f : zS → Nat → zS} {m : Nat} (hf : ∀ V k, k < m → BV V → BV (f V k)) : ∀ (n : Nat) (V : zS), n ≤ m → BV V → BV (itr f n V)
  | 0, _, _, h => h
  | n + 1, V, hn, h => hf _ n (by omega) (itr_BV hf n V (by omega) h)
theorem itr_1 (c : Nat) (g : Nat → Nat) (a b : Nat) : ∀ (n : Nat) (V : zS), itr (fun V k => vs V c k (g k)) n V a b = if a = c ∧ b < n then g b else V a b
  | 0, V => by rw [if_neg (by omega)]; rfl
  | n + 1, V => by
    show vs (itr _ n V) c n (g n) a b = _
    by_cases hc : a = c
    · subst hc
      rw [vs_at]
      by_cases hb : b = n
      · rw [if_pos hb, if_pos ⟨rfl, by omega⟩, hb]
      · rw [if_neg hb, itr_1 a g a b n V]
        by_cases hl : b < n
        · rw [if_pos ⟨rfl, hl⟩, if_pos ⟨rfl, by omega⟩]
        · rw [if_neg (fun z => hl z.2), if_neg (by omega)]
    · rw [vs_k _ hc, itr_1 c g a b n V, if_neg (fun z => hc z.1), if_neg (fun z => hc z.1)]
def askT (V : zS) (t : Nat) : zS := vs (vs (vs (vs (vs (vs V 9 t (V 3 t)) 10 t 0) 12 t 0) 15 t 0) 16 t 0) 17 t 0
def askK (V : zS) (k : Nat) : zS := vs (vs (vs V 11 k (k % 4)) 13 k 0) 14 k 0
def askP (V : zS) (k : Nat) : zS := vs V 18 k 0
def askG (V : zS) (k : Nat) : zS := vs V 20 k 0
def askA (V : zS) : zS := itr askG 2500 (itr askP 100 (itr askK 8 (itr askT 2 (vs V 0 11 1))))
def mAsk0 (V : zS) : zS := vs (vs (vs (vs (vs (vs (vs (vs (askA V) 0 23 0) 0 26 0) 0 27 0) 0 28 0) 0 29 0) 0 30 0) 0 31 0) 0 10 1
noncomputable def mAsk (V : zS) : zS := mEnds (mAsk0 V)
theorem askK_at (a b : Nat) : ∀ (n : Nat) (V : zS), itr askK n V a b = if b < n ∧ (a = 11 ∨ a = 13 ∨ a = 14) then (if a = 11 then b % 4 else 0) else V a b
  | 0, V => by rw [if_neg (by omega)]; rfl
  | n + 1, V => by
    show vs (vs (vs (itr askK n V) 11 n (n % 4)) 13 n 0) 14 n 0 a b = _
    have ih := askK_at a b n V
    by_cases h14 : a = 14
    · subst h14
      rw [vs_at]
      by_cases hb : b = n
      · rw [if_pos hb, if_pos ⟨by omega, by omega⟩, if_neg (by omega)]
      · rw [if_neg hb, vs_k _ (by decide), vs_k _ (by decide), ih]
        by_cases hl : b < n
        · simp [hl, Nat.lt_succ_of_lt hl]
        · rw [if_neg (by omega), if_neg (by omega)]
    · rw [vs_k _ h14]
      by_cases h13 : a = 13
      · subst h13
        rw [vs_at]
        by_cases hb : b = n
        · rw [if_pos hb, if_pos ⟨by omega, by omega⟩, if_neg (by omega)]
        · rw [if_neg hb, vs_k _ (by decide), ih]
          by_cases hl : b < n
          · simp [hl, Nat.lt_succ_of_lt hl]
          · rw [if_neg (by omega), if_neg (by omega)]
      · rw [vs_k _ h13]
        by_cases h11 : a = 11
        · subst h11
          rw [vs_at]
          by_cases hb : b = n
          · rw [if_pos hb, if_pos ⟨by omega, by omega⟩, if_pos rfl, hb]
          · rw [if_neg hb, ih]
            by_cases hl : b < n
            · simp [hl, Nat.lt_succ_of_lt hl]
            · rw [if_neg (by omega), if_neg (by omega)]
        · rw [vs_k _ h11, ih, if_neg (by omega), if_neg (by omega)]
/-- an ask's numbers, one by one -/
theorem askA_o {V : zS} {a b : Nat} (h : a ≠ 20 ∧ a ≠ 18 ∧ a ≠ 11 ∧ a ≠ 13 ∧ a ≠ 14) : askA V a b = itr askT 2 (vs V 0 11 1) a b := by
  unfold askA
  rw [show itr askG 2500 (itr askP 100 (itr askK 8 (itr askT 2 (vs V 0 11 1)))) a b = _ from itr_1 20 (fun _ => 0) a b 2500 _, if_neg (by omega), show itr askP 100 (itr askK 8 (itr askT 2 (vs V 0 11 1))) a b = _ from itr_1 18 (fun _ => 0) a b 100 _, if_neg (by omega), askK_at, if_neg (by omega)]
theorem askA_k {V : zS} {a b : Nat} (h : a = 11 ∨ a = 13 ∨ a = 14) (hb : b < 8) : askA V a b = if a = 11 then b % 4 else 0 := by
  unfold askA
  rw [show itr askG 2500 (itr askP 100 (itr askK 8 (itr askT 2 (vs V 0 11 1)))) a b = _ from itr_1 20 (fun _ => 0) a b 2500 _, if_neg (by omega), show itr askP 100 (itr askK 8 (itr askT 2 (vs V 0 11 1))) a b = _ from itr_1 18 (fun _ => 0) a b 100 _, if_neg (by omega), askK_at, if_pos ⟨hb, h⟩]
theorem askA_18 {V : zS} {b : Nat} (hb : b < 100) : askA V 18 b = 0 := by
  unfold askA
  rw [show itr askG 2500 (itr askP 100 (itr askK 8 (itr askT 2 (vs V 0 11 1)))) 18 b = _ from itr_1 20 (fun _ => 0) 18 b 2500 _, if_neg (by omega), show itr askP 100 (itr askK 8 (itr askT 2 (vs V 0 11 1))) 18 b = _ from itr_1 18 (fun _ => 0) 18 b 100 _, if_pos ⟨rfl, hb⟩]
theorem askA_20 {V : zS} {b : Nat} (hb : b < 2500) : askA V 20 b = 0 := by
  unfold askA
  rw [show itr askG 2500 (itr askP 100 (itr askK 8 (itr askT 2 (vs V 0 11 1)))) 20 b = _ from itr_1 20 (fun _ => 0) 20 b 2500 _, if_pos ⟨rfl, hb⟩]
theorem askT2_o {V : zS} {a b : Nat} (h : a ≠ 9 ∧ a ≠ 10 ∧ a ≠ 12 ∧ a ≠ 15 ∧ a ≠ 16 ∧ a ≠ 17 ∧ (a = 0 → b ≠ 11)) : itr askT 2 (vs V 0 11 1) a b = V a b := by
  show askT (askT (vs V 0 11 1) 0) 1 a b = V a b
  unfold askT
  simp only [vs]
  simp [h]
  intro h1 h2
  exact absurd h2 (h.2.2.2.2.2.2 h1)
theorem askT2_0 {V : zS} {a b : Nat} (h : a = 10 ∨ a = 12 ∨ a = 15 ∨ a = 16 ∨ a = 17) (hb : b < 2) : itr askT 2 (vs V 0 11 1) a b = 0 := by
  show askT (askT (vs V 0 11 1) 0) 1 a b = 0
  unfold askT
  rcases (show b = 0 ∨ b = 1 by omega) with rfl | rfl <;> rcases h with rfl | rfl | rfl | rfl | rfl <;> simp [vs]
theorem askT2_9 {V : zS} {b : Nat} (hb : b < 2) : itr askT 2 (vs V 0 11 1) 9 b = V 3 b := by
  show askT (askT (vs V 0 11 1) 0) 1 9 b = V 3 b
  unfold askT
  rcases (show b = 0 ∨ b = 1 by omega) with rfl | rfl <;> simp [vs]
theorem ask0_k {V : zS} {a b : Nat} (h : a ≠ 0) : mAsk0 V a b = askA V a b := by
  unfold mAsk0
  rw [vs_k _ h, vs_k _ h, vs_k _ h, vs_k _ h, vs_k _ h, vs_k _ h, vs_k _ h, vs_k _ h]
theorem ask0_0 {V : zS} {b : Nat} (h : b ≠ 10 ∧ b ≠ 11 ∧ b ≠ 23 ∧ b ≠ 26 ∧ b ≠ 27 ∧ b ≠ 28 ∧ b ≠ 29 ∧ b ≠ 30 ∧ b ≠ 31) : mAsk0 V 0 b = V 0 b := by
  unfold mAsk0
  rw [vs_i _ (by omega), vs_i _ (by omega), vs_i _ (by omega), vs_i _ (by omega), vs_i _ (by omega), vs_i _ (by omega), vs_i _ (by omega), vs_i _ (by omega), askA_o (by omega), askT2_o (by omega)]
theorem ask0_z {V : zS} {b : Nat} (h : b = 23 ∨ b = 26 ∨ b = 27 ∨ b = 28 ∨ b = 29 ∨ b = 30 ∨ b = 31) : mAsk0 V 0 b = 0 := by
  unfold mAsk0
  rcases h with rfl | rfl | rfl | rfl | rfl | rfl | rfl <;> simp [vs]
theorem ask0_10 (V : zS) : mAsk0 V 0 10 = 1 := by unfold mAsk0; rw [vs_same]
theorem ask0_11 (V : zS) : mAsk0 V 0 11 = 1 := by
  unfold mAsk0
  rw [vs_i _ (by decide), vs_i _ (by decide), vs_i _ (by decide), vs_i _ (by decide), vs_i _ (by decide), vs_i _ (by decide), vs_i _ (by decide), vs_i _ (by decide), askA_o (by decide)]
  show askT (askT (vs V 0 11 1) 0) 1 0 11 = 1
  unfold askT
  simp [vs]
theorem JV_ask0 {V : zS} (h : JV V) : JV (mAsk0 V) := by
  obtain ⟨hV, jt, j8, jk, jo, hq, hg, jp, jgp, js, jc⟩ := h
  have s : ∀ a b, a ≠ 0 → a ≠ 20 → a ≠ 18 → a ≠ 11 → a ≠ 13 → a ≠ 14 → a ≠ 9 → a ≠ 10 → a ≠ 12 → a ≠ 15 → a ≠ 16 → a ≠ 17 → mAsk0 V a b = V a b := by
    intro a b h1 h2 h3 h4 h5 h6 h7 h8 h9 h10 h11 h12
    rw [ask0_k h1, askA_o (by omega), askT2_o (by omega)]
  have z : ∀ a b, (a = 10 ∨ a = 12 ∨ a = 15 ∨ a = 16 ∨ a = 17) → b < 2 → mAsk0 V a b = 0 := by
    intro a b h1 h2
    rw [ask0_k (by omega), askA_o (by omega), askT2_0 h1 h2]
  have z9 : ∀ b, b < 2 → mAsk0 V 9 b = V 3 b := by
    intro b hb
    rw [ask0_k (by omega), askA_o (by omega), askT2_9 hb]
  have z11 : ∀ b, b < 8 → mAsk0 V 11 b = b % 4 := by
    intro b hb
    rw [ask0_k (by omega), askA_k (by omega) hb, if_pos rfl]
  have z13 : ∀ b, b < 8 → mAsk0 V 13 b = 0 := by
    intro b hb
    rw [ask0_k (by omega), askA_k (by omega) hb, if_neg (by omega)]
  have z14 : ∀ b, b < 8 → mAsk0 V 14 b = 0 := by
    intro b hb
    rw [ask0_k (by omega), askA_k (by omega) hb, if_neg (by omega)]
  have z18 : ∀ b, b < 100 → mAsk0 V 18 b = 0 := by
    intro b hb
    rw [ask0_k (by omega), askA_18 hb]
  have z20 : ∀ b, b < 2500 → mAsk0 V 20 b = 0 := by
    intro b hb
    rw [ask0_k (by omega), askA_20 hb]
  have hA : BV (askA V) := by
    unfold askA
    refine itr_BV (m := 2500) (fun W k _ hW => hW.up (by decide)) 2500 _ (Nat.le_refl _) ?_
    refine itr_BV (m := 100) (fun W k _ hW => hW.up (by decide)) 100 _ (Nat.le_refl _) ?_
    refine itr_BV (m := 8) (fun W k hk hW => ((hW.up (by omega)).up (by decide)).up (by decide)) 8 _ (Nat.le_refl _) ?_
    refine itr_BV (m := 2) (fun W k hk hW => (((((hW.up (hW _ _)).up (by decide)).up (by decide)).up (by decide)).up (by decide)).up (by decide)) 2 _ (Nat.le_refl _) ?_
    exact hV.up (by decide)
  refine ⟨?_, fun t ht => ?_, fun j hj => ?_, fun t k ht hk => ?_, fun t ht => ?_, ?_, ?_, fun t r ht hr => ?_, fun p hp => ?_, ?_, fun j hj => ?_⟩
  · exact (((((((hA.up (by decide)).up (by decide)).up (by decide)).up (by decide)).up (by decide)).up (by decide)).up (by decide)).up (by decide)
  · rw [s 1 t (by decide) (by decide) (by decide) (by decide) (by decide) (by decide) (by decide) (by decide) (by decide) (by decide) (by decide) (by decide), s 3 t (by decide) (by decide) (by decide) (by decide) (by decide) (by decide) (by decide) (by decide) (by decide) (by decide) (by decide) (by decide), s 8 t (by decide) (by decide) (by decide) (by decide) (by decide) (by decide) (by decide) (by decide) (by decide) (by decide) (by decide) (by decide), z9 t ht, z 10 t (by omega) ht, z 12 t (by omega) ht, z 15 t (by omega) ht, z 16 t (by omega) ht, z 17 t (by omega) ht]
    have := jt t ht
    omega
  · rw [s 4 j (by decide) (by decide) (by decide) (by decide) (by decide) (by decide) (by decide) (by decide) (by decide) (by decide) (by decide) (by decide), s 7 j (by decide) (by decide) (by decide) (by decide) (by decide) (by decide) (by decide) (by decide) (by decide) (by decide) (by decide) (by decide), z11 j hj]
    have := j8 j hj
    omega
  · rw [z13 _ (by omega), z14 _ (by omega)]; omega
  · rw [z9 t ht]
    have h4 := jt t ht
    refine ⟨fun j hj => ?_, fun i j hi hj e => ?_, fun x hx => ⟨x, hx, ?_⟩⟩
    · rw [z11 _ (by omega)]; omega
    · rw [z11 _ (by omega), z11 _ (by omega)] at e; omega
    · rw [z11 _ (by omega)]; omega
  · refine ⟨by rw [ask0_z (by omega), ask0_z (by omega)]; exact Nat.le_refl _, by rw [ask0_z (by omega)]; decide, fun i hi => ?_, fun e he hp => ?_⟩
    · rw [ask0_z (by omega)] at hi; omega
    · rw [z18 e he] at hp; omega
  · refine ⟨fun i hi => ?_, fun i j hi => ?_, fun p hp hne => ?_⟩
    · rw [ask0_z (by omega)] at hi; omega
    · rw [ask0_z (by omega)] at hi; omega
    · exact absurd (z20 p hp) hne
  · rw [z18 _ (by omega), z 10 t (by omega) ht]; omega
  · rw [z20 p hp]
    exact ⟨by omega, fun w => absurd rfl w⟩
  · unfold J_s
    rw [ask0_0 (b := 8) (by omega), ask0_0 (b := 9) (by omega), ask0_10, ask0_z (b := 29) (by omega), ask0_z (b := 23) (by omega), z 10 0 (by omega) (by omega), z 10 1 (by omega) (by omega), z 17 0 (by omega) (by omega), z 17 1 (by omega) (by omega), ask0_z (b := 26) (by omega), ask0_z (b := 27) (by omega), z 16 0 (by omega) (by omega), z 16 1 (by omega) (by omega), ask0_z (b := 30) (by omega), ask0_z (b := 31) (by omega), ask0_11]
    refine ⟨js.1, js.2.1, by omega, by omega, by omega, by omega, by omega, by omega, by omega, by omega⟩
  · rw [s 2 j (by decide) (by decide) (by decide) (by decide) (by decide) (by decide) (by decide) (by decide) (by decide) (by decide) (by decide) (by decide)]
    exact jc j hj

set_option maxRecDepth 100000 in
set_option maxHeartbeats 4000000 in
theorem m_ask_t (V : zS) (Q : Option Value → zh → Prop) (K : Wp mX5_ask Q 75 [.ref 0, .null] [] (hM (itr askT 2 V))) : ∀ (n k : Nat), k + n = 2 → Wp mX5_ask Q 17 [.ref 0, .int (nI k)] [] (hM (itr askT k V)) := by
  intro n
  induction n with
  | zero =>
    intro k hk
    have e : k = 2 := by omega
    subst e
    refine Wp.iload_n (pc2 := 18) dX5_ask_17 rfl rfl ?_
    refine Wp.iconN (pc2 := 19) 2 dX5_ask_18 rfl ?_
    refine Wp.icmpN_ge (pc2 := 22) 75 dX5_ask_19 rfl (by decide) (by omega) (by omega) (fun c19 => ?_) (fun c19 => ?_)
    · refine Wp.fg [.ref 0, .null] (And.intro (Or.inr rfl) (And.intro (Or.inl rfl) trivial)) ?_
      exact K
    · exfalso; omega
  | succ n ih =>
    intro k hk
    refine Wp.iload_n (pc2 := 18) dX5_ask_17 rfl rfl ?_
    refine Wp.iconN (pc2 := 19) 2 dX5_ask_18 rfl ?_
    refine Wp.icmpN_ge (pc2 := 22) 75 dX5_ask_19 rfl (by decide) (by omega) (by omega) (fun c19 => ?_) (fun c19 => ?_)
    · exfalso; omega
    · refine Wp.aload_n (pc2 := 23) dX5_ask_22 rfl rfl ?_
      refine Wp.getf (pc2 := 26) fX5_41 dX5_ask_23 rfl rfl rfl ?_
      refine Wp.iload_n (pc2 := 27) dX5_ask_26 rfl rfl ?_
      refine Wp.aload_n (pc2 := 28) dX5_ask_27 rfl rfl ?_
      refine Wp.getf (pc2 := 31) fX5_16 dX5_ask_28 rfl rfl rfl ?_
      refine Wp.iload_n (pc2 := 32) dX5_ask_31 rfl rfl ?_
      refine Wp.ialdN (pc2 := 33) dX5_ask_32 rfl rfl (by omega) (by decide) ?_
      change Wp _ _ _ _ (.int (nI (itr askT k V 3 k)) :: _) _
      refine Wp.iastN (pc2 := 34) dX5_ask_33 rfl rfl (by omega) (by decide) ?_
      refine Wp.heq (hM_a9 _ _ _) ?_
      refine Wp.aload_n (pc2 := 35) dX5_ask_34 rfl rfl ?_
      refine Wp.getf (pc2 := 38) fX5_44 dX5_ask_35 rfl rfl rfl ?_
      refine Wp.iload_n (pc2 := 39) dX5_ask_38 rfl rfl ?_
      refine Wp.iconN (pc2 := 40) 0 dX5_ask_39 rfl ?_
      refine Wp.iastN (pc2 := 41) dX5_ask_40 rfl rfl (by omega) (by decide) ?_
      refine Wp.heq (hM_a10 _ _ _) ?_
      refine Wp.aload_n (pc2 := 42) dX5_ask_41 rfl rfl ?_
      refine Wp.getf (pc2 := 45) fX5_50 dX5_ask_42 rfl rfl rfl ?_
      refine Wp.iload_n (pc2 := 46) dX5_ask_45 rfl rfl ?_
      refine Wp.iconN (pc2 := 47) 0 dX5_ask_46 rfl ?_
      refine Wp.zastN (pc2 := 48) dX5_ask_47 rfl rfl (by omega) (by decide) (by decide +kernel) ?_
      refine Wp.heq (hM_a12 _ _ _) ?_
      refine Wp.aload_n (pc2 := 49) dX5_ask_48 rfl rfl ?_
      refine Wp.getf (pc2 := 52) fX5_60 dX5_ask_49 rfl rfl rfl ?_
      refine Wp.iload_n (pc2 := 53) dX5_ask_52 rfl rfl ?_
      refine Wp.iconN (pc2 := 54) 0 dX5_ask_53 rfl ?_
      refine Wp.iastN (pc2 := 55) dX5_ask_54 rfl rfl (by omega) (by decide) ?_
      refine Wp.heq (hM_a15 _ _ _) ?_
      refine Wp.aload_n (pc2 := 56) dX5_ask_55 rfl rfl ?_
      refine Wp.getf (pc2 := 59) fX5_63 dX5_ask_56 rfl rfl rfl ?_
      refine Wp.iload_n (pc2 := 60) dX5_ask_59 rfl rfl ?_
      refine Wp.iconN (pc2 := 61) 0 dX5_ask_60 rfl ?_
      refine Wp.iastN (pc2 := 62) dX5_ask_61 rfl rfl (by omega) (by decide) ?_
      refine Wp.heq (hM_a16 _ _ _) ?_
      refine Wp.aload_n (pc2 := 63) dX5_ask_62 rfl rfl ?_
      refine Wp.getf (pc2 := 66) fX5_66 dX5_ask_63 rfl rfl rfl ?_
      refine Wp.iload_n (pc2 := 67) dX5_ask_66 rfl rfl ?_
      refine Wp.iconN (pc2 := 68) 0 dX5_ask_67 rfl ?_
      refine Wp.iastN (pc2 := 69) dX5_ask_68 rfl rfl (by omega) (by decide) ?_
      refine Wp.heq (hM_a17 _ _ _) ?_
      refine Wp.iincN (pc2 := 72) dX5_ask_69 rfl rfl (by decide) rfl ?_
      refine Wp.goto (pc2 := 17) dX5_ask_72 (by decide) ?_
      exact ih (k + 1) (by omega)

set_option maxRecDepth 100000 in
set_option maxHeartbeats 4000000 in
theorem m_ask_k (V : zS) (Q : Option Value → zh → Prop) (K : Wp mX5_ask Q 112 [.ref 0, .null] [] (hM (itr askK 8 V))) : ∀ (n k : Nat), k + n = 8 → Wp mX5_ask Q 77 [.ref 0, .int (nI k)] [] (hM (itr askK k V)) := by
  intro n
  induction n with
  | zero =>
    intro k hk
    have e : k = 8 := by omega
    subst e
    refine Wp.iload_n (pc2 := 78) dX5_ask_77 rfl rfl ?_
    refine Wp.bipN (pc2 := 80) 8 dX5_ask_78 rfl (by decide +kernel) ?_
    refine Wp.icmpN_ge (pc2 := 83) 112 dX5_ask_80 rfl (by decide) (by omega) (by omega) (fun c80 => ?_) (fun c80 => ?_)
    · refine Wp.fg [.ref 0, .null] (And.intro (Or.inr rfl) (And.intro (Or.inl rfl) trivial)) ?_
      exact K
    · exfalso; omega
  | succ n ih =>
    intro k hk
    refine Wp.iload_n (pc2 := 78) dX5_ask_77 rfl rfl ?_
    refine Wp.bipN (pc2 := 80) 8 dX5_ask_78 rfl (by decide +kernel) ?_
    refine Wp.icmpN_ge (pc2 := 83) 112 dX5_ask_80 rfl (by decide) (by omega) (by omega) (fun c80 => ?_) (fun c80 => ?_)
    · exfalso; omega
    · refine Wp.aload_n (pc2 := 84) dX5_ask_83 rfl rfl ?_
      refine Wp.getf (pc2 := 87) fX5_47 dX5_ask_84 rfl rfl rfl ?_
      refine Wp.iload_n (pc2 := 88) dX5_ask_87 rfl rfl ?_
      refine Wp.iload_n (pc2 := 89) dX5_ask_88 rfl rfl ?_
      refine Wp.iconN (pc2 := 90) 4 dX5_ask_89 rfl ?_
      refine Wp.iremN (pc2 := 91) dX5_ask_90 rfl (by omega) (by decide) (by decide) ?_
      refine Wp.iastN (pc2 := 92) dX5_ask_91 rfl rfl (by omega) (by decide) ?_
      refine Wp.heq (hM_a11 _ _ _) ?_
      refine Wp.aload_n (pc2 := 93) dX5_ask_92 rfl rfl ?_
      refine Wp.getf (pc2 := 96) fX5_54 dX5_ask_93 rfl rfl rfl ?_
      refine Wp.iload_n (pc2 := 97) dX5_ask_96 rfl rfl ?_
      refine Wp.iconN (pc2 := 98) 0 dX5_ask_97 rfl ?_
      refine Wp.iastN (pc2 := 99) dX5_ask_98 rfl rfl (by omega) (by decide) ?_
      refine Wp.heq (hM_a13 _ _ _) ?_
      refine Wp.aload_n (pc2 := 100) dX5_ask_99 rfl rfl ?_
      refine Wp.getf (pc2 := 103) fX5_57 dX5_ask_100 rfl rfl rfl ?_
      refine Wp.iload_n (pc2 := 104) dX5_ask_103 rfl rfl ?_
      refine Wp.iconN (pc2 := 105) 0 dX5_ask_104 rfl ?_
      refine Wp.iastN (pc2 := 106) dX5_ask_105 rfl rfl (by omega) (by decide) ?_
      refine Wp.heq (hM_a14 _ _ _) ?_
      refine Wp.iincN (pc2 := 109) dX5_ask_106 rfl rfl (by decide) rfl ?_
      refine Wp.goto (pc2 := 77) dX5_ask_109 (by decide) ?_
      exact ih (k + 1) (by omega)

set_option maxRecDepth 100000 in
set_option maxHeartbeats 4000000 in
theorem m_ask_p (V : zS) (Q : Option Value → zh → Prop) (K : Wp mX5_ask Q 133 [.ref 0, .null] [] (hM (itr askP 100 V))) : ∀ (n k : Nat), k + n = 100 → Wp mX5_ask Q 114 [.ref 0, .int (nI k)] [] (hM (itr askP k V)) := by
  intro n
  induction n with
  | zero =>
    intro k hk
    have e : k = 100 := by omega
    subst e
    refine Wp.iload_n (pc2 := 115) dX5_ask_114 rfl rfl ?_
    refine Wp.bipN (pc2 := 117) 100 dX5_ask_115 rfl (by decide +kernel) ?_
    refine Wp.icmpN_ge (pc2 := 120) 133 dX5_ask_117 rfl (by decide) (by omega) (by omega) (fun c117 => ?_) (fun c117 => ?_)
    · refine Wp.fg [.ref 0, .null] (And.intro (Or.inr rfl) (And.intro (Or.inl rfl) trivial)) ?_
      exact K
    · exfalso; omega
  | succ n ih =>
    intro k hk
    refine Wp.iload_n (pc2 := 115) dX5_ask_114 rfl rfl ?_
    refine Wp.bipN (pc2 := 117) 100 dX5_ask_115 rfl (by decide +kernel) ?_
    refine Wp.icmpN_ge (pc2 := 120) 133 dX5_ask_117 rfl (by decide) (by omega) (by omega) (fun c117 => ?_) (fun c117 => ?_)
    · exfalso; omega
    · refine Wp.aload_n (pc2 := 121) dX5_ask_120 rfl rfl ?_
      refine Wp.getf (pc2 := 124) fX5_69 dX5_ask_121 rfl rfl rfl ?_
      refine Wp.iload_n (pc2 := 125) dX5_ask_124 rfl rfl ?_
      refine Wp.iconN (pc2 := 126) 0 dX5_ask_125 rfl ?_
      refine Wp.iastN (pc2 := 127) dX5_ask_126 rfl rfl (by omega) (by decide) ?_
      refine Wp.heq (hM_a18 _ _ _) ?_
      refine Wp.iincN (pc2 := 130) dX5_ask_127 rfl rfl (by decide) rfl ?_
      refine Wp.goto (pc2 := 114) dX5_ask_130 (by decide) ?_
      exact ih (k + 1) (by omega)

set_option maxRecDepth 100000 in
set_option maxHeartbeats 4000000 in
theorem m_ask_g (V : zS) (Q : Option Value → zh → Prop) (K : Wp mX5_ask Q 155 [.ref 0, .null] [] (hM (itr askG 2500 V))) : ∀ (n k : Nat), k + n = 2500 → Wp mX5_ask Q 135 [.ref 0, .int (nI k)] [] (hM (itr askG k V)) := by
  intro n
  induction n with
  | zero =>
    intro k hk
    have e : k = 2500 := by omega
    subst e
    refine Wp.iload_n (pc2 := 136) dX5_ask_135 rfl rfl ?_
    refine Wp.sipN (pc2 := 139) 2500 dX5_ask_136 rfl (by decide +kernel) ?_
    refine Wp.icmpN_ge (pc2 := 142) 155 dX5_ask_139 rfl (by decide) (by omega) (by omega) (fun c139 => ?_) (fun c139 => ?_)
    · refine Wp.fg [.ref 0, .null] (And.intro (Or.inr rfl) (And.intro (Or.inl rfl) trivial)) ?_
      exact K
    · exfalso; omega
  | succ n ih =>
    intro k hk
    refine Wp.iload_n (pc2 := 136) dX5_ask_135 rfl rfl ?_
    refine Wp.sipN (pc2 := 139) 2500 dX5_ask_136 rfl (by decide +kernel) ?_
    refine Wp.icmpN_ge (pc2 := 142) 155 dX5_ask_139 rfl (by decide) (by omega) (by omega) (fun c139 => ?_) (fun c139 => ?_)
    · exfalso; omega
    · refine Wp.aload_n (pc2 := 143) dX5_ask_142 rfl rfl ?_
      refine Wp.getf (pc2 := 146) fX5_75 dX5_ask_143 rfl rfl rfl ?_
      refine Wp.iload_n (pc2 := 147) dX5_ask_146 rfl rfl ?_
      refine Wp.iconN (pc2 := 148) 0 dX5_ask_147 rfl ?_
      refine Wp.zastN (pc2 := 149) dX5_ask_148 rfl rfl (by omega) (by decide) (by decide +kernel) ?_
      refine Wp.heq (hM_a20 _ _ _) ?_
      refine Wp.iincN (pc2 := 152) dX5_ask_149 rfl rfl (by decide) rfl ?_
      refine Wp.goto (pc2 := 135) dX5_ask_152 (by decide) ?_
      exact ih (k + 1) (by omega)

set_option maxRecDepth 100000 in
set_option maxHeartbeats 4000000 in
theorem m_ask_ok (V : zS) (h : JV V) (hs : V 0 10 ≠ 1) : PM mX5_ask [.ref 0] (hM V) (fun zr zq => zr = some (.int (nI 1)) ∧ zq = hM (mAsk V)) := by
  refine PM.of (by decide +kernel) (by simp [Value.category]) (Nat.le_of_ble_eq_true rfl) ?_
  refine Wp.aload_n (pc2 := 1) dX5_ask_0 rfl rfl ?_
  refine Wp.getf (pc2 := 4) fX5_89 dX5_ask_1 rfl rfl rfl ?_
  refine Wp.iconN (pc2 := 5) 1 dX5_ask_4 rfl ?_
  refine Wp.icmpN_ne (pc2 := 8) 10 dX5_ask_5 rfl (by decide) (h.1.l _ _) (by decide) (fun c5 => ?_) (fun c5 => ?_)
  · refine Wp.aload_n (pc2 := 11) dX5_ask_10 rfl rfl ?_
    refine Wp.iconN (pc2 := 12) 1 dX5_ask_11 rfl ?_
    refine Wp.putf (pc2 := 15) gX5_96 dX5_ask_12 rfl rfl (Nat.le_of_ble_eq_true rfl) (zb_nar true) (zb_fits true) ?_
    refine Wp.heq (hM_o0_11 _ _) ?_
    refine Wp.iconN (pc2 := 16) 0 dX5_ask_15 rfl ?_
    refine Wp.istore_n (pc2 := 17) dX5_ask_16 rfl (by decide) rfl ?_
    refine m_ask_t (vs V 0 11 1) _ ?_ 2 0 (by omega)
    refine Wp.iconN (pc2 := 76) 0 dX5_ask_75 rfl ?_
    refine Wp.istore_n (pc2 := 77) dX5_ask_76 rfl (by decide) rfl ?_
    refine m_ask_k (itr askT 2 (vs V 0 11 1)) _ ?_ 8 0 (by omega)
    refine Wp.iconN (pc2 := 113) 0 dX5_ask_112 rfl ?_
    refine Wp.istore_n (pc2 := 114) dX5_ask_113 rfl (by decide) rfl ?_
    refine m_ask_p (itr askK 8 (itr askT 2 (vs V 0 11 1))) _ ?_ 100 0 (by omega)
    refine Wp.iconN (pc2 := 134) 0 dX5_ask_133 rfl ?_
    refine Wp.istore_n (pc2 := 135) dX5_ask_134 rfl (by decide) rfl ?_
    refine m_ask_g (itr askP 100 (itr askK 8 (itr askT 2 (vs V 0 11 1)))) _ ?_ 2500 0 (by omega)
    have h0 := JV_ask0 h
    change Wp _ _ _ _ _ (hM (askA V))
    refine Wp.aload_n (pc2 := 156) dX5_ask_155 rfl rfl ?_
    refine Wp.iconN (pc2 := 157) 0 dX5_ask_156 rfl ?_
    refine Wp.putf (pc2 := 160) gX5_100 dX5_ask_157 rfl rfl (Nat.le_of_ble_eq_true rfl) rfl rfl ?_
    refine Wp.heq (hM_o0_23 _ _) ?_
    refine Wp.aload_n (pc2 := 161) dX5_ask_160 rfl rfl ?_
    refine Wp.iconN (pc2 := 162) 0 dX5_ask_161 rfl ?_
    refine Wp.putf (pc2 := 165) gX5_103 dX5_ask_162 rfl rfl (Nat.le_of_ble_eq_true rfl) rfl rfl ?_
    refine Wp.heq (hM_o0_26 _ _) ?_
    refine Wp.aload_n (pc2 := 166) dX5_ask_165 rfl rfl ?_
    refine Wp.iconN (pc2 := 167) 0 dX5_ask_166 rfl ?_
    refine Wp.putf (pc2 := 170) gX5_106 dX5_ask_167 rfl rfl (Nat.le_of_ble_eq_true rfl) rfl rfl ?_
    refine Wp.heq (hM_o0_27 _ _) ?_
    refine Wp.aload_n (pc2 := 171) dX5_ask_170 rfl rfl ?_
    refine Wp.iconN (pc2 := 172) 0 dX5_ask_171 rfl ?_
    refine Wp.putf (pc2 := 175) gX5_109 dX5_ask_172 rfl rfl (Nat.le_of_ble_eq_true rfl) rfl rfl ?_
    refine Wp.heq (hM_o0_28 _ _) ?_
    refine Wp.aload_n (pc2 := 176) dX5_ask_175 rfl rfl ?_
    refine Wp.icon (pc2 := 177) dX5_ask_176 rfl (-1) (by decide +kernel) ?_
    refine Wp.top (zo 0) (by decide +kernel) ?_
    refine Wp.putf (pc2 := 180) gX5_112 dX5_ask_177 rfl rfl (Nat.le_of_ble_eq_true rfl) rfl rfl ?_
    refine Wp.heq (hM_o0_29 _ _) ?_
    refine Wp.aload_n (pc2 := 181) dX5_ask_180 rfl rfl ?_
    refine Wp.iconN (pc2 := 182) 0 dX5_ask_181 rfl ?_
    refine Wp.putf (pc2 := 185) gX5_115 dX5_ask_182 rfl rfl (Nat.le_of_ble_eq_true rfl) rfl rfl ?_
    refine Wp.heq (hM_o0_30 _ _) ?_
    refine Wp.aload_n (pc2 := 186) dX5_ask_185 rfl rfl ?_
    refine Wp.iconN (pc2 := 187) 0 dX5_ask_186 rfl ?_
    refine Wp.putf (pc2 := 190) gX5_118 dX5_ask_187 rfl rfl (Nat.le_of_ble_eq_true rfl) rfl rfl ?_
    refine Wp.heq (hM_o0_31 _ _) ?_
    refine Wp.aload_n (pc2 := 191) dX5_ask_190 rfl rfl ?_
    refine Wp.iconN (pc2 := 192) 1 dX5_ask_191 rfl ?_
    refine Wp.putf (pc2 := 195) gX5_89 dX5_ask_192 rfl rfl (Nat.le_of_ble_eq_true rfl) rfl rfl ?_
    refine Wp.heq (hM_o0_10 _ _) ?_
    refine Wp.aload_n (pc2 := 196) dX5_ask_195 rfl rfl ?_
    refine Wp.callV (pc2 := 199) kX5_ask_121 vX5_ends (m_ends (mAsk0 V) h0.1 (h0.2.1 0 (by decide)).2.2.2.2.1 (h0.2.1 1 (by decide)).2.2.2.2.1) dX5_ask_196 rfl rfl rfl rfl rfl (Nat.le_of_ble_eq_true rfl) ?_
    rintro _ _ ⟨rfl, rfl⟩
    refine Wp.iconN (pc2 := 200) 1 dX5_ask_199 rfl ?_
    refine Wp.ret dX5_ask_200 rfl (zb_nar true) ?_
    exact ⟨rfl, rfl⟩
  · exfalso; omega

set_option maxRecDepth 100000 in
set_option maxHeartbeats 4000000 in
theorem m_ask_no (V : zS) (hV : BV V) (hs : V 0 10 = 1) : PM mX5_ask [.ref 0] (hM V) (fun zr zq => zr = some (.int (nI 0)) ∧ zq = hM V) := by
  refine PM.of (by decide +kernel) (by simp [Value.category]) (Nat.le_of_ble_eq_true rfl) ?_
  refine Wp.aload_n (pc2 := 1) dX5_ask_0 rfl rfl ?_
  refine Wp.getf (pc2 := 4) fX5_89 dX5_ask_1 rfl rfl rfl ?_
  refine Wp.iconN (pc2 := 5) 1 dX5_ask_4 rfl ?_
  refine Wp.icmpN_ne (pc2 := 8) 10 dX5_ask_5 rfl (by decide) (hV.l _ _) (by decide) (fun c5 => ?_) (fun c5 => ?_)
  · exfalso; omega
  · refine Wp.iconN (pc2 := 9) 0 dX5_ask_8 rfl ?_
    refine Wp.ret dX5_ask_9 rfl (zb_nar false) ?_
    exact ⟨rfl, rfl⟩

