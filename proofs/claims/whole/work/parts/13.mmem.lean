theorem zo_ne {n : Nat} (h : n < 2 ^ 30) (c : ¬ zo n = -1) : n ≠ 0 := fun z => c ((zo_m1 h).mpr z)
theorem zo_nle {c b : Nat} (hc : c < 2 ^ 30) (hb : b < 2 ^ 30) (h : ¬ nI c ≤ zo b) : b ≤ c := Nat.le_of_not_lt (fun z => h ((zo_le hc hb).mpr z))
/-- in memory, and came at b or later -/
def inP (V : zS) (t b r : Nat) : Prop := V 18 (50 * t + r) = 2 ∧ b ≤ V 19 (50 * t + r)
def NX (V : zS) (t b n m : Nat) : Prop := (m = 0 ∧ ∀ r, r < n → ¬ inP V t b r) ∨ (∃ r, m = r + 1 ∧ r < n ∧ inP V t b r ∧ ∀ r', r' < n → inP V t b r' → V 19 (50 * t + r) ≤ V 19 (50 * t + r'))
theorem NX_0 (V : zS) (t b : Nat) : NX V t b 0 0 := Or.inl ⟨rfl, fun r h => absurd h (Nat.not_lt_zero r)⟩
theorem NX_skip {V : zS} {t b n m : Nat} (h : NX V t b n m) (hp : ¬ inP V t b n) : NX V t b (n + 1) m := by
  rcases h with ⟨h1, h2⟩ | ⟨r, h1, h2, h3, h4⟩
  · exact Or.inl ⟨h1, lt_s (p := fun r => ¬ inP V t b r) h2 hp⟩
  · exact Or.inr ⟨r, h1, by omega, h3, lt_s (p := fun r' => inP V t b r' → V 19 (50 * t + r) ≤ V 19 (50 * t + r')) h4 (fun z => absurd z hp)⟩
theorem NX_new0 {V : zS} {t b n : Nat} (h : NX V t b n 0) (hp : inP V t b n) : NX V t b (n + 1) (n + 1) := by
  rcases h with ⟨-, h2⟩ | ⟨r, h1, -⟩
  · exact Or.inr ⟨n, rfl, by omega, hp, lt_s (p := fun r' => inP V t b r' → V 19 (50 * t + n) ≤ V 19 (50 * t + r')) (fun r' hr z => absurd z (h2 r' hr)) (fun _ => Nat.le_refl _)⟩
  · omega
theorem NX_new {V : zS} {t b n m : Nat} (h : NX V t b n (m + 1)) (hp : inP V t b n) (hl : V 19 (50 * t + n) < V 19 (50 * t + m)) : NX V t b (n + 1) (n + 1) := by
  rcases h with ⟨h1, -⟩ | ⟨r, h1, h2, h3, h4⟩
  · omega
  · have e : r = m := by omega
    subst e
    exact Or.inr ⟨n, rfl, by omega, hp, lt_s (p := fun r' => inP V t b r' → V 19 (50 * t + n) ≤ V 19 (50 * t + r')) (fun r' hr z => Nat.le_trans (Nat.le_of_lt hl) (h4 r' hr z)) (fun _ => Nat.le_refl _)⟩
theorem NX_keep {V : zS} {t b n m : Nat} (h : NX V t b n (m + 1)) (hl : V 19 (50 * t + m) ≤ V 19 (50 * t + n)) : NX V t b (n + 1) (m + 1) := by
  rcases h with ⟨h1, -⟩ | ⟨r, h1, h2, h3, h4⟩
  · omega
  · have e : r = m := by omega
    subst e
    exact Or.inr ⟨r, rfl, by omega, h3, lt_s (p := fun r' => inP V t b r' → V 19 (50 * t + r) ≤ V 19 (50 * t + r')) h4 (fun _ => hl)⟩
theorem NX_lt {V : zS} {t b n m : Nat} (h : NX V t b n (m + 1)) : m < n := by
  rcases h with ⟨h1, -⟩ | ⟨r, h1, h2, -⟩ <;> omega

set_option maxRecDepth 100000 in
set_option maxHeartbeats 4000000 in
theorem m_nextIn_l (V : zS) (t b : Nat) (hV : BV V) (ht : t < 2) (hr : V 1 t ≤ 50) (hb : b < 2 ^ 30) : ∀ (n r m : Nat), r ≤ V 1 t → V 1 t < r + n → NX V t b r m → Wp mX5_nextIn (fun zr zq => (∃ m, zr = some (.int (zo m)) ∧ NX V t b (V 1 t) m) ∧ zq = hM V) 5 [.ref 0, .int (nI t), .int (zo b), .int (zo m), .int (nI r), .null] [] (hM V) := by
  intro n
  induction n with
  | zero => intro r m h1 h2; omega
  | succ n ih =>
    intro r m h1 h2 h
    have hm30 : m < 2 ^ 30 := by
      rcases h with ⟨e, -⟩ | ⟨q, e, e2, -⟩ <;> omega
    refine Wp.iload (pc2 := 7) dX5_nextIn_5 rfl rfl ?_
    refine Wp.aload_n (pc2 := 8) dX5_nextIn_7 rfl rfl ?_
    refine Wp.getf (pc2 := 11) fX5_7 dX5_nextIn_8 rfl rfl rfl ?_
    refine Wp.iload_n (pc2 := 12) dX5_nextIn_11 rfl rfl ?_
    refine Wp.ialdN (pc2 := 13) dX5_nextIn_12 rfl rfl (by omega) (by decide) ?_
    refine Wp.icmpN_ge (pc2 := 16) 82 dX5_nextIn_13 rfl (by decide) (by omega) (hV.l _ _) (fun c13 => ?_) (fun c13 => ?_)
    · refine Wp.iload_n (pc2 := 83) dX5_nextIn_82 rfl rfl ?_
      refine Wp.ret dX5_nextIn_83 rfl rfl ?_
      have e : r = V 1 t := by omega
      subst e
      exact ⟨⟨m, rfl, h⟩, rfl⟩
    · refine Wp.bipN (pc2 := 18) 50 dX5_nextIn_16 rfl (by decide +kernel) ?_
      refine Wp.iload_n (pc2 := 19) dX5_nextIn_18 rfl rfl ?_
      refine Wp.imulN (pc2 := 20) dX5_nextIn_19 rfl  ?_
      refine Wp.iload (pc2 := 22) dX5_nextIn_20 rfl rfl ?_
      refine Wp.iaddN (pc2 := 23) dX5_nextIn_22 rfl  ?_
      refine Wp.istore (pc2 := 25) dX5_nextIn_23 rfl (by decide) rfl ?_
      refine Wp.aload_n (pc2 := 26) dX5_nextIn_25 rfl rfl ?_
      refine Wp.getf (pc2 := 29) fX5_69 dX5_nextIn_26 rfl rfl rfl ?_
      refine Wp.iload (pc2 := 31) dX5_nextIn_29 rfl rfl ?_
      refine Wp.ialdN (pc2 := 32) dX5_nextIn_31 rfl rfl (by omega) (by decide) ?_
      refine Wp.iconN (pc2 := 33) 2 dX5_nextIn_32 rfl ?_
      refine Wp.icmpN_ne (pc2 := 36) 76 dX5_nextIn_33 rfl (by decide) (hV.l _ _) (by decide) (fun c33 => ?_) (fun c33 => ?_)
      · refine Wp.iincN (pc2 := 79) dX5_nextIn_76 rfl rfl (by decide) rfl ?_
        refine Wp.goto (pc2 := 5) dX5_nextIn_79 (by decide) ?_
        first
          | (refine Wp.fg [.ref 0, .int (nI t), .int (zo b), .int (nI r), .int (nI (r + 1)), .null] (And.intro (Or.inr rfl) (And.intro (Or.inr rfl) (And.intro (Or.inr rfl) (And.intro (Or.inr rfl) (And.intro (Or.inr rfl) (And.intro (Or.inl rfl) trivial)))))) ?_
             have hin : inP V t b r := ⟨c33, zo_nle (by have := hV 19 (50 * t + r); omega) hb c44⟩
             have hn : NX V t b (r + 1) (r + 1) := by
               first
                 | exact NX_new h hin c70
                 | exact NX_new0 (((zo_m1 hm30).mp c49) ▸ h) hin
             exact Wp.leq (by rw [zo_s]) (ih (r + 1) (r + 1) (by omega) (by omega) hn))
          | (refine Wp.fg [.ref 0, .int (nI t), .int (zo b), .int (nI m), .int (nI (r + 1)), .null] (And.intro (Or.inr rfl) (And.intro (Or.inr rfl) (And.intro (Or.inr rfl) (And.intro (Or.inr rfl) (And.intro (Or.inr rfl) (And.intro (Or.inl rfl) trivial)))))) ?_
             exact Wp.leq (by rw [zo_s]) (ih (r + 1) (m + 1) (by omega) (by omega) (NX_keep h c70)))
          | (refine Wp.fg [.ref 0, .int (nI t), .int (zo b), .int (zo m), .int (nI (r + 1)), .null] (And.intro (Or.inr rfl) (And.intro (Or.inr rfl) (And.intro (Or.inr rfl) (And.intro (Or.inr rfl) (And.intro (Or.inr rfl) (And.intro (Or.inl rfl) trivial)))))) ?_
             have hin : ¬ inP V t b r := by
               first
                 | exact fun z => c33 z.1
                 | exact fun z => absurd ((zo_le (c := V 19 (50 * t + r)) (b := b) (by have := hV 19 (50 * t + r); omega) hb).mp c44) (Nat.not_lt.mpr z.2)
             exact ih (r + 1) m (by omega) (by omega) (NX_skip h hin))
      · refine Wp.aload_n (pc2 := 37) dX5_nextIn_36 rfl rfl ?_
        refine Wp.getf (pc2 := 40) fX5_72 dX5_nextIn_37 rfl rfl rfl ?_
        refine Wp.iload (pc2 := 42) dX5_nextIn_40 rfl rfl ?_
        refine Wp.ialdN (pc2 := 43) dX5_nextIn_42 rfl rfl (by omega) (by decide) ?_
        refine Wp.iload_n (pc2 := 44) dX5_nextIn_43 rfl rfl ?_
        refine Wp.icmp_le (pc2 := 47) 76 dX5_nextIn_44 rfl (by decide)  (fun c44 => ?_) (fun c44 => ?_)
        · refine Wp.iincN (pc2 := 79) dX5_nextIn_76 rfl rfl (by decide) rfl ?_
          refine Wp.goto (pc2 := 5) dX5_nextIn_79 (by decide) ?_
          first
            | (refine Wp.fg [.ref 0, .int (nI t), .int (zo b), .int (nI r), .int (nI (r + 1)), .null] (And.intro (Or.inr rfl) (And.intro (Or.inr rfl) (And.intro (Or.inr rfl) (And.intro (Or.inr rfl) (And.intro (Or.inr rfl) (And.intro (Or.inl rfl) trivial)))))) ?_
               have hin : inP V t b r := ⟨c33, zo_nle (by have := hV 19 (50 * t + r); omega) hb c44⟩
               have hn : NX V t b (r + 1) (r + 1) := by
                 first
                   | exact NX_new h hin c70
                   | exact NX_new0 (((zo_m1 hm30).mp c49) ▸ h) hin
               exact Wp.leq (by rw [zo_s]) (ih (r + 1) (r + 1) (by omega) (by omega) hn))
            | (refine Wp.fg [.ref 0, .int (nI t), .int (zo b), .int (nI m), .int (nI (r + 1)), .null] (And.intro (Or.inr rfl) (And.intro (Or.inr rfl) (And.intro (Or.inr rfl) (And.intro (Or.inr rfl) (And.intro (Or.inr rfl) (And.intro (Or.inl rfl) trivial)))))) ?_
               exact Wp.leq (by rw [zo_s]) (ih (r + 1) (m + 1) (by omega) (by omega) (NX_keep h c70)))
            | (refine Wp.fg [.ref 0, .int (nI t), .int (zo b), .int (zo m), .int (nI (r + 1)), .null] (And.intro (Or.inr rfl) (And.intro (Or.inr rfl) (And.intro (Or.inr rfl) (And.intro (Or.inr rfl) (And.intro (Or.inr rfl) (And.intro (Or.inl rfl) trivial)))))) ?_
               have hin : ¬ inP V t b r := by
                 first
                   | exact fun z => c33 z.1
                   | exact fun z => absurd ((zo_le (c := V 19 (50 * t + r)) (b := b) (by have := hV 19 (50 * t + r); omega) hb).mp c44) (Nat.not_lt.mpr z.2)
               exact ih (r + 1) m (by omega) (by omega) (NX_skip h hin))
        · refine Wp.iload_n (pc2 := 48) dX5_nextIn_47 rfl rfl ?_
          refine Wp.icon (pc2 := 49) dX5_nextIn_48 rfl (-1) (by decide +kernel) ?_
          refine Wp.icmp_eq (pc2 := 52) 73 dX5_nextIn_49 rfl (by decide)  (fun c49 => ?_) (fun c49 => ?_)
          · refine Wp.iload (pc2 := 75) dX5_nextIn_73 rfl rfl ?_
            refine Wp.istore_n (pc2 := 76) dX5_nextIn_75 rfl (by decide) rfl ?_
            refine Wp.iincN (pc2 := 79) dX5_nextIn_76 rfl rfl (by decide) rfl ?_
            refine Wp.goto (pc2 := 5) dX5_nextIn_79 (by decide) ?_
            first
              | (refine Wp.fg [.ref 0, .int (nI t), .int (zo b), .int (nI r), .int (nI (r + 1)), .null] (And.intro (Or.inr rfl) (And.intro (Or.inr rfl) (And.intro (Or.inr rfl) (And.intro (Or.inr rfl) (And.intro (Or.inr rfl) (And.intro (Or.inl rfl) trivial)))))) ?_
                 have hin : inP V t b r := ⟨c33, zo_nle (by have := hV 19 (50 * t + r); omega) hb c44⟩
                 have hn : NX V t b (r + 1) (r + 1) := by
                   first
                     | exact NX_new h hin c70
                     | exact NX_new0 (((zo_m1 hm30).mp c49) ▸ h) hin
                 exact Wp.leq (by rw [zo_s]) (ih (r + 1) (r + 1) (by omega) (by omega) hn))
              | (refine Wp.fg [.ref 0, .int (nI t), .int (zo b), .int (nI m), .int (nI (r + 1)), .null] (And.intro (Or.inr rfl) (And.intro (Or.inr rfl) (And.intro (Or.inr rfl) (And.intro (Or.inr rfl) (And.intro (Or.inr rfl) (And.intro (Or.inl rfl) trivial)))))) ?_
                 exact Wp.leq (by rw [zo_s]) (ih (r + 1) (m + 1) (by omega) (by omega) (NX_keep h c70)))
              | (refine Wp.fg [.ref 0, .int (nI t), .int (zo b), .int (zo m), .int (nI (r + 1)), .null] (And.intro (Or.inr rfl) (And.intro (Or.inr rfl) (And.intro (Or.inr rfl) (And.intro (Or.inr rfl) (And.intro (Or.inr rfl) (And.intro (Or.inl rfl) trivial)))))) ?_
                 have hin : ¬ inP V t b r := by
                   first
                     | exact fun z => c33 z.1
                     | exact fun z => absurd ((zo_le (c := V 19 (50 * t + r)) (b := b) (by have := hV 19 (50 * t + r); omega) hb).mp c44) (Nat.not_lt.mpr z.2)
                 exact ih (r + 1) m (by omega) (by omega) (NX_skip h hin))
          · obtain ⟨m, rfl⟩ : ∃ m1, m = m1 + 1 := ⟨m - 1, by have : m ≠ 0 := zo_ne hm30 c49; omega⟩
            have hmr := NX_lt h
            rw [zo_s]
            refine Wp.aload_n (pc2 := 53) dX5_nextIn_52 rfl rfl ?_
            refine Wp.getf (pc2 := 56) fX5_72 dX5_nextIn_53 rfl rfl rfl ?_
            refine Wp.iload (pc2 := 58) dX5_nextIn_56 rfl rfl ?_
            refine Wp.ialdN (pc2 := 59) dX5_nextIn_58 rfl rfl (by omega) (by decide) ?_
            refine Wp.aload_n (pc2 := 60) dX5_nextIn_59 rfl rfl ?_
            refine Wp.getf (pc2 := 63) fX5_72 dX5_nextIn_60 rfl rfl rfl ?_
            refine Wp.bipN (pc2 := 65) 50 dX5_nextIn_63 rfl (by decide +kernel) ?_
            refine Wp.iload_n (pc2 := 66) dX5_nextIn_65 rfl rfl ?_
            refine Wp.imulN (pc2 := 67) dX5_nextIn_66 rfl  ?_
            refine Wp.iload_n (pc2 := 68) dX5_nextIn_67 rfl rfl ?_
            refine Wp.iaddN (pc2 := 69) dX5_nextIn_68 rfl  ?_
            refine Wp.ialdN (pc2 := 70) dX5_nextIn_69 rfl rfl (by omega) (by decide) ?_
            refine Wp.icmpN_ge (pc2 := 73) 76 dX5_nextIn_70 rfl (by decide) (hV.l _ _) (hV.l _ _) (fun c70 => ?_) (fun c70 => ?_)
            · refine Wp.iincN (pc2 := 79) dX5_nextIn_76 rfl rfl (by decide) rfl ?_
              refine Wp.goto (pc2 := 5) dX5_nextIn_79 (by decide) ?_
              first
                | (refine Wp.fg [.ref 0, .int (nI t), .int (zo b), .int (nI r), .int (nI (r + 1)), .null] (And.intro (Or.inr rfl) (And.intro (Or.inr rfl) (And.intro (Or.inr rfl) (And.intro (Or.inr rfl) (And.intro (Or.inr rfl) (And.intro (Or.inl rfl) trivial)))))) ?_
                   have hin : inP V t b r := ⟨c33, zo_nle (by have := hV 19 (50 * t + r); omega) hb c44⟩
                   have hn : NX V t b (r + 1) (r + 1) := by
                     first
                       | exact NX_new h hin c70
                       | exact NX_new0 (((zo_m1 hm30).mp c49) ▸ h) hin
                   exact Wp.leq (by rw [zo_s]) (ih (r + 1) (r + 1) (by omega) (by omega) hn))
                | (refine Wp.fg [.ref 0, .int (nI t), .int (zo b), .int (nI m), .int (nI (r + 1)), .null] (And.intro (Or.inr rfl) (And.intro (Or.inr rfl) (And.intro (Or.inr rfl) (And.intro (Or.inr rfl) (And.intro (Or.inr rfl) (And.intro (Or.inl rfl) trivial)))))) ?_
                   exact Wp.leq (by rw [zo_s]) (ih (r + 1) (m + 1) (by omega) (by omega) (NX_keep h c70)))
                | (refine Wp.fg [.ref 0, .int (nI t), .int (zo b), .int (zo m), .int (nI (r + 1)), .null] (And.intro (Or.inr rfl) (And.intro (Or.inr rfl) (And.intro (Or.inr rfl) (And.intro (Or.inr rfl) (And.intro (Or.inr rfl) (And.intro (Or.inl rfl) trivial)))))) ?_
                   have hin : ¬ inP V t b r := by
                     first
                       | exact fun z => c33 z.1
                       | exact fun z => absurd ((zo_le (c := V 19 (50 * t + r)) (b := b) (by have := hV 19 (50 * t + r); omega) hb).mp c44) (Nat.not_lt.mpr z.2)
                   exact ih (r + 1) m (by omega) (by omega) (NX_skip h hin))
            · refine Wp.iload (pc2 := 75) dX5_nextIn_73 rfl rfl ?_
              refine Wp.istore_n (pc2 := 76) dX5_nextIn_75 rfl (by decide) rfl ?_
              refine Wp.iincN (pc2 := 79) dX5_nextIn_76 rfl rfl (by decide) rfl ?_
              refine Wp.goto (pc2 := 5) dX5_nextIn_79 (by decide) ?_
              first
                | (refine Wp.fg [.ref 0, .int (nI t), .int (zo b), .int (nI r), .int (nI (r + 1)), .null] (And.intro (Or.inr rfl) (And.intro (Or.inr rfl) (And.intro (Or.inr rfl) (And.intro (Or.inr rfl) (And.intro (Or.inr rfl) (And.intro (Or.inl rfl) trivial)))))) ?_
                   have hin : inP V t b r := ⟨c33, zo_nle (by have := hV 19 (50 * t + r); omega) hb c44⟩
                   have hn : NX V t b (r + 1) (r + 1) := by
                     first
                       | exact NX_new h hin c70
                       | exact NX_new0 (((zo_m1 hm30).mp c49) ▸ h) hin
                   exact Wp.leq (by rw [zo_s]) (ih (r + 1) (r + 1) (by omega) (by omega) hn))
                | (refine Wp.fg [.ref 0, .int (nI t), .int (zo b), .int (nI m), .int (nI (r + 1)), .null] (And.intro (Or.inr rfl) (And.intro (Or.inr rfl) (And.intro (Or.inr rfl) (And.intro (Or.inr rfl) (And.intro (Or.inr rfl) (And.intro (Or.inl rfl) trivial)))))) ?_
                   exact Wp.leq (by rw [zo_s]) (ih (r + 1) (m + 1) (by omega) (by omega) (NX_keep h c70)))
                | (refine Wp.fg [.ref 0, .int (nI t), .int (zo b), .int (zo m), .int (nI (r + 1)), .null] (And.intro (Or.inr rfl) (And.intro (Or.inr rfl) (And.intro (Or.inr rfl) (And.intro (Or.inr rfl) (And.intro (Or.inr rfl) (And.intro (Or.inl rfl) trivial)))))) ?_
                   have hin : ¬ inP V t b r := by
                     first
                       | exact fun z => c33 z.1
                       | exact fun z => absurd ((zo_le (c := V 19 (50 * t + r)) (b := b) (by have := hV 19 (50 * t + r); omega) hb).mp c44) (Nat.not_lt.mpr z.2)
                   exact ih (r + 1) m (by omega) (by omega) (NX_skip h hin))

set_option maxRecDepth 100000 in
set_option maxHeartbeats 4000000 in
theorem m_nextIn (V : zS) (t b : Nat) (hV : BV V) (ht : t < 2) (hr : V 1 t ≤ 50) (hb : b < 2 ^ 30) : PM mX5_nextIn [.ref 0, .int (nI t), .int (zo b)] (hM V) (fun zr zq => (∃ m, zr = some (.int (zo m)) ∧ NX V t b (V 1 t) m) ∧ zq = hM V) := by
  refine PM.of (by decide +kernel) (by simp [Value.category]) (Nat.le_of_ble_eq_true rfl) ?_
  refine Wp.icon (pc2 := 1) dX5_nextIn_0 rfl (-1) (by decide +kernel) ?_
  refine Wp.istore_n (pc2 := 2) dX5_nextIn_1 rfl (by decide) rfl ?_
  refine Wp.iconN (pc2 := 3) 0 dX5_nextIn_2 rfl ?_
  refine Wp.istore (pc2 := 5) dX5_nextIn_3 rfl (by decide) rfl ?_
  exact m_nextIn_l V t b hV ht hr hb (V 1 t + 1) 0 0 (by omega) (by omega) (NX_0 V t b)

def NB (V : zS) (n m : Nat) : Prop := (m = 0 ∧ ∀ r, r < n → ¬ V 18 r = 2) ∨ (∃ r, m = r + 1 ∧ r < n ∧ V 18 r = 2 ∧ ∀ r', r' < n → V 18 r' = 2 → V 19 r ≤ V 19 r')
theorem NB_0 (V : zS) : NB V 0 0 := Or.inl ⟨rfl, fun r h => absurd h (Nat.not_lt_zero r)⟩
theorem NB_skip {V : zS} {n m : Nat} (h : NB V n m) (hp : ¬ V 18 n = 2) : NB V (n + 1) m := by
  rcases h with ⟨h1, h2⟩ | ⟨r, h1, h2, h3, h4⟩
  · exact Or.inl ⟨h1, lt_s (p := fun r => ¬ V 18 r = 2) h2 hp⟩
  · exact Or.inr ⟨r, h1, by omega, h3, lt_s (p := fun r' => V 18 r' = 2 → V 19 r ≤ V 19 r') h4 (fun z => absurd z hp)⟩
theorem NB_new0 {V : zS} {n : Nat} (h : NB V n 0) (hp : V 18 n = 2) : NB V (n + 1) (n + 1) := by
  rcases h with ⟨-, h2⟩ | ⟨r, h1, -⟩
  · exact Or.inr ⟨n, rfl, by omega, hp, lt_s (p := fun r' => V 18 r' = 2 → V 19 n ≤ V 19 r') (fun r' hr z => absurd z (h2 r' hr)) (fun _ => Nat.le_refl _)⟩
  · omega
theorem NB_new {V : zS} {n m : Nat} (h : NB V n (m + 1)) (hp : V 18 n = 2) (hl : V 19 n < V 19 m) : NB V (n + 1) (n + 1) := by
  rcases h with ⟨h1, -⟩ | ⟨r, h1, h2, h3, h4⟩
  · omega
  · have e : r = m := by omega
    subst e
    exact Or.inr ⟨n, rfl, by omega, hp, lt_s (p := fun r' => V 18 r' = 2 → V 19 n ≤ V 19 r') (fun r' hr z => Nat.le_trans (Nat.le_of_lt hl) (h4 r' hr z)) (fun _ => Nat.le_refl _)⟩
theorem NB_keep {V : zS} {n m : Nat} (h : NB V n (m + 1)) (hl : V 19 m ≤ V 19 n) : NB V (n + 1) (m + 1) := by
  rcases h with ⟨h1, -⟩ | ⟨r, h1, h2, h3, h4⟩
  · omega
  · have e : r = m := by omega
    subst e
    exact Or.inr ⟨r, rfl, by omega, h3, lt_s (p := fun r' => V 18 r' = 2 → V 19 r ≤ V 19 r') h4 (fun _ => hl)⟩
theorem NB_lt {V : zS} {n m : Nat} (h : NB V n (m + 1)) : m < n := by
  rcases h with ⟨h1, -⟩ | ⟨r, h1, h2, -⟩ <;> omega
/-- the rows that came to memory, in their order: V 22 (it stands in no cell of the reference) -/
def QI (V : zS) : Prop := V 0 28 ≤ V 0 23 ∧ V 0 23 ≤ 100 ∧ (∀ i, i < V 0 23 → V 22 i < 100 ∧ V 19 (V 22 i) = i ∧ V 18 (V 22 i) = if i < V 0 28 then 3 else 2) ∧ ∀ e, e < 100 → 2 ≤ V 18 e → ∃ i, i < V 0 23 ∧ V 22 i = e
def mSpill1 (V : zS) : zS := vs (vs V 18 (V 22 (V 0 28)) 3) 0 28 (V 0 28 + 1)
def spillN : Nat → zS → zS
  | 0, V => V
  | n + 1, V => spillN n (mSpill1 V)
def mSpills (V : zS) : zS := spillN (V 0 23 - V 0 28 - V 0 8) V
theorem QI_inj {V : zS} (h : QI V) {i j : Nat} (hi : i < V 0 23) (hj : j < V 0 23) (e : V 22 i = V 22 j) : i = j := by
  have h1 := (h.2.2.1 i hi).2.1
  have h2 := (h.2.2.1 j hj).2.1
  rw [e, h2] at h1; exact h1.symm
theorem QI_spill {V : zS} (h : QI V) (hl : V 0 28 < V 0 23) : QI (mSpill1 V) := by
  have e23 : mSpill1 V 0 23 = V 0 23 := by simp [mSpill1, vs]
  have e28 : mSpill1 V 0 28 = V 0 28 + 1 := by simp [mSpill1, vs]
  have e22 : ∀ i, mSpill1 V 22 i = V 22 i := fun i => by simp [mSpill1, vs]
  have e19 : ∀ i, mSpill1 V 19 i = V 19 i := fun i => by simp [mSpill1, vs]
  have e18 : ∀ i, mSpill1 V 18 i = if i = V 22 (V 0 28) then 3 else V 18 i := fun i => by simp [mSpill1, vs]
  obtain ⟨h1, h2, h3, h4⟩ := id h
  refine ⟨by omega, by omega, fun i hi => ?_, fun e he hp => ?_⟩
  · rw [e23] at hi
    rw [e22, e19, e18, e28]
    refine ⟨(h3 i hi).1, (h3 i hi).2.1, ?_⟩
    by_cases q : V 22 i = V 22 (V 0 28)
    · rw [if_pos q, if_pos (by have := QI_inj h hi hl q; omega)]
    · rw [if_neg q, (h3 i hi).2.2]
      have : i ≠ V 0 28 := fun z => q (by rw [z])
      by_cases q2 : i < V 0 28
      · rw [if_pos q2, if_pos (by omega)]
      · rw [if_neg q2, if_neg (by omega)]
  · rw [e23]
    rw [e18] at hp
    by_cases q : e = V 22 (V 0 28)
    · exact ⟨V 0 28, hl, by rw [e22]; exact q.symm⟩
    · rw [if_neg q] at hp
      obtain ⟨i, hi, hq⟩ := h4 e he hp
      exact ⟨i, hi, by rw [e22]; exact hq⟩
theorem cntM_vs {V : zS} {e x : Nat} (he : V 18 e = 2) (hx : x ≠ 2) : ∀ n, (n ≤ e → cntM (vs V 18 e x) n = cntM V n) ∧ (e < n → cntM V n = cntM (vs V 18 e x) n + 1)
  | 0 => ⟨fun _ => rfl, fun h => absurd h (Nat.not_lt_zero e)⟩
  | n + 1 => by
    obtain ⟨h1, h2⟩ := cntM_vs he hx n
    refine ⟨fun h => ?_, fun h => ?_⟩
    · show cntM _ n + _ = cntM V n + _
      rw [h1 (by omega), vs_at, if_neg (show n ≠ e by omega)]
    · show cntM V n + _ = cntM _ n + _ + 1
      rw [vs_at]
      by_cases q : n = e
      · subst q
        rw [h1 (Nat.le_refl _), if_pos he, if_pos rfl, if_neg hx]
      · rw [h2 (by omega), if_neg q]; omega
theorem cntM_o {V : zS} {k : Nat} (i x : Nat) (hk : k ≠ 18) : ∀ n, cntM (vs V k i x) n = cntM V n
  | 0 => rfl
  | n + 1 => by
    show cntM _ n + _ = cntM V n + _
    rw [cntM_o i x hk n, vs_k _ (Ne.symm hk)]
theorem cntM_0 {V : zS} : ∀ n, (∀ e, e < n → V 18 e ≠ 2) → cntM V n = 0
  | 0, _ => rfl
  | n + 1, h => by
    show cntM V n + _ = 0
    rw [cntM_0 n (fun e he => h e (by omega)), if_neg (h n (by omega))]
theorem QI_cnt : ∀ (n : Nat) {V : zS}, QI V → V 0 23 - V 0 28 = n → cntM V 100 = n
  | 0, V, h, hn => by
    refine cntM_0 100 (fun e he z => ?_)
    obtain ⟨i, hi, hq⟩ := h.2.2.2 e he (by omega)
    have := (h.2.2.1 i hi).2.2
    have h1 := h.1
    rw [hq, z, if_pos (by omega)] at this
    omega
  | n + 1, V, h, hn => by
    have hl : V 0 28 < V 0 23 := by omega
    have h3 := h.2.2.1 _ hl
    have h2 : V 18 (V 22 (V 0 28)) = 2 := by rw [h3.2.2, if_neg (by omega)]
    have k := QI_cnt n (QI_spill h hl) (by simp [mSpill1, vs]; omega)
    unfold mSpill1 at k
    rw [cntM_o _ _ (by decide)] at k
    rw [(cntM_vs h2 (show (3 : Nat) ≠ 2 by decide) 100).2 h3.1, k]
theorem BV_spill1 {V : zS} (hV : BV V) (h : V 0 28 < 2 ^ 20 - 1) : BV (mSpill1 V) := (hV.up (by decide)).up (by omega)

set_option maxRecDepth 100000 in
set_option maxHeartbeats 4000000 in
theorem m_spills_l (V : zS) (Q : Option Value → zh → Prop) (hV : BV V) (K : ∀ m, NB V 100 m → Wp mX5_spills Q 59 [.ref 0, .int (zo m), .null] [] (hM V)) : ∀ (n r m : Nat), r ≤ 100 → 100 < r + n → NB V r m → Wp mX5_spills Q 15 [.ref 0, .int (zo m), .int (nI r)] [] (hM V) := by
  intro n
  induction n with
  | zero => intro r m h1 h2; omega
  | succ n ih =>
    intro r m h1 h2 h
    have hm30 : m < 2 ^ 30 := by
      rcases h with ⟨e, -⟩ | ⟨q, e, e2, -⟩ <;> omega
    refine Wp.iload_n (pc2 := 16) dX5_spills_15 rfl rfl ?_
    refine Wp.bipN (pc2 := 18) 100 dX5_spills_16 rfl (by decide +kernel) ?_
    refine Wp.icmpN_ge (pc2 := 21) 59 dX5_spills_18 rfl (by decide) (by omega) (by omega) (fun c18 => ?_) (fun c18 => ?_)
    · have e : r = 100 := by omega
      subst e
      refine Wp.fg [.ref 0, .int (zo m), .null] (And.intro (Or.inr rfl) (And.intro (Or.inr rfl) (And.intro (Or.inl rfl) trivial))) ?_
      exact K m h
    · refine Wp.aload_n (pc2 := 22) dX5_spills_21 rfl rfl ?_
      refine Wp.getf (pc2 := 25) fX5_69 dX5_spills_22 rfl rfl rfl ?_
      refine Wp.iload_n (pc2 := 26) dX5_spills_25 rfl rfl ?_
      refine Wp.ialdN (pc2 := 27) dX5_spills_26 rfl rfl (by omega) (by decide) ?_
      refine Wp.iconN (pc2 := 28) 2 dX5_spills_27 rfl ?_
      refine Wp.icmpN_ne (pc2 := 31) 53 dX5_spills_28 rfl (by decide) (hV.l _ _) (by decide) (fun c28 => ?_) (fun c28 => ?_)
      · refine Wp.iincN (pc2 := 56) dX5_spills_53 rfl rfl (by decide) rfl ?_
        refine Wp.goto (pc2 := 15) dX5_spills_56 (by decide) ?_
        first
          | (refine Wp.fg [.ref 0, .int (nI r), .int (nI (r + 1))] (And.intro (Or.inr rfl) (And.intro (Or.inr rfl) (And.intro (Or.inr rfl) trivial))) ?_
             have hn : NB V (r + 1) (r + 1) := by
               first
                 | exact NB_new h c28 c48
                 | exact NB_new0 (((zo_m1 hm30).mp c33) ▸ h) c28
             exact Wp.leq (by rw [zo_s]) (ih (r + 1) (r + 1) (by omega) (by omega) hn))
          | (refine Wp.fg [.ref 0, .int (nI m), .int (nI (r + 1))] (And.intro (Or.inr rfl) (And.intro (Or.inr rfl) (And.intro (Or.inr rfl) trivial))) ?_
             exact Wp.leq (by rw [zo_s]) (ih (r + 1) (m + 1) (by omega) (by omega) (NB_keep h c48)))
          | (refine Wp.fg [.ref 0, .int (zo m), .int (nI (r + 1))] (And.intro (Or.inr rfl) (And.intro (Or.inr rfl) (And.intro (Or.inr rfl) trivial))) ?_
             exact ih (r + 1) m (by omega) (by omega) (NB_skip h c28))
      · refine Wp.iload_n (pc2 := 32) dX5_spills_31 rfl rfl ?_
        refine Wp.icon (pc2 := 33) dX5_spills_32 rfl (-1) (by decide +kernel) ?_
        refine Wp.icmp_eq (pc2 := 36) 51 dX5_spills_33 rfl (by decide)  (fun c33 => ?_) (fun c33 => ?_)
        · refine Wp.iload_n (pc2 := 52) dX5_spills_51 rfl rfl ?_
          refine Wp.istore_n (pc2 := 53) dX5_spills_52 rfl (by decide) rfl ?_
          refine Wp.iincN (pc2 := 56) dX5_spills_53 rfl rfl (by decide) rfl ?_
          refine Wp.goto (pc2 := 15) dX5_spills_56 (by decide) ?_
          first
            | (refine Wp.fg [.ref 0, .int (nI r), .int (nI (r + 1))] (And.intro (Or.inr rfl) (And.intro (Or.inr rfl) (And.intro (Or.inr rfl) trivial))) ?_
               have hn : NB V (r + 1) (r + 1) := by
                 first
                   | exact NB_new h c28 c48
                   | exact NB_new0 (((zo_m1 hm30).mp c33) ▸ h) c28
               exact Wp.leq (by rw [zo_s]) (ih (r + 1) (r + 1) (by omega) (by omega) hn))
            | (refine Wp.fg [.ref 0, .int (nI m), .int (nI (r + 1))] (And.intro (Or.inr rfl) (And.intro (Or.inr rfl) (And.intro (Or.inr rfl) trivial))) ?_
               exact Wp.leq (by rw [zo_s]) (ih (r + 1) (m + 1) (by omega) (by omega) (NB_keep h c48)))
            | (refine Wp.fg [.ref 0, .int (zo m), .int (nI (r + 1))] (And.intro (Or.inr rfl) (And.intro (Or.inr rfl) (And.intro (Or.inr rfl) trivial))) ?_
               exact ih (r + 1) m (by omega) (by omega) (NB_skip h c28))
        · obtain ⟨m, rfl⟩ : ∃ m1, m = m1 + 1 := ⟨m - 1, by have : m ≠ 0 := zo_ne hm30 c33; omega⟩
          have hmr := NB_lt h
          rw [zo_s]
          refine Wp.aload_n (pc2 := 37) dX5_spills_36 rfl rfl ?_
          refine Wp.getf (pc2 := 40) fX5_72 dX5_spills_37 rfl rfl rfl ?_
          refine Wp.iload_n (pc2 := 41) dX5_spills_40 rfl rfl ?_
          refine Wp.ialdN (pc2 := 42) dX5_spills_41 rfl rfl (by omega) (by decide) ?_
          refine Wp.aload_n (pc2 := 43) dX5_spills_42 rfl rfl ?_
          refine Wp.getf (pc2 := 46) fX5_72 dX5_spills_43 rfl rfl rfl ?_
          refine Wp.iload_n (pc2 := 47) dX5_spills_46 rfl rfl ?_
          refine Wp.ialdN (pc2 := 48) dX5_spills_47 rfl rfl (by omega) (by decide) ?_
          refine Wp.icmpN_ge (pc2 := 51) 53 dX5_spills_48 rfl (by decide) (hV.l _ _) (hV.l _ _) (fun c48 => ?_) (fun c48 => ?_)
          · refine Wp.iincN (pc2 := 56) dX5_spills_53 rfl rfl (by decide) rfl ?_
            refine Wp.goto (pc2 := 15) dX5_spills_56 (by decide) ?_
            first
              | (refine Wp.fg [.ref 0, .int (nI r), .int (nI (r + 1))] (And.intro (Or.inr rfl) (And.intro (Or.inr rfl) (And.intro (Or.inr rfl) trivial))) ?_
                 have hn : NB V (r + 1) (r + 1) := by
                   first
                     | exact NB_new h c28 c48
                     | exact NB_new0 (((zo_m1 hm30).mp c33) ▸ h) c28
                 exact Wp.leq (by rw [zo_s]) (ih (r + 1) (r + 1) (by omega) (by omega) hn))
              | (refine Wp.fg [.ref 0, .int (nI m), .int (nI (r + 1))] (And.intro (Or.inr rfl) (And.intro (Or.inr rfl) (And.intro (Or.inr rfl) trivial))) ?_
                 exact Wp.leq (by rw [zo_s]) (ih (r + 1) (m + 1) (by omega) (by omega) (NB_keep h c48)))
              | (refine Wp.fg [.ref 0, .int (zo m), .int (nI (r + 1))] (And.intro (Or.inr rfl) (And.intro (Or.inr rfl) (And.intro (Or.inr rfl) trivial))) ?_
                 exact ih (r + 1) m (by omega) (by omega) (NB_skip h c28))
          · refine Wp.iload_n (pc2 := 52) dX5_spills_51 rfl rfl ?_
            refine Wp.istore_n (pc2 := 53) dX5_spills_52 rfl (by decide) rfl ?_
            refine Wp.iincN (pc2 := 56) dX5_spills_53 rfl rfl (by decide) rfl ?_
            refine Wp.goto (pc2 := 15) dX5_spills_56 (by decide) ?_
            first
              | (refine Wp.fg [.ref 0, .int (nI r), .int (nI (r + 1))] (And.intro (Or.inr rfl) (And.intro (Or.inr rfl) (And.intro (Or.inr rfl) trivial))) ?_
                 have hn : NB V (r + 1) (r + 1) := by
                   first
                     | exact NB_new h c28 c48
                     | exact NB_new0 (((zo_m1 hm30).mp c33) ▸ h) c28
                 exact Wp.leq (by rw [zo_s]) (ih (r + 1) (r + 1) (by omega) (by omega) hn))
              | (refine Wp.fg [.ref 0, .int (nI m), .int (nI (r + 1))] (And.intro (Or.inr rfl) (And.intro (Or.inr rfl) (And.intro (Or.inr rfl) trivial))) ?_
                 exact Wp.leq (by rw [zo_s]) (ih (r + 1) (m + 1) (by omega) (by omega) (NB_keep h c48)))
              | (refine Wp.fg [.ref 0, .int (zo m), .int (nI (r + 1))] (And.intro (Or.inr rfl) (And.intro (Or.inr rfl) (And.intro (Or.inr rfl) trivial))) ?_
                 exact ih (r + 1) m (by omega) (by omega) (NB_skip h c28))

set_option maxRecDepth 100000 in
set_option maxHeartbeats 4000000 in
theorem m_spills_o : ∀ (n : Nat) (V : zS), QI V → BV V → V 0 23 - V 0 28 - V 0 8 = n → Wp mX5_spills (fun zr zq => zr = none ∧ zq = hM (spillN n V)) 0 [.ref 0, .null, .null] [] (hM V) := by
  intro n
  induction n with
  | zero =>
    intro V hq hV hn
    have hc := QI_cnt _ hq rfl
    refine Wp.aload_n (pc2 := 1) dX5_spills_0 rfl rfl ?_
    refine Wp.callV (pc2 := 4) kX5_spills_155 vX5_inMemory (m_inMemory V hV) dX5_spills_1 rfl rfl rfl rfl rfl (Nat.le_of_ble_eq_true rfl) ?_
    rintro _ _ ⟨rfl, rfl⟩
    refine Wp.aload_n (pc2 := 5) dX5_spills_4 rfl rfl ?_
    refine Wp.getf (pc2 := 8) fX5_34 dX5_spills_5 rfl rfl rfl ?_
    refine Wp.icmpN_le (pc2 := 11) 79 dX5_spills_8 rfl (by decide) (by rw [hc]; have := hq.2.1; omega) (hV.l _ _) (fun c8 => ?_) (fun c8 => ?_)
    · refine Wp.retv dX5_spills_79 rfl ?_
      exact ⟨rfl, rfl⟩
    · rw [hc] at c8
      exfalso; omega
  | succ n ih =>
    intro V hq hV hn
    have hc := QI_cnt _ hq rfl
    have hl : V 0 28 < V 0 23 := by omega
    have h3 := hq.2.2.1 _ hl
    have h100 := hq.2.1
    have h2 : V 18 (V 22 (V 0 28)) = 2 := by rw [h3.2.2, if_neg (by omega)]
    refine Wp.aload_n (pc2 := 1) dX5_spills_0 rfl rfl ?_
    refine Wp.callV (pc2 := 4) kX5_spills_155 vX5_inMemory (m_inMemory V hV) dX5_spills_1 rfl rfl rfl rfl rfl (Nat.le_of_ble_eq_true rfl) ?_
    rintro _ _ ⟨rfl, rfl⟩
    refine Wp.aload_n (pc2 := 5) dX5_spills_4 rfl rfl ?_
    refine Wp.getf (pc2 := 8) fX5_34 dX5_spills_5 rfl rfl rfl ?_
    refine Wp.icmpN_le (pc2 := 11) 79 dX5_spills_8 rfl (by decide) (by rw [hc]; omega) (hV.l _ _) (fun c8 => ?_) (fun c8 => ?_)
    · rw [hc] at c8
      exfalso; omega
    · refine Wp.icon (pc2 := 12) dX5_spills_11 rfl (-1) (by decide +kernel) ?_
      refine Wp.istore_n (pc2 := 13) dX5_spills_12 rfl (by decide) rfl ?_
      refine Wp.iconN (pc2 := 14) 0 dX5_spills_13 rfl ?_
      refine Wp.istore_n (pc2 := 15) dX5_spills_14 rfl (by decide) rfl ?_
      refine m_spills_l V _ hV (fun m h => ?_) 101 0 0 (by omega) (by omega) (NB_0 V)
      rcases h with ⟨-, h⟩ | ⟨e, rfl, he, he2, he3⟩
      · exact absurd h2 (h _ h3.1)
      obtain ⟨i, hi, rfl⟩ := hq.2.2.2 e he (by omega)
      have k1 := hq.2.2.1 i hi
      have k2 := he3 _ h3.1 h2
      rw [k1.2.1, h3.2.1] at k2
      have ei : i = V 0 28 := by
        have k3 := k1.2.2
        rw [he2] at k3
        by_cases q : i < V 0 28
        · rw [if_pos q] at k3; omega
        · omega
      subst ei
      rw [zo_s]
      refine Wp.aload_n (pc2 := 60) dX5_spills_59 rfl rfl ?_
      refine Wp.getf (pc2 := 63) fX5_69 dX5_spills_60 rfl rfl rfl ?_
      refine Wp.iload_n (pc2 := 64) dX5_spills_63 rfl rfl ?_
      refine Wp.iconN (pc2 := 65) 3 dX5_spills_64 rfl ?_
      refine Wp.iastN (pc2 := 66) dX5_spills_65 rfl rfl (by omega) (by decide) ?_
      refine Wp.heq (hM_a18 _ _ _) ?_
      refine Wp.aload_n (pc2 := 67) dX5_spills_66 rfl rfl ?_
      refine Wp.dup (pc2 := 68) dX5_spills_67 rfl rfl ?_
      refine Wp.getf (pc2 := 71) fX5_109 dX5_spills_68 rfl rfl rfl ?_
      refine Wp.iconN (pc2 := 72) 1 dX5_spills_71 rfl ?_
      refine Wp.iaddN (pc2 := 73) dX5_spills_72 rfl  ?_
      change Wp _ _ _ _ (.int (nI (V 0 28 + 1)) :: _) _
      refine Wp.putf (pc2 := 76) gX5_109 dX5_spills_73 rfl rfl (Nat.le_of_ble_eq_true rfl) rfl rfl ?_
      refine Wp.heq (hM_o0_28 _ _) ?_
      refine Wp.goto (pc2 := 0) dX5_spills_76 (by decide) ?_
      refine Wp.fg [.ref 0, .null, .null] (And.intro (Or.inr rfl) (And.intro (Or.inl rfl) (And.intro (Or.inl rfl) trivial))) ?_
      exact ih (mSpill1 V) (QI_spill hq hl) (BV_spill1 hV (by omega)) (by simp [mSpill1, vs]; omega)

set_option maxRecDepth 100000 in
set_option maxHeartbeats 4000000 in
theorem m_spills (V : zS) (hq : QI V) (hV : BV V) : PM mX5_spills [.ref 0] (hM V) (fun zr zq => zr = none ∧ zq = hM (mSpills V)) := by
  refine PM.of (by decide +kernel) (by simp [Value.category]) (Nat.le_of_ble_eq_true rfl) ?_
  exact m_spills_o _ V hq hV rfl

theorem QI_o {V : zS} {k i x : Nat} (h : QI V) (hk : (k = 0 ∧ i ≠ 23 ∧ i ≠ 28) ∨ (k ≠ 0 ∧ k ≠ 18 ∧ k ≠ 19 ∧ k ≠ 22)) : QI (vs V k i x) := by
  have e23 : vs V k i x 0 23 = V 0 23 := by
    rcases hk with ⟨rfl, h1, h2⟩ | h1
    · exact vs_i V (Ne.symm h1)
    · exact vs_k V (Ne.symm h1.1)
  have e28 : vs V k i x 0 28 = V 0 28 := by
    rcases hk with ⟨rfl, h1, h2⟩ | h1
    · exact vs_i V (Ne.symm h2)
    · exact vs_k V (Ne.symm h1.1)
  have e18 : ∀ j, vs V k i x 18 j = V 18 j := fun j => vs_k V (by omega)
  have e19 : ∀ j, vs V k i x 19 j = V 19 j := fun j => vs_k V (by omega)
  have e22 : ∀ j, vs V k i x 22 j = V 22 j := fun j => vs_k V (by omega)
  unfold QI
  simp only [e23, e28, e18, e19, e22]
  exact h

set_option maxRecDepth 100000 in
set_option maxHeartbeats 4000000 in
theorem m_memory_ok (V : zS) (n : Nat) (hq : QI V) (hV : BV V) (hn : n < 101) : PM mX5_memory [.ref 0, .int (nI n)] (hM V) (fun zr zq => zr = some (.int (nI (1))) ∧ zq = hM (mSpills (vs V 0 8 n))) := by
  refine PM.of (by decide +kernel) (by simp [Value.category]) (Nat.le_of_ble_eq_true rfl) ?_
  refine Wp.iload_n (pc2 := 1) dX5_memory_0 rfl rfl ?_
  refine Wp.iconN (pc2 := 2) 0 dX5_memory_1 rfl ?_
  refine Wp.bipN (pc2 := 4) 100 dX5_memory_2 rfl (by decide +kernel) ?_
  refine Wp.callS (pc2 := 7) kX5_memory_81 sX5_in (m_in_t _ _ _ _ ((rg_in (by decide)).mpr ⟨n, hn, rfl⟩)) dX5_memory_4 rfl rfl rfl (Nat.le_of_ble_eq_true rfl) ?_
  rintro _ _ ⟨rfl, rfl⟩
  refine Wp.ifN_ne (pc2 := 10) 12 dX5_memory_7 rfl (by decide) (by omega) (fun c7 => ?_) (fun c7 => ?_)
  · refine Wp.aload_n (pc2 := 13) dX5_memory_12 rfl rfl ?_
    refine Wp.iload_n (pc2 := 14) dX5_memory_13 rfl rfl ?_
    refine Wp.putf (pc2 := 17) gX5_34 dX5_memory_14 rfl rfl (Nat.le_of_ble_eq_true rfl) rfl rfl ?_
    refine Wp.heq (hM_o0_8 _ _) ?_
    refine Wp.aload_n (pc2 := 18) dX5_memory_17 rfl rfl ?_
    refine Wp.callV (pc2 := 21) kX5_memory_152 vX5_spills (m_spills _ (QI_o hq (Or.inl (by omega))) (hV.up (by omega))) dX5_memory_18 rfl rfl rfl rfl rfl (Nat.le_of_ble_eq_true rfl) ?_
    rintro _ _ ⟨rfl, rfl⟩
    refine Wp.iconN (pc2 := 22) 1 dX5_memory_21 rfl ?_
    refine Wp.ret dX5_memory_22 rfl rfl ?_
    exact ⟨rfl, rfl⟩
  · exfalso; omega

set_option maxRecDepth 100000 in
set_option maxHeartbeats 4000000 in
theorem m_memory_no (V : zS) (x : Int32) (hno : ¬ rg x 101) : PM mX5_memory [.ref 0, .int x] (hM V) (fun zr zq => zr = some (.int (nI 0)) ∧ zq = hM V) := by
  refine PM.of (by decide +kernel) (by simp [Value.category]) (Nat.le_of_ble_eq_true rfl) ?_
  refine Wp.iload_n (pc2 := 1) dX5_memory_0 rfl rfl ?_
  refine Wp.iconN (pc2 := 2) 0 dX5_memory_1 rfl ?_
  refine Wp.bipN (pc2 := 4) 100 dX5_memory_2 rfl (by decide +kernel) ?_
  refine Wp.callS (pc2 := 7) kX5_memory_81 sX5_in (m_in _ x _ _) dX5_memory_4 rfl rfl rfl (Nat.le_of_ble_eq_true rfl) ?_
  rintro _ _ ⟨⟨b, rfl, hb⟩, rfl⟩
  refine Wp.ifN_ne (pc2 := 10) 12 dX5_memory_7 rfl (by decide) (zb_lt _) (fun c7 => ?_) (fun c7 => ?_)
  · exact absurd ((rg_in (by decide)).mp (zby hb c7)) hno
  · refine Wp.iconN (pc2 := 11) 0 dX5_memory_10 rfl ?_
    refine Wp.ret dX5_memory_11 rfl rfl ?_
    exact ⟨rfl, rfl⟩

/-- what a test costs for each that fails, crosswise -/
def wgt (V : zS) (t a b : Nat) : Nat := V 7 (4 * t + a) * (V 13 (4 * t + a) + 2) * (V 14 (4 * t + b) + 1)
def lessP (V : zS) (t a b : Nat) : Prop := wgt V t a b < wgt V t b a ∨ (wgt V t a b = wgt V t b a ∧ a < b)
theorem mul3 {a b c : Nat} (ha : a < 2 ^ 20) (hb : b < 2 ^ 20) (hc : c < 2 ^ 20) : a * (b + 2) * (c + 1) < 2 ^ 62 := by
  have h1 := Nat.mul_le_mul (show a ≤ 2 ^ 20 by omega) (show b + 2 ≤ 2 ^ 21 by omega)
  have h2 := Nat.mul_le_mul h1 (show c + 1 ≤ 2 ^ 20 by omega)
  have : (2 : Nat) ^ 20 * 2 ^ 21 * 2 ^ 20 < 2 ^ 62 := by decide
  omega

set_option maxRecDepth 100000 in
set_option maxHeartbeats 4000000 in
theorem m_isCheaper (V : zS) (t a b : Nat) (hV : BV V) (ht : t < 2) (ha : a < 4) (hb : b < 4) : PM mX5_isCheaper [.ref 0, .int (nI t), .int (nI a), .int (nI b)] (hM V) (fun zr zq => zbo (lessP V t a b) zr ∧ zq = hM V) := by
  refine PM.of (by decide +kernel) (by simp [Value.category]) (Nat.le_of_ble_eq_true rfl) ?_
  have k1 : wgt V t a b < 2 ^ 62 := mul3 (hV _ _) (hV _ _) (hV _ _)
  have k2 : wgt V t b a < 2 ^ 62 := mul3 (hV _ _) (hV _ _) (hV _ _)
  refine Wp.iconN (pc2 := 1) 4 dX5_isCheaper_0 rfl ?_
  refine Wp.iload_n (pc2 := 2) dX5_isCheaper_1 rfl rfl ?_
  refine Wp.imulN (pc2 := 3) dX5_isCheaper_2 rfl  ?_
  refine Wp.iload_n (pc2 := 4) dX5_isCheaper_3 rfl rfl ?_
  refine Wp.iaddN (pc2 := 5) dX5_isCheaper_4 rfl  ?_
  refine Wp.istore (pc2 := 7) dX5_isCheaper_5 rfl (by decide) rfl ?_
  refine Wp.iconN (pc2 := 8) 4 dX5_isCheaper_7 rfl ?_
  refine Wp.iload_n (pc2 := 9) dX5_isCheaper_8 rfl rfl ?_
  refine Wp.imulN (pc2 := 10) dX5_isCheaper_9 rfl  ?_
  refine Wp.iload_n (pc2 := 11) dX5_isCheaper_10 rfl rfl ?_
  refine Wp.iaddN (pc2 := 12) dX5_isCheaper_11 rfl  ?_
  refine Wp.istore (pc2 := 14) dX5_isCheaper_12 rfl (by decide) rfl ?_
  refine Wp.aload_n (pc2 := 15) dX5_isCheaper_14 rfl rfl ?_
  refine Wp.getf (pc2 := 18) fX5_28 dX5_isCheaper_15 rfl rfl rfl ?_
  refine Wp.iload (pc2 := 20) dX5_isCheaper_18 rfl rfl ?_
  refine Wp.ialdN (pc2 := 21) dX5_isCheaper_20 rfl rfl (by omega) (by decide) ?_
  refine Wp.i2lN (pc2 := 22) dX5_isCheaper_21 rfl (by have q1 := hV 7 (4 * t + a); have q2 := hV 7 (4 * t + b); have q3 := hV 13 (4 * t + a); have q4 := hV 13 (4 * t + b); have q5 := hV 14 (4 * t + a); have q6 := hV 14 (4 * t + b); omega) ?_
  refine Wp.aload_n (pc2 := 23) dX5_isCheaper_22 rfl rfl ?_
  refine Wp.getf (pc2 := 26) fX5_54 dX5_isCheaper_23 rfl rfl rfl ?_
  refine Wp.iload (pc2 := 28) dX5_isCheaper_26 rfl rfl ?_
  refine Wp.ialdN (pc2 := 29) dX5_isCheaper_28 rfl rfl (by omega) (by decide) ?_
  refine Wp.iconN (pc2 := 30) 2 dX5_isCheaper_29 rfl ?_
  refine Wp.iaddN (pc2 := 31) dX5_isCheaper_30 rfl  ?_
  refine Wp.i2lN (pc2 := 32) dX5_isCheaper_31 rfl (by have q1 := hV 7 (4 * t + a); have q2 := hV 7 (4 * t + b); have q3 := hV 13 (4 * t + a); have q4 := hV 13 (4 * t + b); have q5 := hV 14 (4 * t + a); have q6 := hV 14 (4 * t + b); omega) ?_
  refine Wp.lmulN (pc2 := 33) dX5_isCheaper_32 rfl ?_
  refine Wp.aload_n (pc2 := 34) dX5_isCheaper_33 rfl rfl ?_
  refine Wp.getf (pc2 := 37) fX5_57 dX5_isCheaper_34 rfl rfl rfl ?_
  refine Wp.iload (pc2 := 39) dX5_isCheaper_37 rfl rfl ?_
  refine Wp.ialdN (pc2 := 40) dX5_isCheaper_39 rfl rfl (by omega) (by decide) ?_
  refine Wp.iconN (pc2 := 41) 1 dX5_isCheaper_40 rfl ?_
  refine Wp.iaddN (pc2 := 42) dX5_isCheaper_41 rfl  ?_
  refine Wp.i2lN (pc2 := 43) dX5_isCheaper_42 rfl (by have q1 := hV 7 (4 * t + a); have q2 := hV 7 (4 * t + b); have q3 := hV 13 (4 * t + a); have q4 := hV 13 (4 * t + b); have q5 := hV 14 (4 * t + a); have q6 := hV 14 (4 * t + b); omega) ?_
  refine Wp.lmulN (pc2 := 44) dX5_isCheaper_43 rfl ?_
  refine Wp.lstore (pc2 := 46) dX5_isCheaper_44 rfl (by decide) rfl ?_
  refine Wp.aload_n (pc2 := 47) dX5_isCheaper_46 rfl rfl ?_
  refine Wp.getf (pc2 := 50) fX5_28 dX5_isCheaper_47 rfl rfl rfl ?_
  refine Wp.iload (pc2 := 52) dX5_isCheaper_50 rfl rfl ?_
  refine Wp.ialdN (pc2 := 53) dX5_isCheaper_52 rfl rfl (by omega) (by decide) ?_
  refine Wp.i2lN (pc2 := 54) dX5_isCheaper_53 rfl (by have q1 := hV 7 (4 * t + a); have q2 := hV 7 (4 * t + b); have q3 := hV 13 (4 * t + a); have q4 := hV 13 (4 * t + b); have q5 := hV 14 (4 * t + a); have q6 := hV 14 (4 * t + b); omega) ?_
  refine Wp.aload_n (pc2 := 55) dX5_isCheaper_54 rfl rfl ?_
  refine Wp.getf (pc2 := 58) fX5_54 dX5_isCheaper_55 rfl rfl rfl ?_
  refine Wp.iload (pc2 := 60) dX5_isCheaper_58 rfl rfl ?_
  refine Wp.ialdN (pc2 := 61) dX5_isCheaper_60 rfl rfl (by omega) (by decide) ?_
  refine Wp.iconN (pc2 := 62) 2 dX5_isCheaper_61 rfl ?_
  refine Wp.iaddN (pc2 := 63) dX5_isCheaper_62 rfl  ?_
  refine Wp.i2lN (pc2 := 64) dX5_isCheaper_63 rfl (by have q1 := hV 7 (4 * t + a); have q2 := hV 7 (4 * t + b); have q3 := hV 13 (4 * t + a); have q4 := hV 13 (4 * t + b); have q5 := hV 14 (4 * t + a); have q6 := hV 14 (4 * t + b); omega) ?_
  refine Wp.lmulN (pc2 := 65) dX5_isCheaper_64 rfl ?_
  refine Wp.aload_n (pc2 := 66) dX5_isCheaper_65 rfl rfl ?_
  refine Wp.getf (pc2 := 69) fX5_57 dX5_isCheaper_66 rfl rfl rfl ?_
  refine Wp.iload (pc2 := 71) dX5_isCheaper_69 rfl rfl ?_
  refine Wp.ialdN (pc2 := 72) dX5_isCheaper_71 rfl rfl (by omega) (by decide) ?_
  refine Wp.iconN (pc2 := 73) 1 dX5_isCheaper_72 rfl ?_
  refine Wp.iaddN (pc2 := 74) dX5_isCheaper_73 rfl  ?_
  refine Wp.i2lN (pc2 := 75) dX5_isCheaper_74 rfl (by have q1 := hV 7 (4 * t + a); have q2 := hV 7 (4 * t + b); have q3 := hV 13 (4 * t + a); have q4 := hV 13 (4 * t + b); have q5 := hV 14 (4 * t + a); have q6 := hV 14 (4 * t + b); omega) ?_
  refine Wp.lmulN (pc2 := 76) dX5_isCheaper_75 rfl ?_
  refine Wp.lstore (pc2 := 78) dX5_isCheaper_76 rfl (by decide) rfl ?_
  refine Wp.lload (pc2 := 80) dX5_isCheaper_78 rfl rfl ?_
  refine Wp.lload (pc2 := 82) dX5_isCheaper_80 rfl rfl ?_
  refine Wp.lcmp (pc2 := 83) dX5_isCheaper_82 rfl ?_
  refine Wp.if_lt (pc2 := 86) 99 dX5_isCheaper_83 rfl (by decide)  (fun c83 => ?_) (fun c83 => ?_)
  · refine Wp.iconN (pc2 := 100) 1 dX5_isCheaper_99 rfl ?_
    refine Wp.goto (pc2 := 104) dX5_isCheaper_100 (by decide) ?_
    refine Wp.ret dX5_isCheaper_104 rfl (by first | exact zb_nar true | exact zb_nar false) ?_
    first
      | exact ⟨zbo_t (Or.inl ((lglt k1 k2).mp c83)), rfl⟩
      | exact ⟨zbo_t (Or.inr ⟨(lgeq k1 k2).mp c91, c96⟩), rfl⟩
      | exact ⟨zbo_f (fun z => z.elim (fun q => c83 ((lglt k1 k2).mpr q)) (fun q => absurd q.2 (Nat.not_lt.mpr c96))), rfl⟩
      | exact ⟨zbo_f (fun z => z.elim (fun q => c83 ((lglt k1 k2).mpr q)) (fun q => c91 ((lgeq k1 k2).mpr q.1))), rfl⟩
  · refine Wp.lload (pc2 := 88) dX5_isCheaper_86 rfl rfl ?_
    refine Wp.lload (pc2 := 90) dX5_isCheaper_88 rfl rfl ?_
    refine Wp.lcmp (pc2 := 91) dX5_isCheaper_90 rfl ?_
    refine Wp.if_ne (pc2 := 94) 103 dX5_isCheaper_91 rfl (by decide)  (fun c91 => ?_) (fun c91 => ?_)
    · refine Wp.iconN (pc2 := 104) 0 dX5_isCheaper_103 rfl ?_
      refine Wp.ret dX5_isCheaper_104 rfl (by first | exact zb_nar true | exact zb_nar false) ?_
      first
        | exact ⟨zbo_t (Or.inl ((lglt k1 k2).mp c83)), rfl⟩
        | exact ⟨zbo_t (Or.inr ⟨(lgeq k1 k2).mp c91, c96⟩), rfl⟩
        | exact ⟨zbo_f (fun z => z.elim (fun q => c83 ((lglt k1 k2).mpr q)) (fun q => absurd q.2 (Nat.not_lt.mpr c96))), rfl⟩
        | exact ⟨zbo_f (fun z => z.elim (fun q => c83 ((lglt k1 k2).mpr q)) (fun q => c91 ((lgeq k1 k2).mpr q.1))), rfl⟩
    · refine Wp.iload_n (pc2 := 95) dX5_isCheaper_94 rfl rfl ?_
      refine Wp.iload_n (pc2 := 96) dX5_isCheaper_95 rfl rfl ?_
      refine Wp.icmpN_ge (pc2 := 99) 103 dX5_isCheaper_96 rfl (by decide) (by omega) (by omega) (fun c96 => ?_) (fun c96 => ?_)
      · refine Wp.iconN (pc2 := 104) 0 dX5_isCheaper_103 rfl ?_
        refine Wp.ret dX5_isCheaper_104 rfl (by first | exact zb_nar true | exact zb_nar false) ?_
        first
          | exact ⟨zbo_t (Or.inl ((lglt k1 k2).mp c83)), rfl⟩
          | exact ⟨zbo_t (Or.inr ⟨(lgeq k1 k2).mp c91, c96⟩), rfl⟩
          | exact ⟨zbo_f (fun z => z.elim (fun q => c83 ((lglt k1 k2).mpr q)) (fun q => absurd q.2 (Nat.not_lt.mpr c96))), rfl⟩
          | exact ⟨zbo_f (fun z => z.elim (fun q => c83 ((lglt k1 k2).mpr q)) (fun q => c91 ((lgeq k1 k2).mpr q.1))), rfl⟩
      · refine Wp.iconN (pc2 := 100) 1 dX5_isCheaper_99 rfl ?_
        refine Wp.goto (pc2 := 104) dX5_isCheaper_100 (by decide) ?_
        refine Wp.ret dX5_isCheaper_104 rfl (by first | exact zb_nar true | exact zb_nar false) ?_
        first
          | exact ⟨zbo_t (Or.inl ((lglt k1 k2).mp c83)), rfl⟩
          | exact ⟨zbo_t (Or.inr ⟨(lgeq k1 k2).mp c91, c96⟩), rfl⟩
          | exact ⟨zbo_f (fun z => z.elim (fun q => c83 ((lglt k1 k2).mpr q)) (fun q => absurd q.2 (Nat.not_lt.mpr c96))), rfl⟩
          | exact ⟨zbo_f (fun z => z.elim (fun q => c83 ((lglt k1 k2).mpr q)) (fun q => c91 ((lgeq k1 k2).mpr q.1))), rfl⟩

