/-- locals may be forgotten -/
def zsub : List Value → List Value → Prop
  | _, [] => True
  | [], v :: L' => v = .null ∧ zsub [] L'
  | u :: L, v :: L' => (v = .null ∨ v = u) ∧ zsub L L'
theorem zsub_at : ∀ {L L' : List Value}, zsub L L' → ∀ (i : Nat) (v : Value), L'[i]? = some v → v ≠ .null → L[i]? = some v
  | _, [], _, i, v, h, _ => by simp at h
  | [], u :: L', hs, i, v, h, hn => by
    cases i with
    | zero => simp only [List.getElem?_cons_zero, Option.some.injEq] at h; exact absurd (h ▸ hs.1) hn
    | succ i => rw [List.getElem?_cons_succ] at h; exact absurd (zsub_at hs.2 i v h hn) (by simp)
  | w :: L, u :: L', hs, i, v, h, hn => by
    cases i with
    | zero =>
      simp only [List.getElem?_cons_zero, Option.some.injEq] at h ⊢
      rcases hs.1 with q | q
      · exact absurd (h ▸ q) hn
      · rw [← q]; exact h
    | succ i => rw [List.getElem?_cons_succ] at h ⊢; exact zsub_at hs.2 i v h hn
theorem Wp.fg {M : zm_I} {Q : Option Value → zh → Prop} {pc : Nat} {L st : List Value} {h : zh} (L' : List Value) (hs : zsub L L') (k : Wp M Q pc L' st h) : Wp M Q pc L st h := by
  intro p l e s m args below meth c D ad ca A H locs ls C Hh hl
  exact k p l e s m args below meth c D ad ca A H locs ls C Hh ⟨hl.1, hl.2.1, fun i v hi hn => hl.2.2 i v (zsub_at hs i v hi hn) hn⟩
/-- a number of 0 .. n - 1 -/
def rg (x : Int32) (n : Nat) : Prop := ∃ j : Nat, j < n ∧ x = nI j
theorem rg_in {x : Int32} {n : Nat} (hn : n < 2 ^ 31) : (nI 0 ≤ x ∧ x ≤ nI n) ↔ rg x (n + 1) := by
  constructor
  · rintro ⟨h1, h2⟩
    rw [Int32.le_iff_toInt_le, nI_toInt (by decide)] at h1
    rw [Int32.le_iff_toInt_le, nI_toInt hn] at h2
    refine ⟨x.toInt.toNat, by omega, Int32.toInt_inj.mp ?_⟩
    rw [nI_toInt (by omega)]; omega
  · rintro ⟨j, hj, rfl⟩
    exact ⟨nI_le (Nat.zero_le _) (by omega), nI_le (by omega) hn⟩
theorem rg_sub {x : Int32} {n : Nat} (hn : n < 2 ^ 30) : (nI 0 ≤ x ∧ x ≤ nI n - nI 1) ↔ rg x n := by
  cases n with
  | zero =>
    constructor
    · rintro ⟨h1, h2⟩
      rw [Int32.le_iff_toInt_le, nI_toInt (by decide)] at h1
      rw [Int32.le_iff_toInt_le, pk_sub_toInt (by decide) (by decide)] at h2
      omega
    · rintro ⟨j, hj, -⟩; omega
  | succ n =>
    rw [pk_sub (by omega)]
    exact rg_in (by omega)
theorem rg_t {x : Int32} : (x = 0 ∨ x = 1) ↔ rg x 2 := by
  rw [← zi_01]; exact rg_in (n := 1) (by decide)
theorem rg_1 {x : Int32} {n : Nat} (hn : n < 2 ^ 31) : (nI 1 ≤ x ∧ x ≤ nI n) ↔ ∃ j : Nat, (1 ≤ j ∧ j ≤ n) ∧ x = nI j := by
  constructor
  · rintro ⟨h1, h2⟩
    rw [Int32.le_iff_toInt_le, nI_toInt (by decide)] at h1
    rw [Int32.le_iff_toInt_le, nI_toInt hn] at h2
    refine ⟨x.toInt.toNat, by omega, Int32.toInt_inj.mp ?_⟩
    rw [nI_toInt (by omega)]; omega
  · rintro ⟨j, hj, rfl⟩
    exact ⟨nI_le (by omega) (by omega), nI_le (by omega) hn⟩
theorem m_in_t (h : zh) (v lo hi : Int32) (hp : lo ≤ v ∧ v ≤ hi) : PM mX5_in [.int v, .int lo, .int hi] h (fun zr zq => zr = some (.int (nI 1)) ∧ zq = h) :=
  (m_in h v lo hi).mono (by
    rintro _ _ ⟨⟨b, rfl, hb⟩, rfl⟩
    rw [hb.mpr hp]; exact ⟨rfl, rfl⟩)
theorem m_isTable_t (h : zh) (t : Nat) (ht : t < 2) : PM mX5_isTable [.int (nI t)] h (fun zr zq => zr = some (.int (nI 1)) ∧ zq = h) :=
  (m_isTable h (nI t)).mono (by
    rintro _ _ ⟨⟨b, rfl, hb⟩, rfl⟩
    rw [hb.mpr (rg_t.mpr ⟨t, ht, rfl⟩)]; exact ⟨rfl, rfl⟩)

def mRow (V : zS) (t a b c : Nat) : zS := vs (vs (vs (vs V 2 (3 * (50 * t + V 1 t)) a) 2 (3 * (50 * t + V 1 t) + 1) b) 2 (3 * (50 * t + V 1 t) + 2) c) 1 t (V 1 t + 1)

set_option maxRecDepth 100000 in
set_option maxHeartbeats 4000000 in
theorem m_row_ok (V : zS) (t a b c : Nat) (hV : BV V) (ht : t < 2) (ha : a < 100) (hb : b < 100) (hc : c < 100) (hn : V 1 t < 50) (hs : V 0 10 ≠ 1) : PM mX5_row [.ref 0, .int (nI t), .int (nI a), .int (nI b), .int (nI c)] (hM V) (fun zr zq => zr = some (.int (nI (V 1 t))) ∧ zq = hM (mRow V t a b c)) := by
  refine PM.of (by decide +kernel) (by simp [Value.category]) (Nat.le_of_ble_eq_true rfl) ?_
  refine Wp.iload_n (pc2 := 1) dX5_row_0 rfl rfl ?_
  refine Wp.callS (pc2 := 4) kX5_row_85 sX5_isTable (m_isTable_t _ t ht) dX5_row_1 rfl rfl rfl (Nat.le_of_ble_eq_true rfl) ?_
  rintro _ _ ⟨rfl, rfl⟩
  refine Wp.ifN_eq (pc2 := 7) 57 dX5_row_4 rfl (by decide) (by omega) (fun c4 => ?_) (fun c4 => ?_)
  · exfalso; omega
  · refine Wp.iload_n (pc2 := 8) dX5_row_7 rfl rfl ?_
    refine Wp.iconN (pc2 := 9) 0 dX5_row_8 rfl ?_
    refine Wp.bipN (pc2 := 11) 99 dX5_row_9 rfl (by decide +kernel) ?_
    refine Wp.callS (pc2 := 14) kX5_row_81 sX5_in (m_in_t _ _ _ _ ((rg_in (by decide)).mpr ⟨a, ha, rfl⟩)) dX5_row_11 rfl rfl rfl (Nat.le_of_ble_eq_true rfl) ?_
    rintro _ _ ⟨rfl, rfl⟩
    refine Wp.ifN_eq (pc2 := 17) 57 dX5_row_14 rfl (by decide) (by omega) (fun c14 => ?_) (fun c14 => ?_)
    · exfalso; omega
    · refine Wp.iload_n (pc2 := 18) dX5_row_17 rfl rfl ?_
      refine Wp.iconN (pc2 := 19) 0 dX5_row_18 rfl ?_
      refine Wp.bipN (pc2 := 21) 99 dX5_row_19 rfl (by decide +kernel) ?_
      refine Wp.callS (pc2 := 24) kX5_row_81 sX5_in (m_in_t _ _ _ _ ((rg_in (by decide)).mpr ⟨b, hb, rfl⟩)) dX5_row_21 rfl rfl rfl (Nat.le_of_ble_eq_true rfl) ?_
      rintro _ _ ⟨rfl, rfl⟩
      refine Wp.ifN_eq (pc2 := 27) 57 dX5_row_24 rfl (by decide) (by omega) (fun c24 => ?_) (fun c24 => ?_)
      · exfalso; omega
      · refine Wp.iload (pc2 := 29) dX5_row_27 rfl rfl ?_
        refine Wp.iconN (pc2 := 30) 0 dX5_row_29 rfl ?_
        refine Wp.bipN (pc2 := 32) 99 dX5_row_30 rfl (by decide +kernel) ?_
        refine Wp.callS (pc2 := 35) kX5_row_81 sX5_in (m_in_t _ _ _ _ ((rg_in (by decide)).mpr ⟨c, hc, rfl⟩)) dX5_row_32 rfl rfl rfl (Nat.le_of_ble_eq_true rfl) ?_
        rintro _ _ ⟨rfl, rfl⟩
        refine Wp.ifN_eq (pc2 := 38) 57 dX5_row_35 rfl (by decide) (by omega) (fun c35 => ?_) (fun c35 => ?_)
        · exfalso; omega
        · refine Wp.aload_n (pc2 := 39) dX5_row_38 rfl rfl ?_
          refine Wp.getf (pc2 := 42) fX5_7 dX5_row_39 rfl rfl rfl ?_
          refine Wp.iload_n (pc2 := 43) dX5_row_42 rfl rfl ?_
          refine Wp.ialdN (pc2 := 44) dX5_row_43 rfl rfl (by omega) (by decide) ?_
          refine Wp.bipN (pc2 := 46) 50 dX5_row_44 rfl (by decide +kernel) ?_
          refine Wp.icmpN_eq (pc2 := 49) 57 dX5_row_46 rfl (by decide) (hV.l _ _) (by decide) (fun c46 => ?_) (fun c46 => ?_)
          · exfalso; omega
          · refine Wp.aload_n (pc2 := 50) dX5_row_49 rfl rfl ?_
            refine Wp.getf (pc2 := 53) fX5_89 dX5_row_50 rfl rfl rfl ?_
            refine Wp.iconN (pc2 := 54) 1 dX5_row_53 rfl ?_
            refine Wp.icmpN_ne (pc2 := 57) 59 dX5_row_54 rfl (by decide) (hV.l _ _) (by decide) (fun c54 => ?_) (fun c54 => ?_)
            · refine Wp.iconN (pc2 := 60) 3 dX5_row_59 rfl ?_
              refine Wp.bipN (pc2 := 62) 50 dX5_row_60 rfl (by decide +kernel) ?_
              refine Wp.iload_n (pc2 := 63) dX5_row_62 rfl rfl ?_
              refine Wp.imulN (pc2 := 64) dX5_row_63 rfl  ?_
              refine Wp.aload_n (pc2 := 65) dX5_row_64 rfl rfl ?_
              refine Wp.getf (pc2 := 68) fX5_7 dX5_row_65 rfl rfl rfl ?_
              refine Wp.iload_n (pc2 := 69) dX5_row_68 rfl rfl ?_
              refine Wp.ialdN (pc2 := 70) dX5_row_69 rfl rfl (by omega) (by decide) ?_
              refine Wp.iaddN (pc2 := 71) dX5_row_70 rfl  ?_
              refine Wp.imulN (pc2 := 72) dX5_row_71 rfl  ?_
              refine Wp.istore (pc2 := 74) dX5_row_72 rfl (by decide) rfl ?_
              refine Wp.aload_n (pc2 := 75) dX5_row_74 rfl rfl ?_
              refine Wp.getf (pc2 := 78) fX5_13 dX5_row_75 rfl rfl rfl ?_
              refine Wp.iload (pc2 := 80) dX5_row_78 rfl rfl ?_
              refine Wp.iload_n (pc2 := 81) dX5_row_80 rfl rfl ?_
              refine Wp.iastN (pc2 := 82) dX5_row_81 rfl rfl (by omega) (by decide) ?_
              refine Wp.heq (hM_a2 _ _ _) ?_
              refine Wp.aload_n (pc2 := 83) dX5_row_82 rfl rfl ?_
              refine Wp.getf (pc2 := 86) fX5_13 dX5_row_83 rfl rfl rfl ?_
              refine Wp.iload (pc2 := 88) dX5_row_86 rfl rfl ?_
              refine Wp.iconN (pc2 := 89) 1 dX5_row_88 rfl ?_
              refine Wp.iaddN (pc2 := 90) dX5_row_89 rfl  ?_
              refine Wp.iload_n (pc2 := 91) dX5_row_90 rfl rfl ?_
              refine Wp.iastN (pc2 := 92) dX5_row_91 rfl rfl (by omega) (by decide) ?_
              refine Wp.heq (hM_a2 _ _ _) ?_
              refine Wp.aload_n (pc2 := 93) dX5_row_92 rfl rfl ?_
              refine Wp.getf (pc2 := 96) fX5_13 dX5_row_93 rfl rfl rfl ?_
              refine Wp.iload (pc2 := 98) dX5_row_96 rfl rfl ?_
              refine Wp.iconN (pc2 := 99) 2 dX5_row_98 rfl ?_
              refine Wp.iaddN (pc2 := 100) dX5_row_99 rfl  ?_
              refine Wp.iload (pc2 := 102) dX5_row_100 rfl rfl ?_
              refine Wp.iastN (pc2 := 103) dX5_row_102 rfl rfl (by omega) (by decide) ?_
              refine Wp.heq (hM_a2 _ _ _) ?_
              refine Wp.aload_n (pc2 := 104) dX5_row_103 rfl rfl ?_
              refine Wp.getf (pc2 := 107) fX5_7 dX5_row_104 rfl rfl rfl ?_
              refine Wp.iload_n (pc2 := 108) dX5_row_107 rfl rfl ?_
              refine Wp.dup2 (pc2 := 109) dX5_row_108 rfl rfl rfl ?_
              refine Wp.ialdN (pc2 := 110) dX5_row_109 rfl rfl (by omega) (by decide) ?_
              refine Wp.iconN (pc2 := 111) 1 dX5_row_110 rfl ?_
              refine Wp.iaddN (pc2 := 112) dX5_row_111 rfl  ?_
              change Wp _ _ _ _ (.int (nI (V 1 t + 1)) :: _) _
              refine Wp.iastN (pc2 := 113) dX5_row_112 rfl rfl (by omega) (by decide) ?_
              refine Wp.heq (hM_a1 _ _ _) ?_
              refine Wp.aload_n (pc2 := 114) dX5_row_113 rfl rfl ?_
              refine Wp.getf (pc2 := 117) fX5_7 dX5_row_114 rfl rfl rfl ?_
              refine Wp.iload_n (pc2 := 118) dX5_row_117 rfl rfl ?_
              refine Wp.ialdN (pc2 := 119) dX5_row_118 rfl rfl (by omega) (by decide) ?_
              refine Wp.iconN (pc2 := 120) 1 dX5_row_119 rfl ?_
              refine Wp.isubN (pc2 := 121) dX5_row_120 rfl (by simp [vs]) ?_
              refine Wp.ret dX5_row_121 rfl rfl ?_
              refine ⟨?_, rfl⟩
              simp [vs]
            · exfalso; omega

set_option maxRecDepth 100000 in
set_option maxHeartbeats 4000000 in
theorem m_row_no (V : zS) (t c0 c1 c2 : Int32) (hV : BV V) (hno : ¬ ∃ t' a b c : Nat, (t' < 2 ∧ t = nI t') ∧ (a < 100 ∧ c0 = nI a) ∧ (b < 100 ∧ c1 = nI b) ∧ (c < 100 ∧ c2 = nI c) ∧ V 1 t' ≠ 50 ∧ V 0 10 ≠ 1) : PM mX5_row [.ref 0, .int t, .int c0, .int c1, .int c2] (hM V) (fun zr zq => zr = some (.int (-1)) ∧ zq = hM V) := by
  refine PM.of (by decide +kernel) (by simp [Value.category]) (Nat.le_of_ble_eq_true rfl) ?_
  refine Wp.iload_n (pc2 := 1) dX5_row_0 rfl rfl ?_
  refine Wp.callS (pc2 := 4) kX5_row_85 sX5_isTable (m_isTable _ t) dX5_row_1 rfl rfl rfl (Nat.le_of_ble_eq_true rfl) ?_
  rintro _ _ ⟨⟨b, rfl, hb⟩, rfl⟩
  refine Wp.ifN_eq (pc2 := 7) 57 dX5_row_4 rfl (by decide) (zb_lt _) (fun c4 => ?_) (fun c4 => ?_)
  · refine Wp.icon (pc2 := 58) dX5_row_57 rfl (-1) (by decide +kernel) ?_
    refine Wp.ret dX5_row_58 rfl rfl ?_
    exact ⟨rfl, rfl⟩
  · obtain ⟨t', ht, rfl⟩ := rg_t.mp (zby hb c4)
    refine Wp.iload_n (pc2 := 8) dX5_row_7 rfl rfl ?_
    refine Wp.iconN (pc2 := 9) 0 dX5_row_8 rfl ?_
    refine Wp.bipN (pc2 := 11) 99 dX5_row_9 rfl (by decide +kernel) ?_
    refine Wp.callS (pc2 := 14) kX5_row_81 sX5_in (m_in _ c0 _ _) dX5_row_11 rfl rfl rfl (Nat.le_of_ble_eq_true rfl) ?_
    rintro _ _ ⟨⟨b, rfl, hb⟩, rfl⟩
    refine Wp.ifN_eq (pc2 := 17) 57 dX5_row_14 rfl (by decide) (zb_lt _) (fun c14 => ?_) (fun c14 => ?_)
    · refine Wp.icon (pc2 := 58) dX5_row_57 rfl (-1) (by decide +kernel) ?_
      refine Wp.ret dX5_row_58 rfl rfl ?_
      exact ⟨rfl, rfl⟩
    · obtain ⟨a, ha, rfl⟩ := (rg_in (by decide)).mp (zby hb c14)
      refine Wp.iload_n (pc2 := 18) dX5_row_17 rfl rfl ?_
      refine Wp.iconN (pc2 := 19) 0 dX5_row_18 rfl ?_
      refine Wp.bipN (pc2 := 21) 99 dX5_row_19 rfl (by decide +kernel) ?_
      refine Wp.callS (pc2 := 24) kX5_row_81 sX5_in (m_in _ c1 _ _) dX5_row_21 rfl rfl rfl (Nat.le_of_ble_eq_true rfl) ?_
      rintro _ _ ⟨⟨b, rfl, hb⟩, rfl⟩
      refine Wp.ifN_eq (pc2 := 27) 57 dX5_row_24 rfl (by decide) (zb_lt _) (fun c24 => ?_) (fun c24 => ?_)
      · refine Wp.icon (pc2 := 58) dX5_row_57 rfl (-1) (by decide +kernel) ?_
        refine Wp.ret dX5_row_58 rfl rfl ?_
        exact ⟨rfl, rfl⟩
      · obtain ⟨b1, hb1, rfl⟩ := (rg_in (by decide)).mp (zby hb c24)
        refine Wp.iload (pc2 := 29) dX5_row_27 rfl rfl ?_
        refine Wp.iconN (pc2 := 30) 0 dX5_row_29 rfl ?_
        refine Wp.bipN (pc2 := 32) 99 dX5_row_30 rfl (by decide +kernel) ?_
        refine Wp.callS (pc2 := 35) kX5_row_81 sX5_in (m_in _ c2 _ _) dX5_row_32 rfl rfl rfl (Nat.le_of_ble_eq_true rfl) ?_
        rintro _ _ ⟨⟨b, rfl, hb⟩, rfl⟩
        refine Wp.ifN_eq (pc2 := 38) 57 dX5_row_35 rfl (by decide) (zb_lt _) (fun c35 => ?_) (fun c35 => ?_)
        · refine Wp.icon (pc2 := 58) dX5_row_57 rfl (-1) (by decide +kernel) ?_
          refine Wp.ret dX5_row_58 rfl rfl ?_
          exact ⟨rfl, rfl⟩
        · obtain ⟨c1, hc1, rfl⟩ := (rg_in (by decide)).mp (zby hb c35)
          refine Wp.aload_n (pc2 := 39) dX5_row_38 rfl rfl ?_
          refine Wp.getf (pc2 := 42) fX5_7 dX5_row_39 rfl rfl rfl ?_
          refine Wp.iload_n (pc2 := 43) dX5_row_42 rfl rfl ?_
          refine Wp.ialdN (pc2 := 44) dX5_row_43 rfl rfl (by omega) (by decide) ?_
          refine Wp.bipN (pc2 := 46) 50 dX5_row_44 rfl (by decide +kernel) ?_
          refine Wp.icmpN_eq (pc2 := 49) 57 dX5_row_46 rfl (by decide) (hV.l _ _) (by decide) (fun c46 => ?_) (fun c46 => ?_)
          · refine Wp.icon (pc2 := 58) dX5_row_57 rfl (-1) (by decide +kernel) ?_
            refine Wp.ret dX5_row_58 rfl rfl ?_
            exact ⟨rfl, rfl⟩
          · refine Wp.aload_n (pc2 := 50) dX5_row_49 rfl rfl ?_
            refine Wp.getf (pc2 := 53) fX5_89 dX5_row_50 rfl rfl rfl ?_
            refine Wp.iconN (pc2 := 54) 1 dX5_row_53 rfl ?_
            refine Wp.icmpN_ne (pc2 := 57) 59 dX5_row_54 rfl (by decide) (hV.l _ _) (by decide) (fun c54 => ?_) (fun c54 => ?_)
            · exact absurd ⟨t', a, b1, c1, ⟨ht, rfl⟩, ⟨ha, rfl⟩, ⟨hb1, rfl⟩, ⟨hc1, rfl⟩, c46, c54⟩ hno
            · refine Wp.icon (pc2 := 58) dX5_row_57 rfl (-1) (by decide +kernel) ?_
              refine Wp.ret dX5_row_58 rfl rfl ?_
              exact ⟨rfl, rfl⟩

def mTest (V : zS) (t w p : Nat) : zS := vs (vs (vs (vs (vs V 4 (4 * t + V 3 t) (w / 1000)) 5 (4 * t + V 3 t) (w / 100 % 10)) 6 (4 * t + V 3 t) (w % 100)) 7 (4 * t + V 3 t) p) 3 t (V 3 t + 1)

set_option maxRecDepth 100000 in
set_option maxHeartbeats 4000000 in
theorem m_test_ok (V : zS) (t w p : Nat) (hV : BV V) (ht : t < 2) (hw : w < 2 ^ 31) (h1 : w / 1000 < 3) (h2 : w / 100 % 10 ≤ 2) (hp : 1 ≤ p ∧ p ≤ 50) (hn : V 3 t < 4) (hs : V 0 10 ≠ 1) : PM mX5_test [.ref 0, .int (nI t), .int (nI w), .int (nI p)] (hM V) (fun zr zq => zr = some (.int (nI (V 3 t))) ∧ zq = hM (mTest V t w p)) := by
  refine PM.of (by decide +kernel) (by simp [Value.category]) (Nat.le_of_ble_eq_true rfl) ?_
  refine Wp.iload_n (pc2 := 1) dX5_test_0 rfl rfl ?_
  refine Wp.callS (pc2 := 4) kX5_test_85 sX5_isTable (m_isTable_t _ t ht) dX5_test_1 rfl rfl rfl (Nat.le_of_ble_eq_true rfl) ?_
  rintro _ _ ⟨rfl, rfl⟩
  refine Wp.ifN_eq (pc2 := 7) 59 dX5_test_4 rfl (by decide) (by omega) (fun c4 => ?_) (fun c4 => ?_)
  · exfalso; omega
  · refine Wp.iload_n (pc2 := 8) dX5_test_7 rfl rfl ?_
    refine Wp.ifN_lt (pc2 := 11) 59 dX5_test_8 rfl (by decide) hw (fun c8 => ?_) (fun c8 => ?_)
    · exfalso; omega
    · refine Wp.iload_n (pc2 := 12) dX5_test_11 rfl rfl ?_
      refine Wp.sipN (pc2 := 15) 1000 dX5_test_12 rfl (by decide +kernel) ?_
      refine Wp.idivN (pc2 := 16) dX5_test_15 rfl hw (by decide) (by decide) ?_
      refine Wp.iconN (pc2 := 17) 3 dX5_test_16 rfl ?_
      refine Wp.icmpN_ge (pc2 := 20) 59 dX5_test_17 rfl (by decide) (by omega) (by omega) (fun c17 => ?_) (fun c17 => ?_)
      · exfalso; omega
      · refine Wp.iload_n (pc2 := 21) dX5_test_20 rfl rfl ?_
        refine Wp.bipN (pc2 := 23) 100 dX5_test_21 rfl (by decide +kernel) ?_
        refine Wp.idivN (pc2 := 24) dX5_test_23 rfl hw (by decide) (by decide) ?_
        refine Wp.bipN (pc2 := 26) 10 dX5_test_24 rfl (by decide +kernel) ?_
        refine Wp.iremN (pc2 := 27) dX5_test_26 rfl (by omega) (by decide) (by decide) ?_
        refine Wp.iconN (pc2 := 28) 2 dX5_test_27 rfl ?_
        refine Wp.icmpN_gt (pc2 := 31) 59 dX5_test_28 rfl (by decide) (by omega) (by omega) (fun c28 => ?_) (fun c28 => ?_)
        · exfalso; omega
        · refine Wp.iload_n (pc2 := 32) dX5_test_31 rfl rfl ?_
          refine Wp.iconN (pc2 := 33) 1 dX5_test_32 rfl ?_
          refine Wp.bipN (pc2 := 35) 50 dX5_test_33 rfl (by decide +kernel) ?_
          refine Wp.callS (pc2 := 38) kX5_test_81 sX5_in (m_in_t _ _ _ _ ((rg_1 (by decide)).mpr ⟨p, hp, rfl⟩)) dX5_test_35 rfl rfl rfl (Nat.le_of_ble_eq_true rfl) ?_
          rintro _ _ ⟨rfl, rfl⟩
          refine Wp.ifN_eq (pc2 := 41) 59 dX5_test_38 rfl (by decide) (by omega) (fun c38 => ?_) (fun c38 => ?_)
          · exfalso; omega
          · refine Wp.aload_n (pc2 := 42) dX5_test_41 rfl rfl ?_
            refine Wp.getf (pc2 := 45) fX5_16 dX5_test_42 rfl rfl rfl ?_
            refine Wp.iload_n (pc2 := 46) dX5_test_45 rfl rfl ?_
            refine Wp.ialdN (pc2 := 47) dX5_test_46 rfl rfl (by omega) (by decide) ?_
            refine Wp.iconN (pc2 := 48) 4 dX5_test_47 rfl ?_
            refine Wp.icmpN_eq (pc2 := 51) 59 dX5_test_48 rfl (by decide) (hV.l _ _) (by decide) (fun c48 => ?_) (fun c48 => ?_)
            · exfalso; omega
            · refine Wp.aload_n (pc2 := 52) dX5_test_51 rfl rfl ?_
              refine Wp.getf (pc2 := 55) fX5_89 dX5_test_52 rfl rfl rfl ?_
              refine Wp.iconN (pc2 := 56) 1 dX5_test_55 rfl ?_
              refine Wp.icmpN_ne (pc2 := 59) 61 dX5_test_56 rfl (by decide) (hV.l _ _) (by decide) (fun c56 => ?_) (fun c56 => ?_)
              · refine Wp.iconN (pc2 := 62) 4 dX5_test_61 rfl ?_
                refine Wp.iload_n (pc2 := 63) dX5_test_62 rfl rfl ?_
                refine Wp.imulN (pc2 := 64) dX5_test_63 rfl  ?_
                refine Wp.aload_n (pc2 := 65) dX5_test_64 rfl rfl ?_
                refine Wp.getf (pc2 := 68) fX5_16 dX5_test_65 rfl rfl rfl ?_
                refine Wp.iload_n (pc2 := 69) dX5_test_68 rfl rfl ?_
                refine Wp.ialdN (pc2 := 70) dX5_test_69 rfl rfl (by omega) (by decide) ?_
                refine Wp.iaddN (pc2 := 71) dX5_test_70 rfl  ?_
                refine Wp.istore (pc2 := 73) dX5_test_71 rfl (by decide) rfl ?_
                refine Wp.aload_n (pc2 := 74) dX5_test_73 rfl rfl ?_
                refine Wp.getf (pc2 := 77) fX5_19 dX5_test_74 rfl rfl rfl ?_
                refine Wp.iload (pc2 := 79) dX5_test_77 rfl rfl ?_
                refine Wp.iload_n (pc2 := 80) dX5_test_79 rfl rfl ?_
                refine Wp.sipN (pc2 := 83) 1000 dX5_test_80 rfl (by decide +kernel) ?_
                refine Wp.idivN (pc2 := 84) dX5_test_83 rfl hw (by decide) (by decide) ?_
                refine Wp.iastN (pc2 := 85) dX5_test_84 rfl rfl (by omega) (by decide) ?_
                refine Wp.heq (hM_a4 _ _ _) ?_
                refine Wp.aload_n (pc2 := 86) dX5_test_85 rfl rfl ?_
                refine Wp.getf (pc2 := 89) fX5_22 dX5_test_86 rfl rfl rfl ?_
                refine Wp.iload (pc2 := 91) dX5_test_89 rfl rfl ?_
                refine Wp.iload_n (pc2 := 92) dX5_test_91 rfl rfl ?_
                refine Wp.bipN (pc2 := 94) 100 dX5_test_92 rfl (by decide +kernel) ?_
                refine Wp.idivN (pc2 := 95) dX5_test_94 rfl hw (by decide) (by decide) ?_
                refine Wp.bipN (pc2 := 97) 10 dX5_test_95 rfl (by decide +kernel) ?_
                refine Wp.iremN (pc2 := 98) dX5_test_97 rfl (by omega) (by decide) (by decide) ?_
                refine Wp.iastN (pc2 := 99) dX5_test_98 rfl rfl (by omega) (by decide) ?_
                refine Wp.heq (hM_a5 _ _ _) ?_
                refine Wp.aload_n (pc2 := 100) dX5_test_99 rfl rfl ?_
                refine Wp.getf (pc2 := 103) fX5_25 dX5_test_100 rfl rfl rfl ?_
                refine Wp.iload (pc2 := 105) dX5_test_103 rfl rfl ?_
                refine Wp.iload_n (pc2 := 106) dX5_test_105 rfl rfl ?_
                refine Wp.bipN (pc2 := 108) 100 dX5_test_106 rfl (by decide +kernel) ?_
                refine Wp.iremN (pc2 := 109) dX5_test_108 rfl hw (by decide) (by decide) ?_
                refine Wp.iastN (pc2 := 110) dX5_test_109 rfl rfl (by omega) (by decide) ?_
                refine Wp.heq (hM_a6 _ _ _) ?_
                refine Wp.aload_n (pc2 := 111) dX5_test_110 rfl rfl ?_
                refine Wp.getf (pc2 := 114) fX5_28 dX5_test_111 rfl rfl rfl ?_
                refine Wp.iload (pc2 := 116) dX5_test_114 rfl rfl ?_
                refine Wp.iload_n (pc2 := 117) dX5_test_116 rfl rfl ?_
                refine Wp.iastN (pc2 := 118) dX5_test_117 rfl rfl (by omega) (by decide) ?_
                refine Wp.heq (hM_a7 _ _ _) ?_
                refine Wp.aload_n (pc2 := 119) dX5_test_118 rfl rfl ?_
                refine Wp.getf (pc2 := 122) fX5_16 dX5_test_119 rfl rfl rfl ?_
                refine Wp.iload_n (pc2 := 123) dX5_test_122 rfl rfl ?_
                refine Wp.dup2 (pc2 := 124) dX5_test_123 rfl rfl rfl ?_
                refine Wp.ialdN (pc2 := 125) dX5_test_124 rfl rfl (by omega) (by decide) ?_
                refine Wp.iconN (pc2 := 126) 1 dX5_test_125 rfl ?_
                refine Wp.iaddN (pc2 := 127) dX5_test_126 rfl  ?_
                change Wp _ _ _ _ (.int (nI (V 3 t + 1)) :: _) _
                refine Wp.iastN (pc2 := 128) dX5_test_127 rfl rfl (by omega) (by decide) ?_
                refine Wp.heq (hM_a3 _ _ _) ?_
                refine Wp.aload_n (pc2 := 129) dX5_test_128 rfl rfl ?_
                refine Wp.getf (pc2 := 132) fX5_16 dX5_test_129 rfl rfl rfl ?_
                refine Wp.iload_n (pc2 := 133) dX5_test_132 rfl rfl ?_
                refine Wp.ialdN (pc2 := 134) dX5_test_133 rfl rfl (by omega) (by decide) ?_
                refine Wp.iconN (pc2 := 135) 1 dX5_test_134 rfl ?_
                refine Wp.isubN (pc2 := 136) dX5_test_135 rfl (by simp [vs]) ?_
                refine Wp.ret dX5_test_136 rfl rfl ?_
                refine ⟨?_, rfl⟩
                simp [vs]
              · exfalso; omega

set_option maxRecDepth 100000 in
set_option maxHeartbeats 4000000 in
theorem m_test_no (V : zS) (t what price : Int32) (hV : BV V) (hno : ¬ ∃ t' w p : Nat, (t' < 2 ∧ t = nI t') ∧ (w < 2 ^ 31 ∧ what = nI w) ∧ ((1 ≤ p ∧ p ≤ 50) ∧ price = nI p) ∧ w / 1000 < 3 ∧ w / 100 % 10 ≤ 2 ∧ V 3 t' ≠ 4 ∧ V 0 10 ≠ 1) : PM mX5_test [.ref 0, .int t, .int what, .int price] (hM V) (fun zr zq => zr = some (.int (-1)) ∧ zq = hM V) := by
  refine PM.of (by decide +kernel) (by simp [Value.category]) (Nat.le_of_ble_eq_true rfl) ?_
  refine Wp.iload_n (pc2 := 1) dX5_test_0 rfl rfl ?_
  refine Wp.callS (pc2 := 4) kX5_test_85 sX5_isTable (m_isTable _ t) dX5_test_1 rfl rfl rfl (Nat.le_of_ble_eq_true rfl) ?_
  rintro _ _ ⟨⟨b, rfl, hb⟩, rfl⟩
  refine Wp.ifN_eq (pc2 := 7) 59 dX5_test_4 rfl (by decide) (zb_lt _) (fun c4 => ?_) (fun c4 => ?_)
  · refine Wp.icon (pc2 := 60) dX5_test_59 rfl (-1) (by decide +kernel) ?_
    refine Wp.ret dX5_test_60 rfl rfl ?_
    exact ⟨rfl, rfl⟩
  · obtain ⟨t', ht, rfl⟩ := rg_t.mp (zby hb c4)
    refine Wp.iload_n (pc2 := 8) dX5_test_7 rfl rfl ?_
    refine Wp.if_lt (pc2 := 11) 59 dX5_test_8 rfl (by decide)  (fun c8 => ?_) (fun c8 => ?_)
    · refine Wp.icon (pc2 := 60) dX5_test_59 rfl (-1) (by decide +kernel) ?_
      refine Wp.ret dX5_test_60 rfl rfl ?_
      exact ⟨rfl, rfl⟩
    · obtain ⟨w, hw, rfl⟩ := nI_of c8
      refine Wp.iload_n (pc2 := 12) dX5_test_11 rfl rfl ?_
      refine Wp.sipN (pc2 := 15) 1000 dX5_test_12 rfl (by decide +kernel) ?_
      refine Wp.idivN (pc2 := 16) dX5_test_15 rfl hw (by decide) (by decide) ?_
      refine Wp.iconN (pc2 := 17) 3 dX5_test_16 rfl ?_
      refine Wp.icmpN_ge (pc2 := 20) 59 dX5_test_17 rfl (by decide) (by omega) (by omega) (fun c17 => ?_) (fun c17 => ?_)
      · refine Wp.icon (pc2 := 60) dX5_test_59 rfl (-1) (by decide +kernel) ?_
        refine Wp.ret dX5_test_60 rfl rfl ?_
        exact ⟨rfl, rfl⟩
      · refine Wp.iload_n (pc2 := 21) dX5_test_20 rfl rfl ?_
        refine Wp.bipN (pc2 := 23) 100 dX5_test_21 rfl (by decide +kernel) ?_
        refine Wp.idivN (pc2 := 24) dX5_test_23 rfl hw (by decide) (by decide) ?_
        refine Wp.bipN (pc2 := 26) 10 dX5_test_24 rfl (by decide +kernel) ?_
        refine Wp.iremN (pc2 := 27) dX5_test_26 rfl (by omega) (by decide) (by decide) ?_
        refine Wp.iconN (pc2 := 28) 2 dX5_test_27 rfl ?_
        refine Wp.icmpN_gt (pc2 := 31) 59 dX5_test_28 rfl (by decide) (by omega) (by omega) (fun c28 => ?_) (fun c28 => ?_)
        · refine Wp.icon (pc2 := 60) dX5_test_59 rfl (-1) (by decide +kernel) ?_
          refine Wp.ret dX5_test_60 rfl rfl ?_
          exact ⟨rfl, rfl⟩
        · refine Wp.iload_n (pc2 := 32) dX5_test_31 rfl rfl ?_
          refine Wp.iconN (pc2 := 33) 1 dX5_test_32 rfl ?_
          refine Wp.bipN (pc2 := 35) 50 dX5_test_33 rfl (by decide +kernel) ?_
          refine Wp.callS (pc2 := 38) kX5_test_81 sX5_in (m_in _ price _ _) dX5_test_35 rfl rfl rfl (Nat.le_of_ble_eq_true rfl) ?_
          rintro _ _ ⟨⟨b, rfl, hb⟩, rfl⟩
          refine Wp.ifN_eq (pc2 := 41) 59 dX5_test_38 rfl (by decide) (zb_lt _) (fun c38 => ?_) (fun c38 => ?_)
          · refine Wp.icon (pc2 := 60) dX5_test_59 rfl (-1) (by decide +kernel) ?_
            refine Wp.ret dX5_test_60 rfl rfl ?_
            exact ⟨rfl, rfl⟩
          · obtain ⟨p1, hp1, rfl⟩ := (rg_1 (by decide)).mp (zby hb c38)
            refine Wp.aload_n (pc2 := 42) dX5_test_41 rfl rfl ?_
            refine Wp.getf (pc2 := 45) fX5_16 dX5_test_42 rfl rfl rfl ?_
            refine Wp.iload_n (pc2 := 46) dX5_test_45 rfl rfl ?_
            refine Wp.ialdN (pc2 := 47) dX5_test_46 rfl rfl (by omega) (by decide) ?_
            refine Wp.iconN (pc2 := 48) 4 dX5_test_47 rfl ?_
            refine Wp.icmpN_eq (pc2 := 51) 59 dX5_test_48 rfl (by decide) (hV.l _ _) (by decide) (fun c48 => ?_) (fun c48 => ?_)
            · refine Wp.icon (pc2 := 60) dX5_test_59 rfl (-1) (by decide +kernel) ?_
              refine Wp.ret dX5_test_60 rfl rfl ?_
              exact ⟨rfl, rfl⟩
            · refine Wp.aload_n (pc2 := 52) dX5_test_51 rfl rfl ?_
              refine Wp.getf (pc2 := 55) fX5_89 dX5_test_52 rfl rfl rfl ?_
              refine Wp.iconN (pc2 := 56) 1 dX5_test_55 rfl ?_
              refine Wp.icmpN_ne (pc2 := 59) 61 dX5_test_56 rfl (by decide) (hV.l _ _) (by decide) (fun c56 => ?_) (fun c56 => ?_)
              · exact absurd ⟨t', w, p1, ⟨ht, rfl⟩, ⟨hw, rfl⟩, ⟨hp1, rfl⟩, c17, c28, c48, c56⟩ hno
              · refine Wp.icon (pc2 := 60) dX5_test_59 rfl (-1) (by decide +kernel) ?_
                refine Wp.ret dX5_test_60 rfl rfl ?_
                exact ⟨rfl, rfl⟩

set_option maxRecDepth 100000 in
set_option maxHeartbeats 4000000 in
theorem m_join_ok (V : zS) (a b : Nat) (hV : BV V) (ha : a < 3) (hb : b < 3) (hs : V 0 10 ≠ 1) : PM mX5_join [.ref 0, .int (nI a), .int (nI b)] (hM V) (fun zr zq => zr = some (.int (nI (1))) ∧ zq = hM (vs (vs V 8 0 a) 8 1 b)) := by
  refine PM.of (by decide +kernel) (by simp [Value.category]) (Nat.le_of_ble_eq_true rfl) ?_
  refine Wp.iload_n (pc2 := 1) dX5_join_0 rfl rfl ?_
  refine Wp.iconN (pc2 := 2) 0 dX5_join_1 rfl ?_
  refine Wp.iconN (pc2 := 3) 2 dX5_join_2 rfl ?_
  refine Wp.callS (pc2 := 6) kX5_join_81 sX5_in (m_in_t _ _ _ _ ((rg_in (by decide)).mpr ⟨a, ha, rfl⟩)) dX5_join_3 rfl rfl rfl (Nat.le_of_ble_eq_true rfl) ?_
  rintro _ _ ⟨rfl, rfl⟩
  refine Wp.ifN_eq (pc2 := 9) 26 dX5_join_6 rfl (by decide) (by omega) (fun c6 => ?_) (fun c6 => ?_)
  · exfalso; omega
  · refine Wp.iload_n (pc2 := 10) dX5_join_9 rfl rfl ?_
    refine Wp.iconN (pc2 := 11) 0 dX5_join_10 rfl ?_
    refine Wp.iconN (pc2 := 12) 2 dX5_join_11 rfl ?_
    refine Wp.callS (pc2 := 15) kX5_join_81 sX5_in (m_in_t _ _ _ _ ((rg_in (by decide)).mpr ⟨b, hb, rfl⟩)) dX5_join_12 rfl rfl rfl (Nat.le_of_ble_eq_true rfl) ?_
    rintro _ _ ⟨rfl, rfl⟩
    refine Wp.ifN_eq (pc2 := 18) 26 dX5_join_15 rfl (by decide) (by omega) (fun c15 => ?_) (fun c15 => ?_)
    · exfalso; omega
    · refine Wp.aload_n (pc2 := 19) dX5_join_18 rfl rfl ?_
      refine Wp.getf (pc2 := 22) fX5_89 dX5_join_19 rfl rfl rfl ?_
      refine Wp.iconN (pc2 := 23) 1 dX5_join_22 rfl ?_
      refine Wp.icmpN_ne (pc2 := 26) 28 dX5_join_23 rfl (by decide) (hV.l _ _) (by decide) (fun c23 => ?_) (fun c23 => ?_)
      · refine Wp.aload_n (pc2 := 29) dX5_join_28 rfl rfl ?_
        refine Wp.getf (pc2 := 32) fX5_31 dX5_join_29 rfl rfl rfl ?_
        refine Wp.iconN (pc2 := 33) 0 dX5_join_32 rfl ?_
        refine Wp.iload_n (pc2 := 34) dX5_join_33 rfl rfl ?_
        refine Wp.iastN (pc2 := 35) dX5_join_34 rfl rfl (by omega) (by decide) ?_
        refine Wp.heq (hM_a8 _ _ _) ?_
        refine Wp.aload_n (pc2 := 36) dX5_join_35 rfl rfl ?_
        refine Wp.getf (pc2 := 39) fX5_31 dX5_join_36 rfl rfl rfl ?_
        refine Wp.iconN (pc2 := 40) 1 dX5_join_39 rfl ?_
        refine Wp.iload_n (pc2 := 41) dX5_join_40 rfl rfl ?_
        refine Wp.iastN (pc2 := 42) dX5_join_41 rfl rfl (by omega) (by decide) ?_
        refine Wp.heq (hM_a8 _ _ _) ?_
        refine Wp.iconN (pc2 := 43) 1 dX5_join_42 rfl ?_
        refine Wp.ret dX5_join_43 rfl rfl ?_
        exact ⟨rfl, rfl⟩
      · exfalso; omega

set_option maxRecDepth 100000 in
set_option maxHeartbeats 4000000 in
theorem m_join_no (V : zS) (c0 c1 : Int32) (hV : BV V) (hno : ¬ ∃ a b : Nat, (a < 3 ∧ c0 = nI a) ∧ (b < 3 ∧ c1 = nI b) ∧ V 0 10 ≠ 1) : PM mX5_join [.ref 0, .int c0, .int c1] (hM V) (fun zr zq => zr = some (.int (nI 0)) ∧ zq = hM V) := by
  refine PM.of (by decide +kernel) (by simp [Value.category]) (Nat.le_of_ble_eq_true rfl) ?_
  refine Wp.iload_n (pc2 := 1) dX5_join_0 rfl rfl ?_
  refine Wp.iconN (pc2 := 2) 0 dX5_join_1 rfl ?_
  refine Wp.iconN (pc2 := 3) 2 dX5_join_2 rfl ?_
  refine Wp.callS (pc2 := 6) kX5_join_81 sX5_in (m_in _ c0 _ _) dX5_join_3 rfl rfl rfl (Nat.le_of_ble_eq_true rfl) ?_
  rintro _ _ ⟨⟨b, rfl, hb⟩, rfl⟩
  refine Wp.ifN_eq (pc2 := 9) 26 dX5_join_6 rfl (by decide) (zb_lt _) (fun c6 => ?_) (fun c6 => ?_)
  · refine Wp.iconN (pc2 := 27) 0 dX5_join_26 rfl ?_
    refine Wp.ret dX5_join_27 rfl rfl ?_
    exact ⟨rfl, rfl⟩
  · obtain ⟨a, ha, rfl⟩ := (rg_in (by decide)).mp (zby hb c6)
    refine Wp.iload_n (pc2 := 10) dX5_join_9 rfl rfl ?_
    refine Wp.iconN (pc2 := 11) 0 dX5_join_10 rfl ?_
    refine Wp.iconN (pc2 := 12) 2 dX5_join_11 rfl ?_
    refine Wp.callS (pc2 := 15) kX5_join_81 sX5_in (m_in _ c1 _ _) dX5_join_12 rfl rfl rfl (Nat.le_of_ble_eq_true rfl) ?_
    rintro _ _ ⟨⟨b, rfl, hb⟩, rfl⟩
    refine Wp.ifN_eq (pc2 := 18) 26 dX5_join_15 rfl (by decide) (zb_lt _) (fun c15 => ?_) (fun c15 => ?_)
    · refine Wp.iconN (pc2 := 27) 0 dX5_join_26 rfl ?_
      refine Wp.ret dX5_join_27 rfl rfl ?_
      exact ⟨rfl, rfl⟩
    · obtain ⟨b1, hb1, rfl⟩ := (rg_in (by decide)).mp (zby hb c15)
      refine Wp.aload_n (pc2 := 19) dX5_join_18 rfl rfl ?_
      refine Wp.getf (pc2 := 22) fX5_89 dX5_join_19 rfl rfl rfl ?_
      refine Wp.iconN (pc2 := 23) 1 dX5_join_22 rfl ?_
      refine Wp.icmpN_ne (pc2 := 26) 28 dX5_join_23 rfl (by decide) (hV.l _ _) (by decide) (fun c23 => ?_) (fun c23 => ?_)
      · exact absurd ⟨a, b1, ⟨ha, rfl⟩, ⟨hb1, rfl⟩, c23⟩ hno
      · refine Wp.iconN (pc2 := 27) 0 dX5_join_26 rfl ?_
        refine Wp.ret dX5_join_27 rfl rfl ?_
        exact ⟨rfl, rfl⟩

set_option maxRecDepth 100000 in
set_option maxHeartbeats 4000000 in
theorem m_stop_ok (V : zS) (hV : BV V) (hs : V 0 10 = 1) : PM mX5_stop [.ref 0] (hM V) (fun zr zq => zr = some (.int (nI (1))) ∧ zq = hM (vs V 0 10 0)) := by
  refine PM.of (by decide +kernel) (by simp [Value.category]) (Nat.le_of_ble_eq_true rfl) ?_
  refine Wp.aload_n (pc2 := 1) dX5_stop_0 rfl rfl ?_
  refine Wp.getf (pc2 := 4) fX5_89 dX5_stop_1 rfl rfl rfl ?_
  refine Wp.iconN (pc2 := 5) 1 dX5_stop_4 rfl ?_
  refine Wp.icmpN_eq (pc2 := 8) 10 dX5_stop_5 rfl (by decide) (hV.l _ _) (by decide) (fun c5 => ?_) (fun c5 => ?_)
  · refine Wp.aload_n (pc2 := 11) dX5_stop_10 rfl rfl ?_
    refine Wp.iconN (pc2 := 12) 0 dX5_stop_11 rfl ?_
    refine Wp.putf (pc2 := 15) gX5_89 dX5_stop_12 rfl rfl (Nat.le_of_ble_eq_true rfl) rfl rfl ?_
    refine Wp.heq (hM_o0_10 _ _) ?_
    refine Wp.iconN (pc2 := 16) 1 dX5_stop_15 rfl ?_
    refine Wp.ret dX5_stop_16 rfl rfl ?_
    exact ⟨rfl, rfl⟩
  · exfalso; omega

set_option maxRecDepth 100000 in
set_option maxHeartbeats 4000000 in
theorem m_stop_no (V : zS) (hV : BV V) (hs : V 0 10 ≠ 1) : PM mX5_stop [.ref 0] (hM V) (fun zr zq => zr = some (.int (nI 0)) ∧ zq = hM V) := by
  refine PM.of (by decide +kernel) (by simp [Value.category]) (Nat.le_of_ble_eq_true rfl) ?_
  refine Wp.aload_n (pc2 := 1) dX5_stop_0 rfl rfl ?_
  refine Wp.getf (pc2 := 4) fX5_89 dX5_stop_1 rfl rfl rfl ?_
  refine Wp.iconN (pc2 := 5) 1 dX5_stop_4 rfl ?_
  refine Wp.icmpN_eq (pc2 := 8) 10 dX5_stop_5 rfl (by decide) (hV.l _ _) (by decide) (fun c5 => ?_) (fun c5 => ?_)
  · exfalso; omega
  · refine Wp.iconN (pc2 := 9) 0 dX5_stop_8 rfl ?_
    refine Wp.ret dX5_stop_9 rfl rfl ?_
    exact ⟨rfl, rfl⟩

theorem zo_in {x : Int32} : (-1 ≤ x ∧ x ≤ nI 1) ↔ ∃ n : Nat, n < 3 ∧ x = zo n := by
  constructor
  · rintro ⟨h1, h2⟩
    rw [Int32.le_iff_toInt_le, show (-1 : Int32).toInt = -1 by decide] at h1
    rw [Int32.le_iff_toInt_le, nI_toInt (by decide)] at h2
    refine ⟨(x.toInt + 1).toNat, by omega, Int32.toInt_inj.mp ?_⟩
    have e : zo (x.toInt + 1).toNat = nI (x.toInt + 1).toNat - nI 1 := rfl
    rw [e, pk_sub_toInt (by omega) (by decide)]; omega
  · rintro ⟨n, hn, rfl⟩
    rcases (show n = 0 ∨ n = 1 ∨ n = 2 by omega) with rfl | rfl | rfl <;> decide

set_option maxRecDepth 100000 in
set_option maxHeartbeats 4000000 in
theorem m_force_ok (V : zS) (n : Nat) (hn : n < 3) : PM mX5_force [.ref 0, .int (zo n)] (hM V) (fun zr zq => zr = some (.int (nI (1))) ∧ zq = hM (vs V 0 9 n)) := by
  refine PM.of (by decide +kernel) (by simp [Value.category]) (Nat.le_of_ble_eq_true rfl) ?_
  refine Wp.iload_n (pc2 := 1) dX5_force_0 rfl rfl ?_
  refine Wp.icon (pc2 := 2) dX5_force_1 rfl (-1) (by decide +kernel) ?_
  refine Wp.iconN (pc2 := 3) 1 dX5_force_2 rfl ?_
  refine Wp.callS (pc2 := 6) kX5_force_81 sX5_in (m_in_t _ _ _ _ (zo_in.mpr ⟨n, hn, rfl⟩)) dX5_force_3 rfl rfl rfl (Nat.le_of_ble_eq_true rfl) ?_
  rintro _ _ ⟨rfl, rfl⟩
  refine Wp.ifN_ne (pc2 := 9) 11 dX5_force_6 rfl (by decide) (by omega) (fun c6 => ?_) (fun c6 => ?_)
  · refine Wp.aload_n (pc2 := 12) dX5_force_11 rfl rfl ?_
    refine Wp.iload_n (pc2 := 13) dX5_force_12 rfl rfl ?_
    refine Wp.putf (pc2 := 16) gX5_38 dX5_force_13 rfl rfl (Nat.le_of_ble_eq_true rfl) rfl rfl ?_
    refine Wp.heq (hM_o0_9 _ _) ?_
    refine Wp.iconN (pc2 := 17) 1 dX5_force_16 rfl ?_
    refine Wp.ret dX5_force_17 rfl rfl ?_
    exact ⟨rfl, rfl⟩
  · exfalso; omega

set_option maxRecDepth 100000 in
set_option maxHeartbeats 4000000 in
theorem m_force_no (V : zS) (x : Int32) (hno : ¬ ∃ n : Nat, n < 3 ∧ x = zo n) : PM mX5_force [.ref 0, .int x] (hM V) (fun zr zq => zr = some (.int (nI 0)) ∧ zq = hM V) := by
  refine PM.of (by decide +kernel) (by simp [Value.category]) (Nat.le_of_ble_eq_true rfl) ?_
  refine Wp.iload_n (pc2 := 1) dX5_force_0 rfl rfl ?_
  refine Wp.icon (pc2 := 2) dX5_force_1 rfl (-1) (by decide +kernel) ?_
  refine Wp.iconN (pc2 := 3) 1 dX5_force_2 rfl ?_
  refine Wp.callS (pc2 := 6) kX5_force_81 sX5_in (m_in _ x _ _) dX5_force_3 rfl rfl rfl (Nat.le_of_ble_eq_true rfl) ?_
  rintro _ _ ⟨⟨b, rfl, hb⟩, rfl⟩
  refine Wp.ifN_ne (pc2 := 9) 11 dX5_force_6 rfl (by decide) (zb_lt _) (fun c6 => ?_) (fun c6 => ?_)
  · exact absurd (zo_in.mp (zby hb c6)) hno
  · refine Wp.iconN (pc2 := 10) 0 dX5_force_9 rfl ?_
    refine Wp.ret dX5_force_10 rfl rfl ?_
    exact ⟨rfl, rfl⟩

set_option maxRecDepth 100000 in
set_option maxHeartbeats 4000000 in
theorem m_ordered_ok (V : zS) (t k : Nat) (hV : BV V) (ht : t < 2) (ha : V 9 t ≤ 4) (hk : k < V 9 t) (hs : V 0 11 ≠ 0) : PM mX5_ordered [.ref 0, .int (nI t), .int (nI k)] (hM V) (fun zr zq => zr = some (.int (nI (V 11 (4 * t + k)))) ∧ zq = hM V) := by
  refine PM.of (by decide +kernel) (by simp [Value.category]) (Nat.le_of_ble_eq_true rfl) ?_
  refine Wp.iload_n (pc2 := 1) dX5_ordered_0 rfl rfl ?_
  refine Wp.callS (pc2 := 4) kX5_ordered_85 sX5_isTable (m_isTable_t _ t ht) dX5_ordered_1 rfl rfl rfl (Nat.le_of_ble_eq_true rfl) ?_
  rintro _ _ ⟨rfl, rfl⟩
  refine Wp.ifN_eq (pc2 := 7) 43 dX5_ordered_4 rfl (by decide) (by omega) (fun c4 => ?_) (fun c4 => ?_)
  · exfalso; omega
  · refine Wp.aload_n (pc2 := 8) dX5_ordered_7 rfl rfl ?_
    refine Wp.getf (pc2 := 11) fX5_96 dX5_ordered_8 rfl rfl rfl ?_
    refine Wp.ifN_eq (pc2 := 14) 43 dX5_ordered_11 rfl (by decide) (hV.l _ _) (fun c11 => ?_) (fun c11 => ?_)
    · exfalso; omega
    · refine Wp.iload_n (pc2 := 15) dX5_ordered_14 rfl rfl ?_
      refine Wp.iconN (pc2 := 16) 0 dX5_ordered_15 rfl ?_
      refine Wp.aload_n (pc2 := 17) dX5_ordered_16 rfl rfl ?_
      refine Wp.getf (pc2 := 20) fX5_41 dX5_ordered_17 rfl rfl rfl ?_
      refine Wp.iload_n (pc2 := 21) dX5_ordered_20 rfl rfl ?_
      refine Wp.ialdN (pc2 := 22) dX5_ordered_21 rfl rfl (by omega) (by decide) ?_
      refine Wp.iconN (pc2 := 23) 1 dX5_ordered_22 rfl ?_
      refine Wp.isub (pc2 := 24) dX5_ordered_23 rfl ?_
      refine Wp.callS (pc2 := 27) kX5_ordered_81 sX5_in (m_in_t _ _ _ _ ((rg_sub (by omega)).mpr ⟨k, hk, rfl⟩)) dX5_ordered_24 rfl rfl rfl (Nat.le_of_ble_eq_true rfl) ?_
      rintro _ _ ⟨rfl, rfl⟩
      refine Wp.ifN_eq (pc2 := 30) 43 dX5_ordered_27 rfl (by decide) (by omega) (fun c27 => ?_) (fun c27 => ?_)
      · exfalso; omega
      · refine Wp.aload_n (pc2 := 31) dX5_ordered_30 rfl rfl ?_
        refine Wp.getf (pc2 := 34) fX5_47 dX5_ordered_31 rfl rfl rfl ?_
        refine Wp.iconN (pc2 := 35) 4 dX5_ordered_34 rfl ?_
        refine Wp.iload_n (pc2 := 36) dX5_ordered_35 rfl rfl ?_
        refine Wp.imulN (pc2 := 37) dX5_ordered_36 rfl  ?_
        refine Wp.iload_n (pc2 := 38) dX5_ordered_37 rfl rfl ?_
        refine Wp.iaddN (pc2 := 39) dX5_ordered_38 rfl  ?_
        refine Wp.ialdN (pc2 := 40) dX5_ordered_39 rfl rfl (by omega) (by decide) ?_
        refine Wp.goto (pc2 := 44) dX5_ordered_40 (by decide) ?_
        refine Wp.ret dX5_ordered_44 rfl rfl ?_
        exact ⟨rfl, rfl⟩

set_option maxRecDepth 100000 in
set_option maxHeartbeats 4000000 in
theorem m_ordered_no (V : zS) (t k : Int32) (hV : BV V) (ha : ∀ t, t < 2 → V 9 t ≤ 4) (hno : ¬ ∃ t' k' : Nat, (t' < 2 ∧ t = nI t') ∧ (k' < V 9 t' ∧ k = nI k') ∧ V 0 11 ≠ 0) : PM mX5_ordered [.ref 0, .int t, .int k] (hM V) (fun zr zq => zr = some (.int (-1)) ∧ zq = hM V) := by
  refine PM.of (by decide +kernel) (by simp [Value.category]) (Nat.le_of_ble_eq_true rfl) ?_
  refine Wp.iload_n (pc2 := 1) dX5_ordered_0 rfl rfl ?_
  refine Wp.callS (pc2 := 4) kX5_ordered_85 sX5_isTable (m_isTable _ t) dX5_ordered_1 rfl rfl rfl (Nat.le_of_ble_eq_true rfl) ?_
  rintro _ _ ⟨⟨b, rfl, hb⟩, rfl⟩
  refine Wp.ifN_eq (pc2 := 7) 43 dX5_ordered_4 rfl (by decide) (zb_lt _) (fun c4 => ?_) (fun c4 => ?_)
  · refine Wp.icon (pc2 := 44) dX5_ordered_43 rfl (-1) (by decide +kernel) ?_
    refine Wp.ret dX5_ordered_44 rfl rfl ?_
    exact ⟨rfl, rfl⟩
  · obtain ⟨t', ht, rfl⟩ := rg_t.mp (zby hb c4)
    have ha1 := ha t' ht
    refine Wp.aload_n (pc2 := 8) dX5_ordered_7 rfl rfl ?_
    refine Wp.getf (pc2 := 11) fX5_96 dX5_ordered_8 rfl rfl rfl ?_
    refine Wp.ifN_eq (pc2 := 14) 43 dX5_ordered_11 rfl (by decide) (hV.l _ _) (fun c11 => ?_) (fun c11 => ?_)
    · refine Wp.icon (pc2 := 44) dX5_ordered_43 rfl (-1) (by decide +kernel) ?_
      refine Wp.ret dX5_ordered_44 rfl rfl ?_
      exact ⟨rfl, rfl⟩
    · refine Wp.iload_n (pc2 := 15) dX5_ordered_14 rfl rfl ?_
      refine Wp.iconN (pc2 := 16) 0 dX5_ordered_15 rfl ?_
      refine Wp.aload_n (pc2 := 17) dX5_ordered_16 rfl rfl ?_
      refine Wp.getf (pc2 := 20) fX5_41 dX5_ordered_17 rfl rfl rfl ?_
      refine Wp.iload_n (pc2 := 21) dX5_ordered_20 rfl rfl ?_
      refine Wp.ialdN (pc2 := 22) dX5_ordered_21 rfl rfl (by omega) (by decide) ?_
      refine Wp.iconN (pc2 := 23) 1 dX5_ordered_22 rfl ?_
      refine Wp.isub (pc2 := 24) dX5_ordered_23 rfl ?_
      refine Wp.callS (pc2 := 27) kX5_ordered_81 sX5_in (m_in _ k _ _) dX5_ordered_24 rfl rfl rfl (Nat.le_of_ble_eq_true rfl) ?_
      rintro _ _ ⟨⟨b, rfl, hb⟩, rfl⟩
      refine Wp.ifN_eq (pc2 := 30) 43 dX5_ordered_27 rfl (by decide) (zb_lt _) (fun c27 => ?_) (fun c27 => ?_)
      · refine Wp.icon (pc2 := 44) dX5_ordered_43 rfl (-1) (by decide +kernel) ?_
        refine Wp.ret dX5_ordered_44 rfl rfl ?_
        exact ⟨rfl, rfl⟩
      · obtain ⟨k1, hk1, rfl⟩ := (rg_sub (by omega)).mp (zby hb c27)
        exact absurd ⟨t', k1, ⟨ht, rfl⟩, ⟨hk1, rfl⟩, c11⟩ hno

set_option maxRecDepth 100000 in
set_option maxHeartbeats 4000000 in
theorem m_where_ok (V : zS) (t k : Nat) (ht : t < 2) (ha : V 1 t ≤ 50) (hk : k < V 1 t) : PM mX5_where [.ref 0, .int (nI t), .int (nI k)] (hM V) (fun zr zq => zr = some (.int (nI (V 18 (50 * t + k)))) ∧ zq = hM V) := by
  refine PM.of (by decide +kernel) (by simp [Value.category]) (Nat.le_of_ble_eq_true rfl) ?_
  refine Wp.iload_n (pc2 := 1) dX5_where_0 rfl rfl ?_
  refine Wp.callS (pc2 := 4) kX5_where_85 sX5_isTable (m_isTable_t _ t ht) dX5_where_1 rfl rfl rfl (Nat.le_of_ble_eq_true rfl) ?_
  rintro _ _ ⟨rfl, rfl⟩
  refine Wp.ifN_eq (pc2 := 7) 37 dX5_where_4 rfl (by decide) (by omega) (fun c4 => ?_) (fun c4 => ?_)
  · exfalso; omega
  · refine Wp.iload_n (pc2 := 8) dX5_where_7 rfl rfl ?_
    refine Wp.iconN (pc2 := 9) 0 dX5_where_8 rfl ?_
    refine Wp.aload_n (pc2 := 10) dX5_where_9 rfl rfl ?_
    refine Wp.getf (pc2 := 13) fX5_7 dX5_where_10 rfl rfl rfl ?_
    refine Wp.iload_n (pc2 := 14) dX5_where_13 rfl rfl ?_
    refine Wp.ialdN (pc2 := 15) dX5_where_14 rfl rfl (by omega) (by decide) ?_
    refine Wp.iconN (pc2 := 16) 1 dX5_where_15 rfl ?_
    refine Wp.isub (pc2 := 17) dX5_where_16 rfl ?_
    refine Wp.callS (pc2 := 20) kX5_where_81 sX5_in (m_in_t _ _ _ _ ((rg_sub (by omega)).mpr ⟨k, hk, rfl⟩)) dX5_where_17 rfl rfl rfl (Nat.le_of_ble_eq_true rfl) ?_
    rintro _ _ ⟨rfl, rfl⟩
    refine Wp.ifN_eq (pc2 := 23) 37 dX5_where_20 rfl (by decide) (by omega) (fun c20 => ?_) (fun c20 => ?_)
    · exfalso; omega
    · refine Wp.aload_n (pc2 := 24) dX5_where_23 rfl rfl ?_
      refine Wp.getf (pc2 := 27) fX5_69 dX5_where_24 rfl rfl rfl ?_
      refine Wp.bipN (pc2 := 29) 50 dX5_where_27 rfl (by decide +kernel) ?_
      refine Wp.iload_n (pc2 := 30) dX5_where_29 rfl rfl ?_
      refine Wp.imulN (pc2 := 31) dX5_where_30 rfl  ?_
      refine Wp.iload_n (pc2 := 32) dX5_where_31 rfl rfl ?_
      refine Wp.iaddN (pc2 := 33) dX5_where_32 rfl  ?_
      refine Wp.ialdN (pc2 := 34) dX5_where_33 rfl rfl (by omega) (by decide) ?_
      refine Wp.goto (pc2 := 38) dX5_where_34 (by decide) ?_
      refine Wp.ret dX5_where_38 rfl rfl ?_
      exact ⟨rfl, rfl⟩

set_option maxRecDepth 100000 in
set_option maxHeartbeats 4000000 in
theorem m_where_no (V : zS) (t k : Int32) (ha : ∀ t, t < 2 → V 1 t ≤ 50) (hno : ¬ ∃ t' k' : Nat, (t' < 2 ∧ t = nI t') ∧ (k' < V 1 t' ∧ k = nI k')) : PM mX5_where [.ref 0, .int t, .int k] (hM V) (fun zr zq => zr = some (.int (-1)) ∧ zq = hM V) := by
  refine PM.of (by decide +kernel) (by simp [Value.category]) (Nat.le_of_ble_eq_true rfl) ?_
  refine Wp.iload_n (pc2 := 1) dX5_where_0 rfl rfl ?_
  refine Wp.callS (pc2 := 4) kX5_where_85 sX5_isTable (m_isTable _ t) dX5_where_1 rfl rfl rfl (Nat.le_of_ble_eq_true rfl) ?_
  rintro _ _ ⟨⟨b, rfl, hb⟩, rfl⟩
  refine Wp.ifN_eq (pc2 := 7) 37 dX5_where_4 rfl (by decide) (zb_lt _) (fun c4 => ?_) (fun c4 => ?_)
  · refine Wp.icon (pc2 := 38) dX5_where_37 rfl (-1) (by decide +kernel) ?_
    refine Wp.ret dX5_where_38 rfl rfl ?_
    exact ⟨rfl, rfl⟩
  · obtain ⟨t', ht, rfl⟩ := rg_t.mp (zby hb c4)
    have ha1 := ha t' ht
    refine Wp.iload_n (pc2 := 8) dX5_where_7 rfl rfl ?_
    refine Wp.iconN (pc2 := 9) 0 dX5_where_8 rfl ?_
    refine Wp.aload_n (pc2 := 10) dX5_where_9 rfl rfl ?_
    refine Wp.getf (pc2 := 13) fX5_7 dX5_where_10 rfl rfl rfl ?_
    refine Wp.iload_n (pc2 := 14) dX5_where_13 rfl rfl ?_
    refine Wp.ialdN (pc2 := 15) dX5_where_14 rfl rfl (by omega) (by decide) ?_
    refine Wp.iconN (pc2 := 16) 1 dX5_where_15 rfl ?_
    refine Wp.isub (pc2 := 17) dX5_where_16 rfl ?_
    refine Wp.callS (pc2 := 20) kX5_where_81 sX5_in (m_in _ k _ _) dX5_where_17 rfl rfl rfl (Nat.le_of_ble_eq_true rfl) ?_
    rintro _ _ ⟨⟨b, rfl, hb⟩, rfl⟩
    refine Wp.ifN_eq (pc2 := 23) 37 dX5_where_20 rfl (by decide) (zb_lt _) (fun c20 => ?_) (fun c20 => ?_)
    · refine Wp.icon (pc2 := 38) dX5_where_37 rfl (-1) (by decide +kernel) ?_
      refine Wp.ret dX5_where_38 rfl rfl ?_
      exact ⟨rfl, rfl⟩
    · obtain ⟨k1, hk1, rfl⟩ := (rg_sub (by omega)).mp (zby hb c20)
      exact absurd ⟨t', k1, ⟨ht, rfl⟩, ⟨hk1, rfl⟩⟩ hno

def mGiven (V : zS) (i t : Nat) : Nat := if t = 0 then V 21 i / 50 else V 21 i % 50

set_option maxRecDepth 100000 in
set_option maxHeartbeats 4000000 in
theorem m_given_ok (V : zS) (i t : Nat) (hV : BV V) (ht : t < 2) (ha : V 0 26 ≤ 2500) (hk : i < V 0 26) : PM mX5_given [.ref 0, .int (nI i), .int (nI t)] (hM V) (fun zr zq => zr = some (.int (nI (mGiven V i t))) ∧ zq = hM V) := by
  refine PM.of (by decide +kernel) (by simp [Value.category]) (Nat.le_of_ble_eq_true rfl) ?_
  refine Wp.iload_n (pc2 := 1) dX5_given_0 rfl rfl ?_
  refine Wp.iconN (pc2 := 2) 0 dX5_given_1 rfl ?_
  refine Wp.aload_n (pc2 := 3) dX5_given_2 rfl rfl ?_
  refine Wp.getf (pc2 := 6) fX5_103 dX5_given_3 rfl rfl rfl ?_
  refine Wp.iconN (pc2 := 7) 1 dX5_given_6 rfl ?_
  refine Wp.isub (pc2 := 8) dX5_given_7 rfl ?_
  refine Wp.callS (pc2 := 11) kX5_given_81 sX5_in (m_in_t _ _ _ _ ((rg_sub (by omega)).mpr ⟨i, hk, rfl⟩)) dX5_given_8 rfl rfl rfl (Nat.le_of_ble_eq_true rfl) ?_
  rintro _ _ ⟨rfl, rfl⟩
  refine Wp.ifN_eq (pc2 := 14) 21 dX5_given_11 rfl (by decide) (by omega) (fun c11 => ?_) (fun c11 => ?_)
  · exfalso; omega
  · refine Wp.iload_n (pc2 := 15) dX5_given_14 rfl rfl ?_
    refine Wp.callS (pc2 := 18) kX5_given_85 sX5_isTable (m_isTable_t _ t ht) dX5_given_15 rfl rfl rfl (Nat.le_of_ble_eq_true rfl) ?_
    rintro _ _ ⟨rfl, rfl⟩
    refine Wp.ifN_ne (pc2 := 21) 23 dX5_given_18 rfl (by decide) (by omega) (fun c18 => ?_) (fun c18 => ?_)
    · refine Wp.iload_n (pc2 := 24) dX5_given_23 rfl rfl ?_
      refine Wp.ifN_ne (pc2 := 27) 39 dX5_given_24 rfl (by decide) (by omega) (fun c24 => ?_) (fun c24 => ?_)
      · refine Wp.aload_n (pc2 := 40) dX5_given_39 rfl rfl ?_
        refine Wp.getf (pc2 := 43) fX5_78 dX5_given_40 rfl rfl rfl ?_
        refine Wp.iload_n (pc2 := 44) dX5_given_43 rfl rfl ?_
        refine Wp.ialdN (pc2 := 45) dX5_given_44 rfl rfl (by omega) (by decide) ?_
        refine Wp.bipN (pc2 := 47) 50 dX5_given_45 rfl (by decide +kernel) ?_
        refine Wp.iremN (pc2 := 48) dX5_given_47 rfl (hV.l _ _) (by decide) (by decide) ?_
        refine Wp.ret dX5_given_48 rfl rfl ?_
        unfold mGiven
        first
          | (rw [if_pos c24]; exact ⟨rfl, rfl⟩)
          | (rw [if_neg c24]; exact ⟨rfl, rfl⟩)
      · refine Wp.aload_n (pc2 := 28) dX5_given_27 rfl rfl ?_
        refine Wp.getf (pc2 := 31) fX5_78 dX5_given_28 rfl rfl rfl ?_
        refine Wp.iload_n (pc2 := 32) dX5_given_31 rfl rfl ?_
        refine Wp.ialdN (pc2 := 33) dX5_given_32 rfl rfl (by omega) (by decide) ?_
        refine Wp.bipN (pc2 := 35) 50 dX5_given_33 rfl (by decide +kernel) ?_
        refine Wp.idivN (pc2 := 36) dX5_given_35 rfl (hV.l _ _) (by decide) (by decide) ?_
        refine Wp.goto (pc2 := 48) dX5_given_36 (by decide) ?_
        refine Wp.ret dX5_given_48 rfl rfl ?_
        unfold mGiven
        first
          | (rw [if_pos c24]; exact ⟨rfl, rfl⟩)
          | (rw [if_neg c24]; exact ⟨rfl, rfl⟩)
    · exfalso; omega

set_option maxRecDepth 100000 in
set_option maxHeartbeats 4000000 in
theorem m_given_no (V : zS) (i t : Int32) (ha : V 0 26 ≤ 2500) (hno : ¬ ∃ i' t' : Nat, (i' < V 0 26 ∧ i = nI i') ∧ (t' < 2 ∧ t = nI t')) : PM mX5_given [.ref 0, .int i, .int t] (hM V) (fun zr zq => zr = some (.int (-1)) ∧ zq = hM V) := by
  refine PM.of (by decide +kernel) (by simp [Value.category]) (Nat.le_of_ble_eq_true rfl) ?_
  refine Wp.iload_n (pc2 := 1) dX5_given_0 rfl rfl ?_
  refine Wp.iconN (pc2 := 2) 0 dX5_given_1 rfl ?_
  refine Wp.aload_n (pc2 := 3) dX5_given_2 rfl rfl ?_
  refine Wp.getf (pc2 := 6) fX5_103 dX5_given_3 rfl rfl rfl ?_
  refine Wp.iconN (pc2 := 7) 1 dX5_given_6 rfl ?_
  refine Wp.isub (pc2 := 8) dX5_given_7 rfl ?_
  refine Wp.callS (pc2 := 11) kX5_given_81 sX5_in (m_in _ i _ _) dX5_given_8 rfl rfl rfl (Nat.le_of_ble_eq_true rfl) ?_
  rintro _ _ ⟨⟨b, rfl, hb⟩, rfl⟩
  refine Wp.ifN_eq (pc2 := 14) 21 dX5_given_11 rfl (by decide) (zb_lt _) (fun c11 => ?_) (fun c11 => ?_)
  · refine Wp.icon (pc2 := 22) dX5_given_21 rfl (-1) (by decide +kernel) ?_
    refine Wp.ret dX5_given_22 rfl rfl ?_
    exact ⟨rfl, rfl⟩
  · obtain ⟨i1, hi1, rfl⟩ := (rg_sub (by omega)).mp (zby hb c11)
    refine Wp.iload_n (pc2 := 15) dX5_given_14 rfl rfl ?_
    refine Wp.callS (pc2 := 18) kX5_given_85 sX5_isTable (m_isTable _ t) dX5_given_15 rfl rfl rfl (Nat.le_of_ble_eq_true rfl) ?_
    rintro _ _ ⟨⟨b, rfl, hb⟩, rfl⟩
    refine Wp.ifN_ne (pc2 := 21) 23 dX5_given_18 rfl (by decide) (zb_lt _) (fun c18 => ?_) (fun c18 => ?_)
    · obtain ⟨t1, ht1, rfl⟩ := rg_t.mp (zby hb c18)
      exact absurd ⟨i1, t1, ⟨hi1, rfl⟩, ⟨ht1, rfl⟩⟩ hno
    · refine Wp.icon (pc2 := 22) dX5_given_21 rfl (-1) (by decide +kernel) ?_
      refine Wp.ret dX5_given_22 rfl rfl ?_
      exact ⟨rfl, rfl⟩

set_option maxRecDepth 100000 in
set_option maxHeartbeats 4000000 in
theorem m_cost_ok (V : zS) (t : Nat) (ht : t < 2) : PM mX5_cost [.ref 0, .int (nI t)] (hM V) (fun zr zq => zr = some (.int (nI (V 15 t))) ∧ zq = hM V) := by
  refine PM.of (by decide +kernel) (by simp [Value.category]) (Nat.le_of_ble_eq_true rfl) ?_
  refine Wp.iload_n (pc2 := 1) dX5_cost_0 rfl rfl ?_
  refine Wp.callS (pc2 := 4) kX5_cost_85 sX5_isTable (m_isTable_t _ t ht) dX5_cost_1 rfl rfl rfl (Nat.le_of_ble_eq_true rfl) ?_
  rintro _ _ ⟨rfl, rfl⟩
  refine Wp.ifN_eq (pc2 := 7) 16 dX5_cost_4 rfl (by decide) (by omega) (fun c4 => ?_) (fun c4 => ?_)
  · exfalso; omega
  · refine Wp.aload_n (pc2 := 8) dX5_cost_7 rfl rfl ?_
    refine Wp.getf (pc2 := 11) fX5_60 dX5_cost_8 rfl rfl rfl ?_
    refine Wp.iload_n (pc2 := 12) dX5_cost_11 rfl rfl ?_
    refine Wp.ialdN (pc2 := 13) dX5_cost_12 rfl rfl (by omega) (by decide) ?_
    refine Wp.goto (pc2 := 17) dX5_cost_13 (by decide) ?_
    refine Wp.ret dX5_cost_17 rfl rfl ?_
    exact ⟨rfl, rfl⟩

set_option maxRecDepth 100000 in
set_option maxHeartbeats 4000000 in
theorem m_cost_no (V : zS) (t : Int32) (hno : ¬ rg t 2) : PM mX5_cost [.ref 0, .int t] (hM V) (fun zr zq => zr = some (.int (-1)) ∧ zq = hM V) := by
  refine PM.of (by decide +kernel) (by simp [Value.category]) (Nat.le_of_ble_eq_true rfl) ?_
  refine Wp.iload_n (pc2 := 1) dX5_cost_0 rfl rfl ?_
  refine Wp.callS (pc2 := 4) kX5_cost_85 sX5_isTable (m_isTable _ t) dX5_cost_1 rfl rfl rfl (Nat.le_of_ble_eq_true rfl) ?_
  rintro _ _ ⟨⟨b, rfl, hb⟩, rfl⟩
  refine Wp.ifN_eq (pc2 := 7) 16 dX5_cost_4 rfl (by decide) (zb_lt _) (fun c4 => ?_) (fun c4 => ?_)
  · refine Wp.icon (pc2 := 17) dX5_cost_16 rfl (-1) (by decide +kernel) ?_
    refine Wp.ret dX5_cost_17 rfl rfl ?_
    exact ⟨rfl, rfl⟩
  · exact absurd (rg_t.mp (zby hb c4)) hno

