theorem zo_eq {n t : Nat} (hn : n < 2 ^ 30) (ht : t < 2 ^ 30) : zo n = nI t ↔ n = t + 1 := by
  rw [← Int32.toInt_inj, zo_toInt hn, nI_toInt (by omega)]; omega

set_option maxRecDepth 100000 in
set_option maxHeartbeats 4000000 in
theorem m_reads (V : zS) (t : Nat) (h : JV V) (ht : t < 2) (hr : V 10 t < V 1 t) : PM mX5_reads [.ref 0, .int (nI t)] (hM V) (fun zr zq => zr = none ∧ zq = hM (mReads V t)) := by
  refine PM.of (by decide +kernel) (by simp [Value.category]) (Nat.le_of_ble_eq_true rfl) ?_
  have hs := JV_t h ht
  have hss := JV_s h
  have hB := Rd1_tB h ht
  have h3 := R3_pre h ht hr
  have hJ5 := JV_R5 h ht hr
  have jt := h.2.1 t ht
  have jt1 := h.2.1 (1 - t) (by omega)
  have j8 := h.2.2.1
  have s4 : V 0 29 ≤ 2 := h.2.2.2.2.2.2.2.2.2.1.2.2.2.1
  have K193 : ∀ pd, pd = mPaid V t → Wp mX5_reads (fun zr zq => zr = none ∧ zq = hM (mReads V t)) 193 [.ref 0, .int (nI t), .int (nI (V 10 t)), .int (nI pd), .null, .null, .null] [] (hM (mR4 V t)) := by
    intro pd hpd
    subst hpd
    refine Wp.aload_n (pc2 := 194) dX5_reads_193 rfl rfl ?_
    refine Wp.dup (pc2 := 195) dX5_reads_194 rfl rfl ?_
    refine Wp.getf (pc2 := 198) fX5_106 dX5_reads_195 rfl rfl rfl ?_
    refine Wp.iload_n (pc2 := 199) dX5_reads_198 rfl rfl ?_
    refine Wp.iaddN (pc2 := 200) dX5_reads_199 rfl  ?_
    change Wp _ _ _ _ (.int (nI (mR4 V t 0 27 + mPaid V t)) :: _) _
    refine Wp.putf (pc2 := 203) gX5_106 dX5_reads_200 rfl rfl (Nat.le_of_ble_eq_true rfl) rfl rfl ?_
    refine Wp.heq (hM_o0_27 _ _) ?_
    refine Wp.aload_n (pc2 := 204) dX5_reads_203 rfl rfl ?_
    refine Wp.getf (pc2 := 207) fX5_63 dX5_reads_204 rfl rfl rfl ?_
    refine Wp.iload_n (pc2 := 208) dX5_reads_207 rfl rfl ?_
    refine Wp.dup2 (pc2 := 209) dX5_reads_208 rfl rfl rfl ?_
    refine Wp.ialdN (pc2 := 210) dX5_reads_209 rfl rfl (by omega) (by decide) ?_
    refine Wp.iload_n (pc2 := 211) dX5_reads_210 rfl rfl ?_
    refine Wp.iaddN (pc2 := 212) dX5_reads_211 rfl  ?_
    change Wp _ _ _ _ (.int (nI (mR4 V t 16 t + mPaid V t)) :: _) _
    refine Wp.iastN (pc2 := 213) dX5_reads_212 rfl rfl (by omega) (by decide) ?_
    refine Wp.heq (hM_a16 _ _ _) ?_
    change Wp _ _ _ _ _ (hM (mR5 V t))
    refine Wp.aload_n (pc2 := 214) dX5_reads_213 rfl rfl ?_
    refine Wp.getf (pc2 := 217) fX5_44 dX5_reads_214 rfl rfl rfl ?_
    refine Wp.iload_n (pc2 := 218) dX5_reads_217 rfl rfl ?_
    refine Wp.ialdN (pc2 := 219) dX5_reads_218 rfl rfl (by omega) (by decide) ?_
    refine Wp.iconN (pc2 := 220) 4 dX5_reads_219 rfl ?_
    refine Wp.iremN (pc2 := 221) dX5_reads_220 rfl (hJ5.1.l _ _) (by decide) (by decide) ?_
    refine Wp.ifN_ne (pc2 := 224) 229 dX5_reads_221 rfl (by decide) (by have := hJ5.1 10 t; omega) (fun c221 => ?_) (fun c221 => ?_)
    · refine Wp.retv dX5_reads_229 rfl ?_
      unfold mReads
      rw [if_neg c221]
      exact ⟨rfl, rfl⟩
    · refine Wp.aload_n (pc2 := 225) dX5_reads_224 rfl rfl ?_
      refine Wp.iload_n (pc2 := 226) dX5_reads_225 rfl rfl ?_
      refine Wp.callV (pc2 := 229) kX5_reads_142 vX5_turns (m_turns (mR5 V t) t hJ5.1 ht (by have := hJ5.2.1 t ht; omega) (by have := (JV_s hJ5).2.2.2.2.1; omega) (fun j hj => (hJ5.2.2.1 (4 * t + j) (by omega)).2.2) (fun i j hi hj e => (hJ5.2.2.2.2.1 t ht).2.1 i j hi hj e)) dX5_reads_226 rfl rfl rfl rfl rfl (Nat.le_of_ble_eq_true rfl) ?_
      rintro _ _ ⟨rfl, rfl⟩
      refine Wp.retv dX5_reads_229 rfl ?_
      unfold mReads
      rw [if_pos c221]
      exact ⟨rfl, rfl⟩
  have K167 : ∀ W is, (W, is) = mR2 V t → Wp mX5_reads (fun zr zq => zr = none ∧ zq = hM (mReads V t)) 167 [.ref 0, .int (nI t), .int (nI (V 10 t)), .int (nI (1 + (W 15 t - V 15 t))), .int (nI (zb is)), .null, .null] [] (hM W) := by
    intro W is hW
    have eW : W = (mR2 V t).1 := congrArg Prod.fst hW
    have ei : is = (mR2 V t).2 := congrArg Prod.snd hW
    subst eW
    refine Wp.aload_n (pc2 := 168) dX5_reads_167 rfl rfl ?_
    refine Wp.getf (pc2 := 171) fX5_69 dX5_reads_168 rfl rfl rfl ?_
    refine Wp.bipN (pc2 := 173) 50 dX5_reads_171 rfl (by decide +kernel) ?_
    refine Wp.iload_n (pc2 := 174) dX5_reads_173 rfl rfl ?_
    refine Wp.imulN (pc2 := 175) dX5_reads_174 rfl  ?_
    refine Wp.iload_n (pc2 := 176) dX5_reads_175 rfl rfl ?_
    refine Wp.iaddN (pc2 := 177) dX5_reads_176 rfl  ?_
    refine Wp.iconN (pc2 := 178) 1 dX5_reads_177 rfl ?_
    refine Wp.iastN (pc2 := 179) dX5_reads_178 rfl rfl (by omega) (by decide) ?_
    refine Wp.heq (hM_a18 _ _ _) ?_
    change Wp _ _ _ _ _ (hM (mR3 V t))
    refine Wp.iload (pc2 := 181) dX5_reads_179 rfl rfl ?_
    refine Wp.ifN_eq (pc2 := 184) 193 dX5_reads_181 rfl (by decide) (zb_lt _) (fun c181 => ?_) (fun c181 => ?_)
    · have e2 : (mR2 V t).2 = false := by rw [← ei]; exact zb_0 c181
      refine Wp.fg [.ref 0, .int (nI t), .int (nI (V 10 t)), .int (nI (1 + ((mR2 V t).1 15 t - V 15 t))), .null, .null, .null] (And.intro (Or.inr rfl) (And.intro (Or.inr rfl) (And.intro (Or.inr rfl) (And.intro (Or.inr rfl) (And.intro (Or.inl rfl) (And.intro (Or.inl rfl) (And.intro (Or.inl rfl) trivial))))))) ?_
      refine Wp.heq (h' := hM (mR4 V t)) (by unfold mR4; rw [e2]; rfl) ?_
      exact K193 _ (by unfold mPaid; rw [e2]; rfl)
    · refine Wp.iload_n (pc2 := 185) dX5_reads_184 rfl rfl ?_
      refine Wp.aload_n (pc2 := 186) dX5_reads_185 rfl rfl ?_
      refine Wp.iload_n (pc2 := 187) dX5_reads_186 rfl rfl ?_
      refine Wp.iload_n (pc2 := 188) dX5_reads_187 rfl rfl ?_
      refine Wp.callV (pc2 := 191) kX5_reads_138 vX5_finds (m_finds (mR3 V t) t (V 10 t) ht (by omega) h3.2.1 h3.1 h3.2.2.1 h3.2.2.2.1 (by rw [R3_o (by omega)]; exact (h.2.1 0 (by decide)).2.2.2.2.1) (by rw [R3_o (by omega)]; exact (h.2.1 1 (by decide)).2.2.2.2.1) (by rw [R3_o (by omega)]; omega) h3.2.2.2.2.1 h3.2.2.2.2.2.1 h3.2.2.2.2.2.2.1 h3.2.2.2.2.2.2.2) dX5_reads_188 rfl rfl rfl rfl rfl (Nat.le_of_ble_eq_true rfl) ?_
      rintro _ _ ⟨rfl, rfl⟩
      refine Wp.iaddN (pc2 := 192) dX5_reads_191 rfl  ?_
      refine Wp.istore_n (pc2 := 193) dX5_reads_192 rfl (by decide) rfl ?_
      have e2 : (mR2 V t).2 = true := by rw [← ei]; exact zb_1 c181
      refine Wp.fg [.ref 0, .int (nI t), .int (nI (V 10 t)), .int (nI (1 + ((mR2 V t).1 15 t - V 15 t) + (mFinds0 (mR3 V t) t (V 10 t) 0 26 - mR3 V t 0 26))), .null, .null, .null] (And.intro (Or.inr rfl) (And.intro (Or.inr rfl) (And.intro (Or.inr rfl) (And.intro (Or.inr rfl) (And.intro (Or.inl rfl) (And.intro (Or.inl rfl) (And.intro (Or.inl rfl) trivial))))))) ?_
      refine Wp.heq (h' := hM (mR4 V t)) (by unfold mR4; rw [e2]; rfl) ?_
      exact K193 _ (by unfold mPaid; rw [e2]; rfl)
  have K43 : ∀ W, W = (if V 0 29 ≠ 0 ∧ V 0 29 ≠ t + 1 then vs (vs V 10 t (V 10 t + 1)) 0 30 (V 0 30 + 1) else vs V 10 t (V 10 t + 1)) → Wp mX5_reads (fun zr zq => zr = none ∧ zq = hM (mReads V t)) 43 [.ref 0, .int (nI t), .int (nI (V 10 t)), .null, .null, .null, .null] [] (hM W) := by
    intro W hW
    have hVR := BV_Rd1 h.1 ht (by omega) (by omega)
    have eR : vs W 0 29 (t + 1) = mRd1 V t := by rw [hW]; rfl
    refine Wp.aload_n (pc2 := 44) dX5_reads_43 rfl rfl ?_
    refine Wp.iload_n (pc2 := 45) dX5_reads_44 rfl rfl ?_
    refine Wp.top (zo (t + 1)) (zo_s t).symm ?_
    refine Wp.putf (pc2 := 48) gX5_112 dX5_reads_45 rfl rfl (Nat.le_of_ble_eq_true rfl) rfl rfl ?_
    refine Wp.heq (hM_o0_29 _ _) ?_
    rw [eR]
    refine Wp.iconN (pc2 := 49) 1 dX5_reads_48 rfl ?_
    refine Wp.istore_n (pc2 := 50) dX5_reads_49 rfl (by decide) rfl ?_
    refine Wp.iconN (pc2 := 51) 1 dX5_reads_50 rfl ?_
    refine Wp.istore (pc2 := 53) dX5_reads_51 rfl (by decide) rfl ?_
    refine Wp.iconN (pc2 := 54) 0 dX5_reads_53 rfl ?_
    refine Wp.istore (pc2 := 56) dX5_reads_54 rfl (by decide) rfl ?_
    refine m_reads_t t (V 10 t) _ ht (by omega) (V 9 t) 0 1 (mRd1 V t) hVR hB (by rw [mRd1_o (by omega)]; omega) (by rw [mRd1_o (by omega)]; omega) (by omega) (fun W' is hW' _ _ _ => ?_)
    have := K167 W' is hW'
    rw [mRd1_o (V := V) (t := t) (k := 15) (j := t) (by omega)]
    exact this
  refine Wp.aload_n (pc2 := 1) dX5_reads_0 rfl rfl ?_
  refine Wp.getf (pc2 := 4) fX5_44 dX5_reads_1 rfl rfl rfl ?_
  refine Wp.iload_n (pc2 := 5) dX5_reads_4 rfl rfl ?_
  refine Wp.ialdN (pc2 := 6) dX5_reads_5 rfl rfl (by omega) (by decide) ?_
  refine Wp.istore_n (pc2 := 7) dX5_reads_6 rfl (by decide) rfl ?_
  refine Wp.aload_n (pc2 := 8) dX5_reads_7 rfl rfl ?_
  refine Wp.getf (pc2 := 11) fX5_44 dX5_reads_8 rfl rfl rfl ?_
  refine Wp.iload_n (pc2 := 12) dX5_reads_11 rfl rfl ?_
  refine Wp.dup2 (pc2 := 13) dX5_reads_12 rfl rfl rfl ?_
  refine Wp.ialdN (pc2 := 14) dX5_reads_13 rfl rfl (by omega) (by decide) ?_
  refine Wp.iconN (pc2 := 15) 1 dX5_reads_14 rfl ?_
  refine Wp.iaddN (pc2 := 16) dX5_reads_15 rfl  ?_
  change Wp _ _ _ _ (.int (nI (V 10 t + 1)) :: _) _
  refine Wp.iastN (pc2 := 17) dX5_reads_16 rfl rfl (by omega) (by decide) ?_
  refine Wp.heq (hM_a10 _ _ _) ?_
  refine Wp.aload_n (pc2 := 18) dX5_reads_17 rfl rfl ?_
  refine Wp.getf (pc2 := 21) fX5_112 dX5_reads_18 rfl rfl rfl ?_
  refine Wp.icon (pc2 := 22) dX5_reads_21 rfl (-1) (by decide +kernel) ?_
  refine Wp.icmp_eq (pc2 := 25) 43 dX5_reads_22 rfl (by decide)  (fun c22 => ?_) (fun c22 => ?_)
  · refine Wp.fg [.ref 0, .int (nI t), .int (nI (V 10 t)), .null, .null, .null, .null] (And.intro (Or.inr rfl) (And.intro (Or.inr rfl) (And.intro (Or.inr rfl) (And.intro (Or.inl rfl) (And.intro (Or.inl rfl) (And.intro (Or.inl rfl) (And.intro (Or.inl rfl) trivial))))))) ?_
    exact K43 _ (by rw [if_neg (fun z => z.1 ((zo_m1 (by omega)).mp c22))])
  · refine Wp.aload_n (pc2 := 26) dX5_reads_25 rfl rfl ?_
    refine Wp.getf (pc2 := 29) fX5_112 dX5_reads_26 rfl rfl rfl ?_
    refine Wp.iload_n (pc2 := 30) dX5_reads_29 rfl rfl ?_
    refine Wp.icmp_eq (pc2 := 33) 43 dX5_reads_30 rfl (by decide)  (fun c30 => ?_) (fun c30 => ?_)
    · refine Wp.fg [.ref 0, .int (nI t), .int (nI (V 10 t)), .null, .null, .null, .null] (And.intro (Or.inr rfl) (And.intro (Or.inr rfl) (And.intro (Or.inr rfl) (And.intro (Or.inl rfl) (And.intro (Or.inl rfl) (And.intro (Or.inl rfl) (And.intro (Or.inl rfl) trivial))))))) ?_
      exact K43 _ (by rw [if_neg (fun z => z.2 ((zo_eq (by omega) (by omega)).mp c30))])
    · refine Wp.aload_n (pc2 := 34) dX5_reads_33 rfl rfl ?_
      refine Wp.dup (pc2 := 35) dX5_reads_34 rfl rfl ?_
      refine Wp.getf (pc2 := 38) fX5_115 dX5_reads_35 rfl rfl rfl ?_
      refine Wp.iconN (pc2 := 39) 1 dX5_reads_38 rfl ?_
      refine Wp.iaddN (pc2 := 40) dX5_reads_39 rfl  ?_
      change Wp _ _ _ _ (.int (nI (V 0 30 + 1)) :: _) _
      refine Wp.putf (pc2 := 43) gX5_115 dX5_reads_40 rfl rfl (Nat.le_of_ble_eq_true rfl) rfl rfl ?_
      refine Wp.heq (hM_o0_30 _ _) ?_
      refine Wp.fg [.ref 0, .int (nI t), .int (nI (V 10 t)), .null, .null, .null, .null] (And.intro (Or.inr rfl) (And.intro (Or.inr rfl) (And.intro (Or.inr rfl) (And.intro (Or.inl rfl) (And.intro (Or.inl rfl) (And.intro (Or.inl rfl) (And.intro (Or.inl rfl) trivial))))))) ?_
      have c22 : ¬ zo (V 0 29) = -1 := c22
      have c30 : ¬ zo (V 0 29) = nI t := c30
      exact K43 _ (by rw [if_pos ⟨zo_ne (by omega) c22, fun z => c30 ((zo_eq (by omega) (by omega)).mpr z)⟩])

noncomputable def lackP (V : zS) : Nat := @dite _ (∃ p, p < 2500 ∧ cand V p ∧ ∀ q, q < p → ¬ cand V q) (Classical.propDecidable _) (fun h => Classical.choose h) (fun _ => 0)
theorem lackP_eq {V : zS} {p : Nat} (h1 : p < 2500) (h2 : cand V p) (h3 : ∀ q, q < p → ¬ cand V q) : lackP V = p := by
  unfold lackP
  have hx : ∃ p, p < 2500 ∧ cand V p ∧ ∀ q, q < p → ¬ cand V q := ⟨p, h1, h2, h3⟩
  rw [dif_pos hx]
  have k := Classical.choose_spec hx
  rcases Nat.lt_trichotomy (Classical.choose hx) p with z | z | z
  · exact absurd k.2.1 (h3 _ z)
  · exact z
  · exact absurd h2 (k.2.2 _ z)
/-- a pair at the end -/
noncomputable def mLate (V : zS) : zS := vs (mGive V (lackP V / 50) (lackP V % 50)) 0 27 (V 0 27 + 2)
noncomputable def mStep0 (V : zS) : zS := if V 10 0 = V 1 0 ∧ V 10 1 = V 1 1 then mLate V else mReads V (mChoose V)
noncomputable def mStep (V : zS) : zS := mEnds (mStep0 V)
noncomputable def goF : Nat → zS → zS
  | 0, V => V
  | n + 1, V => if V 0 10 = 1 then goF n (mStep V) else V
noncomputable def goC : Nat → zS → Nat
  | 0, _ => 0
  | n + 1, V => if V 0 10 = 1 then 1 + goC n (mStep V) else 0
theorem goC_le : ∀ (n : Nat) (V : zS), goC n V ≤ n
  | 0, _ => Nat.le_refl 0
  | n + 1, V => by
    unfold goC
    split
    · have := goC_le n (mStep V); omega
    · omega
def JE (V : zS) : Prop := JV V ∧ J_e V
theorem lack_ex {V : zS} (h : ∃ q, q < 2500 ∧ cand V q) : ∃ p, p < 2500 ∧ cand V p ∧ ∀ q, q < p → ¬ cand V q := by
  obtain ⟨q, h1, h2⟩ := h
  obtain ⟨p, hp, hm⟩ := pk_least (fun q => cand V q) ⟨q, h2⟩
  refine ⟨p, ?_, hp, hm⟩
  rcases Nat.lt_or_ge q p with z | z
  · exact absurd h2 (hm q z)
  · omega
theorem end_ex {V : zS} (h : ¬ endP V) (h0 : V 10 0 = V 1 0) (h1 : V 10 1 = V 1 1) : ∃ q, q < 2500 ∧ cand V q := by
  apply Classical.byContradiction
  intro z
  exact h ⟨h0, h1, fun q hq hc => z ⟨q, hq, hc⟩⟩
/-- fields that giving, ends and late pairs leave -/
theorem JV_give {V : zS} (h : JV V) {p x : Nat} (hp : p < 2500) (hc : cand V p) (hx : x = V 0 27 + 2) : JV (vs (mGive V (p / 50) (p % 50)) 0 27 x) := by
  have hss := JV_s h
  obtain ⟨hV, jt, j8, jk, jo, hq, hg, jp, jgp, js, jc⟩ := h
  have hpp : 50 * (p / 50) + p % 50 = p := by omega
  have hlt := GI_lt hg hp hc.1
  have u : ∀ k j, k ≠ 20 → k ≠ 21 → (k = 0 → j ≠ 26 ∧ j ≠ 27) → vs (mGive V (p / 50) (p % 50)) 0 27 x k j = V k j := by
    intro k j h1 h2 h3
    by_cases hk : k = 0
    · subst hk; rw [vs_i _ (h3 rfl).2, mGive_o ⟨h1, h2, fun _ => (h3 rfl).1⟩]
    · rw [vs_k _ hk, mGive_o ⟨h1, h2, fun z => absurd z hk⟩]
  have e1 : ∀ k, k ≠ 20 → k ≠ 21 → k ≠ 0 → ∀ j, vs (mGive V (p / 50) (p % 50)) 0 27 x k j = V k j := fun k h1 h2 h3 j => u k j h1 h2 (fun z => absurd z h3)
  have u26 : vs (mGive V (p / 50) (p % 50)) 0 27 x 0 26 = V 0 26 + 1 := by simp [mGive, vs]
  have u27 : vs (mGive V (p / 50) (p % 50)) 0 27 x 0 27 = x := vs_same _ _ _ _
  have u20 : ∀ q, vs (mGive V (p / 50) (p % 50)) 0 27 x 20 q = if q = p then 1 else V 20 q := by
    intro q
    rw [vs_k _ (by decide)]
    unfold mGive
    rw [vs_k _ (by decide), vs_k _ (by decide), vs_at, hpp]
  have hgg : GI (mGive V (p / 50) (p % 50)) := GI_give hg (by omega) (by rw [hpp]; exact hc.1)
  refine ⟨(BV_give hV (by omega) hlt).up (by omega), fun y hy => ?_, fun j hj => ?_, fun y k hy hk => ?_, fun y hy => ?_, QI_o (QI_give hq) (Or.inl (by omega)), ?_, fun y z hy hz => ?_, fun q hq => ?_, ?_, fun j hj => ?_⟩
  · rw [e1 1 (by decide) (by decide) (by decide), e1 3 (by decide) (by decide) (by decide), e1 9 (by decide) (by decide) (by decide), e1 10 (by decide) (by decide) (by decide), e1 8 (by decide) (by decide) (by decide), e1 12 (by decide) (by decide) (by decide), e1 15 (by decide) (by decide) (by decide), e1 16 (by decide) (by decide) (by decide), e1 17 (by decide) (by decide) (by decide)]
    exact jt y hy
  · rw [e1 4 (by decide) (by decide) (by decide), e1 7 (by decide) (by decide) (by decide), e1 11 (by decide) (by decide) (by decide)]
    exact j8 j hj
  · rw [e1 13 (by decide) (by decide) (by decide), e1 14 (by decide) (by decide) (by decide), e1 10 (by decide) (by decide) (by decide)]
    exact jk y k hy hk
  · simp only [e1 9 (by decide) (by decide) (by decide), e1 11 (by decide) (by decide) (by decide)]
    exact jo y hy
  · exact GI_o hgg (vs_i _ (by decide)) (fun i => vs_k _ (by decide)) (fun i => vs_k _ (by decide))
  · rw [e1 18 (by decide) (by decide) (by decide), e1 10 (by decide) (by decide) (by decide)]
    exact jp y z hy hz
  · rw [u20, e1 18 (by decide) (by decide) (by decide), e1 18 (by decide) (by decide) (by decide)]
    by_cases w : q = p
    · rw [if_pos w, w]
      exact ⟨Nat.le_refl _, fun _ => ⟨hc.2.2.2.1, hc.2.2.2.2.1⟩⟩
    · rw [if_neg w]
      exact jgp q hq
  · obtain ⟨s1, s2, s3, s4, s5, s6, s7, s8, s9, s10⟩ := js
    unfold J_s
    rw [u 0 8 (by decide) (by decide) (by decide), u 0 9 (by decide) (by decide) (by decide), u 0 10 (by decide) (by decide) (by decide), u 0 29 (by decide) (by decide) (by decide), u 0 23 (by decide) (by decide) (by decide), u26, u27, u 0 30 (by decide) (by decide) (by decide), u 0 31 (by decide) (by decide) (by decide), u 0 11 (by decide) (by decide) (by decide)]
    simp only [e1 10 (by decide) (by decide) (by decide), e1 17 (by decide) (by decide) (by decide), e1 16 (by decide) (by decide) (by decide), e1 9 (by decide) (by decide) (by decide)]
    exact ⟨s1, s2, s3, s4, s5, by omega, by omega, s8, s9, s10⟩
  · rw [e1 2 (by decide) (by decide) (by decide)]; exact jc j hj
/-- a change of the state alone -/
theorem JV_state {V : zS} (h : JV V) {x : Nat} (hx : x ≤ 2) : JV (vs V 0 10 x) := by
  obtain ⟨hV, jt, j8, jk, jo, hq, hg, jp, jgp, js, jc⟩ := h
  have e1 : ∀ k, k ≠ 0 → ∀ j, vs V 0 10 x k j = V k j := fun k hk j => vs_k _ hk
  have e0 : ∀ j, j ≠ 10 → vs V 0 10 x 0 j = V 0 j := fun j hj => vs_i _ hj
  refine ⟨hV.up (by omega), fun y hy => ?_, fun j hj => ?_, fun y k hy hk => ?_, fun y hy => ?_, QI_o hq (Or.inl (by omega)), ?_, fun y z hy hz => ?_, fun q hq => ?_, ?_, fun j hj => ?_⟩
  · simp only [e1 _ (show (1 : Nat) ≠ 0 by decide), e1 _ (show (3 : Nat) ≠ 0 by decide), e1 _ (show (9 : Nat) ≠ 0 by decide), e1 _ (show (10 : Nat) ≠ 0 by decide), e1 _ (show (8 : Nat) ≠ 0 by decide), e1 _ (show (12 : Nat) ≠ 0 by decide), e1 _ (show (15 : Nat) ≠ 0 by decide), e1 _ (show (16 : Nat) ≠ 0 by decide), e1 _ (show (17 : Nat) ≠ 0 by decide)]
    exact jt y hy
  · simp only [e1 _ (show (4 : Nat) ≠ 0 by decide), e1 _ (show (7 : Nat) ≠ 0 by decide), e1 _ (show (11 : Nat) ≠ 0 by decide)]
    exact j8 j hj
  · simp only [e1 _ (show (13 : Nat) ≠ 0 by decide), e1 _ (show (14 : Nat) ≠ 0 by decide), e1 _ (show (10 : Nat) ≠ 0 by decide)]
    exact jk y k hy hk
  · simp only [e1 _ (show (9 : Nat) ≠ 0 by decide), e1 _ (show (11 : Nat) ≠ 0 by decide)]
    exact jo y hy
  · exact GI_o hg (e0 26 (by decide)) (e1 21 (by decide)) (e1 20 (by decide))
  · simp only [e1 _ (show (18 : Nat) ≠ 0 by decide), e1 _ (show (10 : Nat) ≠ 0 by decide)]
    exact jp y z hy hz
  · simp only [e1 _ (show (18 : Nat) ≠ 0 by decide), e1 _ (show (20 : Nat) ≠ 0 by decide)]
    exact jgp q hq
  · obtain ⟨s1, s2, s3, s4, s5, s6, s7, s8, s9, s10⟩ := js
    unfold J_s
    rw [e0 8 (by decide), e0 9 (by decide), e0 29 (by decide), e0 23 (by decide), e0 26 (by decide), e0 27 (by decide), e0 30 (by decide), e0 31 (by decide), e0 11 (by decide), vs_same]
    simp only [e1 _ (show (10 : Nat) ≠ 0 by decide), e1 _ (show (17 : Nat) ≠ 0 by decide), e1 _ (show (16 : Nat) ≠ 0 by decide), e1 _ (show (9 : Nat) ≠ 0 by decide)]
    exact ⟨s1, s2, hx, s4, s5, s6, s7, s8, s9, s10⟩
  · rw [e1 2 (by decide)]; exact jc j hj
theorem JE_ends {V : zS} (h : JV V) : JE (mEnds V) := by
  by_cases q : endP V
  · rw [mEnds_t q]
    refine ⟨JV_state h (by decide), fun z => ?_⟩
    rw [vs_same] at z; omega
  · rw [mEnds_f q]
    exact ⟨h, fun _ => q⟩
theorem choose_ok {V : zS} (h : JV V) (hn : ¬ (V 10 0 = V 1 0 ∧ V 10 1 = V 1 1)) : mChoose V < 2 ∧ V 10 (mChoose V) < V 1 (mChoose V) := by
  have a0 := h.2.1 0 (by decide)
  have a1 := h.2.1 1 (by decide)
  have s2 : V 0 9 ≤ 2 := h.2.2.2.2.2.2.2.2.2.1.2.1
  unfold mChoose
  split
  · refine ⟨by decide, ?_⟩; omega
  · split
    · refine ⟨by decide, ?_⟩; omega
    · split
      · rcases (show V 0 9 = 1 ∨ V 0 9 = 2 by omega) with e | e
        · rw [e]; refine ⟨by decide, ?_⟩; show V 10 0 < V 1 0; omega
        · rw [e]; refine ⟨by decide, ?_⟩; show V 10 1 < V 1 1; omega
      · split
        · refine ⟨by decide, ?_⟩; omega
        · refine ⟨by decide, ?_⟩; omega
theorem JV_step0 {V : zS} (h : JE V) (hs : V 0 10 = 1) : JV (mStep0 V) := by
  unfold mStep0
  split
  · rename_i q
    obtain ⟨p, h1, h2, h3⟩ := lack_ex (end_ex (h.2 hs) q.1 q.2)
    unfold mLate
    rw [lackP_eq h1 h2 h3]
    exact JV_give h.1 h1 h2 rfl
  · rename_i q
    have k := choose_ok h.1 q
    exact JV_reads h.1 k.1 k.2
theorem JE_step {V : zS} (h : JE V) (hs : V 0 10 = 1) : JE (mStep V) := JE_ends (JV_step0 h hs)
theorem JE_go : ∀ (n : Nat) (V : zS), JE V → JE (goF n V)
  | 0, _, h => h
  | n + 1, V, h => by
    unfold goF
    split
    · rename_i q; exact JE_go n _ (JE_step h q)
    · exact h

set_option maxRecDepth 100000 in
set_option maxHeartbeats 4000000 in
theorem m_go_l (n : Nat) (hn : n ≤ 200) : ∀ (m d : Nat) (V : zS), JE V → d + m = n → Wp mX5_go (fun zr zq => zr = some (.int (nI (d + goC m V))) ∧ zq = hM (goF m V)) 23 [.ref 0, .int (nI n), .int (nI d), .null] [] (hM V) := by
  intro m
  induction m with
  | zero =>
    intro d V h hd
    have hV := h.1.1
    refine Wp.iload_n (pc2 := 24) dX5_go_23 rfl rfl ?_
    refine Wp.iload_n (pc2 := 25) dX5_go_24 rfl rfl ?_
    refine Wp.icmpN_ge (pc2 := 28) 100 dX5_go_25 rfl (by decide) (by omega) (by omega) (fun c25 => ?_) (fun c25 => ?_)
    · refine Wp.iload_n (pc2 := 101) dX5_go_100 rfl rfl ?_
      refine Wp.ret dX5_go_101 rfl rfl ?_
      exact ⟨rfl, rfl⟩
    · exfalso; omega
  | succ m ih =>
    intro d V h hd
    have hV := h.1.1
    have a0 := h.1.2.1 0 (by decide)
    have a1 := h.1.2.1 1 (by decide)
    have K90 : V 0 10 = 1 → Wp mX5_go (fun zr zq => zr = some (.int (nI (d + goC (m + 1) V))) ∧ zq = hM (goF (m + 1) V)) 90 [.ref 0, .int (nI n), .int (nI d), .null] [] (hM (mStep0 V)) := by
      intro hs
      have hJ := JV_step0 h hs
      have b0 := hJ.2.1 0 (by decide)
      have b1 := hJ.2.1 1 (by decide)
      have eC : goC (m + 1) V = 1 + goC m (mStep V) := by rw [goC, if_pos hs]
      have eF : goF (m + 1) V = goF m (mStep V) := by rw [goF, if_pos hs]
      rw [eC, eF]
      refine Wp.iincN (pc2 := 93) dX5_go_90 rfl rfl (by decide) rfl ?_
      refine Wp.aload_n (pc2 := 94) dX5_go_93 rfl rfl ?_
      refine Wp.callV (pc2 := 97) kX5_go_121 vX5_ends (m_ends (mStep0 V) hJ.1 b0.2.2.2.2.1 b1.2.2.2.2.1) dX5_go_94 rfl rfl rfl rfl rfl (Nat.le_of_ble_eq_true rfl) ?_
      rintro _ _ ⟨rfl, rfl⟩
      refine Wp.goto (pc2 := 23) dX5_go_97 (by decide) ?_
      refine Wp.mono (ih (d + 1) (mStep V) (JE_step h hs) (by omega)) ?_
      rintro _ _ ⟨rfl, rfl⟩
      exact ⟨by rw [show d + 1 + goC m (mStep V) = d + (1 + goC m (mStep V)) by omega], rfl⟩
    refine Wp.iload_n (pc2 := 24) dX5_go_23 rfl rfl ?_
    refine Wp.iload_n (pc2 := 25) dX5_go_24 rfl rfl ?_
    refine Wp.icmpN_ge (pc2 := 28) 100 dX5_go_25 rfl (by decide) (by omega) (by omega) (fun c25 => ?_) (fun c25 => ?_)
    · refine Wp.iload_n (pc2 := 101) dX5_go_100 rfl rfl ?_
      refine Wp.ret dX5_go_101 rfl rfl ?_
      exfalso; omega
    · refine Wp.aload_n (pc2 := 29) dX5_go_28 rfl rfl ?_
      refine Wp.getf (pc2 := 32) fX5_89 dX5_go_29 rfl rfl rfl ?_
      refine Wp.iconN (pc2 := 33) 1 dX5_go_32 rfl ?_
      refine Wp.icmpN_ne (pc2 := 36) 100 dX5_go_33 rfl (by decide) (hV.l _ _) (by decide) (fun c33 => ?_) (fun c33 => ?_)
      · refine Wp.iload_n (pc2 := 101) dX5_go_100 rfl rfl ?_
        refine Wp.ret dX5_go_101 rfl rfl ?_
        have eC : goC (m + 1) V = 0 := by rw [goC, if_neg c33]
        have eF : goF (m + 1) V = V := by rw [goF, if_neg c33]
        rw [eC, eF]
        exact ⟨rfl, rfl⟩
      · refine Wp.aload_n (pc2 := 37) dX5_go_36 rfl rfl ?_
        refine Wp.iconN (pc2 := 38) 0 dX5_go_37 rfl ?_
        refine Wp.callV (pc2 := 41) kX5_go_128 vX5_isReadOut (m_isReadOut V 0 hV (by omega)) dX5_go_38 rfl rfl rfl rfl rfl (Nat.le_of_ble_eq_true rfl) ?_
        rintro _ _ ⟨⟨b1, rfl, hb1⟩, rfl⟩
        refine Wp.ifN_eq (pc2 := 44) 82 dX5_go_41 rfl (by decide) (zb_lt _) (fun c41 => ?_) (fun c41 => ?_)
        · have hnb : ¬ (V 10 0 = V 1 0 ∧ V 10 1 = V 1 1) := fun z => zbn hb1 c41 z.1
          refine Wp.aload_n (pc2 := 83) dX5_go_82 rfl rfl ?_
          refine Wp.aload_n (pc2 := 84) dX5_go_83 rfl rfl ?_
          refine Wp.callV (pc2 := 87) kX5_go_161 vX5_choose (m_choose V hV (by have := h.1.2.2.2.2.2.2.2.2.2.1.2.1; omega)) dX5_go_84 rfl rfl rfl rfl rfl (Nat.le_of_ble_eq_true rfl) ?_
          rintro _ _ ⟨rfl, rfl⟩
          refine Wp.callV (pc2 := 90) kX5_go_164 vX5_reads (m_reads V (mChoose V) h.1 (choose_ok h.1 hnb).1 (choose_ok h.1 hnb).2) dX5_go_87 rfl rfl rfl rfl rfl (Nat.le_of_ble_eq_true rfl) ?_
          rintro _ _ ⟨rfl, rfl⟩
          refine Wp.heq (h' := hM (mStep0 V)) (by unfold mStep0; rw [if_neg hnb]) ?_
          exact K90 c33
        · refine Wp.aload_n (pc2 := 45) dX5_go_44 rfl rfl ?_
          refine Wp.iconN (pc2 := 46) 1 dX5_go_45 rfl ?_
          refine Wp.callV (pc2 := 49) kX5_go_128 vX5_isReadOut (m_isReadOut V 1 hV (by omega)) dX5_go_46 rfl rfl rfl rfl rfl (Nat.le_of_ble_eq_true rfl) ?_
          rintro _ _ ⟨⟨b2, rfl, hb2⟩, rfl⟩
          refine Wp.ifN_eq (pc2 := 52) 82 dX5_go_49 rfl (by decide) (zb_lt _) (fun c49 => ?_) (fun c49 => ?_)
          · have hnb : ¬ (V 10 0 = V 1 0 ∧ V 10 1 = V 1 1) := fun z => zbn hb2 c49 z.2
            refine Wp.aload_n (pc2 := 83) dX5_go_82 rfl rfl ?_
            refine Wp.aload_n (pc2 := 84) dX5_go_83 rfl rfl ?_
            refine Wp.callV (pc2 := 87) kX5_go_161 vX5_choose (m_choose V hV (by have := h.1.2.2.2.2.2.2.2.2.2.1.2.1; omega)) dX5_go_84 rfl rfl rfl rfl rfl (Nat.le_of_ble_eq_true rfl) ?_
            rintro _ _ ⟨rfl, rfl⟩
            refine Wp.callV (pc2 := 90) kX5_go_164 vX5_reads (m_reads V (mChoose V) h.1 (choose_ok h.1 hnb).1 (choose_ok h.1 hnb).2) dX5_go_87 rfl rfl rfl rfl rfl (Nat.le_of_ble_eq_true rfl) ?_
            rintro _ _ ⟨rfl, rfl⟩
            refine Wp.heq (h' := hM (mStep0 V)) (by unfold mStep0; rw [if_neg hnb]) ?_
            exact K90 c33
          · refine Wp.aload_n (pc2 := 53) dX5_go_52 rfl rfl ?_
            refine Wp.callV (pc2 := 56) kX5_go_131 vX5_lacking (m_lacking V hV a0.2.2.2.2.1 a1.2.2.2.2.1) dX5_go_53 rfl rfl rfl rfl rfl (Nat.le_of_ble_eq_true rfl) ?_
            rintro _ _ ⟨rfl, hz⟩
            have hx := end_ex (h.2 c33) (zby hb1 c41) (zby hb2 c49)
            rcases hz with ⟨p, hp, rfl, hz, hz2⟩ | ⟨-, hz⟩
            rotate_left
            · obtain ⟨q, q1, q2⟩ := hx
              exact absurd q2 (hz q q1)
            have hlt := GI_lt h.1.2.2.2.2.2.2.1 hp hz.1
            refine Wp.istore_n (pc2 := 57) dX5_go_56 rfl (by decide) rfl ?_
            refine Wp.aload_n (pc2 := 58) dX5_go_57 rfl rfl ?_
            refine Wp.iload_n (pc2 := 59) dX5_go_58 rfl rfl ?_
            refine Wp.bipN (pc2 := 61) 50 dX5_go_59 rfl (by decide +kernel) ?_
            refine Wp.idivN (pc2 := 62) dX5_go_61 rfl (by omega) (by decide) (by decide) ?_
            refine Wp.iload_n (pc2 := 63) dX5_go_62 rfl rfl ?_
            refine Wp.bipN (pc2 := 65) 50 dX5_go_63 rfl (by decide +kernel) ?_
            refine Wp.iremN (pc2 := 66) dX5_go_65 rfl (by omega) (by decide) (by decide) ?_
            refine Wp.callV (pc2 := 69) kX5_go_148 vX5_gives (m_gives V (p / 50) (p % 50) (by omega) hlt) dX5_go_66 rfl rfl rfl rfl rfl (Nat.le_of_ble_eq_true rfl) ?_
            rintro _ _ ⟨rfl, rfl⟩
            refine Wp.aload_n (pc2 := 70) dX5_go_69 rfl rfl ?_
            refine Wp.dup (pc2 := 71) dX5_go_70 rfl rfl ?_
            refine Wp.getf (pc2 := 74) fX5_106 dX5_go_71 rfl rfl rfl ?_
            refine Wp.iconN (pc2 := 75) 2 dX5_go_74 rfl ?_
            refine Wp.iaddN (pc2 := 76) dX5_go_75 rfl  ?_
            change Wp _ _ _ _ (.int (nI (V 0 27 + 2)) :: _) _
            refine Wp.putf (pc2 := 79) gX5_106 dX5_go_76 rfl rfl (Nat.le_of_ble_eq_true rfl) rfl rfl ?_
            refine Wp.heq (hM_o0_27 _ _) ?_
            refine Wp.goto (pc2 := 90) dX5_go_79 (by decide) ?_
            refine Wp.heq (h' := hM (mStep0 V)) ?_ ?_
            · unfold mStep0
              rw [if_pos ⟨zby hb1 c41, zby hb2 c49⟩]
              unfold mLate
              rw [lackP_eq hp hz hz2]
            refine Wp.fg [.ref 0, .int (nI n), .int (nI d), .null] (And.intro (Or.inr rfl) (And.intro (Or.inr rfl) (And.intro (Or.inr rfl) (And.intro (Or.inl rfl) trivial)))) ?_
            exact K90 c33

set_option maxRecDepth 100000 in
set_option maxHeartbeats 4000000 in
theorem m_go_ok (V : zS) (n : Nat) (h : JE V) (hn : n < 201) (hs : V 0 10 = 1) : PM mX5_go [.ref 0, .int (nI n)] (hM V) (fun zr zq => zr = some (.int (nI (goC n V))) ∧ zq = hM (goF n V)) := by
  refine PM.of (by decide +kernel) (by simp [Value.category]) (Nat.le_of_ble_eq_true rfl) ?_
  refine Wp.aload_n (pc2 := 1) dX5_go_0 rfl rfl ?_
  refine Wp.getf (pc2 := 4) fX5_89 dX5_go_1 rfl rfl rfl ?_
  refine Wp.iconN (pc2 := 5) 1 dX5_go_4 rfl ?_
  refine Wp.icmpN_ne (pc2 := 8) 19 dX5_go_5 rfl (by decide) (h.1.1.l _ _) (by decide) (fun c5 => ?_) (fun c5 => ?_)
  · exfalso; omega
  · refine Wp.iload_n (pc2 := 9) dX5_go_8 rfl rfl ?_
    refine Wp.iconN (pc2 := 10) 0 dX5_go_9 rfl ?_
    refine Wp.sipN (pc2 := 13) 200 dX5_go_10 rfl (by decide +kernel) ?_
    refine Wp.callS (pc2 := 16) kX5_go_81 sX5_in (m_in_t _ _ _ _ ((rg_in (by decide)).mpr ⟨n, hn, rfl⟩)) dX5_go_13 rfl rfl rfl (Nat.le_of_ble_eq_true rfl) ?_
    rintro _ _ ⟨rfl, rfl⟩
    refine Wp.ifN_ne (pc2 := 19) 21 dX5_go_16 rfl (by decide) (by omega) (fun c16 => ?_) (fun c16 => ?_)
    · refine Wp.iconN (pc2 := 22) 0 dX5_go_21 rfl ?_
      refine Wp.istore_n (pc2 := 23) dX5_go_22 rfl (by decide) rfl ?_
      refine Wp.mono (m_go_l n (by omega) n 0 V h (by omega)) ?_
      rintro _ _ ⟨rfl, rfl⟩
      exact ⟨by rw [Nat.zero_add], rfl⟩
    · exfalso; omega

set_option maxRecDepth 100000 in
set_option maxHeartbeats 4000000 in
theorem m_go_no (V : zS) (x : Int32) (hV : BV V) (hno : ¬ (rg x 201 ∧ V 0 10 = 1)) : PM mX5_go [.ref 0, .int x] (hM V) (fun zr zq => zr = some (.int (-1)) ∧ zq = hM V) := by
  refine PM.of (by decide +kernel) (by simp [Value.category]) (Nat.le_of_ble_eq_true rfl) ?_
  refine Wp.aload_n (pc2 := 1) dX5_go_0 rfl rfl ?_
  refine Wp.getf (pc2 := 4) fX5_89 dX5_go_1 rfl rfl rfl ?_
  refine Wp.iconN (pc2 := 5) 1 dX5_go_4 rfl ?_
  refine Wp.icmpN_ne (pc2 := 8) 19 dX5_go_5 rfl (by decide) (hV.l _ _) (by decide) (fun c5 => ?_) (fun c5 => ?_)
  · refine Wp.icon (pc2 := 20) dX5_go_19 rfl (-1) (by decide +kernel) ?_
    refine Wp.ret dX5_go_20 rfl rfl ?_
    exact ⟨rfl, rfl⟩
  · refine Wp.iload_n (pc2 := 9) dX5_go_8 rfl rfl ?_
    refine Wp.iconN (pc2 := 10) 0 dX5_go_9 rfl ?_
    refine Wp.sipN (pc2 := 13) 200 dX5_go_10 rfl (by decide +kernel) ?_
    refine Wp.callS (pc2 := 16) kX5_go_81 sX5_in (m_in _ x _ _) dX5_go_13 rfl rfl rfl (Nat.le_of_ble_eq_true rfl) ?_
    rintro _ _ ⟨⟨b, rfl, hb⟩, rfl⟩
    refine Wp.ifN_ne (pc2 := 19) 21 dX5_go_16 rfl (by decide) (zb_lt _) (fun c16 => ?_) (fun c16 => ?_)
    · exact absurd ⟨(rg_in (by decide)).mp (zby hb c16), c5⟩ hno
    · refine Wp.icon (pc2 := 20) dX5_go_19 rfl (-1) (by decide +kernel) ?_
      refine Wp.ret dX5_go_20 rfl rfl ?_
      exact ⟨rfl, rfl⟩

