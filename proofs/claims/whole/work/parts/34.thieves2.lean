section THIEVES2
variable {b : mzB} {Q : mzQ} {t w : Nat} {v : Nat → Int32} {A : Nat → Nat → Int32}
theorem b480 {x : Nat} (h : x ≤ 2 ^ 450) : x < BB ^ 16 := Nat.lt_of_le_of_lt h (by decide +kernel)
theorem s_ach_loop (g0 : mzG) {s W d r L : Nat} (hs : 0 < s) (hsW : s ≤ W) (hW : W ≤ 891) (hd : 0 < d) (hdr : d ≤ r) (hr : r ≤ 40) (hQ : ∀ g' T', th g' t (sm (fun i => tm r s (W - s) (r - i)) (r + 1 - d)) T' L → fr g0 g' t (t + 7) → Q none g') : ∀ (e c : Nat) (g : mzG), c + e = r + 1 - d → th g t (sm (fun i => tm r s (W - s) (r - i)) c) (tm r s (W - s) (r - c)) L → fr g0 g t (t + 7) → wp 64 b 42 [.ref t, .int (nI s), .int (nI W), .int (nI d), .int (nI r), .int (nI (r - c))] [] g Q := by
  intro e
  induction e with
  | zero =>
    intro c g hc hT hf
    rw [q_X7_addChances_42]
    simp (disch := omega) only [q_X7_addChances_44, q_X7_addChances_45, q_X7_addChances_94, y_is, y_gf, y_pf, y_f0, y_f1, y_f3, y_nI, y_nK, y_nZ, y_nL, y_nR, y_k1i, y_k1r, y_k1l, y_k1n, y_tl, y_tn, y_s, y_ss, List.getElem?_cons_zero, List.getElem?_cons_succ, List.set_cons_zero, List.set_cons_succ, List.length_cons, List.length_nil, true_and, and_true, lt_n]
    refine br1 (by omega) (hQ g (tm r s (W - s) (r - c)) ?_ hf)
    rw [show r + 1 - d = c by omega]; exact hT
  | succ e ih =>
    intro c g hc hT hf
    have hcr : c < r := by omega
    have bt : tm r s (W - s) (r - c) ≤ 2 ^ 433 := tm_le (by omega) hr (by omega)
    have bs : sm (fun i => tm r s (W - s) (r - i)) c ≤ c * 2 ^ 433 := sm_le (fun i hi => tm_le (by omega) hr (by omega))
    have bs' : c * 2 ^ 433 ≤ 40 * 2 ^ 433 := Nat.mul_le_mul_right _ (by omega)
    have bS : sm (fun i => tm r s (W - s) (r - i)) c + tm r s (W - s) (r - c) < BB ^ 16 := b480 (Nat.le_trans (Nat.add_le_add (Nat.le_trans bs bs') bt) (by decide +kernel))
    have hkW : (r - c) * (W - s) ≤ 40 * 891 := Nat.mul_le_mul (by omega) (by omega)
    have hks : (r - (r - c) + 1) * s ≤ 41 * 891 := Nat.mul_le_mul (by omega) (by omega)
    have hks0 : 0 < (r - (r - c) + 1) * s := Nat.mul_pos (by omega) hs
    have bT : tm r s (W - s) (r - c) * ((r - c) * (W - s)) < BB ^ 16 := b480 (Nat.le_trans (Nat.mul_le_mul bt hkW) (by decide +kernel))
    rw [q_X7_addChances_42]
    simp (disch := omega) only [q_X7_addChances_44, q_X7_addChances_45, q_X7_addChances_48, q_X7_addChances_49, q_X7_addChances_52, q_X7_addChances_53, q_X7_addChances_56, hT.1, y_is, y_gf, y_pf, y_f0, y_f1, y_f3, y_nI, y_nK, y_nZ, y_nL, y_nR, y_k1i, y_k1r, y_k1l, y_k1n, y_tl, y_tn, y_s, y_ss, List.getElem?_cons_zero, List.getElem?_cons_succ, List.set_cons_zero, List.set_cons_succ, List.length_cons, List.length_nil, true_and, and_true, lt_n, hT.2.1.is]
    refine br0 (by omega) (s_add (by omega) hT.2.1 hT.2.2.1 bS (fun g1 hN1 hf1 => ?_))
    have hT1 := hT.su hN1 hf1
    simp (disch := omega) only [q_X7_addChances_59, q_X7_addChances_60, q_X7_addChances_63, q_X7_addChances_65, q_X7_addChances_66, q_X7_addChances_67, q_X7_addChances_68, q_X7_addChances_69, hT1.1, y_is, y_gf, y_pf, y_f0, y_f1, y_f3, y_nI, y_nK, y_nZ, y_nL, y_nR, y_k1i, y_k1r, y_k1l, y_k1n, y_tl, y_tn, y_s, y_ss, List.getElem?_cons_zero, List.getElem?_cons_succ, List.set_cons_zero, List.set_cons_succ, List.length_cons, List.length_nil, true_and, and_true, pk_sub, pk_mul, hT1.2.2.1.is]
    refine s_times hT1.2.2.1 (by omega) bT (fun g2 hN2 hf2 => ?_)
    have hT2 := hT1.te hN2 hf2
    simp (disch := omega) only [q_X7_addChances_72, q_X7_addChances_73, q_X7_addChances_76, q_X7_addChances_78, q_X7_addChances_80, q_X7_addChances_81, q_X7_addChances_82, q_X7_addChances_83, q_X7_addChances_84, q_X7_addChances_85, hT2.1, y_is, y_gf, y_pf, y_f0, y_f1, y_f3, y_nI, y_nK, y_nZ, y_nL, y_nR, y_k1i, y_k1r, y_k1l, y_k1n, y_tl, y_tn, y_s, y_ss, List.getElem?_cons_zero, List.getElem?_cons_succ, List.set_cons_zero, List.set_cons_succ, List.length_cons, List.length_nil, true_and, and_true, pk_sub, pk_mul, lit, nI_add, hT2.2.2.1.is]
    refine s_divide hT2.2.2.1 (by omega) hks0 (fun g3 hN3 hf3 => ?_)
    rw [tm_step (by omega) (by omega) hs] at hN3
    have hT3 := hT2.te hN3 hf3
    simp (disch := omega) only [q_X7_addChances_88, q_X7_addChances_91, y_is, y_gf, y_pf, y_f0, y_f1, y_f3, y_nI, y_nK, y_nZ, y_nL, y_nR, y_k1i, y_k1r, y_k1l, y_k1n, y_tl, y_tn, y_s, y_ss, List.getElem?_cons_zero, List.getElem?_cons_succ, List.set_cons_zero, List.set_cons_succ, List.length_cons, List.length_nil, true_and, and_true, lit, m_neg, pk_sub]
    have := ih (c + 1) g3 (by omega) hT3 (hf.tr (((hf1.wide (by omega) (by omega)).tr (hf2.wide (by omega) (by omega))).tr (hf3.wide (by omega) (by omega))))
    rw [show r - (c + 1) = r - c - 1 by omega] at this
    exact this
theorem s_ach {g : mzG} {s W d r S T L : Nat} (hT : th g t S T L) (hsW : s ≤ W) (hW : W ≤ 891) (hdr : d ≤ r) (hr : r ≤ 40) (hQ : ∀ g' T', th g' t (dbt s (W - s) d r) T' L → fr g g' t (t + 7) → Q none g') : wp 64 b 0 [.ref t, .int (nI s), .int (nI W), .int (nI d), .int (nI r), .null] [] g Q := by
  simp (disch := omega) only [q_X7_addChances_0, q_X7_addChances_1, y_is, y_gf, y_pf, y_f0, y_f1, y_f3, y_nI, y_nK, y_nZ, y_nL, y_nR, y_k1i, y_k1r, y_k1l, y_k1n, y_tl, y_tn, y_s, y_ss, List.getElem?_cons_zero, List.getElem?_cons_succ, List.set_cons_zero, List.set_cons_succ, List.length_cons, List.length_nil, true_and, and_true, lit, eq_n]
  rcases Nat.eq_zero_or_pos d with hd | hd
  · rw [bnt hd]
    simp (disch := omega) only [q_X7_addChances_4, q_X7_addChances_5, q_X7_addChances_8, q_X7_addChances_9, q_X7_addChances_11, hT.1, y_is, y_gf, y_pf, y_f0, y_f1, y_f3, y_nI, y_nK, y_nZ, y_nL, y_nR, y_k1i, y_k1r, y_k1l, y_k1n, y_tl, y_tn, y_s, y_ss, List.getElem?_cons_zero, List.getElem?_cons_succ, List.set_cons_zero, List.set_cons_succ, List.length_cons, List.length_nil, true_and, and_true, hT.2.1.is]
    refine s_power (by omega) hT.2.1 r (by omega) (fun e he => Nat.lt_of_lt_of_le (p891 hW (by omega)) b14) (fun g1 hN1 hf1 => ?_)
    simp (disch := omega) only [q_X7_addChances_14, y_is, y_gf, y_pf, y_f0, y_f1, y_f3, y_nI, y_nK, y_nZ, y_nL, y_nR, y_k1i, y_k1r, y_k1l, y_k1n, y_tl, y_tn, y_s, y_ss, List.getElem?_cons_zero, List.getElem?_cons_succ, List.set_cons_zero, List.set_cons_succ, List.length_cons, List.length_nil, true_and, and_true]
    refine hQ g1 T ?_ (hf1.wide (by omega) (by omega))
    subst hd
    rw [dbt_0, show s + (W - s) = W by omega]
    exact hT.su hN1 hf1
  · rw [bnf (by omega)]
    simp (disch := omega) only [q_X7_addChances_15, q_X7_addChances_16, q_X7_addChances_19, q_X7_addChances_20, hT.1, y_is, y_gf, y_pf, y_f0, y_f1, y_f3, y_nI, y_nK, y_nZ, y_nL, y_nR, y_k1i, y_k1r, y_k1l, y_k1n, y_tl, y_tn, y_s, y_ss, List.getElem?_cons_zero, List.getElem?_cons_succ, List.set_cons_zero, List.set_cons_succ, List.length_cons, List.length_nil, true_and, and_true, litL, hT.2.1.is]
    refine s_set hT.2.1 (by decide) (fun g1 hN1 hf1 => ?_)
    have hT1 := hT.su hN1 hf1
    simp (disch := omega) only [q_X7_addChances_23, q_X7_addChances_24, y_is, y_gf, y_pf, y_f0, y_f1, y_f3, y_nI, y_nK, y_nZ, y_nL, y_nR, y_k1i, y_k1r, y_k1l, y_k1n, y_tl, y_tn, y_s, y_ss, List.getElem?_cons_zero, List.getElem?_cons_succ, List.set_cons_zero, List.set_cons_succ, List.length_cons, List.length_nil, true_and, and_true, lit, eq_n]
    rcases Nat.eq_zero_or_pos s with hs | hs
    · rw [bnt hs]
      simp (disch := omega) only [q_X7_addChances_27, y_is, y_gf, y_pf, y_f0, y_f1, y_f3, y_nI, y_nK, y_nZ, y_nL, y_nR, y_k1i, y_k1r, y_k1l, y_k1n, y_tl, y_tn, y_s, y_ss, List.getElem?_cons_zero, List.getElem?_cons_succ, List.set_cons_zero, List.set_cons_succ, List.length_cons, List.length_nil, true_and, and_true]
      refine hQ g1 T ?_ (hf1.wide (by omega) (by omega))
      subst hs
      rw [dbt_z hd]
      exact hT1
    · rw [bnf (by omega)]
      simp (disch := omega) only [q_X7_addChances_28, q_X7_addChances_29, q_X7_addChances_32, q_X7_addChances_33, q_X7_addChances_35, hT1.1, y_is, y_gf, y_pf, y_f0, y_f1, y_f3, y_nI, y_nK, y_nZ, y_nL, y_nR, y_k1i, y_k1r, y_k1l, y_k1n, y_tl, y_tn, y_s, y_ss, List.getElem?_cons_zero, List.getElem?_cons_succ, List.set_cons_zero, List.set_cons_succ, List.length_cons, List.length_nil, true_and, and_true, hT1.2.2.1.is]
      refine s_power (by omega) hT1.2.2.1 r (by omega) (fun e he => Nat.lt_of_lt_of_le (p891 (by omega) (by omega)) b14) (fun g2 hN2 hf2 => ?_)
      simp (disch := omega) only [q_X7_addChances_38, q_X7_addChances_40, y_is, y_gf, y_pf, y_f0, y_f1, y_f3, y_nI, y_nK, y_nZ, y_nL, y_nR, y_k1i, y_k1r, y_k1l, y_k1n, y_tl, y_tn, y_s, y_ss, List.getElem?_cons_zero, List.getElem?_cons_succ, List.set_cons_zero, List.set_cons_succ, List.length_cons, List.length_nil, true_and, and_true]
      refine s_ach_loop (L := L) g hs hsW hW hd hdr hr (fun g' T' h1 h2 => ?_) (r + 1 - d) 0 g2 (by omega) ?_ ((hf1.wide (by omega) (by omega)).tr (hf2.wide (by omega) (by omega)))
      · rw [← dbt_rev (by omega)] at h1
        exact hQ g' T' h1 h2
      · rw [Nat.sub_zero, tm_top]
        exact hT1.te hN2 hf2
/-- lower terms of both: the same Fraction -/
theorem tm_scale (t s o h k : Nat) (hk : k ≤ t) : tm t (s * h) (o * h) k = tm t s o k * h ^ t := by
  unfold tm
  rw [Nat.mul_pow, Nat.mul_pow]
  have : h ^ t = h ^ k * h ^ (t - k) := by rw [← Nat.pow_add]; congr 1; omega
  rw [this]
  ac_rfl
theorem dbt_scale (s o h d t : Nat) : dbt (s * h) (o * h) d t = dbt s o d t * h ^ t := by
  unfold dbt
  rw [Nat.mul_comm _ (h ^ t), ← sm_mul]
  refine sm_congr (fun i hi => ?_)
  rw [tm_scale _ _ _ _ _ (by omega), Nat.mul_comm]
theorem lower_scale {A D h : Nat} (hh : 0 < h) : A * h / Nat.gcd (A * h) (D * h) = A / Nat.gcd A D ∧ D * h / Nat.gcd (A * h) (D * h) = D / Nat.gcd A D := by
  rw [Nat.gcd_mul_right]
  exact ⟨Nat.mul_div_mul_right _ _ hh, Nat.mul_div_mul_right _ _ hh⟩
theorem s_doubtOf {g : mzG} {n p S T L N D k : Nat} {sh do_ tr : Nat → Nat} (hw : w + 12 ≤ t) (hk : k = t + 7) (hT : th g t S T L) (hW : wt g w v A) (hF : ft g k N D) (hv : v 0 = nI n) (hn : n ≤ 9) (hp : p < n) (hsh : ∀ i, i < n → A 1 i = nI (sh i) ∧ sh i ≤ 99) (hdo : A 3 p = nI (do_ p)) (htr : A 4 p = nI (tr p)) (hdt : do_ p ≤ tr p) (ht : tr p ≤ 40) (h0 : 0 < sm sh n) (hps : sh p ≤ sm sh n) (hQ : ∀ g' S' T', th g' t S' T' L → ft g' k (dbt (sh p) (sm sh n - sh p) (do_ p) (tr p) / Nat.gcd (dbt (sh p) (sm sh n - sh p) (do_ p) (tr p)) (sm sh n ^ tr p)) (sm sh n ^ tr p / Nat.gcd (dbt (sh p) (sm sh n - sh p) (do_ p) (tr p)) (sm sh n ^ tr p)) → fr g g' t (t + 12) → Q none g') : wp 62 b 0 [.ref t, .ref k, .ref w, .int (nI p), .null, .null, .null, .null] [] g Q := by
  have hs := sm_le (c := 99) (fun i hi => (hsh i hi).2)
  have s1 := (hsh p hp).1
  simp (disch := omega) only [q_X7_doubtOf_0, q_X7_doubtOf_1, q_X7_doubtOf_4, q_X7_doubtOf_5, q_X7_doubtOf_6, q_X7_doubtOf_7, q_X7_doubtOf_8, q_X7_doubtOf_10, q_X7_doubtOf_11, hW.1, hW.2.1, hW.2.2.1, y_is, y_gf, y_pf, y_f0, y_f1, y_f3, y_nI, y_nK, y_nZ, y_nL, y_nR, y_k1i, y_k1r, y_k1l, y_k1n, y_tl, y_tn, y_s, y_ss, List.getElem?_cons_zero, List.getElem?_cons_succ, List.set_cons_zero, List.set_cons_succ, List.length_cons, List.length_nil, true_and, and_true, y_lIn, y_lKn, y_lZn, y_lLn, y_wIn, y_wZn, y_wLn, lit, le_n, lt_n, eq_n, y_row, s1, y_is]
  refine s_whole hW hv hn ?_
  rw [sm_l (fun i hi => (hsh i hi).1)]
  simp (disch := omega) only [q_X7_doubtOf_14, q_X7_doubtOf_16, q_X7_doubtOf_18, q_X7_doubtOf_19, q_X7_doubtOf_21, q_X7_doubtOf_22, y_is, y_gf, y_pf, y_f0, y_f1, y_f3, y_nI, y_nK, y_nZ, y_nL, y_nR, y_k1i, y_k1r, y_k1l, y_k1n, y_tl, y_tn, y_s, y_ss, List.getElem?_cons_zero, List.getElem?_cons_succ, List.set_cons_zero, List.set_cons_succ, List.length_cons, List.length_nil, true_and, and_true, i_l]
  refine s_gcd (by omega) (by omega) ?_
  have hgp : 0 < Nat.gcd (sh p) (sm sh n) := Nat.gcd_pos_of_pos_right _ h0
  have hgl : Nat.gcd (sh p) (sm sh n) ≤ sm sh n := Nat.le_of_dvd h0 (Nat.gcd_dvd_right _ _)
  simp (disch := omega) only [q_X7_doubtOf_25, q_X7_doubtOf_26, q_X7_doubtOf_28, q_X7_doubtOf_30, q_X7_doubtOf_31, y_is, y_gf, y_pf, y_f0, y_f1, y_f3, y_nI, y_nK, y_nZ, y_nL, y_nR, y_k1i, y_k1r, y_k1l, y_k1n, y_tl, y_tn, y_s, y_ss, List.getElem?_cons_zero, List.getElem?_cons_succ, List.set_cons_zero, List.set_cons_succ, List.length_cons, List.length_nil, true_and, and_true, l_i, lit, le_n]
  have key : ∀ s' W', sh p = s' * Nat.gcd (sh p) (sm sh n) → sm sh n = W' * Nat.gcd (sh p) (sm sh n) → wp 62 b 48 [.ref t, .ref k, .ref w, .int (nI p), .int (nI s'), .int (nI W'), .int (nI (Nat.gcd (sh p) (sm sh n))), .null] [] g Q := by
    intro s' W' e1 e2
    have hs' : s' ≤ W' := by
      refine Nat.le_of_mul_le_mul_right ?_ hgp
      rw [← e1, ← e2]; exact hps
    have hW' : W' ≤ sm sh n := by
      have : W' * 1 ≤ W' * Nat.gcd (sh p) (sm sh n) := Nat.mul_le_mul_left _ hgp
      omega
    have hW0 : 0 < W' := by
      rcases Nat.eq_zero_or_pos W' with q | q
      · rw [q, Nat.zero_mul] at e2; omega
      · exact q
    simp (disch := omega) only [q_X7_doubtOf_48, q_X7_doubtOf_49, q_X7_doubtOf_52, q_X7_doubtOf_53, q_X7_doubtOf_54, q_X7_doubtOf_55, q_X7_doubtOf_56, q_X7_doubtOf_58, q_X7_doubtOf_59, q_X7_doubtOf_61, q_X7_doubtOf_63, q_X7_doubtOf_64, q_X7_doubtOf_67, q_X7_doubtOf_68, q_X7_doubtOf_69, q_X7_doubtOf_70, q_X7_doubtOf_71, q_X7_doubtOf_73, hW.1, hW.2.1, hW.2.2.1, y_is, y_gf, y_pf, y_f0, y_f1, y_f3, y_nI, y_nK, y_nZ, y_nL, y_nR, y_k1i, y_k1r, y_k1l, y_k1n, y_tl, y_tn, y_s, y_ss, List.getElem?_cons_zero, List.getElem?_cons_succ, List.set_cons_zero, List.set_cons_succ, List.length_cons, List.length_nil, true_and, and_true, y_lIn, y_lKn, y_lZn, y_lLn, y_wIn, y_wZn, y_wLn, lit, le_n, lt_n, eq_n, lit, y_row, hdo, htr, hT.1, y_is]
    refine s_ach hT hs' (by omega) hdt ht (fun g1 T1 hT1 hf1 => ?_)
    have hF1 := hF.frm hf1 (by omega)
    simp (disch := omega) only [q_X7_doubtOf_76, q_X7_doubtOf_77, q_X7_doubtOf_78, q_X7_doubtOf_81, q_X7_doubtOf_83, q_X7_doubtOf_85, hT1.1, hF1.1, y_is, y_gf, y_pf, y_f0, y_f1, y_f3, y_nI, y_nK, y_nZ, y_nL, y_nR, y_k1i, y_k1r, y_k1l, y_k1n, y_tl, y_tn, y_s, y_ss, List.getElem?_cons_zero, List.getElem?_cons_succ, List.set_cons_zero, List.set_cons_succ, List.length_cons, List.length_nil, true_and, and_true, y_is]
    refine s_over (by omega) hF1 hT1.2.1 hW0 (by omega) (by omega) (fun e he => Nat.lt_of_lt_of_le (p891 (by omega) (by omega)) b14) (fun g2 hF2 hf2 => ?_)
    simp (disch := omega) only [q_X7_doubtOf_88, y_is, y_gf, y_pf, y_f0, y_f1, y_f3, y_nI, y_nK, y_nZ, y_nL, y_nR, y_k1i, y_k1r, y_k1l, y_k1n, y_tl, y_tn, y_s, y_ss, List.getElem?_cons_zero, List.getElem?_cons_succ, List.set_cons_zero, List.set_cons_succ, List.length_cons, List.length_nil, true_and, and_true]
    refine hQ g2 _ T1 (hT1.frm hf2 (by omega)) ?_ ((hf1.wide (by omega) (by omega)).tr (hf2.wide (by omega) (by omega)))
    have e3 : dbt (sh p) (sm sh n - sh p) (do_ p) (tr p) = dbt s' (W' - s') (do_ p) (tr p) * Nat.gcd (sh p) (sm sh n) ^ tr p := by
      rw [← dbt_scale, Nat.sub_mul, ← e1, ← e2]
    have e4 : sm sh n ^ tr p = W' ^ tr p * Nat.gcd (sh p) (sm sh n) ^ tr p := by
      rw [← Nat.mul_pow, ← e2]
    obtain ⟨l1, l2⟩ := lower_scale (A := dbt s' (W' - s') (do_ p) (tr p)) (D := W' ^ tr p) (h := Nat.gcd (sh p) (sm sh n) ^ tr p) (Nat.pow_pos hgp)
    rw [e3, e4, l1, l2]
    exact hF2
  refine brs (fun c => ?_) (fun c => ?_)
  · have : Nat.gcd (sh p) (sm sh n) = 1 := by omega
    have := key (sh p) (sm sh n) (by rw [this, Nat.mul_one]) (by rw [this, Nat.mul_one])
    exact this
  · simp (disch := omega) only [q_X7_doubtOf_34, q_X7_doubtOf_36, q_X7_doubtOf_38, q_X7_doubtOf_39, q_X7_doubtOf_41, q_X7_doubtOf_43, q_X7_doubtOf_45, q_X7_doubtOf_46, y_is, y_gf, y_pf, y_f0, y_f1, y_f3, y_nI, y_nK, y_nZ, y_nL, y_nR, y_k1i, y_k1r, y_k1l, y_k1n, y_tl, y_tn, y_s, y_ss, List.getElem?_cons_zero, List.getElem?_cons_succ, List.set_cons_zero, List.set_cons_succ, List.length_cons, List.length_nil, true_and, and_true, lit, eq_n, pk_div]
    refine ⟨by omega, by omega, key _ _ (Nat.div_mul_cancel (Nat.gcd_dvd_left _ _)).symm (Nat.div_mul_cancel (Nat.gcd_dvd_right _ _)).symm⟩
/-- the first of the least -/
def lea (f : Nat → Nat) : Nat → Nat
  | 0 => 0
  | i + 1 => if i = 0 ∨ f i < f (lea f i) then i else lea f i
theorem lea_lt (f : Nat → Nat) : ∀ n, lea f n ≤ n - 1
  | 0 => Nat.le_refl _
  | n + 1 => by
    rw [lea]
    split
    · omega
    · have := lea_lt f n; omega
def d40 (sh do_ tr : Nat → Nat) (W i : Nat) : Nat := dbt (sh i) (W - sh i) (do_ i) (tr i) * W ^ (40 - tr i)
theorem d40_le {sh do_ tr : Nat → Nat} {W i : Nat} (h1 : sh i ≤ W) (h2 : do_ i ≤ tr i) (h3 : tr i ≤ 40) : ∀ j, j ≤ 40 - tr i → W ≤ 891 → dbt (sh i) (W - sh i) (do_ i) (tr i) * W ^ j ≤ W ^ (tr i + j) := by
  intro j hj hW
  rw [Nat.pow_add]
  refine Nat.mul_le_mul_right _ ?_
  have := dbt_le (s := sh i) (o := W - sh i) (d := do_ i) (t := tr i) (by omega)
  rw [show sh i + (W - sh i) = W by omega] at this
  exact this
theorem s_most_in (g0 : mzG) {M W r T L p : Nat} {x3 : Int32} (hW : W ≤ 891) (hr : r ≤ 40) (hM : M ≤ W ^ r) (hQ : ∀ g', th g' t (M * W ^ (40 - r)) T L → fr g0 g' t (t + 7) → wp 63 b 80 [.ref t, .ref w, .int (nI W), .int x3, .int (nI p), .int (nI r), .int (nI 40)] [] g' Q) : ∀ (d j : Nat) (g : mzG), r + j + d = 40 → th g t (M * W ^ j) T L → fr g0 g t (t + 7) → wp 63 b 59 [.ref t, .ref w, .int (nI W), .int x3, .int (nI p), .int (nI r), .int (nI (r + j))] [] g Q := by
  intro d
  induction d with
  | zero =>
    intro j g hj hT hf
    rw [q_X7_mostDoubted_59]
    simp (disch := omega) only [q_X7_mostDoubted_61, q_X7_mostDoubted_63, y_is, y_gf, y_pf, y_f0, y_f1, y_f3, y_nI, y_nK, y_nZ, y_nL, y_nR, y_k1i, y_k1r, y_k1l, y_k1n, y_tl, y_tn, y_s, y_ss, List.getElem?_cons_zero, List.getElem?_cons_succ, List.set_cons_zero, List.set_cons_succ, List.length_cons, List.length_nil, true_and, and_true, lit, le_n]
    refine br1 (by omega) ?_
    rw [show r + j = 40 by omega]
    refine hQ g ?_ hf
    rw [show 40 - r = j by omega]
    exact hT
  | succ d ih =>
    intro j g hj hT hf
    rw [q_X7_mostDoubted_59]
    simp (disch := omega) only [q_X7_mostDoubted_61, q_X7_mostDoubted_63, q_X7_mostDoubted_66, q_X7_mostDoubted_67, q_X7_mostDoubted_70, q_X7_mostDoubted_71, hT.1, y_is, y_gf, y_pf, y_f0, y_f1, y_f3, y_nI, y_nK, y_nZ, y_nL, y_nR, y_k1i, y_k1r, y_k1l, y_k1n, y_tl, y_tn, y_s, y_ss, List.getElem?_cons_zero, List.getElem?_cons_succ, List.set_cons_zero, List.set_cons_succ, List.length_cons, List.length_nil, true_and, and_true, lit, le_n, hT.2.1.is]
    refine br0 (by omega) ?_
    have hb : M * W ^ j * W < BB ^ 16 := by
      have h1 : M * W ^ j * W ≤ W ^ (r + j + 1) := by
        rw [Nat.pow_succ, Nat.pow_add]
        exact Nat.mul_le_mul_right _ (Nat.mul_le_mul_right _ hM)
      exact Nat.lt_of_lt_of_le (Nat.lt_of_le_of_lt h1 (p891 hW (by omega))) b14
    refine s_times hT.2.1 (by omega) hb (fun g1 hN1 hf1 => ?_)
    rw [Nat.mul_assoc, ← Nat.pow_succ] at hN1
    simp (disch := omega) only [q_X7_mostDoubted_74, q_X7_mostDoubted_77, y_is, y_gf, y_pf, y_f0, y_f1, y_f3, y_nI, y_nK, y_nZ, y_nL, y_nR, y_k1i, y_k1r, y_k1l, y_k1n, y_tl, y_tn, y_s, y_ss, List.getElem?_cons_zero, List.getElem?_cons_succ, List.set_cons_zero, List.set_cons_succ, List.length_cons, List.length_nil, true_and, and_true, lit, nI_add]
    exact ih (j + 1) g1 (by omega) (hT.su hN1 hf1) (hf.tr (hf1.wide (by omega) (by omega)))
theorem s_most_loop (g0 : mzG) {n : Nat} {sh do_ tr : Nat → Nat} (hw : w + 12 ≤ t) (hv : v 0 = nI n) (hn : n ≤ 9) (hW8 : sm sh n ≤ 891) (hsh : ∀ i, i < n → A 1 i = nI (sh i) ∧ sh i ≤ sm sh n) (hdo : ∀ i, i < n → A 3 i = nI (do_ i) ∧ do_ i ≤ tr i) (htr : ∀ i, i < n → A 4 i = nI (tr i) ∧ tr i ≤ 40) (hQ : ∀ g' S' T' L', th g' t S' T' L' → fr g0 g' t (t + 7) → Q (some (.int (nI (lea (d40 sh do_ tr (sm sh n)) n)))) g') : ∀ (d i : Nat) (g : mzG) (S T L : Nat) (x5 x6 : Value), i + d = n → th g t S T L → (0 < i → L = d40 sh do_ tr (sm sh n) (lea (d40 sh do_ tr (sm sh n)) i)) → wt g w v A → fr g0 g t (t + 7) → wp 63 b 10 [.ref t, .ref w, .int (nI (sm sh n)), .int (nI (lea (d40 sh do_ tr (sm sh n)) i)), .int (nI i), x5, x6] [] g Q := by
  intro d
  induction d with
  | zero =>
    intro i g S T L x5 x6 hi hT hL hW hf
    have hi : i = n := by omega
    subst hi
    rw [q_X7_mostDoubted_10]
    simp (disch := omega) only [q_X7_mostDoubted_12, q_X7_mostDoubted_13, q_X7_mostDoubted_16, q_X7_mostDoubted_119, q_X7_mostDoubted_120, hW.1, hv, y_is, y_gf, y_pf, y_f0, y_f1, y_f3, y_nI, y_nK, y_nZ, y_nL, y_nR, y_k1i, y_k1r, y_k1l, y_k1n, y_tl, y_tn, y_s, y_ss, List.getElem?_cons_zero, List.getElem?_cons_succ, List.set_cons_zero, List.set_cons_succ, List.length_cons, List.length_nil, true_and, and_true, le_n]
    exact br1 (by omega) (hQ g S T L hT hf)
  | succ d ih =>
    intro i g S T L x5 x6 hi hT hL hW hf
    have hin : i < n := by omega
    obtain ⟨s1, s2⟩ := hsh i hin
    obtain ⟨o1, o2⟩ := hdo i hin
    obtain ⟨r1, r2⟩ := htr i hin
    rw [q_X7_mostDoubted_10]
    simp (disch := omega) only [q_X7_mostDoubted_12, q_X7_mostDoubted_13, q_X7_mostDoubted_16, q_X7_mostDoubted_19, q_X7_mostDoubted_20, q_X7_mostDoubted_23, q_X7_mostDoubted_24, q_X7_mostDoubted_25, q_X7_mostDoubted_27, q_X7_mostDoubted_28, q_X7_mostDoubted_30, q_X7_mostDoubted_31, q_X7_mostDoubted_32, q_X7_mostDoubted_35, q_X7_mostDoubted_36, q_X7_mostDoubted_37, q_X7_mostDoubted_39, q_X7_mostDoubted_40, q_X7_mostDoubted_41, q_X7_mostDoubted_42, q_X7_mostDoubted_45, q_X7_mostDoubted_46, q_X7_mostDoubted_47, q_X7_mostDoubted_49, q_X7_mostDoubted_50, q_X7_mostDoubted_52, hW.1, hW.2.1, hW.2.2.1, hv, y_is, y_gf, y_pf, y_f0, y_f1, y_f3, y_nI, y_nK, y_nZ, y_nL, y_nR, y_k1i, y_k1r, y_k1l, y_k1n, y_tl, y_tn, y_s, y_ss, List.getElem?_cons_zero, List.getElem?_cons_succ, List.set_cons_zero, List.set_cons_succ, List.length_cons, List.length_nil, true_and, and_true, y_lIn, y_lKn, y_lZn, y_lLn, y_wIn, y_wZn, y_wLn, lit, le_n, lt_n, eq_n, lit, y_row, s1, o1, r1, hT.1, y_is]
    refine br0 (by omega) (s_ach hT s2 hW8 o2 r2 (fun g1 T1 hT1 hf1 => ?_))
    simp (disch := omega) only [q_X7_mostDoubted_55, q_X7_mostDoubted_57, y_is, y_gf, y_pf, y_f0, y_f1, y_f3, y_nI, y_nK, y_nZ, y_nL, y_nR, y_k1i, y_k1r, y_k1l, y_k1n, y_tl, y_tn, y_s, y_ss, List.getElem?_cons_zero, List.getElem?_cons_succ, List.set_cons_zero, List.set_cons_succ, List.length_cons, List.length_nil, true_and, and_true]
    have hM : dbt (sh i) (sm sh n - sh i) (do_ i) (tr i) ≤ sm sh n ^ tr i := by
      have := dbt_le (s := sh i) (o := sm sh n - sh i) (d := do_ i) (t := tr i) (by omega)
      rw [show sh i + (sm sh n - sh i) = sm sh n by omega] at this
      exact this
    have l1 := lea_lt (d40 sh do_ tr (sm sh n)) i
    refine s_most_in g1 hW8 r2 hM (fun g2 hT2 hf2 => ?_) (40 - tr i) 0 g1 (by omega) (by rw [Nat.pow_zero, Nat.mul_one]; exact hT1) fr.rf
    have hf' : fr g0 g2 t (t + 7) := hf.tr (hf1.tr hf2)
    have hW2 : wt g2 w v A := (hW.frm hf1 (by omega)).frm hf2 (by omega)
    have take : (i = 0 ∨ d40 sh do_ tr (sm sh n) i < d40 sh do_ tr (sm sh n) (lea (d40 sh do_ tr (sm sh n)) i)) → wp 63 b 99 [.ref t, .ref w, .int (nI (sm sh n)), .int (nI (lea (d40 sh do_ tr (sm sh n)) i)), .int (nI i), .int (nI (tr i)), .int (nI 40)] [] g2 Q := by
      intro c
      simp (disch := omega) only [q_X7_mostDoubted_99, q_X7_mostDoubted_100, q_X7_mostDoubted_103, q_X7_mostDoubted_104, q_X7_mostDoubted_107, hT2.1, y_is, y_gf, y_pf, y_f0, y_f1, y_f3, y_nI, y_nK, y_nZ, y_nL, y_nR, y_k1i, y_k1r, y_k1l, y_k1n, y_tl, y_tn, y_s, y_ss, List.getElem?_cons_zero, List.getElem?_cons_succ, List.set_cons_zero, List.set_cons_succ, List.length_cons, List.length_nil, true_and, and_true, hT2.2.2.2.is]
      refine s_ncopy (by omega) hT2.2.2.2 hT2.2.1 (fun g3 hN3 hf3 => ?_)
      simp (disch := omega) only [q_X7_mostDoubted_110, q_X7_mostDoubted_112, q_X7_mostDoubted_113, q_X7_mostDoubted_116, y_is, y_gf, y_pf, y_f0, y_f1, y_f3, y_nI, y_nK, y_nZ, y_nL, y_nR, y_k1i, y_k1r, y_k1l, y_k1n, y_tl, y_tn, y_s, y_ss, List.getElem?_cons_zero, List.getElem?_cons_succ, List.set_cons_zero, List.set_cons_succ, List.length_cons, List.length_nil, true_and, and_true, lit, nI_add]
      have e : lea (d40 sh do_ tr (sm sh n)) (i + 1) = i := by rw [lea, if_pos c]
      have := ih (i + 1) g3 _ _ _ (.int (nI (tr i))) (.int (nI 40)) (by omega) (hT2.le hN3 hf3) (fun _ => by rw [e]; rfl) (hW2.frm hf3 (by omega)) (hf'.tr (hf3.wide (by omega) (by omega)))
      rw [e] at this
      exact this
    simp (disch := omega) only [q_X7_mostDoubted_80, q_X7_mostDoubted_82, y_is, y_gf, y_pf, y_f0, y_f1, y_f3, y_nI, y_nK, y_nZ, y_nL, y_nR, y_k1i, y_k1r, y_k1l, y_k1n, y_tl, y_tn, y_s, y_ss, List.getElem?_cons_zero, List.getElem?_cons_succ, List.set_cons_zero, List.set_cons_succ, List.length_cons, List.length_nil, true_and, and_true, lit, eq_n]
    refine brs (fun c => take (Or.inl c)) (fun c => ?_)
    simp (disch := omega) only [q_X7_mostDoubted_85, q_X7_mostDoubted_86, q_X7_mostDoubted_89, q_X7_mostDoubted_90, q_X7_mostDoubted_93, hT2.1, y_is, y_gf, y_pf, y_f0, y_f1, y_f3, y_nI, y_nK, y_nZ, y_nL, y_nR, y_k1i, y_k1r, y_k1l, y_k1n, y_tl, y_tn, y_s, y_ss, List.getElem?_cons_zero, List.getElem?_cons_succ, List.set_cons_zero, List.set_cons_succ, List.length_cons, List.length_nil, true_and, and_true, hT2.2.1.is]
    refine s_isLess hT2.2.1 hT2.2.2.2 ?_
    rw [hL (by omega)]
    by_cases c2 : d40 sh do_ tr (sm sh n) i < d40 sh do_ tr (sm sh n) (lea (d40 sh do_ tr (sm sh n)) i)
    · rw [if_pos (show dbt (sh i) (sm sh n - sh i) (do_ i) (tr i) * sm sh n ^ (40 - tr i) < d40 sh do_ tr (sm sh n) (lea (d40 sh do_ tr (sm sh n)) i) from c2)]
      simp (disch := omega) only [q_X7_mostDoubted_96, y_is, y_gf, y_pf, y_f0, y_f1, y_f3, y_nI, y_nK, y_nZ, y_nL, y_nR, y_k1i, y_k1r, y_k1l, y_k1n, y_tl, y_tn, y_s, y_ss, List.getElem?_cons_zero, List.getElem?_cons_succ, List.set_cons_zero, List.set_cons_succ, List.length_cons, List.length_nil, true_and, and_true]
      exact br0 (by decide) (take (Or.inr c2))
    · rw [if_neg (show ¬ dbt (sh i) (sm sh n - sh i) (do_ i) (tr i) * sm sh n ^ (40 - tr i) < d40 sh do_ tr (sm sh n) (lea (d40 sh do_ tr (sm sh n)) i) from c2)]
      simp (disch := omega) only [q_X7_mostDoubted_96, q_X7_mostDoubted_113, q_X7_mostDoubted_116, y_is, y_gf, y_pf, y_f0, y_f1, y_f3, y_nI, y_nK, y_nZ, y_nL, y_nR, y_k1i, y_k1r, y_k1l, y_k1n, y_tl, y_tn, y_s, y_ss, List.getElem?_cons_zero, List.getElem?_cons_succ, List.set_cons_zero, List.set_cons_succ, List.length_cons, List.length_nil, true_and, and_true, lit, nI_add]
      refine br1 (by decide) ?_
      have e : lea (d40 sh do_ tr (sm sh n)) (i + 1) = lea (d40 sh do_ tr (sm sh n)) i := by rw [lea, if_neg (by omega)]
      have := ih (i + 1) g2 _ _ _ (.int (nI (tr i))) (.int (nI 40)) (by omega) hT2 (fun _ => by rw [e]; exact hL (by omega)) hW2 hf'
      rw [e] at this
      exact this
theorem s_most {g : mzG} {n S T L : Nat} {sh do_ tr : Nat → Nat} (hT : th g t S T L) (hW : wt g w v A) (hw : w + 12 ≤ t) (hv : v 0 = nI n) (hn : n ≤ 9) (hW8 : sm sh n ≤ 891) (hsh : ∀ i, i < n → A 1 i = nI (sh i) ∧ sh i ≤ sm sh n) (hdo : ∀ i, i < n → A 3 i = nI (do_ i) ∧ do_ i ≤ tr i) (htr : ∀ i, i < n → A 4 i = nI (tr i) ∧ tr i ≤ 40) (hQ : ∀ g' S' T' L', th g' t S' T' L' → fr g g' t (t + 7) → Q (some (.int (nI (lea (d40 sh do_ tr (sm sh n)) n)))) g') : wp 63 b 0 [.ref t, .ref w, .null, .null, .null, .null, .null] [] g Q := by
  simp (disch := omega) only [q_X7_mostDoubted_0, q_X7_mostDoubted_1, hW.1, y_is, y_gf, y_pf, y_f0, y_f1, y_f3, y_nI, y_nK, y_nZ, y_nL, y_nR, y_k1i, y_k1r, y_k1l, y_k1n, y_tl, y_tn, y_s, y_ss, List.getElem?_cons_zero, List.getElem?_cons_succ, List.set_cons_zero, List.set_cons_succ, List.length_cons, List.length_nil, true_and, and_true, y_is]
  refine s_whole hW hv hn ?_
  rw [sm_l (fun i hi => (hsh i hi).1)]
  simp (disch := omega) only [q_X7_mostDoubted_4, q_X7_mostDoubted_5, q_X7_mostDoubted_6, q_X7_mostDoubted_7, q_X7_mostDoubted_8, y_is, y_gf, y_pf, y_f0, y_f1, y_f3, y_nI, y_nK, y_nZ, y_nL, y_nR, y_k1i, y_k1r, y_k1l, y_k1n, y_tl, y_tn, y_s, y_ss, List.getElem?_cons_zero, List.getElem?_cons_succ, List.set_cons_zero, List.set_cons_succ, List.length_cons, List.length_nil, true_and, and_true, lit]
  exact s_most_loop g hw hv hn hW8 hsh hdo htr hQ n 0 g S T L _ _ (by omega) hT (fun h => by omega) hW fr.rf
end THIEVES2
