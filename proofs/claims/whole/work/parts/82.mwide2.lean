/-! ===== the reference: doubt, best, chance ===== -/
theorem dbW_le {W : Nat → Nat} (h : wv W) {p : Nat} (hp : p < W 0) : dbW W p ≤ whW W ^ trW W p := by
  have n9 := h.1.2
  have hb := h.2.1 p (by omega)
  have hg : shW W p ≤ whW W := sm_ge hp
  have := dbt_le (s := shW W p) (o := whW W - shW W p) (d := doW W p) (t := trW W p) (by have : doW W p ≤ trW W p := hb.2.2.2.1; omega)
  rw [show shW W p + (whW W - shW W p) = whW W by omega] at this
  exact this
theorem whp_le {W : Nat → Nat} (h : wv W) {p : Nat} (hp : p < W 0) : whW W ^ trW W p < BB ^ 31 := by
  have n9 := h.1.2
  have hb : trW W p ≤ 40 := (h.2.1 p (by omega)).2.2.2.2
  exact Nat.lt_of_le_of_lt (Nat.le_trans (Nat.pow_le_pow_left (whW_le h) _) (Nat.pow_le_pow_right (by decide) hb)) (by decide +kernel)
theorem rdc_0 {S : sT} {z : Nat} (hz : 0 < z) : rdc S 0 z = rdc S 0 1 := by
  unfold rdc
  rw [Nat.gcd_zero_left, Nat.gcd_zero_left, Nat.zero_div, Nat.zero_div, Nat.div_self hz]
section MWIDE2
variable {b : mzB} {g : mzG} {Q : mzQ} {S : sT}
theorem m_doubt {p : Int32} (h : MR g S) (hS : sv S) (hQ : mO g (oDoubt S p) Q) : wp 209 b 0 [.ref 73, .int p] [] g Q := by
  unfold oDoubt at hQ
  obtain ⟨x, r, hM, x0, x5⟩ := id h.mM
  obtain ⟨f, h74, hW⟩ := id h.mW
  obtain ⟨V, hV, -, -⟩ := id h.mV
  have hv := hS.vW
  have hwl := whW_le hv
  have n1 := hv.1.1
  have n9 := hv.1.2
  simp only [q_X11_doubt_0, q_X11_doubt_1, q_X11_doubt_2, hM, y_is, y_gf, y_pf, y_f0, y_f1, y_f3, y_nI, y_nK, y_nZ, y_nL, y_nR, y_k1i, y_k1r, y_k1l, y_k1n, y_tl, y_tn, y_s, y_ss, List.getElem?_cons_zero, List.getElem?_cons_succ, List.set_cons_zero, List.set_cons_succ, List.length_cons, List.length_nil, true_and, and_true]
  refine s_misPost hM h74 hW n1 n9 (fun z => ?_) (fun z => ?_)
  · obtain ⟨q, q1, q2, e⟩ := z
    subst e
    rw [inB_n (by omega) q1 q2, ck_n (by omega), if_pos rfl] at hQ
    simp only [q_X11_doubt_5, q_X11_doubt_15, q_X11_doubt_16, hM, y_is, y_gf, y_pf, y_f0, y_f1, y_f3, y_nI, y_nK, y_nZ, y_nL, y_nR, y_k1i, y_k1r, y_k1l, y_k1n, y_tl, y_tn, y_s, y_ss, List.getElem?_cons_zero, List.getElem?_cons_succ, List.set_cons_zero, List.set_cons_succ, List.length_cons, List.length_nil, true_and, and_true]
    refine br1 (by decide) (s_mwhole hM h74 hW rfl n9 ?_)
    show wp _ _ _ _ [.int (nI (whW S.W))] _ _
    simp (disch := omega) only [q_X11_doubt_19, y_is, y_gf, y_pf, y_f0, y_f1, y_f3, y_nI, y_nK, y_nZ, y_nL, y_nR, y_k1i, y_k1r, y_k1l, y_k1n, y_tl, y_tn, y_s, y_ss, List.getElem?_cons_zero, List.getElem?_cons_succ, List.set_cons_zero, List.set_cons_succ, List.length_cons, List.length_nil, true_and, and_true, lit, eq_n]
    by_cases c : whW S.W = 0
    · rw [bnt c]
      rw [if_pos c] at hQ
      simp only [q_X11_doubt_22, q_X11_doubt_23, hM, y_is, y_gf, y_pf, y_f0, y_f1, y_f3, y_nI, y_nK, y_nZ, y_nL, y_nR, y_k1i, y_k1r, y_k1l, y_k1n, y_tl, y_tn, y_s, y_ss, List.getElem?_cons_zero, List.getElem?_cons_succ, List.set_cons_zero, List.set_cons_succ, List.length_cons, List.length_nil, true_and, and_true]
      refine m_no h (fun g' a1 a2 => ?_)
      simp only [q_X11_doubt_26, y_is, y_gf, y_pf, y_f0, y_f1, y_f3, y_nI, y_nK, y_nZ, y_nL, y_nR, y_k1i, y_k1r, y_k1l, y_k1n, y_tl, y_tn, y_s, y_ss, List.getElem?_cons_zero, List.getElem?_cons_succ, List.set_cons_zero, List.set_cons_succ, List.length_cons, List.length_nil, true_and, and_true]
      exact hQ g' a1 a2
    · rw [bnf c]
      rw [if_neg c] at hQ
      simp only [q_X11_doubt_27, q_X11_doubt_28, q_X11_doubt_29, hM, y_is, y_gf, y_pf, y_f0, y_f1, y_f3, y_nI, y_nK, y_nZ, y_nL, y_nR, y_k1i, y_k1r, y_k1l, y_k1n, y_tl, y_tn, y_s, y_ss, List.getElem?_cons_zero, List.getElem?_cons_succ, List.set_cons_zero, List.set_cons_succ, List.length_cons, List.length_nil, true_and, and_true]
      refine s_layDoubt hM h74 hW rfl n9 (by omega) hv hV (fun g1 V1 hM1 hV1 h6 h7 _ hf1 => ?_)
      simp (disch := omega) only [q_X11_doubt_32, q_X11_doubt_33, q_X11_doubt_34, q_X11_doubt_36, hM1, y_is, y_gf, y_pf, y_f0, y_f1, y_f3, y_nI, y_nK, y_nZ, y_nL, y_nR, y_k1i, y_k1r, y_k1l, y_k1n, y_tl, y_tn, y_s, y_ss, List.getElem?_cons_zero, List.getElem?_cons_succ, List.set_cons_zero, List.set_cons_succ, List.length_cons, List.length_nil, true_and, and_true, lit]
      refine s_mcopy hM1 hV1 (by decide) (E0n _) (by decide) (E0n _) (by decide) (fun g2 hM2 hV2 hf2 => ?_)
      simp (disch := omega) only [q_X11_doubt_39, q_X11_doubt_40, q_X11_doubt_41, q_X11_doubt_43, hM2, y_is, y_gf, y_pf, y_f0, y_f1, y_f3, y_nI, y_nK, y_nZ, y_nL, y_nR, y_k1i, y_k1r, y_k1l, y_k1n, y_tl, y_tn, y_s, y_ss, List.getElem?_cons_zero, List.getElem?_cons_succ, List.set_cons_zero, List.set_cons_succ, List.length_cons, List.length_nil, true_and, and_true, lit]
      refine s_mcopy hM2 hV2 (by decide) (E0n _) (by decide) (E0n _) (by decide) (fun g3 hM3 hV3 hf3 => ?_)
      have e2 : va_up (va_up V1 2 (V1 6)) 3 (va_up V1 2 (V1 6) 7) 2 = dbW S.W q := by rw [up_n (by decide), up_s, h6]; rfl
      have e3 : va_up (va_up V1 2 (V1 6)) 3 (va_up V1 2 (V1 6) 7) 3 = whW S.W ^ trW S.W q := by rw [up_s, up_n (by decide), h7]; rfl
      simp (disch := omega) only [q_X11_doubt_46, q_X11_doubt_47, q_X11_doubt_48, q_X11_doubt_49, q_X11_doubt_50, hM3, y_is, y_gf, y_pf, y_f0, y_f1, y_f3, y_nI, y_nK, y_nZ, y_nL, y_nR, y_k1i, y_k1r, y_k1l, y_k1n, y_tl, y_tn, y_s, y_ss, List.getElem?_cons_zero, List.getElem?_cons_succ, List.set_cons_zero, List.set_cons_succ, List.length_cons, List.length_nil, true_and, and_true, lit]
      refine m_wide h x0 x5 ((hf1.tr hf2).tr hf3) hM3 hV3 (by decide) (by decide) (by decide) (by decide) (by rw [e3]; exact Nat.pow_pos (by omega)) (by rw [e2]; exact Nat.lt_of_le_of_lt (dbW_le hv (by omega)) (whp_le hv (by omega))) (by rw [e3]; exact whp_le hv (by omega)) (fun g4 k1 k2 => ?_)
      rw [e2, e3] at k1
      simp only [q_X11_doubt_53, q_X11_doubt_54, y_is, y_gf, y_pf, y_f0, y_f1, y_f3, y_nI, y_nK, y_nZ, y_nL, y_nR, y_k1i, y_k1r, y_k1l, y_k1n, y_tl, y_tn, y_s, y_ss, List.getElem?_cons_zero, List.getElem?_cons_succ, List.set_cons_zero, List.set_cons_succ, List.length_cons, List.length_nil, true_and, and_true]
      exact hQ g4 k1 k2
  · rw [inB_f (by omega) (by omega) z, if_neg (by decide)] at hQ
    simp only [q_X11_doubt_5, q_X11_doubt_8, q_X11_doubt_9, q_X11_doubt_11, hM, y_is, y_gf, y_pf, y_f0, y_f1, y_f3, y_nI, y_nK, y_nZ, y_nL, y_nR, y_k1i, y_k1r, y_k1l, y_k1n, y_tl, y_tn, y_s, y_ss, List.getElem?_cons_zero, List.getElem?_cons_succ, List.set_cons_zero, List.set_cons_succ, List.length_cons, List.length_nil, true_and, and_true]
    refine br0 (fun z => z (by first | decide | omega | trivial | simp)) (m_bad h (fun g' a1 a2 => ?_))
    simp only [q_X11_doubt_14, y_is, y_gf, y_pf, y_f0, y_f1, y_f3, y_nI, y_nK, y_nZ, y_nL, y_nR, y_k1i, y_k1r, y_k1l, y_k1n, y_tl, y_tn, y_s, y_ss, List.getElem?_cons_zero, List.getElem?_cons_succ, List.set_cons_zero, List.set_cons_succ, List.length_cons, List.length_nil, true_and, and_true]
    exact hQ g' a1 a2
theorem m_best {a : Int32} (h : MR g S) (hS : sv S) (hQ : mO g (oBest S a) Q) : wp 189 b 0 [.ref 73, .int a] [] g Q := by
  unfold oBest at hQ
  obtain ⟨x, r, hM, x0, x5⟩ := id h.mM
  obtain ⟨f, h74, hW⟩ := id h.mW
  obtain ⟨V, hV, -, -⟩ := id h.mV
  have hv := hS.vW
  have n1 := hv.1.1
  have n9 := hv.1.2
  simp only [q_X11_best_0, q_X11_best_1, q_X11_best_2, q_X11_best_3, q_X11_best_4, hM, y_is, y_gf, y_pf, y_f0, y_f1, y_f3, y_nI, y_nK, y_nZ, y_nL, y_nR, y_k1i, y_k1r, y_k1l, y_k1n, y_tl, y_tn, y_s, y_ss, List.getElem?_cons_zero, List.getElem?_cons_succ, List.set_cons_zero, List.set_cons_succ, List.length_cons, List.length_nil, true_and, and_true, litL]
  refine s_watched hM h74 hW ?_
  simp (disch := omega) only [q_X11_best_7, q_X11_best_8, y_is, y_gf, y_pf, y_f0, y_f1, y_f3, y_nI, y_nK, y_nZ, y_nL, y_nR, y_k1i, y_k1r, y_k1l, y_k1n, y_tl, y_tn, y_s, y_ss, List.getElem?_cons_zero, List.getElem?_cons_succ, List.set_cons_zero, List.set_cons_succ, List.length_cons, List.length_nil, true_and, and_true, i_l]
  refine s_inI (by decide) (by omega) (fun z => ?_) (fun z => ?_)
  · obtain ⟨m, m1, m2, e⟩ := z
    subst e
    rw [inB_n (by omega) m1 m2, ck_n (by omega), if_pos rfl] at hQ
    simp only [q_X11_best_11, q_X11_best_21, q_X11_best_22, q_X11_best_23, hM, y_is, y_gf, y_pf, y_f0, y_f1, y_f3, y_nI, y_nK, y_nZ, y_nL, y_nR, y_k1i, y_k1r, y_k1l, y_k1n, y_tl, y_tn, y_s, y_ss, List.getElem?_cons_zero, List.getElem?_cons_succ, List.set_cons_zero, List.set_cons_succ, List.length_cons, List.length_nil, true_and, and_true]
    refine br1 (by decide) (s_layBest (l := soW S.W) hM h74 hW rfl n9 m2 hv hV (srt_p _) (srt_s _) (fun g1 V1 hM1 hV1 h6 h7 _ hf1 => ?_))
    have hb := bsW_le hv (a := m) (by omega)
    have q1 : 9 * 99 ^ 9 < BB ^ 31 := by decide +kernel
    have q2 : 9 * 99 ^ 8 < BB ^ 31 := by decide +kernel
    simp (disch := omega) only [q_X11_best_26, q_X11_best_27, q_X11_best_28, q_X11_best_30, hM1, y_is, y_gf, y_pf, y_f0, y_f1, y_f3, y_nI, y_nK, y_nZ, y_nL, y_nR, y_k1i, y_k1r, y_k1l, y_k1n, y_tl, y_tn, y_s, y_ss, List.getElem?_cons_zero, List.getElem?_cons_succ, List.set_cons_zero, List.set_cons_succ, List.length_cons, List.length_nil, true_and, and_true, lit]
    refine s_mcopy hM1 hV1 (by decide) (E0n _) (by decide) (E0n _) (by decide) (fun g2 hM2 hV2 hf2 => ?_)
    simp (disch := omega) only [q_X11_best_33, q_X11_best_34, q_X11_best_35, q_X11_best_37, hM2, y_is, y_gf, y_pf, y_f0, y_f1, y_f3, y_nI, y_nK, y_nZ, y_nL, y_nR, y_k1i, y_k1r, y_k1l, y_k1n, y_tl, y_tn, y_s, y_ss, List.getElem?_cons_zero, List.getElem?_cons_succ, List.set_cons_zero, List.set_cons_succ, List.length_cons, List.length_nil, true_and, and_true, lit]
    refine s_mcopy hM2 hV2 (by decide) (E0n _) (by decide) (E0n _) (by decide) (fun g3 hM3 hV3 hf3 => ?_)
    have e2 : va_up (va_up V1 2 (V1 6)) 3 (va_up V1 2 (V1 6) 7) 2 = (bsW S.W m).1 := by rw [up_n (by decide), up_s, h6]; rfl
    have e3 : va_up (va_up V1 2 (V1 6)) 3 (va_up V1 2 (V1 6) 7) 3 = (bsW S.W m).2 := by rw [up_s, up_n (by decide), h7]; rfl
    simp (disch := omega) only [q_X11_best_40, q_X11_best_41, q_X11_best_42, q_X11_best_43, q_X11_best_44, hM3, y_is, y_gf, y_pf, y_f0, y_f1, y_f3, y_nI, y_nK, y_nZ, y_nL, y_nR, y_k1i, y_k1r, y_k1l, y_k1n, y_tl, y_tn, y_s, y_ss, List.getElem?_cons_zero, List.getElem?_cons_succ, List.set_cons_zero, List.set_cons_succ, List.length_cons, List.length_nil, true_and, and_true, lit]
    refine m_wide h x0 x5 ((hf1.tr hf2).tr hf3) hM3 hV3 (by decide) (by decide) (by decide) (by decide) (by rw [e3]; exact hb.2.1) (by rw [e2]; exact Nat.lt_of_le_of_lt hb.1 q1) (by rw [e3]; exact Nat.lt_of_le_of_lt hb.2.2 q2) (fun g4 k1 k2 => ?_)
    rw [e2, e3] at k1
    simp only [q_X11_best_47, q_X11_best_48, y_is, y_gf, y_pf, y_f0, y_f1, y_f3, y_nI, y_nK, y_nZ, y_nL, y_nR, y_k1i, y_k1r, y_k1l, y_k1n, y_tl, y_tn, y_s, y_ss, List.getElem?_cons_zero, List.getElem?_cons_succ, List.set_cons_zero, List.set_cons_succ, List.length_cons, List.length_nil, true_and, and_true]
    exact hQ g4 k1 k2
  · rw [inB_f (by omega) (by omega) z, if_neg (by decide)] at hQ
    simp only [q_X11_best_11, q_X11_best_14, q_X11_best_15, q_X11_best_17, hM, y_is, y_gf, y_pf, y_f0, y_f1, y_f3, y_nI, y_nK, y_nZ, y_nL, y_nR, y_k1i, y_k1r, y_k1l, y_k1n, y_tl, y_tn, y_s, y_ss, List.getElem?_cons_zero, List.getElem?_cons_succ, List.set_cons_zero, List.set_cons_succ, List.length_cons, List.length_nil, true_and, and_true]
    refine br0 (fun z => z (by first | decide | omega | trivial | simp)) (m_bad h (fun g' a1 a2 => ?_))
    simp only [q_X11_best_20, y_is, y_gf, y_pf, y_f0, y_f1, y_f3, y_nI, y_nK, y_nZ, y_nL, y_nR, y_k1i, y_k1r, y_k1l, y_k1n, y_tl, y_tn, y_s, y_ss, List.getElem?_cons_zero, List.getElem?_cons_succ, List.set_cons_zero, List.set_cons_succ, List.length_cons, List.length_nil, true_and, and_true]
    exact hQ g' a1 a2
theorem m_chance {a p : Int32} (h : MR g S) (hS : sv S) (hQ : mO g (oChance S a p) Q) : wp 190 b 0 [.ref 73, .int a, .int p, .null] [] g Q := by
  unfold oChance at hQ
  obtain ⟨x, r, hM, x0, x5⟩ := id h.mM
  obtain ⟨f, h74, hW⟩ := id h.mW
  obtain ⟨V, hV, v0, v1⟩ := id h.mV
  have hv := hS.vW
  have n1 := hv.1.1
  have n9 := hv.1.2
  have bad : (inB a 1 (S.W 0) && inB p 0 (S.W 0 - 1)) = false → wp 190 b 22 [.ref 73, .int a, .int p, .null] [] g Q := by
    intro e
    rw [e, if_neg (by decide)] at hQ
    simp only [q_X11_chance_22, q_X11_chance_23, q_X11_chance_25, hM, y_is, y_gf, y_pf, y_f0, y_f1, y_f3, y_nI, y_nK, y_nZ, y_nL, y_nR, y_k1i, y_k1r, y_k1l, y_k1n, y_tl, y_tn, y_s, y_ss, List.getElem?_cons_zero, List.getElem?_cons_succ, List.set_cons_zero, List.set_cons_succ, List.length_cons, List.length_nil, true_and, and_true]
    refine m_bad h (fun g' a1 a2 => ?_)
    simp only [q_X11_chance_28, y_is, y_gf, y_pf, y_f0, y_f1, y_f3, y_nI, y_nK, y_nZ, y_nL, y_nR, y_k1i, y_k1r, y_k1l, y_k1n, y_tl, y_tn, y_s, y_ss, List.getElem?_cons_zero, List.getElem?_cons_succ, List.set_cons_zero, List.set_cons_succ, List.length_cons, List.length_nil, true_and, and_true]
    exact hQ g' a1 a2
  simp only [q_X11_chance_0, q_X11_chance_1, q_X11_chance_2, q_X11_chance_3, q_X11_chance_4, hM, y_is, y_gf, y_pf, y_f0, y_f1, y_f3, y_nI, y_nK, y_nZ, y_nL, y_nR, y_k1i, y_k1r, y_k1l, y_k1n, y_tl, y_tn, y_s, y_ss, List.getElem?_cons_zero, List.getElem?_cons_succ, List.set_cons_zero, List.set_cons_succ, List.length_cons, List.length_nil, true_and, and_true, litL]
  refine s_watched hM h74 hW ?_
  simp (disch := omega) only [q_X11_chance_7, q_X11_chance_8, y_is, y_gf, y_pf, y_f0, y_f1, y_f3, y_nI, y_nK, y_nZ, y_nL, y_nR, y_k1i, y_k1r, y_k1l, y_k1n, y_tl, y_tn, y_s, y_ss, List.getElem?_cons_zero, List.getElem?_cons_succ, List.set_cons_zero, List.set_cons_succ, List.length_cons, List.length_nil, true_and, and_true, i_l]
  refine s_inI (by decide) (by omega) (fun z => ?_) (fun z => ?_)
  · obtain ⟨m, m1, m2, e⟩ := z
    subst e
    rw [inB_n (by omega) m1 m2, Bool.true_and] at bad hQ
    simp only [q_X11_chance_11, q_X11_chance_14, q_X11_chance_15, q_X11_chance_16, hM, y_is, y_gf, y_pf, y_f0, y_f1, y_f3, y_nI, y_nK, y_nZ, y_nL, y_nR, y_k1i, y_k1r, y_k1l, y_k1n, y_tl, y_tn, y_s, y_ss, List.getElem?_cons_zero, List.getElem?_cons_succ, List.set_cons_zero, List.set_cons_succ, List.length_cons, List.length_nil, true_and, and_true]
    refine br0 (by decide) (s_misPost hM h74 hW n1 n9 (fun z => ?_) (fun z => ?_))
    · obtain ⟨q, q1, q2, e⟩ := z
      subst e
      rw [inB_n (by omega) q1 q2, if_pos rfl, ck_n (by omega), ck_n (by omega)] at hQ
      have e1 : f (1 + q) = nI (woW S.W q) := by rw [hW (1 + q) (by omega), wI_n (by omega)]; rfl
      have w9 : woW S.W q ≤ 99 := (hv.2.1 q (by omega)).1
      have hno : nou (woW S.W) (S.W 0) = S.W 0 - (soW S.W).length := by
        have := nou_pw (woW S.W) (S.W 0)
        rw [soW_len]; omega
      have hn9 : nou (woW S.W) (S.W 0) ≤ 9 := by omega
      have hb := bsW_le hv (a := m) (by omega)
      have p1 : 9 * 99 ^ 9 < BB ^ 31 := by decide +kernel
      have p2 : 9 * 99 ^ 8 * 99 < BB ^ 31 := by decide +kernel
      have p3 : BB ^ 31 < BB ^ 63 := by decide +kernel
      have hm2 : (bsW S.W m).2 * woW S.W q ≤ 9 * 99 ^ 8 * 99 := Nat.mul_le_mul hb.2.2 w9
      unfold chW_ at hQ
      rw [← hno] at hQ
      simp (disch := omega) only [q_X11_chance_19, q_X11_chance_29, q_X11_chance_30, q_X11_chance_33, q_X11_chance_34, q_X11_chance_35, q_X11_chance_36, q_X11_chance_37, q_X11_chance_38, q_X11_chance_39, hM, h74, e1, y_is, y_gf, y_pf, y_f0, y_f1, y_f3, y_nI, y_nK, y_nZ, y_nL, y_nR, y_k1i, y_k1r, y_k1l, y_k1n, y_tl, y_tn, y_s, y_ss, List.getElem?_cons_zero, List.getElem?_cons_succ, List.set_cons_zero, List.set_cons_succ, List.length_cons, List.length_nil, true_and, and_true, y_lIn, y_lKn, y_lZn, y_lLn, y_wIn, y_wZn, y_wLn, lit, le_n, lt_n, eq_n, nI_add]
      refine br1 (by decide) (s_noughts hM h74 hW rfl n9 hv ?_)
      unfold chv at hQ
      generalize hz : nou (woW S.W) (S.W 0) = z at *
      simp (disch := omega) only [q_X11_chance_42, q_X11_chance_43, y_is, y_gf, y_pf, y_f0, y_f1, y_f3, y_nI, y_nK, y_nZ, y_nL, y_nR, y_k1i, y_k1r, y_k1l, y_k1n, y_tl, y_tn, y_s, y_ss, List.getElem?_cons_zero, List.getElem?_cons_succ, List.set_cons_zero, List.set_cons_succ, List.length_cons, List.length_nil, true_and, and_true, lt_n]
      refine brs (fun c => ?_) (fun c => ?_)
      · rw [if_neg (by omega)] at hQ
        simp (disch := omega) only [q_X11_chance_74, q_X11_chance_75, y_is, y_gf, y_pf, y_f0, y_f1, y_f3, y_nI, y_nK, y_nZ, y_nL, y_nR, y_k1i, y_k1r, y_k1l, y_k1n, y_tl, y_tn, y_s, y_ss, List.getElem?_cons_zero, List.getElem?_cons_succ, List.set_cons_zero, List.set_cons_succ, List.length_cons, List.length_nil, true_and, and_true, lit, eq_n]
        by_cases w0 : woW S.W q = 0
        · rw [bnt w0]
          rw [if_pos (Or.inl w0)] at hQ
          simp (disch := omega) only [q_X11_chance_78, q_X11_chance_79, q_X11_chance_80, q_X11_chance_81, hM, y_is, y_gf, y_pf, y_f0, y_f1, y_f3, y_nI, y_nK, y_nZ, y_nL, y_nR, y_k1i, y_k1r, y_k1l, y_k1n, y_tl, y_tn, y_s, y_ss, List.getElem?_cons_zero, List.getElem?_cons_succ, List.set_cons_zero, List.set_cons_succ, List.length_cons, List.length_nil, true_and, and_true, litL]
          refine m_small h (by decide) (by decide) (by decide) (fun g' a1 a2 => ?_)
          simp only [q_X11_chance_84, y_is, y_gf, y_pf, y_f0, y_f1, y_f3, y_nI, y_nK, y_nZ, y_nL, y_nR, y_k1i, y_k1r, y_k1l, y_k1n, y_tl, y_tn, y_s, y_ss, List.getElem?_cons_zero, List.getElem?_cons_succ, List.set_cons_zero, List.set_cons_succ, List.length_cons, List.length_nil, true_and, and_true]
          exact hQ g' a1 a2
        · rw [bnf w0]
          simp (disch := omega) only [q_X11_chance_85, q_X11_chance_86, q_X11_chance_87, hM, y_is, y_gf, y_pf, y_f0, y_f1, y_f3, y_nI, y_nK, y_nZ, y_nL, y_nR, y_k1i, y_k1r, y_k1l, y_k1n, y_tl, y_tn, y_s, y_ss, List.getElem?_cons_zero, List.getElem?_cons_succ, List.set_cons_zero, List.set_cons_succ, List.length_cons, List.length_nil, true_and, and_true]
          refine s_layBest (l := soW S.W) hM h74 hW rfl n9 m2 hv hV (srt_p _) (srt_s _) (fun g1 V1 hM1 hV1 h6 h7 hVk hf1 => ?_)
          have h6 : V1 6 = (bsW S.W m).1 := h6
          have h7 : V1 7 = (bsW S.W m).2 := h7
          simp (disch := omega) only [q_X11_chance_90, q_X11_chance_91, q_X11_chance_93, q_X11_chance_94, q_X11_chance_95, hM1, y_is, y_gf, y_pf, y_f0, y_f1, y_f3, y_nI, y_nK, y_nZ, y_nL, y_nR, y_k1i, y_k1r, y_k1l, y_k1n, y_tl, y_tn, y_s, y_ss, List.getElem?_cons_zero, List.getElem?_cons_succ, List.set_cons_zero, List.set_cons_succ, List.length_cons, List.length_nil, true_and, and_true, lit, i_l]
          refine s_mtimes hM1 hV1 (by decide) (E0n _) (by omega) (by rw [h7]; exact Nat.lt_of_le_of_lt hm2 (Nat.lt_trans p2 p3)) (fun g2 hM2 hV2 hf2 => ?_)
          simp (disch := omega) only [q_X11_chance_98, q_X11_chance_99, q_X11_chance_101, q_X11_chance_103, hM2, y_is, y_gf, y_pf, y_f0, y_f1, y_f3, y_nI, y_nK, y_nZ, y_nL, y_nR, y_k1i, y_k1r, y_k1l, y_k1n, y_tl, y_tn, y_s, y_ss, List.getElem?_cons_zero, List.getElem?_cons_succ, List.set_cons_zero, List.set_cons_succ, List.length_cons, List.length_nil, true_and, and_true, lit]
          refine s_mcompare hM2 hV2 (by decide) (E0n _) (by decide) (E0n _) ?_
          rw [up_s, up_n (by decide), h6, h7]
          simp only [q_X11_chance_106, y_is, y_gf, y_pf, y_f0, y_f1, y_f3, y_nI, y_nK, y_nZ, y_nL, y_nR, y_k1i, y_k1r, y_k1l, y_k1n, y_tl, y_tn, y_s, y_ss, List.getElem?_cons_zero, List.getElem?_cons_succ, List.set_cons_zero, List.set_cons_succ, List.length_cons, List.length_nil, true_and, and_true]
          have hf12 := hf1.tr hf2
          by_cases le : (bsW S.W m).2 * woW S.W q ≤ (bsW S.W m).1
          · rw [if_pos (Or.inr (by rw [Nat.mul_comm]; exact le))] at hQ
            refine br0 ?_ ?_
            · unfold cmpI
              rw [if_neg (by omega)]
              by_cases eq : (bsW S.W m).1 = (bsW S.W m).2 * woW S.W q
              · rw [if_pos eq]; decide
              · rw [if_neg eq]; decide
            · simp (disch := omega) only [q_X11_chance_109, q_X11_chance_110, q_X11_chance_111, q_X11_chance_112, hM2, y_is, y_gf, y_pf, y_f0, y_f1, y_f3, y_nI, y_nK, y_nZ, y_nL, y_nR, y_k1i, y_k1r, y_k1l, y_k1n, y_tl, y_tn, y_s, y_ss, List.getElem?_cons_zero, List.getElem?_cons_succ, List.set_cons_zero, List.set_cons_succ, List.length_cons, List.length_nil, true_and, and_true, litL]
              have h2 : MR g2 S := h.n (N := S.N) (D := S.D) (frn.of hf12) ⟨x, r, hM2, x0, x5⟩ ⟨_, hV2, by rw [up_n (by decide), hVk 0 (by decide) (by decide) (by decide)]; exact v0, by rw [up_n (by decide), hVk 1 (by decide) (by decide) (by decide)]; exact v1⟩
              refine m_small h2 (by decide) (by decide) (by decide) (fun g' a1 a2 => ?_)
              simp only [q_X11_chance_115, y_is, y_gf, y_pf, y_f0, y_f1, y_f3, y_nI, y_nK, y_nZ, y_nL, y_nR, y_k1i, y_k1r, y_k1l, y_k1n, y_tl, y_tn, y_s, y_ss, List.getElem?_cons_zero, List.getElem?_cons_succ, List.set_cons_zero, List.set_cons_succ, List.length_cons, List.length_nil, true_and, and_true]
              exact hQ g' a1 ((hf12.wide (by omega) (by omega)).tr a2)
          · rw [if_neg (by rintro (u | u); exact w0 u; exact le (by rw [Nat.mul_comm]; exact u))] at hQ
            refine br1 (by unfold cmpI; rw [if_pos (by omega)]; decide) ?_
            simp (disch := omega) only [q_X11_chance_116, q_X11_chance_117, q_X11_chance_118, q_X11_chance_120, hM2, y_is, y_gf, y_pf, y_f0, y_f1, y_f3, y_nI, y_nK, y_nZ, y_nL, y_nR, y_k1i, y_k1r, y_k1l, y_k1n, y_tl, y_tn, y_s, y_ss, List.getElem?_cons_zero, List.getElem?_cons_succ, List.set_cons_zero, List.set_cons_succ, List.length_cons, List.length_nil, true_and, and_true, lit]
            refine s_mcopy hM2 hV2 (by decide) (E0n _) (by decide) (E0n _) (by decide) (fun g3 hM3 hV3 hf3 => ?_)
            simp (disch := omega) only [q_X11_chance_123, q_X11_chance_124, q_X11_chance_125, q_X11_chance_127, hM3, y_is, y_gf, y_pf, y_f0, y_f1, y_f3, y_nI, y_nK, y_nZ, y_nL, y_nR, y_k1i, y_k1r, y_k1l, y_k1n, y_tl, y_tn, y_s, y_ss, List.getElem?_cons_zero, List.getElem?_cons_succ, List.set_cons_zero, List.set_cons_succ, List.length_cons, List.length_nil, true_and, and_true, lit]
            refine s_mcopy hM3 hV3 (by decide) (E0n _) (by decide) (E0n _) (by decide) (fun g4 hM4 hV4 hf4 => ?_)
            generalize hV5 : va_up (va_up (va_up V1 7 (V1 7 * woW S.W q)) 2 _) 3 _ = V5 at hV4
            have e2 : V5 2 = (bsW S.W m).1 := by rw [← hV5, up_n (by decide), up_s, up_n (by decide), h6]
            have e3 : V5 3 = woW S.W q * (bsW S.W m).2 := by rw [← hV5, up_s, up_n (by decide), up_s, h7, Nat.mul_comm]
            simp (disch := omega) only [q_X11_chance_130, q_X11_chance_131, q_X11_chance_132, q_X11_chance_133, q_X11_chance_134, hM4, y_is, y_gf, y_pf, y_f0, y_f1, y_f3, y_nI, y_nK, y_nZ, y_nL, y_nR, y_k1i, y_k1r, y_k1l, y_k1n, y_tl, y_tn, y_s, y_ss, List.getElem?_cons_zero, List.getElem?_cons_succ, List.set_cons_zero, List.set_cons_succ, List.length_cons, List.length_nil, true_and, and_true, lit]
            refine m_wide h x0 x5 ((hf12.tr hf3).tr hf4) hM4 hV4 (by decide) (by decide) (by decide) (by decide) (by rw [e3]; exact Nat.mul_pos (by omega) hb.2.1) (by rw [e2]; exact Nat.lt_of_le_of_lt hb.1 p1) (by rw [e3, Nat.mul_comm]; exact Nat.lt_of_le_of_lt hm2 p2) (fun g5 k1 k2 => ?_)
            rw [e2, e3] at k1
            simp only [q_X11_chance_137, q_X11_chance_138, y_is, y_gf, y_pf, y_f0, y_f1, y_f3, y_nI, y_nK, y_nZ, y_nL, y_nR, y_k1i, y_k1r, y_k1l, y_k1n, y_tl, y_tn, y_s, y_ss, List.getElem?_cons_zero, List.getElem?_cons_succ, List.set_cons_zero, List.set_cons_succ, List.length_cons, List.length_nil, true_and, and_true]
            exact hQ g5 k1 k2
      · rw [if_pos (by omega)] at hQ
        simp (disch := omega) only [q_X11_chance_46, q_X11_chance_47, q_X11_chance_48, y_is, y_gf, y_pf, y_f0, y_f1, y_f3, y_nI, y_nK, y_nZ, y_nL, y_nR, y_k1i, y_k1r, y_k1l, y_k1n, y_tl, y_tn, y_s, y_ss, List.getElem?_cons_zero, List.getElem?_cons_succ, List.set_cons_zero, List.set_cons_succ, List.length_cons, List.length_nil, true_and, and_true, lit, eq_n]
        by_cases w0 : woW S.W q = 0
        · rw [bnt w0]
          rw [if_pos w0] at hQ
          simp (disch := omega) only [q_X11_chance_51, q_X11_chance_52, q_X11_chance_53, q_X11_chance_57, q_X11_chance_58, y_is, y_gf, y_pf, y_f0, y_f1, y_f3, y_nI, y_nK, y_nZ, y_nL, y_nR, y_k1i, y_k1r, y_k1l, y_k1n, y_tl, y_tn, y_s, y_ss, List.getElem?_cons_zero, List.getElem?_cons_succ, List.set_cons_zero, List.set_cons_succ, List.length_cons, List.length_nil, true_and, and_true, lit, eq_n, i_l]
          rw [bnt w0]
          simp (disch := omega) only [q_X11_chance_61, q_X11_chance_62, hM, y_is, y_gf, y_pf, y_f0, y_f1, y_f3, y_nI, y_nK, y_nZ, y_nL, y_nR, y_k1i, y_k1r, y_k1l, y_k1n, y_tl, y_tn, y_s, y_ss, List.getElem?_cons_zero, List.getElem?_cons_succ, List.set_cons_zero, List.set_cons_succ, List.length_cons, List.length_nil, true_and, and_true]
          refine s_noughts hM h74 hW rfl n9 hv ?_
          rw [hz]
          simp (disch := omega) only [q_X11_chance_65, q_X11_chance_66, q_X11_chance_69, q_X11_chance_70, hM, y_is, y_gf, y_pf, y_f0, y_f1, y_f3, y_nI, y_nK, y_nZ, y_nL, y_nR, y_k1i, y_k1r, y_k1l, y_k1n, y_tl, y_tn, y_s, y_ss, List.getElem?_cons_zero, List.getElem?_cons_succ, List.set_cons_zero, List.set_cons_succ, List.length_cons, List.length_nil, true_and, and_true, i_l]
          refine m_small h (by omega) (by omega) (by omega) (fun g' a1 a2 => ?_)
          simp only [q_X11_chance_73, y_is, y_gf, y_pf, y_f0, y_f1, y_f3, y_nI, y_nK, y_nZ, y_nL, y_nR, y_k1i, y_k1r, y_k1l, y_k1n, y_tl, y_tn, y_s, y_ss, List.getElem?_cons_zero, List.getElem?_cons_succ, List.set_cons_zero, List.set_cons_succ, List.length_cons, List.length_nil, true_and, and_true]
          exact hQ g' a1 a2
        · rw [bnf w0]
          rw [if_neg w0] at hQ
          simp (disch := omega) only [q_X11_chance_56, q_X11_chance_57, q_X11_chance_58, y_is, y_gf, y_pf, y_f0, y_f1, y_f3, y_nI, y_nK, y_nZ, y_nL, y_nR, y_k1i, y_k1r, y_k1l, y_k1n, y_tl, y_tn, y_s, y_ss, List.getElem?_cons_zero, List.getElem?_cons_succ, List.set_cons_zero, List.set_cons_succ, List.length_cons, List.length_nil, true_and, and_true, lit, eq_n]
          rw [bnf w0]
          simp (disch := omega) only [q_X11_chance_69, q_X11_chance_70, hM, y_is, y_gf, y_pf, y_f0, y_f1, y_f3, y_nI, y_nK, y_nZ, y_nL, y_nR, y_k1i, y_k1r, y_k1l, y_k1n, y_tl, y_tn, y_s, y_ss, List.getElem?_cons_zero, List.getElem?_cons_succ, List.set_cons_zero, List.set_cons_succ, List.length_cons, List.length_nil, true_and, and_true, litL]
          refine m_small h (by decide) (by decide) (by decide) (fun g' a1 a2 => ?_)
          simp only [q_X11_chance_73, y_is, y_gf, y_pf, y_f0, y_f1, y_f3, y_nI, y_nK, y_nZ, y_nL, y_nR, y_k1i, y_k1r, y_k1l, y_k1n, y_tl, y_tn, y_s, y_ss, List.getElem?_cons_zero, List.getElem?_cons_succ, List.set_cons_zero, List.set_cons_succ, List.length_cons, List.length_nil, true_and, and_true]
          have hz0 : 0 < z := by omega
          rw [rdc_0 hz0] at hQ
          exact hQ g' a1 a2
    · simp only [q_X11_chance_19, y_is, y_gf, y_pf, y_f0, y_f1, y_f3, y_nI, y_nK, y_nZ, y_nL, y_nR, y_k1i, y_k1r, y_k1l, y_k1n, y_tl, y_tn, y_s, y_ss, List.getElem?_cons_zero, List.getElem?_cons_succ, List.set_cons_zero, List.set_cons_succ, List.length_cons, List.length_nil, true_and, and_true]
      exact br0 (fun z => z (by first | decide | omega | trivial | simp)) (bad (by rw [inB_f (by decide) (by omega) z]))
  · simp only [q_X11_chance_11, y_is, y_gf, y_pf, y_f0, y_f1, y_f3, y_nI, y_nK, y_nZ, y_nL, y_nR, y_k1i, y_k1r, y_k1l, y_k1n, y_tl, y_tn, y_s, y_ss, List.getElem?_cons_zero, List.getElem?_cons_succ, List.set_cons_zero, List.set_cons_succ, List.length_cons, List.length_nil, true_and, and_true]
    exact br1 (by first | decide | omega | trivial | simp) (bad (by rw [inB_f (by decide) (by omega) z, Bool.false_and]))
end MWIDE2
