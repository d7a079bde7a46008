/-! ===== the reference: the small fractions ===== -/
section MFRAC
variable {b : mzB} {g : mzG} {Q : mzQ} {S : sT}
theorem m_small {a c : Nat} (h : MR g S) (hc0 : 0 < c) (ha : a < 9223372036854775808) (hc : c < 9223372036854775808) (hQ : mO g (rdc S a c, 1) Q) : wp 176 b 0 [.ref 73, .long (lN a), .null, .long (lN c), .null] [] g Q := by
  obtain ⟨x, r, hM, x0, x5⟩ := id h.mM
  obtain ⟨V, hV, v0, v1⟩ := id h.mV
  refine s_mtellSmall hM hV hc0 ha hc (fun g' V' k1 k2 k3 k4 k5 => ?_)
  obtain ⟨x2, a1, a2, a3⟩ := mo_x k1
  refine hQ g' (h.n k5 ⟨x2, r, a1, a2.trans ?_, a3.trans x5⟩ ⟨V', k2, k3, k4⟩) ⟨k5.1, fun k hk => k5.2 k (by omega) (by omega) (by omega)⟩
  unfold sgN
  by_cases e : a = 0
  · subst e
    rw [if_pos rfl, if_pos (Nat.zero_div _)]
  · rw [if_neg e, if_neg]
    intro q
    have hd := Nat.gcd_dvd_left a c
    have hg : 0 < Nat.gcd a c := Nat.gcd_pos_of_pos_right _ hc0
    have := Nat.div_mul_cancel hd
    rw [q, Nat.zero_mul] at this
    exact e this.symm
theorem m_has {p : Int32} (h : MR g S) (hS : sv S) (hQ : mO g (oHas S p) Q) : wp 178 b 0 [.ref 73, .int p] [] g Q := by
  unfold oHas at hQ
  obtain ⟨x, r, hM, -⟩ := id h.mM
  obtain ⟨f, h74, hW⟩ := id h.mW
  have hv := hS.vW
  have hwl := whW_le hv
  have n1 := hv.1.1
  have n9 := hv.1.2
  simp only [q_X11_has_0, q_X11_has_1, q_X11_has_2, hM, y_is, y_gf, y_pf, y_f0, y_f1, y_f3, y_nI, y_nK, y_nZ, y_nL, y_nR, y_k1i, y_k1r, y_k1l, y_k1n, y_tl, y_tn, y_s, y_ss, List.getElem?_cons_zero, List.getElem?_cons_succ, List.set_cons_zero, List.set_cons_succ, List.length_cons, List.length_nil, true_and, and_true]
  refine s_misPost hM h74 hW n1 n9 (fun z => ?_) (fun z => ?_)
  · obtain ⟨q, q1, q2, e⟩ := z
    subst e
    rw [inB_n (by omega) q1 q2, ck_n (by omega), if_pos rfl] at hQ
    have hq9 := hau_le hv (i := q) (by omega)
    simp only [q_X11_has_5, q_X11_has_15, q_X11_has_16, hM, y_is, y_gf, y_pf, y_f0, y_f1, y_f3, y_nI, y_nK, y_nZ, y_nL, y_nR, y_k1i, y_k1r, y_k1l, y_k1n, y_tl, y_tn, y_s, y_ss, List.getElem?_cons_zero, List.getElem?_cons_succ, List.set_cons_zero, List.set_cons_succ, List.length_cons, List.length_nil, true_and, and_true]
    refine br1 (by decide) (s_mwhole hM h74 hW rfl n9 ?_)
    show wp _ _ _ _ [.int (nI (whW S.W))] _ _
    simp (disch := omega) only [q_X11_has_19, y_is, y_gf, y_pf, y_f0, y_f1, y_f3, y_nI, y_nK, y_nZ, y_nL, y_nR, y_k1i, y_k1r, y_k1l, y_k1n, y_tl, y_tn, y_s, y_ss, List.getElem?_cons_zero, List.getElem?_cons_succ, List.set_cons_zero, List.set_cons_succ, List.length_cons, List.length_nil, true_and, and_true, lit, eq_n]
    by_cases c : whW S.W = 0
    · rw [bnt c]
      rw [if_pos c] at hQ
      simp only [q_X11_has_22, q_X11_has_23, hM, y_is, y_gf, y_pf, y_f0, y_f1, y_f3, y_nI, y_nK, y_nZ, y_nL, y_nR, y_k1i, y_k1r, y_k1l, y_k1n, y_tl, y_tn, y_s, y_ss, List.getElem?_cons_zero, List.getElem?_cons_succ, List.set_cons_zero, List.set_cons_succ, List.length_cons, List.length_nil, true_and, and_true]
      refine m_no h (fun g' a1 a2 => ?_)
      simp only [q_X11_has_26, q_X11_has_44, y_is, y_gf, y_pf, y_f0, y_f1, y_f3, y_nI, y_nK, y_nZ, y_nL, y_nR, y_k1i, y_k1r, y_k1l, y_k1n, y_tl, y_tn, y_s, y_ss, List.getElem?_cons_zero, List.getElem?_cons_succ, List.set_cons_zero, List.set_cons_succ, List.length_cons, List.length_nil, true_and, and_true]
      exact hQ g' a1 a2
    · rw [bnf c]
      rw [if_neg c] at hQ
      simp only [q_X11_has_29, q_X11_has_30, q_X11_has_31, q_X11_has_32, hM, y_is, y_gf, y_pf, y_f0, y_f1, y_f3, y_nI, y_nK, y_nZ, y_nL, y_nR, y_k1i, y_k1r, y_k1l, y_k1n, y_tl, y_tn, y_s, y_ss, List.getElem?_cons_zero, List.getElem?_cons_succ, List.set_cons_zero, List.set_cons_succ, List.length_cons, List.length_nil, true_and, and_true]
      refine s_haul hM h74 hW (by omega) ?_
      show wp _ _ _ _ [.int (nI (hauW S.W q)), _] _ _
      simp (disch := omega) only [q_X11_has_35, q_X11_has_36, q_X11_has_37, hM, y_is, y_gf, y_pf, y_f0, y_f1, y_f3, y_nI, y_nK, y_nZ, y_nL, y_nR, y_k1i, y_k1r, y_k1l, y_k1n, y_tl, y_tn, y_s, y_ss, List.getElem?_cons_zero, List.getElem?_cons_succ, List.set_cons_zero, List.set_cons_succ, List.length_cons, List.length_nil, true_and, and_true, i_l]
      refine s_mwhole hM h74 hW rfl n9 ?_
      show wp _ _ _ _ [.int (nI (whW S.W)), _, _] _ _
      simp (disch := omega) only [q_X11_has_40, q_X11_has_41, hM, y_is, y_gf, y_pf, y_f0, y_f1, y_f3, y_nI, y_nK, y_nZ, y_nL, y_nR, y_k1i, y_k1r, y_k1l, y_k1n, y_tl, y_tn, y_s, y_ss, List.getElem?_cons_zero, List.getElem?_cons_succ, List.set_cons_zero, List.set_cons_succ, List.length_cons, List.length_nil, true_and, and_true, i_l]
      refine m_small h (by omega) (by omega) (by omega) (fun g' a1 a2 => ?_)
      simp only [q_X11_has_44, y_is, y_gf, y_pf, y_f0, y_f1, y_f3, y_nI, y_nK, y_nZ, y_nL, y_nR, y_k1i, y_k1r, y_k1l, y_k1n, y_tl, y_tn, y_s, y_ss, List.getElem?_cons_zero, List.getElem?_cons_succ, List.set_cons_zero, List.set_cons_succ, List.length_cons, List.length_nil, true_and, and_true]
      exact hQ g' a1 a2
  · rw [inB_f (by omega) (by omega) z, if_neg (by decide)] at hQ
    simp only [q_X11_has_5, q_X11_has_8, q_X11_has_9, q_X11_has_11, hM, y_is, y_gf, y_pf, y_f0, y_f1, y_f3, y_nI, y_nK, y_nZ, y_nL, y_nR, y_k1i, y_k1r, y_k1l, y_k1n, y_tl, y_tn, y_s, y_ss, List.getElem?_cons_zero, List.getElem?_cons_succ, List.set_cons_zero, List.set_cons_succ, List.length_cons, List.length_nil, true_and, and_true]
    refine br0 (fun z => z (by first | decide | omega | trivial | simp)) (m_bad h (fun g' a1 a2 => ?_))
    simp only [q_X11_has_14, y_is, y_gf, y_pf, y_f0, y_f1, y_f3, y_nI, y_nK, y_nZ, y_nL, y_nR, y_k1i, y_k1r, y_k1l, y_k1n, y_tl, y_tn, y_s, y_ss, List.getElem?_cons_zero, List.getElem?_cons_succ, List.set_cons_zero, List.set_cons_succ, List.length_cons, List.length_nil, true_and, and_true]
    exact hQ g' a1 a2
theorem m_tries (h : MR g S) (hS : sv S) (hQ : mO g (oTries S) Q) : wp 180 b 0 [.ref 73] [] g Q := by
  unfold oTries at hQ
  obtain ⟨x, r, hM, -⟩ := id h.mM
  obtain ⟨f, h74, hW⟩ := id h.mW
  have hv := hS.vW
  have hwl := whW_le hv
  have n1 := hv.1.1
  have n9 := hv.1.2
  simp only [q_X11_tries_0, q_X11_tries_1, hM, y_is, y_gf, y_pf, y_f0, y_f1, y_f3, y_nI, y_nK, y_nZ, y_nL, y_nR, y_k1i, y_k1r, y_k1l, y_k1n, y_tl, y_tn, y_s, y_ss, List.getElem?_cons_zero, List.getElem?_cons_succ, List.set_cons_zero, List.set_cons_succ, List.length_cons, List.length_nil, true_and, and_true]
  refine s_mwhole hM h74 hW rfl n9 ?_
  show wp _ _ _ _ [.int (nI (whW S.W))] _ _
  simp (disch := omega) only [q_X11_tries_4, y_is, y_gf, y_pf, y_f0, y_f1, y_f3, y_nI, y_nK, y_nZ, y_nL, y_nR, y_k1i, y_k1r, y_k1l, y_k1n, y_tl, y_tn, y_s, y_ss, List.getElem?_cons_zero, List.getElem?_cons_succ, List.set_cons_zero, List.set_cons_succ, List.length_cons, List.length_nil, true_and, and_true, lit, eq_n]
  by_cases c : whW S.W = 0
  · rw [bnt c]
    rw [if_pos c] at hQ
    simp only [q_X11_tries_7, q_X11_tries_8, hM, y_is, y_gf, y_pf, y_f0, y_f1, y_f3, y_nI, y_nK, y_nZ, y_nL, y_nR, y_k1i, y_k1r, y_k1l, y_k1n, y_tl, y_tn, y_s, y_ss, List.getElem?_cons_zero, List.getElem?_cons_succ, List.set_cons_zero, List.set_cons_succ, List.length_cons, List.length_nil, true_and, and_true]
    refine m_no h (fun g' a1 a2 => ?_)
    simp only [q_X11_tries_11, q_X11_tries_18, y_is, y_gf, y_pf, y_f0, y_f1, y_f3, y_nI, y_nK, y_nZ, y_nL, y_nR, y_k1i, y_k1r, y_k1l, y_k1n, y_tl, y_tn, y_s, y_ss, List.getElem?_cons_zero, List.getElem?_cons_succ, List.set_cons_zero, List.set_cons_succ, List.length_cons, List.length_nil, true_and, and_true]
    exact hQ g' a1 a2
  · rw [bnf c]
    rw [if_neg c] at hQ
    simp only [q_X11_tries_14, q_X11_tries_15, hM, y_is, y_gf, y_pf, y_f0, y_f1, y_f3, y_nI, y_nK, y_nZ, y_nL, y_nR, y_k1i, y_k1r, y_k1l, y_k1n, y_tl, y_tn, y_s, y_ss, List.getElem?_cons_zero, List.getElem?_cons_succ, List.set_cons_zero, List.set_cons_succ, List.length_cons, List.length_nil, true_and, and_true]
    refine s_bestPost hM h74 hW rfl n1 n9 hv ?_
    simp only [q_X11_tries_18, y_is, y_gf, y_pf, y_f0, y_f1, y_f3, y_nI, y_nK, y_nZ, y_nL, y_nR, y_k1i, y_k1r, y_k1l, y_k1n, y_tl, y_tn, y_s, y_ss, List.getElem?_cons_zero, List.getElem?_cons_succ, List.set_cons_zero, List.set_cons_succ, List.length_cons, List.length_nil, true_and, and_true]
    exact hQ g h fr.rf
theorem m_knows (h : MR g S) (hS : sv S) (hQ : mO g (oKnows S) Q) : wp 184 b 0 [.ref 73, .null, .null] [] g Q := by
  unfold oKnows at hQ
  obtain ⟨x, r, hM, -⟩ := id h.mM
  obtain ⟨f, h74, hW⟩ := id h.mW
  have hv := hS.vW
  have hwl := whW_le hv
  have n1 := hv.1.1
  have n9 := hv.1.2
  have hsl := smh_le hv
  have hle := hvN_lt (hauW S.W) (S.W 0)
  have hge := sm_ge (f := hauW S.W) (n := S.W 0) (i := hvN (hauW S.W) (S.W 0)) (by omega)
  simp only [q_X11_knows_0, q_X11_knows_1, hM, y_is, y_gf, y_pf, y_f0, y_f1, y_f3, y_nI, y_nK, y_nZ, y_nL, y_nR, y_k1i, y_k1r, y_k1l, y_k1n, y_tl, y_tn, y_s, y_ss, List.getElem?_cons_zero, List.getElem?_cons_succ, List.set_cons_zero, List.set_cons_succ, List.length_cons, List.length_nil, true_and, and_true]
  refine s_mwhole hM h74 hW rfl n9 ?_
  show wp _ _ _ _ [.int (nI (whW S.W))] _ _
  simp (disch := omega) only [q_X11_knows_4, y_is, y_gf, y_pf, y_f0, y_f1, y_f3, y_nI, y_nK, y_nZ, y_nL, y_nR, y_k1i, y_k1r, y_k1l, y_k1n, y_tl, y_tn, y_s, y_ss, List.getElem?_cons_zero, List.getElem?_cons_succ, List.set_cons_zero, List.set_cons_succ, List.length_cons, List.length_nil, true_and, and_true, lit, eq_n]
  by_cases c : whW S.W = 0
  · rw [bnt c]
    rw [if_pos c] at hQ
    simp only [q_X11_knows_7, q_X11_knows_8, hM, y_is, y_gf, y_pf, y_f0, y_f1, y_f3, y_nI, y_nK, y_nZ, y_nL, y_nR, y_k1i, y_k1r, y_k1l, y_k1n, y_tl, y_tn, y_s, y_ss, List.getElem?_cons_zero, List.getElem?_cons_succ, List.set_cons_zero, List.set_cons_succ, List.length_cons, List.length_nil, true_and, and_true]
    refine m_no h (fun g' a1 a2 => ?_)
    simp only [q_X11_knows_11, y_is, y_gf, y_pf, y_f0, y_f1, y_f3, y_nI, y_nK, y_nZ, y_nL, y_nR, y_k1i, y_k1r, y_k1l, y_k1n, y_tl, y_tn, y_s, y_ss, List.getElem?_cons_zero, List.getElem?_cons_succ, List.set_cons_zero, List.set_cons_succ, List.length_cons, List.length_nil, true_and, and_true]
    exact hQ g' a1 a2
  · rw [bnf c]
    rw [if_neg c] at hQ
    have loop : ∀ d i, i + d = S.W 0 → wp 184 b 16 [.ref 73, .int (nI (sm (hauW S.W) i)), .int (nI i)] [] g Q := by
      intro d
      induction d with
      | zero =>
        intro i hi
        have hi : i = S.W 0 := by omega
        subst hi
        rw [q_X11_knows_16]
        simp (disch := omega) only [q_X11_knows_17, q_X11_knows_18, hM, y_is, y_gf, y_pf, y_f0, y_f1, y_f3, y_nI, y_nK, y_nZ, y_nL, y_nR, y_k1i, y_k1r, y_k1l, y_k1n, y_tl, y_tn, y_s, y_ss, List.getElem?_cons_zero, List.getElem?_cons_succ, List.set_cons_zero, List.set_cons_succ, List.length_cons, List.length_nil, true_and, and_true]
        refine s_watched hM h74 hW ?_
        simp (disch := omega) only [q_X11_knows_21, q_X11_knows_38, q_X11_knows_39, q_X11_knows_40, q_X11_knows_41, q_X11_knows_42, hM, y_is, y_gf, y_pf, y_f0, y_f1, y_f3, y_nI, y_nK, y_nZ, y_nL, y_nR, y_k1i, y_k1r, y_k1l, y_k1n, y_tl, y_tn, y_s, y_ss, List.getElem?_cons_zero, List.getElem?_cons_succ, List.set_cons_zero, List.set_cons_succ, List.length_cons, List.length_nil, true_and, and_true, le_n]
        refine br1 (by first | decide | omega | trivial | simp) (s_bestPost hM h74 hW rfl n1 n9 hv ?_)
        simp (disch := omega) only [q_X11_knows_45, hM, y_is, y_gf, y_pf, y_f0, y_f1, y_f3, y_nI, y_nK, y_nZ, y_nL, y_nR, y_k1i, y_k1r, y_k1l, y_k1n, y_tl, y_tn, y_s, y_ss, List.getElem?_cons_zero, List.getElem?_cons_succ, List.set_cons_zero, List.set_cons_succ, List.length_cons, List.length_nil, true_and, and_true]
        refine s_haul hM h74 hW (by omega) ?_
        show wp _ _ _ _ [.int (nI (hauW S.W (hvN (hauW S.W) (S.W 0)))), _, _] _ _
        simp (disch := omega) only [q_X11_knows_48, q_X11_knows_49, q_X11_knows_50, q_X11_knows_51, hM, y_is, y_gf, y_pf, y_f0, y_f1, y_f3, y_nI, y_nK, y_nZ, y_nL, y_nR, y_k1i, y_k1r, y_k1l, y_k1n, y_tl, y_tn, y_s, y_ss, List.getElem?_cons_zero, List.getElem?_cons_succ, List.set_cons_zero, List.set_cons_succ, List.length_cons, List.length_nil, true_and, and_true, pk_sub, i_l]
        refine s_mwhole hM h74 hW rfl n9 ?_
        show wp _ _ _ _ [.int (nI (whW S.W)), _, _] _ _
        simp (disch := omega) only [q_X11_knows_54, q_X11_knows_55, hM, y_is, y_gf, y_pf, y_f0, y_f1, y_f3, y_nI, y_nK, y_nZ, y_nL, y_nR, y_k1i, y_k1r, y_k1l, y_k1n, y_tl, y_tn, y_s, y_ss, List.getElem?_cons_zero, List.getElem?_cons_succ, List.set_cons_zero, List.set_cons_succ, List.length_cons, List.length_nil, true_and, and_true, i_l]
        refine m_small h (by omega) (by omega) (by omega) (fun g' a1 a2 => ?_)
        simp only [q_X11_knows_58, y_is, y_gf, y_pf, y_f0, y_f1, y_f3, y_nI, y_nK, y_nZ, y_nL, y_nR, y_k1i, y_k1r, y_k1l, y_k1n, y_tl, y_tn, y_s, y_ss, List.getElem?_cons_zero, List.getElem?_cons_succ, List.set_cons_zero, List.set_cons_succ, List.length_cons, List.length_nil, true_and, and_true]
        exact hQ g' a1 a2
      | succ d ih =>
        intro i hi
        rw [q_X11_knows_16]
        simp (disch := omega) only [q_X11_knows_17, q_X11_knows_18, hM, y_is, y_gf, y_pf, y_f0, y_f1, y_f3, y_nI, y_nK, y_nZ, y_nL, y_nR, y_k1i, y_k1r, y_k1l, y_k1n, y_tl, y_tn, y_s, y_ss, List.getElem?_cons_zero, List.getElem?_cons_succ, List.set_cons_zero, List.set_cons_succ, List.length_cons, List.length_nil, true_and, and_true]
        refine s_watched hM h74 hW ?_
        simp (disch := omega) only [q_X11_knows_21, q_X11_knows_24, q_X11_knows_25, q_X11_knows_26, q_X11_knows_27, hM, y_is, y_gf, y_pf, y_f0, y_f1, y_f3, y_nI, y_nK, y_nZ, y_nL, y_nR, y_k1i, y_k1r, y_k1l, y_k1n, y_tl, y_tn, y_s, y_ss, List.getElem?_cons_zero, List.getElem?_cons_succ, List.set_cons_zero, List.set_cons_succ, List.length_cons, List.length_nil, true_and, and_true, le_n]
        refine br0 (by omega) (s_haul hM h74 hW (by omega) ?_)
        simp (disch := omega) only [q_X11_knows_30, q_X11_knows_31, q_X11_knows_32, q_X11_knows_35, y_is, y_gf, y_pf, y_f0, y_f1, y_f3, y_nI, y_nK, y_nZ, y_nL, y_nR, y_k1i, y_k1r, y_k1l, y_k1n, y_tl, y_tn, y_s, y_ss, List.getElem?_cons_zero, List.getElem?_cons_succ, List.set_cons_zero, List.set_cons_succ, List.length_cons, List.length_nil, true_and, and_true, lit, nI_add]
        exact ih (i + 1) (by omega)
    simp (disch := omega) only [q_X11_knows_12, q_X11_knows_13, q_X11_knows_14, q_X11_knows_15, y_is, y_gf, y_pf, y_f0, y_f1, y_f3, y_nI, y_nK, y_nZ, y_nL, y_nR, y_k1i, y_k1r, y_k1l, y_k1n, y_tl, y_tn, y_s, y_ss, List.getElem?_cons_zero, List.getElem?_cons_succ, List.set_cons_zero, List.set_cons_succ, List.length_cons, List.length_nil, true_and, and_true]
    exact loop (S.W 0) 0 (by omega)
theorem m_creak {s a c : Int32} (h : MR g S) (hS : sv S) (hQ : mO g (oCreak S s a c) Q) : wp 192 b 0 [.ref 73, .int s, .int a, .int c, .null, .null] [] g Q := by
  unfold oCreak at hQ
  obtain ⟨x, r, hM, -⟩ := id h.mM
  obtain ⟨f, h74, hW⟩ := id h.mW
  have hv := hS.vW
  have hwl := whW_le hv
  have n1 := hv.1.1
  have n9 := hv.1.2
  have hp2 : 2 ^ S.W 0 ≤ 512 := Nat.pow_le_pow_right (n := 2) (by decide) n9
  have hp1 : 0 < 2 ^ S.W 0 := Nat.pow_pos (by decide)
  have hshl := i_shl ⟨S.W 0, by omega⟩
  have bad : (inB s 0 (2 ^ S.W 0 - 1) && (inB a 0 10 && inB c 0 10)) = false → wp 192 b 42 [.ref 73, .int s, .int a, .int c, .null, .null] [] g Q := by
    intro e
    rw [e, if_neg (by decide)] at hQ
    simp only [q_X11_creak_42, q_X11_creak_43, q_X11_creak_45, hM, y_is, y_gf, y_pf, y_f0, y_f1, y_f3, y_nI, y_nK, y_nZ, y_nL, y_nR, y_k1i, y_k1r, y_k1l, y_k1n, y_tl, y_tn, y_s, y_ss, List.getElem?_cons_zero, List.getElem?_cons_succ, List.set_cons_zero, List.set_cons_succ, List.length_cons, List.length_nil, true_and, and_true]
    refine m_bad h (fun g' a1 a2 => ?_)
    simp only [q_X11_creak_48, y_is, y_gf, y_pf, y_f0, y_f1, y_f3, y_nI, y_nK, y_nZ, y_nL, y_nR, y_k1i, y_k1r, y_k1l, y_k1n, y_tl, y_tn, y_s, y_ss, List.getElem?_cons_zero, List.getElem?_cons_succ, List.set_cons_zero, List.set_cons_succ, List.length_cons, List.length_nil, true_and, and_true]
    exact hQ g' a1 a2
  simp only [q_X11_creak_0, q_X11_creak_1, q_X11_creak_2, q_X11_creak_3, q_X11_creak_4, q_X11_creak_5, hM, y_is, y_gf, y_pf, y_f0, y_f1, y_f3, y_nI, y_nK, y_nZ, y_nL, y_nR, y_k1i, y_k1r, y_k1l, y_k1n, y_tl, y_tn, y_s, y_ss, List.getElem?_cons_zero, List.getElem?_cons_succ, List.set_cons_zero, List.set_cons_succ, List.length_cons, List.length_nil, true_and, and_true, litL]
  refine s_watched hM h74 hW ?_
  simp (disch := omega) only [q_X11_creak_8, q_X11_creak_9, q_X11_creak_10, q_X11_creak_11, q_X11_creak_12, hM, y_is, y_gf, y_pf, y_f0, y_f1, y_f3, y_nI, y_nK, y_nZ, y_nL, y_nR, y_k1i, y_k1r, y_k1l, y_k1n, y_tl, y_tn, y_s, y_ss, List.getElem?_cons_zero, List.getElem?_cons_succ, List.set_cons_zero, List.set_cons_succ, List.length_cons, List.length_nil, true_and, and_true, hshl]
  rw [show nI (2 ^ S.W 0) - 1 = nI (2 ^ S.W 0 - 1) from pk_sub (a := 2 ^ S.W 0) (b := 1) hp1, i_l (by omega)]
  refine s_inI (by decide) (by omega) (fun z => ?_) (fun z => ?_)
  · obtain ⟨s', s1, s2, e⟩ := z
    subst e
    rw [inB_n (by omega) s1 s2, Bool.true_and] at bad hQ
    simp only [q_X11_creak_15, q_X11_creak_18, q_X11_creak_19, q_X11_creak_20, q_X11_creak_21, q_X11_creak_24, y_is, y_gf, y_pf, y_f0, y_f1, y_f3, y_nI, y_nK, y_nZ, y_nL, y_nR, y_k1i, y_k1r, y_k1l, y_k1n, y_tl, y_tn, y_s, y_ss, List.getElem?_cons_zero, List.getElem?_cons_succ, List.set_cons_zero, List.set_cons_succ, List.length_cons, List.length_nil, true_and, and_true, litL]
    refine br0 (by decide) (s_inI (by decide) (by decide) (fun z => ?_) (fun z => ?_))
    · obtain ⟨a', a1, a2, e⟩ := z
      subst e
      rw [inB_n (by omega) a1 a2, Bool.true_and] at bad hQ
      simp only [q_X11_creak_27, q_X11_creak_30, q_X11_creak_31, q_X11_creak_32, q_X11_creak_33, q_X11_creak_36, y_is, y_gf, y_pf, y_f0, y_f1, y_f3, y_nI, y_nK, y_nZ, y_nL, y_nR, y_k1i, y_k1r, y_k1l, y_k1n, y_tl, y_tn, y_s, y_ss, List.getElem?_cons_zero, List.getElem?_cons_succ, List.set_cons_zero, List.set_cons_succ, List.length_cons, List.length_nil, true_and, and_true, litL]
      refine br0 (by decide) (s_inI (by decide) (by decide) (fun z => ?_) (fun z => ?_))
      · obtain ⟨c', c1, c2, e⟩ := z
        subst e
        rw [inB_n (by omega) c1 c2, if_pos rfl, ck_n (by omega), ck_n (by omega), ck_n (by omega)] at hQ
        have hb := crk_le hv (s := s') a2 c2
        have hsb := sbs_le (W := S.W) (s := s')
        have loop : ∀ d i, i + d = S.W 0 → wp 192 b 55 [.ref 73, .int (nI s'), .int (nI a'), .int (nI c'), .int (nI (sm (fun i => bitN s' i * shW S.W i) i)), .int (nI i)] [] g Q := by
          intro d
          induction d with
          | zero =>
            intro i hi
            have hi : i = S.W 0 := by omega
            subst hi
            rw [q_X11_creak_55]
            show wp _ _ _ [_, _, _, _, .int (nI (sbs S.W s')), _] _ _ _
            simp (disch := omega) only [q_X11_creak_57, q_X11_creak_58, hM, y_is, y_gf, y_pf, y_f0, y_f1, y_f3, y_nI, y_nK, y_nZ, y_nL, y_nR, y_k1i, y_k1r, y_k1l, y_k1n, y_tl, y_tn, y_s, y_ss, List.getElem?_cons_zero, List.getElem?_cons_succ, List.set_cons_zero, List.set_cons_succ, List.length_cons, List.length_nil, true_and, and_true]
            refine s_watched hM h74 hW ?_
            simp (disch := omega) only [q_X11_creak_61, q_X11_creak_92, q_X11_creak_94, q_X11_creak_95, q_X11_creak_96, q_X11_creak_97, hM, y_is, y_gf, y_pf, y_f0, y_f1, y_f3, y_nI, y_nK, y_nZ, y_nL, y_nR, y_k1i, y_k1r, y_k1l, y_k1n, y_tl, y_tn, y_s, y_ss, List.getElem?_cons_zero, List.getElem?_cons_succ, List.set_cons_zero, List.set_cons_succ, List.length_cons, List.length_nil, true_and, and_true, le_n, pk_mul]
            refine br1 (by first | decide | omega | trivial | simp) (s_mwhole hM h74 hW rfl n9 ?_)
            show wp _ _ _ _ [.int (nI (whW S.W)), _] _ _
            unfold crk at hQ
            simp (disch := omega) only [q_X11_creak_100, q_X11_creak_102, q_X11_creak_103, q_X11_creak_104, q_X11_creak_105, q_X11_creak_106, q_X11_creak_108, q_X11_creak_110, y_is, y_gf, y_pf, y_f0, y_f1, y_f3, y_nI, y_nK, y_nZ, y_nL, y_nR, y_k1i, y_k1r, y_k1l, y_k1n, y_tl, y_tn, y_s, y_ss, List.getElem?_cons_zero, List.getElem?_cons_succ, List.set_cons_zero, List.set_cons_succ, List.length_cons, List.length_nil, true_and, and_true, lit, pk_sub, pk_mul, nI_add, eq_n]
            by_cases q : sbs S.W s' * a' + (whW S.W - sbs S.W s') * c' = 0
            · rw [bnt q]
              rw [if_pos q] at hQ
              simp only [q_X11_creak_113, q_X11_creak_114, hM, y_is, y_gf, y_pf, y_f0, y_f1, y_f3, y_nI, y_nK, y_nZ, y_nL, y_nR, y_k1i, y_k1r, y_k1l, y_k1n, y_tl, y_tn, y_s, y_ss, List.getElem?_cons_zero, List.getElem?_cons_succ, List.set_cons_zero, List.set_cons_succ, List.length_cons, List.length_nil, true_and, and_true]
              refine m_no h (fun g' a1 a2 => ?_)
              simp only [q_X11_creak_117, q_X11_creak_133, y_is, y_gf, y_pf, y_f0, y_f1, y_f3, y_nI, y_nK, y_nZ, y_nL, y_nR, y_k1i, y_k1r, y_k1l, y_k1n, y_tl, y_tn, y_s, y_ss, List.getElem?_cons_zero, List.getElem?_cons_succ, List.set_cons_zero, List.set_cons_succ, List.length_cons, List.length_nil, true_and, and_true]
              exact hQ g' a1 a2
            · rw [bnf q]
              rw [if_neg q] at hQ
              simp (disch := omega) only [q_X11_creak_120, q_X11_creak_121, q_X11_creak_123, q_X11_creak_124, q_X11_creak_125, q_X11_creak_126, q_X11_creak_127, q_X11_creak_129, q_X11_creak_130, hM, y_is, y_gf, y_pf, y_f0, y_f1, y_f3, y_nI, y_nK, y_nZ, y_nL, y_nR, y_k1i, y_k1r, y_k1l, y_k1n, y_tl, y_tn, y_s, y_ss, List.getElem?_cons_zero, List.getElem?_cons_succ, List.set_cons_zero, List.set_cons_succ, List.length_cons, List.length_nil, true_and, and_true, i_l, l_mul]
              refine m_small h (by omega) (by omega) (by omega) (fun g' a1 a2 => ?_)
              simp only [q_X11_creak_133, y_is, y_gf, y_pf, y_f0, y_f1, y_f3, y_nI, y_nK, y_nZ, y_nL, y_nR, y_k1i, y_k1r, y_k1l, y_k1n, y_tl, y_tn, y_s, y_ss, List.getElem?_cons_zero, List.getElem?_cons_succ, List.set_cons_zero, List.set_cons_succ, List.length_cons, List.length_nil, true_and, and_true]
              exact hQ g' a1 a2
          | succ d ih =>
            intro i hi
            have hbt := i_bit (s := s') (p := i) (by omega) (by omega)
            have e1 := hW (10 + i) (by omega)
            rw [wI_n (by omega)] at e1
            have ih := ih (i + 1) (by omega)
            rw [sm] at ih
            rw [q_X11_creak_55]
            simp (disch := omega) only [q_X11_creak_57, q_X11_creak_58, hM, y_is, y_gf, y_pf, y_f0, y_f1, y_f3, y_nI, y_nK, y_nZ, y_nL, y_nR, y_k1i, y_k1r, y_k1l, y_k1n, y_tl, y_tn, y_s, y_ss, List.getElem?_cons_zero, List.getElem?_cons_succ, List.set_cons_zero, List.set_cons_succ, List.length_cons, List.length_nil, true_and, and_true]
            refine s_watched hM h74 hW ?_
            simp (disch := omega) only [q_X11_creak_61, q_X11_creak_64, q_X11_creak_66, q_X11_creak_67, q_X11_creak_69, q_X11_creak_70, q_X11_creak_71, q_X11_creak_72, q_X11_creak_73, q_X11_creak_76, q_X11_creak_78, q_X11_creak_80, q_X11_creak_81, q_X11_creak_82, q_X11_creak_83, q_X11_creak_84, q_X11_creak_86, q_X11_creak_89, hM, h74, e1, y_is, y_gf, y_pf, y_f0, y_f1, y_f3, y_nI, y_nK, y_nZ, y_nL, y_nR, y_k1i, y_k1r, y_k1l, y_k1n, y_tl, y_tn, y_s, y_ss, List.getElem?_cons_zero, List.getElem?_cons_succ, List.set_cons_zero, List.set_cons_succ, List.length_cons, List.length_nil, true_and, and_true, y_lIn, y_lKn, y_lZn, y_lLn, y_wIn, y_wZn, y_wLn, lit, le_n, lt_n, eq_n, lit, hbt, nI_add, pk_mul]
            exact br0 (by omega) ih
        simp (disch := omega) only [q_X11_creak_39, q_X11_creak_49, q_X11_creak_50, q_X11_creak_52, q_X11_creak_53, y_is, y_gf, y_pf, y_f0, y_f1, y_f3, y_nI, y_nK, y_nZ, y_nL, y_nR, y_k1i, y_k1r, y_k1l, y_k1n, y_tl, y_tn, y_s, y_ss, List.getElem?_cons_zero, List.getElem?_cons_succ, List.set_cons_zero, List.set_cons_succ, List.length_cons, List.length_nil, true_and, and_true]
        exact br1 (by decide) (loop (S.W 0) 0 (by omega))
      · simp only [q_X11_creak_39, y_is, y_gf, y_pf, y_f0, y_f1, y_f3, y_nI, y_nK, y_nZ, y_nL, y_nR, y_k1i, y_k1r, y_k1l, y_k1n, y_tl, y_tn, y_s, y_ss, List.getElem?_cons_zero, List.getElem?_cons_succ, List.set_cons_zero, List.set_cons_succ, List.length_cons, List.length_nil, true_and, and_true]
        exact br0 (fun z => z (by first | decide | omega | trivial | simp)) (bad (inB_f (by decide) (by decide) z))
    · simp only [q_X11_creak_27, y_is, y_gf, y_pf, y_f0, y_f1, y_f3, y_nI, y_nK, y_nZ, y_nL, y_nR, y_k1i, y_k1r, y_k1l, y_k1n, y_tl, y_tn, y_s, y_ss, List.getElem?_cons_zero, List.getElem?_cons_succ, List.set_cons_zero, List.set_cons_succ, List.length_cons, List.length_nil, true_and, and_true]
      exact br1 (by first | decide | omega | trivial | simp) (bad (by rw [inB_f (by decide) (by decide) z, Bool.false_and]))
  · simp only [q_X11_creak_15, y_is, y_gf, y_pf, y_f0, y_f1, y_f3, y_nI, y_nK, y_nZ, y_nL, y_nR, y_k1i, y_k1r, y_k1l, y_k1n, y_tl, y_tn, y_s, y_ss, List.getElem?_cons_zero, List.getElem?_cons_succ, List.set_cons_zero, List.set_cons_succ, List.length_cons, List.length_nil, true_and, and_true]
    exact br1 (by first | decide | omega | trivial | simp) (bad (by rw [inB_f (by decide) (by omega) z, Bool.false_and]))
end MFRAC
