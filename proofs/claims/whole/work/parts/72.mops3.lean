/-! ===== the reference: images, counts, numbers ===== -/
section MOPS3
variable {b : mzB} {g : mzG} {Q : mzQ} {S : sT}
theorem m_image {v : Int32} (h : MR g S) (hS : sv S) (hQ : mO g (oImage S v) Q) : wp 222 b 0 [.ref 73, .int v, .null] [] g Q := by
  unfold oImage at hQ
  obtain ⟨x, r, hM, -⟩ := id h.mM
  obtain ⟨f, h74, hW⟩ := id h.mW
  obtain ⟨F, K, h75, h76, hK⟩ := id h.mK
  simp only [q_X11_image_0, q_X11_image_1, q_X11_image_2, q_X11_image_3, q_X11_image_4, y_is, y_gf, y_pf, y_f0, y_f1, y_f3, y_nI, y_nK, y_nZ, y_nL, y_nR, y_k1i, y_k1r, y_k1l, y_k1n, y_tl, y_tn, y_s, y_ss, List.getElem?_cons_zero, List.getElem?_cons_succ, List.set_cons_zero, List.set_cons_succ, List.length_cons, List.length_nil, true_and, and_true, litL]
  refine s_inI (by decide) (by decide) (fun z => ?_) (fun z => ?_)
  · obtain ⟨j, j1, j2, e⟩ := z
    subst e
    rw [inB_n (by omega) j1 j2, ck_n (by omega), if_pos rfl] at hQ
    have loop : ∀ (d i : Nat) (g' : mzG) (F' : Nat → Int32), i + d = 141 → g'.2 75 = aI 282 F' → (∀ k, F' k = if 141 * j ≤ k ∧ k < 141 * j + i then f (k - 141 * j) else F k) → fr g g' 75 76 → wp 222 b 19 [.ref 73, .int (nI j), .int (nI i)] [] g' Q := by
      intro d
      induction d with
      | zero =>
        intro i g' F' hi h75' hF hf
        have hi : i = 141 := by omega
        subst hi
        have hM' : g'.2 73 = ob 9 [.ref 74, .ref 75, .ref 76, .ref 77, .ref 78, .ref 79, .int (x 0), .int (x 1), .int (x 2), .ref 80, .int (x 3), .ref 81, .int (x 4), .ref 82, .long (r), .ref 83, .ref 84, .int (x 5), .int (x 6), .int (x 7), .int (x 8), .int (x 9), .ref 85, .int (x 10)] := by rw [hf.2 _ (by omega)]; exact hM
        have h76' : g'.2 76 = aZ 2 K := by rw [hf.2 _ (by omega)]; exact h76
        rw [q_X11_image_19]
        simp (disch := omega) only [q_X11_image_20, q_X11_image_23, q_X11_image_50, q_X11_image_51, q_X11_image_54, q_X11_image_55, q_X11_image_56, q_X11_image_57, q_X11_image_58, hM', h76', y_is, y_gf, y_pf, y_f0, y_f1, y_f3, y_nI, y_nK, y_nZ, y_nL, y_nR, y_k1i, y_k1r, y_k1l, y_k1n, y_tl, y_tn, y_s, y_ss, List.getElem?_cons_zero, List.getElem?_cons_succ, List.set_cons_zero, List.set_cons_succ, List.length_cons, List.length_nil, true_and, and_true, y_lIn, y_lKn, y_lZn, y_lLn, y_wIn, y_wZn, y_wLn, lit, le_n, lt_n, eq_n, lit, litL, le_n, lt_n, eq_n, nI_add, m_neg, pk_sub, pk_mul, i_l, l_i, l_add, l_mul, l_sub, lc_le, lc_ge, lc_lt, lc_gt, lc_eq, l_rem2, l_rem3, i_rem2, i_rem3]
        refine br1 (by first | decide | omega | trivial | simp) (hQ _ (h.k ((hf.wide (by omega) (by omega)).hs (by omega) (by omega)) ⟨F', _, by rw [y_ne (by decide)]; exact h75', y_s, fun i hi => ?_⟩) ((hf.wide (by omega) (by omega)).hs (by omega) (by omega)))
        unfold va_up
        by_cases c : i = j
        · subst c
          rw [u_s, if_pos rfl]
          refine ⟨by show vp_nar .boolean 1 = (1 : Int32); decide, fun X e k hk => ?_⟩
          have e := Option.some.inj e
          rw [hF _, if_pos (by omega), show 141 * i + k - 141 * i = k by omega, hW k hk, ← e]
        · rw [u_n c, if_neg c]
          obtain ⟨a1, a2⟩ := hK i hi
          refine ⟨a1, fun X e k hk => ?_⟩
          rw [hF _, if_neg (by omega)]
          exact a2 X e k hk
      | succ d ih =>
        intro i g' F' hi h75' hF hf
        have hM' : g'.2 73 = ob 9 [.ref 74, .ref 75, .ref 76, .ref 77, .ref 78, .ref 79, .int (x 0), .int (x 1), .int (x 2), .ref 80, .int (x 3), .ref 81, .int (x 4), .ref 82, .long (r), .ref 83, .ref 84, .int (x 5), .int (x 6), .int (x 7), .int (x 8), .int (x 9), .ref 85, .int (x 10)] := by rw [hf.2 _ (by omega)]; exact hM
        have h74' : g'.2 74 = aI 141 f := by rw [hf.2 _ (by omega)]; exact h74
        rw [q_X11_image_19]
        simp (disch := omega) only [q_X11_image_20, q_X11_image_23, q_X11_image_26, q_X11_image_27, q_X11_image_30, q_X11_image_33, q_X11_image_34, q_X11_image_35, q_X11_image_36, q_X11_image_37, q_X11_image_38, q_X11_image_41, q_X11_image_42, q_X11_image_43, q_X11_image_44, q_X11_image_47, hM', h74', h75', pk_mul, nI_add, y_is, y_gf, y_pf, y_f0, y_f1, y_f3, y_nI, y_nK, y_nZ, y_nL, y_nR, y_k1i, y_k1r, y_k1l, y_k1n, y_tl, y_tn, y_s, y_ss, List.getElem?_cons_zero, List.getElem?_cons_succ, List.set_cons_zero, List.set_cons_succ, List.length_cons, List.length_nil, true_and, and_true, y_lIn, y_lKn, y_lZn, y_lLn, y_wIn, y_wZn, y_wLn, lit, le_n, lt_n, eq_n, lit, litL, le_n, lt_n, eq_n, nI_add, m_neg, pk_sub, pk_mul, i_l, l_i, l_add, l_mul, l_sub, lc_le, lc_ge, lc_lt, lc_gt, lc_eq, l_rem2, l_rem3, i_rem2, i_rem3]
        refine br0 (by omega) (ih (i + 1) _ _ (by omega) y_s (fun k => ?_) (hf.hs (by omega) (by omega)))
        by_cases c : k = 141 * j + i
        · subst c
          rw [u_s, if_pos (by omega), show 141 * j + i - 141 * j = i by omega]
        · rw [u_n c, hF k]
          by_cases c2 : 141 * j ≤ k ∧ k < 141 * j + i
          · rw [if_pos c2, if_pos (by omega)]
          · rw [if_neg c2, if_neg (by omega)]
    simp (disch := omega) only [q_X11_image_7, q_X11_image_17, q_X11_image_18, y_is, y_gf, y_pf, y_f0, y_f1, y_f3, y_nI, y_nK, y_nZ, y_nL, y_nR, y_k1i, y_k1r, y_k1l, y_k1n, y_tl, y_tn, y_s, y_ss, List.getElem?_cons_zero, List.getElem?_cons_succ, List.set_cons_zero, List.set_cons_succ, List.length_cons, List.length_nil, true_and, and_true]
    exact br1 (by decide) (loop 141 0 g F rfl h75 (fun k => by rw [if_neg (by omega)]) fr.rf)
  · rw [inB_f (by omega) (by omega) z, if_neg (by decide)] at hQ
    simp only [q_X11_image_7, q_X11_image_10, q_X11_image_11, q_X11_image_13, hM, y_is, y_gf, y_pf, y_f0, y_f1, y_f3, y_nI, y_nK, y_nZ, y_nL, y_nR, y_k1i, y_k1r, y_k1l, y_k1n, y_tl, y_tn, y_s, y_ss, List.getElem?_cons_zero, List.getElem?_cons_succ, List.set_cons_zero, List.set_cons_succ, List.length_cons, List.length_nil, true_and, and_true]
    refine br0 (fun z => z (by first | decide | omega | trivial | simp)) (m_bad h (fun g' a1 a2 => ?_))
    simp only [q_X11_image_16, y_is, y_gf, y_pf, y_f0, y_f1, y_f3, y_nI, y_nK, y_nZ, y_nL, y_nR, y_k1i, y_k1r, y_k1l, y_k1n, y_tl, y_tn, y_s, y_ss, List.getElem?_cons_zero, List.getElem?_cons_succ, List.set_cons_zero, List.set_cons_succ, List.length_cons, List.length_nil, true_and, and_true]
    exact hQ g' a1 a2
theorem m_from {v : Int32} (h : MR g S) (hS : sv S) (hQ : mO g (oFrom S v) Q) : wp 223 b 0 [.ref 73, .int v, .null] [] g Q := by
  unfold oFrom at hQ
  obtain ⟨x, r, hM, -⟩ := id h.mM
  obtain ⟨f, h74, hW⟩ := id h.mW
  obtain ⟨F, K, h75, h76, hK⟩ := id h.mK
  simp only [q_X11_from_0, q_X11_from_1, q_X11_from_2, q_X11_from_3, q_X11_from_4, y_is, y_gf, y_pf, y_f0, y_f1, y_f3, y_nI, y_nK, y_nZ, y_nL, y_nR, y_k1i, y_k1r, y_k1l, y_k1n, y_tl, y_tn, y_s, y_ss, List.getElem?_cons_zero, List.getElem?_cons_succ, List.set_cons_zero, List.set_cons_succ, List.length_cons, List.length_nil, true_and, and_true, litL]
  refine s_inI (by decide) (by decide) (fun z => ?_) (fun z => ?_)
  · obtain ⟨j, j1, j2, e⟩ := z
    subst e
    rw [inB_n (by omega) j1 j2, ck_n (by omega), if_pos rfl] at hQ
    obtain ⟨hkz, hk2⟩ := hK j (by omega)
    simp (disch := omega) only [q_X11_from_7, q_X11_from_17, q_X11_from_18, q_X11_from_21, q_X11_from_22, q_X11_from_23, hM, h76, hkz, y_is, y_gf, y_pf, y_f0, y_f1, y_f3, y_nI, y_nK, y_nZ, y_nL, y_nR, y_k1i, y_k1r, y_k1l, y_k1n, y_tl, y_tn, y_s, y_ss, List.getElem?_cons_zero, List.getElem?_cons_succ, List.set_cons_zero, List.set_cons_succ, List.length_cons, List.length_nil, true_and, and_true, y_lIn, y_lKn, y_lZn, y_lLn, y_wIn, y_wZn, y_wLn, lit, le_n, lt_n, eq_n]
    refine br1 (by decide) ?_
    cases hI : S.I j with
    | none =>
      rw [hI] at hQ
      refine br0 (by decide) ?_
      simp only [q_X11_from_26, q_X11_from_27, hM, y_is, y_gf, y_pf, y_f0, y_f1, y_f3, y_nI, y_nK, y_nZ, y_nL, y_nR, y_k1i, y_k1r, y_k1l, y_k1n, y_tl, y_tn, y_s, y_ss, List.getElem?_cons_zero, List.getElem?_cons_succ, List.set_cons_zero, List.set_cons_succ, List.length_cons, List.length_nil, true_and, and_true]
      refine m_no h (fun g' a1 a2 => ?_)
      simp only [q_X11_from_30, y_is, y_gf, y_pf, y_f0, y_f1, y_f3, y_nI, y_nK, y_nZ, y_nL, y_nR, y_k1i, y_k1r, y_k1l, y_k1n, y_tl, y_tn, y_s, y_ss, List.getElem?_cons_zero, List.getElem?_cons_succ, List.set_cons_zero, List.set_cons_succ, List.length_cons, List.length_nil, true_and, and_true]
      exact hQ g' a1 a2
    | some X =>
      rw [hI] at hQ
      refine br1 (by show ¬ (1 : Int32) = 0; decide) ?_
      have hk3 := hk2 X hI
      have loop : ∀ (d i : Nat) (g' : mzG) (f' : Nat → Int32), i + d = 141 → g'.2 74 = aI 141 f' → (∀ k, k < i → f' k = wI k (X k)) → fr g g' 74 75 → wp 223 b 33 [.ref 73, .int (nI j), .int (nI i)] [] g' Q := by
        intro d
        induction d with
        | zero =>
          intro i g' f' hi h74' hF hf
          have hi : i = 141 := by omega
          subst hi
          rw [q_X11_from_33]
          simp (disch := omega) only [q_X11_from_34, q_X11_from_37, q_X11_from_64, q_X11_from_65, y_is, y_gf, y_pf, y_f0, y_f1, y_f3, y_nI, y_nK, y_nZ, y_nL, y_nR, y_k1i, y_k1r, y_k1l, y_k1n, y_tl, y_tn, y_s, y_ss, List.getElem?_cons_zero, List.getElem?_cons_succ, List.set_cons_zero, List.set_cons_succ, List.length_cons, List.length_nil, true_and, and_true, y_lIn, y_lKn, y_lZn, y_lLn, y_wIn, y_wZn, y_wLn, lit, le_n, lt_n, eq_n, lit, litL, le_n, lt_n, eq_n, nI_add, m_neg, pk_sub, pk_mul, i_l, l_i, l_add, l_mul, l_sub, lc_le, lc_ge, lc_lt, lc_gt, lc_eq, l_rem2, l_rem3, i_rem2, i_rem3]
          exact br1 (by first | decide | omega | trivial | simp) (hQ _ (h.w hf ⟨f', h74', hF⟩) (hf.wide (by omega) (by omega)))
        | succ d ih =>
          intro i g' f' hi h74' hF hf
          have hM' : g'.2 73 = ob 9 [.ref 74, .ref 75, .ref 76, .ref 77, .ref 78, .ref 79, .int (x 0), .int (x 1), .int (x 2), .ref 80, .int (x 3), .ref 81, .int (x 4), .ref 82, .long (r), .ref 83, .ref 84, .int (x 5), .int (x 6), .int (x 7), .int (x 8), .int (x 9), .ref 85, .int (x 10)] := by rw [hf.2 _ (by omega)]; exact hM
          have h75' : g'.2 75 = aI 282 F := by rw [hf.2 _ (by omega)]; exact h75
          have e3 := hk3 i (by omega)
          rw [q_X11_from_33]
          simp (disch := omega) only [q_X11_from_34, q_X11_from_37, q_X11_from_40, q_X11_from_41, q_X11_from_44, q_X11_from_45, q_X11_from_46, q_X11_from_49, q_X11_from_52, q_X11_from_53, q_X11_from_54, q_X11_from_55, q_X11_from_56, q_X11_from_57, q_X11_from_58, q_X11_from_61, hM', h74', h75', pk_mul, nI_add, e3, y_is, y_gf, y_pf, y_f0, y_f1, y_f3, y_nI, y_nK, y_nZ, y_nL, y_nR, y_k1i, y_k1r, y_k1l, y_k1n, y_tl, y_tn, y_s, y_ss, List.getElem?_cons_zero, List.getElem?_cons_succ, List.set_cons_zero, List.set_cons_succ, List.length_cons, List.length_nil, true_and, and_true, y_lIn, y_lKn, y_lZn, y_lLn, y_wIn, y_wZn, y_wLn, lit, le_n, lt_n, eq_n, lit, litL, le_n, lt_n, eq_n, nI_add, m_neg, pk_sub, pk_mul, i_l, l_i, l_add, l_mul, l_sub, lc_le, lc_ge, lc_lt, lc_gt, lc_eq, l_rem2, l_rem3, i_rem2, i_rem3]
          refine br0 (by omega) (ih (i + 1) _ _ (by omega) y_s (fun k hk => ?_) (hf.hs (by omega) (by omega)))
          by_cases c : k = i
          · subst c; rw [u_s]
          · rw [u_n c]; exact hF k (by omega)
      simp (disch := omega) only [q_X11_from_31, q_X11_from_32, y_is, y_gf, y_pf, y_f0, y_f1, y_f3, y_nI, y_nK, y_nZ, y_nL, y_nR, y_k1i, y_k1r, y_k1l, y_k1n, y_tl, y_tn, y_s, y_ss, List.getElem?_cons_zero, List.getElem?_cons_succ, List.set_cons_zero, List.set_cons_succ, List.length_cons, List.length_nil, true_and, and_true]
      exact loop 141 0 g f rfl h74 (fun k hk => by omega) fr.rf
  · rw [inB_f (by omega) (by omega) z, if_neg (by decide)] at hQ
    simp only [q_X11_from_7, q_X11_from_10, q_X11_from_11, q_X11_from_13, hM, y_is, y_gf, y_pf, y_f0, y_f1, y_f3, y_nI, y_nK, y_nZ, y_nL, y_nR, y_k1i, y_k1r, y_k1l, y_k1n, y_tl, y_tn, y_s, y_ss, List.getElem?_cons_zero, List.getElem?_cons_succ, List.set_cons_zero, List.set_cons_succ, List.length_cons, List.length_nil, true_and, and_true]
    refine br0 (fun z => z (by first | decide | omega | trivial | simp)) (m_bad h (fun g' a1 a2 => ?_))
    simp only [q_X11_from_16, y_is, y_gf, y_pf, y_f0, y_f1, y_f3, y_nI, y_nK, y_nZ, y_nL, y_nR, y_k1i, y_k1r, y_k1l, y_k1n, y_tl, y_tn, y_s, y_ss, List.getElem?_cons_zero, List.getElem?_cons_succ, List.set_cons_zero, List.set_cons_succ, List.length_cons, List.length_nil, true_and, and_true]
    exact hQ g' a1 a2
theorem m_status {v : Int32} (h : MR g S) (hQ : mO g (oStatus S v) Q) : wp 224 b 0 [.ref 73, .int v] [] g Q := by
  unfold oStatus at hQ
  obtain ⟨x, r, hM, -⟩ := id h.mM
  simp only [q_X11_status_0, q_X11_status_1, q_X11_status_2, q_X11_status_3, q_X11_status_6, y_is, y_gf, y_pf, y_f0, y_f1, y_f3, y_nI, y_nK, y_nZ, y_nL, y_nR, y_k1i, y_k1r, y_k1l, y_k1n, y_tl, y_tn, y_s, y_ss, List.getElem?_cons_zero, List.getElem?_cons_succ, List.set_cons_zero, List.set_cons_succ, List.length_cons, List.length_nil, true_and, and_true, litL]
  refine s_inI (by decide) (by decide) (fun z => ?_) (fun z => ?_)
  · obtain ⟨j, j1, j2, e⟩ := z
    subst e
    rw [inB_n (by omega) j1 j2, ck_n (by omega), if_pos rfl] at hQ
    simp (disch := omega) only [q_X11_status_9, q_X11_status_12, q_X11_status_13, q_X11_status_16, q_X11_status_17, q_X11_status_18, q_X11_status_26, hM, h.mR, y_is, y_gf, y_pf, y_f0, y_f1, y_f3, y_nI, y_nK, y_nZ, y_nL, y_nR, y_k1i, y_k1r, y_k1l, y_k1n, y_tl, y_tn, y_s, y_ss, List.getElem?_cons_zero, List.getElem?_cons_succ, List.set_cons_zero, List.set_cons_succ, List.length_cons, List.length_nil, true_and, and_true, y_lIn, y_lKn, y_lZn, y_lLn, y_wIn, y_wZn, y_wLn, lit, le_n, lt_n, eq_n]
    exact br0 (by decide) (hQ g h fr.rf)
  · rw [inB_f (by omega) (by omega) z, if_neg (by decide)] at hQ
    simp only [q_X11_status_9, q_X11_status_21, q_X11_status_22, q_X11_status_23, hM, y_is, y_gf, y_pf, y_f0, y_f1, y_f3, y_nI, y_nK, y_nZ, y_nL, y_nR, y_k1i, y_k1r, y_k1l, y_k1n, y_tl, y_tn, y_s, y_ss, List.getElem?_cons_zero, List.getElem?_cons_succ, List.set_cons_zero, List.set_cons_succ, List.length_cons, List.length_nil, true_and, and_true]
    refine br1 (by first | decide | omega | trivial | simp) (m_bad h (fun g' a1 a2 => ?_))
    simp only [q_X11_status_26, y_is, y_gf, y_pf, y_f0, y_f1, y_f3, y_nI, y_nK, y_nZ, y_nL, y_nR, y_k1i, y_k1r, y_k1l, y_k1n, y_tl, y_tn, y_s, y_ss, List.getElem?_cons_zero, List.getElem?_cons_succ, List.set_cons_zero, List.set_cons_succ, List.length_cons, List.length_nil, true_and, and_true]
    exact hQ g' a1 a2
theorem m_counted {i : Nat} (h : MR g S) (hi : i < 5) (hQ : Q (some (.int (hm S i))) g) : wp 225 b 0 [.ref 73, .int (nI i)] [] g Q := by
  obtain ⟨x, r, hM, -, x5⟩ := id h.mM
  obtain ⟨f, h74, hW⟩ := id h.mW
  have e1 := hW 50 (by omega)
  have e2 := hW 87 (by omega)
  have e3 := hW 100 (by omega)
  rw [wI_n (by omega)] at e1 e2 e3
  unfold hm at hQ
  simp (disch := omega) only [q_X11_counted_0, q_X11_counted_1, y_is, y_gf, y_pf, y_f0, y_f1, y_f3, y_nI, y_nK, y_nZ, y_nL, y_nR, y_k1i, y_k1r, y_k1l, y_k1n, y_tl, y_tn, y_s, y_ss, List.getElem?_cons_zero, List.getElem?_cons_succ, List.set_cons_zero, List.set_cons_succ, List.length_cons, List.length_nil, true_and, and_true, lit, eq_n]
  by_cases c0 : i = 0
  · rw [bnt c0]
    rw [if_pos c0] at hQ
    simp only [q_X11_counted_4, q_X11_counted_5, hM, y_is, y_gf, y_pf, y_f0, y_f1, y_f3, y_nI, y_nK, y_nZ, y_nL, y_nR, y_k1i, y_k1r, y_k1l, y_k1n, y_tl, y_tn, y_s, y_ss, List.getElem?_cons_zero, List.getElem?_cons_succ, List.set_cons_zero, List.set_cons_succ, List.length_cons, List.length_nil, true_and, and_true]
    refine s_watched hM h74 hW ?_
    simp only [q_X11_counted_8, q_X11_counted_60, y_is, y_gf, y_pf, y_f0, y_f1, y_f3, y_nI, y_nK, y_nZ, y_nL, y_nR, y_k1i, y_k1r, y_k1l, y_k1n, y_tl, y_tn, y_s, y_ss, List.getElem?_cons_zero, List.getElem?_cons_succ, List.set_cons_zero, List.set_cons_succ, List.length_cons, List.length_nil, true_and, and_true]
    exact hQ
  rw [bnf c0]
  rw [if_neg c0] at hQ
  simp (disch := omega) only [q_X11_counted_11, q_X11_counted_12, q_X11_counted_13, y_is, y_gf, y_pf, y_f0, y_f1, y_f3, y_nI, y_nK, y_nZ, y_nL, y_nR, y_k1i, y_k1r, y_k1l, y_k1n, y_tl, y_tn, y_s, y_ss, List.getElem?_cons_zero, List.getElem?_cons_succ, List.set_cons_zero, List.set_cons_succ, List.length_cons, List.length_nil, true_and, and_true, lit, eq_n]
  by_cases c1 : i = 1
  · rw [bnt c1]
    rw [if_pos c1] at hQ
    simp (disch := omega) only [q_X11_counted_16, q_X11_counted_17, q_X11_counted_20, q_X11_counted_22, q_X11_counted_23, q_X11_counted_60, hM, h74, e1, y_is, y_gf, y_pf, y_f0, y_f1, y_f3, y_nI, y_nK, y_nZ, y_nL, y_nR, y_k1i, y_k1r, y_k1l, y_k1n, y_tl, y_tn, y_s, y_ss, List.getElem?_cons_zero, List.getElem?_cons_succ, List.set_cons_zero, List.set_cons_succ, List.length_cons, List.length_nil, true_and, and_true, y_lIn, y_lKn, y_lZn, y_lLn, y_wIn, y_wZn, y_wLn, lit, le_n, lt_n, eq_n]
    exact hQ
  rw [bnf c1]
  rw [if_neg c1] at hQ
  simp (disch := omega) only [q_X11_counted_26, q_X11_counted_27, q_X11_counted_28, y_is, y_gf, y_pf, y_f0, y_f1, y_f3, y_nI, y_nK, y_nZ, y_nL, y_nR, y_k1i, y_k1r, y_k1l, y_k1n, y_tl, y_tn, y_s, y_ss, List.getElem?_cons_zero, List.getElem?_cons_succ, List.set_cons_zero, List.set_cons_succ, List.length_cons, List.length_nil, true_and, and_true, lit, eq_n]
  by_cases c2 : i = 2
  · rw [bnt c2]
    rw [if_pos c2] at hQ
    simp (disch := omega) only [q_X11_counted_31, q_X11_counted_32, q_X11_counted_35, q_X11_counted_37, q_X11_counted_38, q_X11_counted_60, hM, h74, e2, y_is, y_gf, y_pf, y_f0, y_f1, y_f3, y_nI, y_nK, y_nZ, y_nL, y_nR, y_k1i, y_k1r, y_k1l, y_k1n, y_tl, y_tn, y_s, y_ss, List.getElem?_cons_zero, List.getElem?_cons_succ, List.set_cons_zero, List.set_cons_succ, List.length_cons, List.length_nil, true_and, and_true, y_lIn, y_lKn, y_lZn, y_lLn, y_wIn, y_wZn, y_wLn, lit, le_n, lt_n, eq_n]
    exact hQ
  rw [bnf c2]
  rw [if_neg c2] at hQ
  simp (disch := omega) only [q_X11_counted_41, q_X11_counted_42, q_X11_counted_43, y_is, y_gf, y_pf, y_f0, y_f1, y_f3, y_nI, y_nK, y_nZ, y_nL, y_nR, y_k1i, y_k1r, y_k1l, y_k1n, y_tl, y_tn, y_s, y_ss, List.getElem?_cons_zero, List.getElem?_cons_succ, List.set_cons_zero, List.set_cons_succ, List.length_cons, List.length_nil, true_and, and_true, lit, eq_n]
  by_cases c3 : i = 3
  · rw [bnt c3]
    rw [if_pos c3] at hQ
    simp (disch := omega) only [q_X11_counted_46, q_X11_counted_47, q_X11_counted_50, q_X11_counted_60, hM, x5, y_is, y_gf, y_pf, y_f0, y_f1, y_f3, y_nI, y_nK, y_nZ, y_nL, y_nR, y_k1i, y_k1r, y_k1l, y_k1n, y_tl, y_tn, y_s, y_ss, List.getElem?_cons_zero, List.getElem?_cons_succ, List.set_cons_zero, List.set_cons_succ, List.length_cons, List.length_nil, true_and, and_true, y_lIn, y_lKn, y_lZn, y_lLn, y_wIn, y_wZn, y_wLn, lit, le_n, lt_n, eq_n]
    exact hQ
  rw [bnf c3]
  rw [if_neg c3] at hQ
  simp (disch := omega) only [q_X11_counted_53, q_X11_counted_54, q_X11_counted_57, q_X11_counted_59, q_X11_counted_60, hM, h74, e3, y_is, y_gf, y_pf, y_f0, y_f1, y_f3, y_nI, y_nK, y_nZ, y_nL, y_nR, y_k1i, y_k1r, y_k1l, y_k1n, y_tl, y_tn, y_s, y_ss, List.getElem?_cons_zero, List.getElem?_cons_succ, List.set_cons_zero, List.set_cons_succ, List.length_cons, List.length_nil, true_and, and_true, y_lIn, y_lKn, y_lZn, y_lLn, y_wIn, y_wZn, y_wLn, lit, le_n, lt_n, eq_n]
  exact hQ
theorem m_count {v : Int32} (h : MR g S) (hQ : mO g (oCount S v) Q) : wp 226 b 0 [.ref 73, .int v] [] g Q := by
  unfold oCount at hQ
  obtain ⟨x, r, hM, -⟩ := id h.mM
  simp only [q_X11_count_0, q_X11_count_1, q_X11_count_2, q_X11_count_3, q_X11_count_6, y_is, y_gf, y_pf, y_f0, y_f1, y_f3, y_nI, y_nK, y_nZ, y_nL, y_nR, y_k1i, y_k1r, y_k1l, y_k1n, y_tl, y_tn, y_s, y_ss, List.getElem?_cons_zero, List.getElem?_cons_succ, List.set_cons_zero, List.set_cons_succ, List.length_cons, List.length_nil, true_and, and_true, litL]
  refine s_inI (by decide) (by decide) (fun z => ?_) (fun z => ?_)
  · obtain ⟨j, j1, j2, e⟩ := z
    subst e
    rw [inB_n (by omega) j1 j2, ck_n (by omega), if_pos rfl] at hQ
    simp (disch := omega) only [q_X11_count_9, q_X11_count_12, q_X11_count_13, q_X11_count_14, hM, y_is, y_gf, y_pf, y_f0, y_f1, y_f3, y_nI, y_nK, y_nZ, y_nL, y_nR, y_k1i, y_k1r, y_k1l, y_k1n, y_tl, y_tn, y_s, y_ss, List.getElem?_cons_zero, List.getElem?_cons_succ, List.set_cons_zero, List.set_cons_succ, List.length_cons, List.length_nil, true_and, and_true]
    refine br0 (by decide) (m_counted h (by omega) ?_)
    simp (disch := omega) only [q_X11_count_17, q_X11_count_26, y_is, y_gf, y_pf, y_f0, y_f1, y_f3, y_nI, y_nK, y_nZ, y_nL, y_nR, y_k1i, y_k1r, y_k1l, y_k1n, y_tl, y_tn, y_s, y_ss, List.getElem?_cons_zero, List.getElem?_cons_succ, List.set_cons_zero, List.set_cons_succ, List.length_cons, List.length_nil, true_and, and_true]
    exact hQ g h fr.rf
  · rw [inB_f (by omega) (by omega) z, if_neg (by decide)] at hQ
    simp only [q_X11_count_9, q_X11_count_20, q_X11_count_21, q_X11_count_23, hM, y_is, y_gf, y_pf, y_f0, y_f1, y_f3, y_nI, y_nK, y_nZ, y_nL, y_nR, y_k1i, y_k1r, y_k1l, y_k1n, y_tl, y_tn, y_s, y_ss, List.getElem?_cons_zero, List.getElem?_cons_succ, List.set_cons_zero, List.set_cons_succ, List.length_cons, List.length_nil, true_and, and_true]
    refine br1 (by first | decide | omega | trivial | simp) (m_bad h (fun g' a1 a2 => ?_))
    simp only [q_X11_count_26, y_is, y_gf, y_pf, y_f0, y_f1, y_f3, y_nI, y_nK, y_nZ, y_nL, y_nR, y_k1i, y_k1r, y_k1l, y_k1n, y_tl, y_tn, y_s, y_ss, List.getElem?_cons_zero, List.getElem?_cons_succ, List.set_cons_zero, List.set_cons_succ, List.length_cons, List.length_nil, true_and, and_true]
    exact hQ g' a1 a2
theorem ms_sz {V : Nat → Nat} (h : ms g E0 V) : ∃ F Z, g.2 78 = aL 704 F ∧ g.2 79 = aI 11 Z ∧ ∀ s, s < 11 → Z s = nI (szN (V s)) ∧ szN (V s) ≤ 64 ∧ ∀ i, i < szN (V s) → F (64 * s + i) = lN (V s / BB ^ i % BB) := by
  obtain ⟨F, Z, h1, h2⟩ := h
  refine ⟨F, Z, h1.1, h1.2, fun s hs => ?_⟩
  obtain ⟨k, k1, k2, k3, k4, k5⟩ := (h2 s hs).1 (E0n _)
  rw [szN_z k2 k4 k5]
  exact ⟨k1, k2, k3⟩
theorem m_sign {v : Int32} (h : MR g S) (hQ : mO g (oSign S v) Q) : wp 220 b 0 [.ref 73, .int v] [] g Q := by
  unfold oSign at hQ
  obtain ⟨x, r, hM, x0, -⟩ := id h.mM
  obtain ⟨V, hV, v0, v1⟩ := id h.mV
  obtain ⟨F, Z, h78, h79, hZ⟩ := ms_sz hV
  have z0 := (hZ 0 (by decide)).1
  have z1 := (hZ 1 (by decide)).1
  rw [v0] at z0
  rw [v1] at z1
  simp only [q_X11_sign_0, q_X11_sign_1, y_is, y_gf, y_pf, y_f0, y_f1, y_f3, y_nI, y_nK, y_nZ, y_nL, y_nR, y_k1i, y_k1r, y_k1l, y_k1n, y_tl, y_tn, y_s, y_ss, List.getElem?_cons_zero, List.getElem?_cons_succ, List.set_cons_zero, List.set_cons_succ, List.length_cons, List.length_nil, true_and, and_true]
  by_cases c0 : v = 0
  · rw [bnt c0]
    rw [if_pos c0] at hQ
    simp only [q_X11_sign_4, q_X11_sign_5, q_X11_sign_8, q_X11_sign_45, hM, x0, y_is, y_gf, y_pf, y_f0, y_f1, y_f3, y_nI, y_nK, y_nZ, y_nL, y_nR, y_k1i, y_k1r, y_k1l, y_k1n, y_tl, y_tn, y_s, y_ss, List.getElem?_cons_zero, List.getElem?_cons_succ, List.set_cons_zero, List.set_cons_succ, List.length_cons, List.length_nil, true_and, and_true]
    exact hQ g h fr.rf
  rw [bnf c0]
  rw [if_neg c0] at hQ
  simp only [q_X11_sign_11, q_X11_sign_12, q_X11_sign_13, y_is, y_gf, y_pf, y_f0, y_f1, y_f3, y_nI, y_nK, y_nZ, y_nL, y_nR, y_k1i, y_k1r, y_k1l, y_k1n, y_tl, y_tn, y_s, y_ss, List.getElem?_cons_zero, List.getElem?_cons_succ, List.set_cons_zero, List.set_cons_succ, List.length_cons, List.length_nil, true_and, and_true]
  by_cases c1 : v = 1
  · rw [bnt c1]
    rw [if_pos c1] at hQ
    simp (disch := omega) only [q_X11_sign_16, q_X11_sign_17, q_X11_sign_20, q_X11_sign_21, q_X11_sign_22, q_X11_sign_45, hM, h79, z0, y_is, y_gf, y_pf, y_f0, y_f1, y_f3, y_nI, y_nK, y_nZ, y_nL, y_nR, y_k1i, y_k1r, y_k1l, y_k1n, y_tl, y_tn, y_s, y_ss, List.getElem?_cons_zero, List.getElem?_cons_succ, List.set_cons_zero, List.set_cons_succ, List.length_cons, List.length_nil, true_and, and_true, y_lIn, y_lKn, y_lZn, y_lLn, y_wIn, y_wZn, y_wLn, lit, le_n, lt_n, eq_n]
    exact hQ g h fr.rf
  rw [bnf c1]
  rw [if_neg c1] at hQ
  simp only [q_X11_sign_25, q_X11_sign_26, q_X11_sign_27, y_is, y_gf, y_pf, y_f0, y_f1, y_f3, y_nI, y_nK, y_nZ, y_nL, y_nR, y_k1i, y_k1r, y_k1l, y_k1n, y_tl, y_tn, y_s, y_ss, List.getElem?_cons_zero, List.getElem?_cons_succ, List.set_cons_zero, List.set_cons_succ, List.length_cons, List.length_nil, true_and, and_true]
  by_cases c2 : v = 2
  · rw [bnt c2]
    rw [if_pos c2] at hQ
    simp (disch := omega) only [q_X11_sign_30, q_X11_sign_31, q_X11_sign_34, q_X11_sign_35, q_X11_sign_36, q_X11_sign_45, hM, h79, z1, y_is, y_gf, y_pf, y_f0, y_f1, y_f3, y_nI, y_nK, y_nZ, y_nL, y_nR, y_k1i, y_k1r, y_k1l, y_k1n, y_tl, y_tn, y_s, y_ss, List.getElem?_cons_zero, List.getElem?_cons_succ, List.set_cons_zero, List.set_cons_succ, List.length_cons, List.length_nil, true_and, and_true, y_lIn, y_lKn, y_lZn, y_lLn, y_wIn, y_wZn, y_wLn, lit, le_n, lt_n, eq_n]
    exact hQ g h fr.rf
  rw [bnf c2]
  rw [if_neg c2] at hQ
  simp only [q_X11_sign_39, q_X11_sign_40, q_X11_sign_42, hM, y_is, y_gf, y_pf, y_f0, y_f1, y_f3, y_nI, y_nK, y_nZ, y_nL, y_nR, y_k1i, y_k1r, y_k1l, y_k1n, y_tl, y_tn, y_s, y_ss, List.getElem?_cons_zero, List.getElem?_cons_succ, List.set_cons_zero, List.set_cons_succ, List.length_cons, List.length_nil, true_and, and_true]
  refine m_bad h (fun g' a1 a2 => ?_)
  simp only [q_X11_sign_45, y_is, y_gf, y_pf, y_f0, y_f1, y_f3, y_nI, y_nK, y_nZ, y_nL, y_nR, y_k1i, y_k1r, y_k1l, y_k1n, y_tl, y_tn, y_s, y_ss, List.getElem?_cons_zero, List.getElem?_cons_succ, List.set_cons_zero, List.set_cons_succ, List.length_cons, List.length_nil, true_and, and_true]
  exact hQ g' a1 a2
theorem m_limb {w i : Int32} (h : MR g S) (hQ : mO g (oLimb S w i) Q) : wp 221 b 0 [.ref 73, .int w, .int i] [] g Q := by
  unfold oLimb at hQ
  obtain ⟨x, r, hM, x0, -⟩ := id h.mM
  obtain ⟨V, hV, v0, v1⟩ := id h.mV
  obtain ⟨F, Z, h78, h79, hZ⟩ := ms_sz hV
  have bad : (inB w 0 1 && decide (¬ i < 0)) = false → wp 221 b 14 [.ref 73, .int w, .int i] [] g Q := by
    intro e
    rw [e, if_neg (by decide)] at hQ
    simp only [q_X11_limb_14, q_X11_limb_15, q_X11_limb_17, hM, y_is, y_gf, y_pf, y_f0, y_f1, y_f3, y_nI, y_nK, y_nZ, y_nL, y_nR, y_k1i, y_k1r, y_k1l, y_k1n, y_tl, y_tn, y_s, y_ss, List.getElem?_cons_zero, List.getElem?_cons_succ, List.set_cons_zero, List.set_cons_succ, List.length_cons, List.length_nil, true_and, and_true]
    refine m_bad h (fun g' a1 a2 => ?_)
    simp only [q_X11_limb_20, y_is, y_gf, y_pf, y_f0, y_f1, y_f3, y_nI, y_nK, y_nZ, y_nL, y_nR, y_k1i, y_k1r, y_k1l, y_k1n, y_tl, y_tn, y_s, y_ss, List.getElem?_cons_zero, List.getElem?_cons_succ, List.set_cons_zero, List.set_cons_succ, List.length_cons, List.length_nil, true_and, and_true]
    exact hQ g' a1 a2
  simp only [q_X11_limb_0, q_X11_limb_1, q_X11_limb_2, q_X11_limb_3, q_X11_limb_4, y_is, y_gf, y_pf, y_f0, y_f1, y_f3, y_nI, y_nK, y_nZ, y_nL, y_nR, y_k1i, y_k1r, y_k1l, y_k1n, y_tl, y_tn, y_s, y_ss, List.getElem?_cons_zero, List.getElem?_cons_succ, List.set_cons_zero, List.set_cons_succ, List.length_cons, List.length_nil, true_and, and_true, litL]
  refine s_inI (by decide) (by decide) (fun z => ?_) (fun z => ?_)
  · obtain ⟨j, j1, j2, e⟩ := z
    subst e
    rw [inB_n (by omega) j1 j2, ck_n (by omega), Bool.true_and] at hQ
    rw [inB_n (by omega) j1 j2, Bool.true_and] at bad
    simp (disch := omega) only [q_X11_limb_7, q_X11_limb_10, q_X11_limb_11, hM, y_is, y_gf, y_pf, y_f0, y_f1, y_f3, y_nI, y_nK, y_nZ, y_nL, y_nR, y_k1i, y_k1r, y_k1l, y_k1n, y_tl, y_tn, y_s, y_ss, List.getElem?_cons_zero, List.getElem?_cons_succ, List.set_cons_zero, List.set_cons_succ, List.length_cons, List.length_nil, true_and, and_true]
    refine br0 (by decide) (brs (fun u => ?_) (fun u => bad (decide_eq_false (fun q => u (Int32.not_lt.mp q)))))
    have u : ¬ i < 0 := Int32.not_lt.mpr u
    rw [decide_eq_true u, if_pos rfl] at hQ
    obtain ⟨m, hm, e⟩ := nI_of u
    subst e
    rw [ck_n (by omega)] at hQ
    obtain ⟨a1, a2, a3⟩ := hZ j (by omega)
    have eV : V j = if j = 0 then S.N else S.D := by
      by_cases c : j = 0
      · rw [if_pos c, c]; exact v0
      · rw [if_neg c, show j = 1 by omega]; exact v1
    rw [← eV] at hQ
    unfold lmb at hQ
    simp (disch := omega) only [q_X11_limb_21, q_X11_limb_22, q_X11_limb_23, q_X11_limb_26, q_X11_limb_27, q_X11_limb_28, hM, h79, a1, y_is, y_gf, y_pf, y_f0, y_f1, y_f3, y_nI, y_nK, y_nZ, y_nL, y_nR, y_k1i, y_k1r, y_k1l, y_k1n, y_tl, y_tn, y_s, y_ss, List.getElem?_cons_zero, List.getElem?_cons_succ, List.set_cons_zero, List.set_cons_succ, List.length_cons, List.length_nil, true_and, and_true, y_lIn, y_lKn, y_lZn, y_lLn, y_wIn, y_wZn, y_wLn, lit, le_n, lt_n, eq_n]
    refine brs (fun a => ?_) (fun a => ?_)
    · rw [if_neg (by omega)] at hQ
      simp only [q_X11_limb_46, q_X11_limb_47, y_is, y_gf, y_pf, y_f0, y_f1, y_f3, y_nI, y_nK, y_nZ, y_nL, y_nR, y_k1i, y_k1r, y_k1l, y_k1n, y_tl, y_tn, y_s, y_ss, List.getElem?_cons_zero, List.getElem?_cons_succ, List.set_cons_zero, List.set_cons_succ, List.length_cons, List.length_nil, true_and, and_true]
      exact hQ g h fr.rf
    · rw [if_pos (by omega)] at hQ
      have e4 := a3 m (by omega)
      simp (disch := omega) only [q_X11_limb_31, q_X11_limb_32, q_X11_limb_35, q_X11_limb_37, q_X11_limb_38, q_X11_limb_39, q_X11_limb_40, q_X11_limb_41, q_X11_limb_42, q_X11_limb_43, q_X11_limb_47, hM, h78, e4, l_i, y_is, y_gf, y_pf, y_f0, y_f1, y_f3, y_nI, y_nK, y_nZ, y_nL, y_nR, y_k1i, y_k1r, y_k1l, y_k1n, y_tl, y_tn, y_s, y_ss, List.getElem?_cons_zero, List.getElem?_cons_succ, List.set_cons_zero, List.set_cons_succ, List.length_cons, List.length_nil, true_and, and_true, y_lIn, y_lKn, y_lZn, y_lLn, y_wIn, y_wZn, y_wLn, lit, le_n, lt_n, eq_n, pk_mul, nI_add]
      exact hQ g h fr.rf
  · simp only [q_X11_limb_7, y_is, y_gf, y_pf, y_f0, y_f1, y_f3, y_nI, y_nK, y_nZ, y_nL, y_nR, y_k1i, y_k1r, y_k1l, y_k1n, y_tl, y_tn, y_s, y_ss, List.getElem?_cons_zero, List.getElem?_cons_succ, List.set_cons_zero, List.set_cons_succ, List.length_cons, List.length_nil, true_and, and_true]
    exact br1 (by first | decide | omega | trivial | simp) (bad (by rw [inB_f (by decide) (by decide) z, Bool.false_and]))
end MOPS3
