/-! ===== the reference: what reading comes to ===== -/
section MREAD3
variable {b : mzB} {Q : mzQ} {r : Int64}
theorem s_mread_end {f0 f1 f2 f3 f4 : Int32} {g0 : mzG} {tl n : Nat} {W : Nat → Nat} {f : Nat → Int32} {rr : rowsT} (hQ : ∀ g' f' q6 q7 q8 q9, g'.2 73 = ob 9 [.ref 74, .ref 75, .ref 76, .ref 77, .ref 78, .ref 79, .int (f0), .int (f1), .int (f2), .ref 80, .int (f3), .ref 81, .int (f4), .ref 82, .long (r), .ref 83, .ref 84, .int (nI tl), .int (q6), .int (q7), .int (q8), .int (q9), .ref 85, .int (nI n)] → g'.2 74 = aI 141 f' → nwf f' (rdW W n rr) → (∃ q, g'.2 85 = aI 27 q) → (∀ k, k ≠ 73 → k ≠ 74 → k ≠ 85 → g'.2 k = g0.2 k) → g'.1 = g0.1 → Q (some (.int (nI n))) g') {g : mzG} {q6 q7 q8 q9 : Int32} (hM : g.2 73 = ob 9 [.ref 74, .ref 75, .ref 76, .ref 77, .ref 78, .ref 79, .int (f0), .int (f1), .int (f2), .ref 80, .int (f3), .ref 81, .int (f4), .ref 82, .long (r), .ref 83, .ref 84, .int (nI tl), .int (q6), .int (q7), .int (q8), .int (q9), .ref 85, .int (nI n)]) (h74 : g.2 74 = aI 141 f) (hW : nwf f W) (hr : rof g rr) (hfr : ∀ k, k ≠ 73 → k ≠ 74 → k ≠ 85 → g.2 k = g0.2 k) (h1 : g.1 = g0.1) {a1 : Value} : wp 219 b 95 [.ref 73, a1] [] g Q := by
  obtain ⟨q, h85, hq⟩ := hr
  have loop : ∀ (d i : Nat) (g' : mzG) (f' : Nat → Int32), i + d = 9 → g'.2 73 = ob 9 [.ref 74, .ref 75, .ref 76, .ref 77, .ref 78, .ref 79, .int (f0), .int (f1), .int (f2), .ref 80, .int (f3), .ref 81, .int (f4), .ref 82, .long (r), .ref 83, .ref 84, .int (nI tl), .int (q6), .int (q7), .int (q8), .int (q9), .ref 85, .int (nI n)] → g'.2 74 = aI 141 f' → nwf f' (fun k => if 1 ≤ k ∧ k < 1 + i then rr 0 (k - 1) else if 10 ≤ k ∧ k < 10 + i then rr 1 (k - 10) else if 19 ≤ k ∧ k < 19 + i then rr 2 (k - 19) else layW W n k) → g'.2 85 = aI 27 q → (∀ k, k ≠ 73 → k ≠ 74 → k ≠ 85 → g'.2 k = g0.2 k) → g'.1 = g0.1 → wp 219 b 105 [.ref 73, .int (nI i)] [] g' Q := by
    intro d
    induction d with
    | zero =>
      intro i g' f' hi hM' h74' hW' h85' hfr' h1'
      have hi : i = 9 := by omega
      subst hi
      rw [q_X11_read_105]
      simp (disch := omega) only [q_X11_read_106, q_X11_read_108, q_X11_read_167, q_X11_read_168, q_X11_read_171, hM', h74', y_ne, y_is, y_gf, y_pf, y_f0, y_f1, y_f3, y_nI, y_nK, y_nZ, y_nL, y_nR, y_k1i, y_k1r, y_k1l, y_k1n, y_tl, y_tn, y_s, y_ss, List.getElem?_cons_zero, List.getElem?_cons_succ, List.set_cons_zero, List.set_cons_succ, List.length_cons, List.length_nil, true_and, and_true, y_lIn, y_lKn, y_lZn, y_lLn, y_wIn, y_wZn, y_wLn, lit, le_n, lt_n, eq_n, lit, litL, le_n, lt_n, eq_n, nI_add, m_neg, pk_sub, pk_mul, i_l, l_i, l_add, l_mul, l_sub, lc_le, lc_ge, lc_lt, lc_gt, lc_eq, l_rem2, l_rem3, i_rem2, i_rem3]
      exact br1 (by first | decide | omega | trivial | simp) (hQ _ _ _ _ _ _ hM' h74' hW' ⟨q, h85'⟩ hfr' h1')
    | succ d ih =>
      intro i g' f' hi hM' h74' hW' h85' hfr' h1'
      rw [q_X11_read_105]
      simp (disch := omega) only [q_X11_read_106, q_X11_read_108, q_X11_read_111, q_X11_read_112, q_X11_read_115, q_X11_read_116, q_X11_read_117, q_X11_read_118, q_X11_read_119, q_X11_read_122, q_X11_read_123, q_X11_read_124, q_X11_read_125, q_X11_read_126, q_X11_read_129, q_X11_read_131, q_X11_read_132, q_X11_read_133, q_X11_read_134, q_X11_read_137, q_X11_read_139, q_X11_read_140, q_X11_read_141, q_X11_read_142, q_X11_read_143, q_X11_read_144, q_X11_read_147, q_X11_read_149, q_X11_read_150, q_X11_read_151, q_X11_read_152, q_X11_read_155, q_X11_read_157, q_X11_read_158, q_X11_read_159, q_X11_read_160, q_X11_read_161, q_X11_read_164, hM', h74', h85', y_ne, le_n, nI_add, y_is, y_gf, y_pf, y_f0, y_f1, y_f3, y_nI, y_nK, y_nZ, y_nL, y_nR, y_k1i, y_k1r, y_k1l, y_k1n, y_tl, y_tn, y_s, y_ss, List.getElem?_cons_zero, List.getElem?_cons_succ, List.set_cons_zero, List.set_cons_succ, List.length_cons, List.length_nil, true_and, and_true, y_lIn, y_lKn, y_lZn, y_lLn, y_wIn, y_wZn, y_wLn, lit, le_n, lt_n, eq_n, lit, litL, le_n, lt_n, eq_n, nI_add, m_neg, pk_sub, pk_mul, i_l, l_i, l_add, l_mul, l_sub, lc_le, lc_ge, lc_lt, lc_gt, lc_eq, l_rem2, l_rem3, i_rem2, i_rem3]
      refine br0 (by omega) ?_
      refine ih (i + 1) _ _ (by omega) (by rw [y_ne (by decide)]; exact hM') y_s ?_ (by rw [y_ne (by decide)]; exact h85') (fun k k1 k2 k3 => by rw [y_ne k2]; exact hfr' k k1 k2 k3) h1'
      have e0 := hq 0 i (by omega) (by omega)
      have e1 := hq 1 i (by omega) (by omega)
      have e2 := hq 2 i (by omega) (by omega)
      rw [show 9 * 0 + i = i by omega] at e0
      rw [show 9 * 1 + i = 9 + i by omega] at e1
      rw [show 9 * 2 + i = 18 + i by omega] at e2
      intro k hk
      simp only []
      by_cases c2 : k = 19 + i
      · subst c2
        rw [u_s, e2, if_neg (by omega), if_neg (by omega), if_pos (by omega), wI_n (by omega), show 19 + i - 19 = i by omega]
      rw [u_n c2]
      by_cases c1 : k = 10 + i
      · subst c1
        rw [u_s, e1, if_neg (by omega), if_pos (by omega), wI_n (by omega), show 10 + i - 10 = i by omega]
      rw [u_n c1]
      by_cases c0 : k = 1 + i
      · subst c0
        rw [u_s, e0, if_pos (by omega), wI_n (by omega), show 1 + i - 1 = i by omega]
      rw [u_n c0, hW' k hk]
      congr 1
      simp only []
      by_cases d0 : 1 ≤ k ∧ k < 1 + i
      · rw [if_pos d0, if_pos (show 1 ≤ k ∧ k < 1 + (i + 1) by omega)]
      rw [if_neg d0, if_neg (show ¬ (1 ≤ k ∧ k < 1 + (i + 1)) by omega)]
      by_cases d1 : 10 ≤ k ∧ k < 10 + i
      · rw [if_pos d1, if_pos (show 10 ≤ k ∧ k < 10 + (i + 1) by omega)]
      rw [if_neg d1, if_neg (show ¬ (10 ≤ k ∧ k < 10 + (i + 1)) by omega)]
      by_cases d2 : 19 ≤ k ∧ k < 19 + i
      · rw [if_pos d2, if_pos (show 19 ≤ k ∧ k < 19 + (i + 1) by omega)]
      rw [if_neg d2, if_neg (show ¬ (19 ≤ k ∧ k < 19 + (i + 1)) by omega)]
  simp (disch := omega) only [q_X11_read_95, q_X11_read_96, q_X11_read_97, q_X11_read_100, hM, y_is, y_gf, y_pf, y_f0, y_f1, y_f3, y_nI, y_nK, y_nZ, y_nL, y_nR, y_k1i, y_k1r, y_k1l, y_k1n, y_tl, y_tn, y_s, y_ss, List.getElem?_cons_zero, List.getElem?_cons_succ, List.set_cons_zero, List.set_cons_succ, List.length_cons, List.length_nil, true_and, and_true]
  refine s_begin (x := fun k => if k = 0 then f0 else if k = 1 then f1 else if k = 2 then f2 else if k = 3 then f3 else if k = 4 then f4 else if k = 5 then nI tl else if k = 6 then q6 else if k = 7 then q7 else if k = 8 then q8 else if k = 9 then q9 else nI n) (r := r) hM h74 hW (fun g2 f2' h74' hW' hf2 => ?_)
  simp only [q_X11_read_103, q_X11_read_104, y_is, y_gf, y_pf, y_f0, y_f1, y_f3, y_nI, y_nK, y_nZ, y_nL, y_nR, y_k1i, y_k1r, y_k1l, y_k1n, y_tl, y_tn, y_s, y_ss, List.getElem?_cons_zero, List.getElem?_cons_succ, List.set_cons_zero, List.set_cons_succ, List.length_cons, List.length_nil, true_and, and_true]
  refine loop 9 0 g2 f2' rfl (by rw [hf2.2 _ (by omega)]; exact hM) h74' ?_ (by rw [hf2.2 _ (by omega)]; exact h85) (fun k k1 k2 k3 => by rw [hf2.2 _ (by omega)]; exact hfr k k1 k2 k3) (hf2.1.trans h1)
  intro k hk
  rw [hW' k hk]
  congr 1
  simp only []
  rw [if_neg (by omega), if_neg (by omega), if_neg (by omega)]
theorem tk_end {tb : Nat → Nat} {tl a : Nat} (h : tl ≤ a) (ha : a ≤ tl) : tkT tb tl a = 0 := by
  have := tkP_b (tb := tb) ha
  unfold tkT
  rw [if_pos (by omega)]
theorem s_mread {f0 f1 f2 f3 f4 f6 f7 f8 f9 f10 : Int32} {g : mzG} {tb : Nat → Nat} {tl : Nat} {W : Nat → Nat} {f : Nat → Int32} (hM : g.2 73 = ob 9 [.ref 74, .ref 75, .ref 76, .ref 77, .ref 78, .ref 79, .int (f0), .int (f1), .int (f2), .ref 80, .int (f3), .ref 81, .int (f4), .ref 82, .long (r), .ref 83, .ref 84, .int (nI tl), .int (f6), .int (f7), .int (f8), .int (f9), .ref 85, .int (f10)]) (h74 : g.2 74 = aI 141 f) (hW : nwf f W) (hB : by_ g tb tl) (h85 : ∃ q, g.2 85 = aI 27 q) (hbad : ∀ p, pal tb tl = .inl p → ∀ g' q7 q8 q9 q10, g'.2 73 = ob 9 [.ref 74, .ref 75, .ref 76, .ref 77, .ref 78, .ref 79, .int (f0), .int (f1), .int (f2), .ref 80, .int (f3), .ref 81, .int (f4), .ref 82, .long (r), .ref 83, .ref 84, .int (nI tl), .int (nI p), .int (q7), .int (q8), .int (q9), .ref 85, .int (q10)] → (∃ q, g'.2 85 = aI 27 q) → (∀ k, k ≠ 73 → k ≠ 85 → g'.2 k = g.2 k) → g'.1 = g.1 → Q (some (.int (-10 - nI p))) g') (hok : ∀ n rr, pal tb tl = .inr (n, rr) → 1 ≤ n → n ≤ 9 → ∀ g' f' q6 q7 q8 q9, g'.2 73 = ob 9 [.ref 74, .ref 75, .ref 76, .ref 77, .ref 78, .ref 79, .int (f0), .int (f1), .int (f2), .ref 80, .int (f3), .ref 81, .int (f4), .ref 82, .long (r), .ref 83, .ref 84, .int (nI tl), .int (q6), .int (q7), .int (q8), .int (q9), .ref 85, .int (nI n)] → g'.2 74 = aI 141 f' → nwf f' (rdW W n rr) → (∃ q, g'.2 85 = aI 27 q) → (∀ k, k ≠ 73 → k ≠ 74 → k ≠ 85 → g'.2 k = g.2 k) → g'.1 = g.1 → Q (some (.int (nI n))) g') : wp 219 b 0 [.ref 73, .null] [] g Q := by
  have hlen := hB.2
  have init : ∀ (d i : Nat) (g' : mzG) (q : Nat → Int32), i + d = 27 → g'.2 73 = ob 9 [.ref 74, .ref 75, .ref 76, .ref 77, .ref 78, .ref 79, .int (f0), .int (f1), .int (f2), .ref 80, .int (f3), .ref 81, .int (f4), .ref 82, .long (r), .ref 83, .ref 84, .int (nI tl), .int (f6), .int (f7), .int (f8), .int (f9), .ref 85, .int (f10)] → g'.2 85 = aI 27 q → (∀ k, k < i → q k = nI (row0 (k / 9) (k % 9))) → (∀ k, k ≠ 73 → k ≠ 85 → g'.2 k = g.2 k) → g'.1 = g.1 → (∀ g2, g2.2 73 = ob 9 [.ref 74, .ref 75, .ref 76, .ref 77, .ref 78, .ref 79, .int (f0), .int (f1), .int (f2), .ref 80, .int (f3), .ref 81, .int (f4), .ref 82, .long (r), .ref 83, .ref 84, .int (nI tl), .int (f6), .int (f7), .int (f8), .int (f9), .ref 85, .int (f10)] → rof g2 row0 → (∀ k, k ≠ 73 → k ≠ 85 → g2.2 k = g.2 k) → g2.1 = g.1 → wp 219 b 42 [.ref 73, .int (nI 27)] [] g2 Q) → wp 219 b 2 [.ref 73, .int (nI i)] [] g' Q := by
    intro d
    induction d with
    | zero =>
      intro i g' q hi hM' h85' hq hfr h1 k
      have hi : i = 27 := by omega
      subst hi
      rw [q_X11_read_2]
      simp (disch := omega) only [q_X11_read_3, q_X11_read_5, y_is, y_gf, y_pf, y_f0, y_f1, y_f3, y_nI, y_nK, y_nZ, y_nL, y_nR, y_k1i, y_k1r, y_k1l, y_k1n, y_tl, y_tn, y_s, y_ss, List.getElem?_cons_zero, List.getElem?_cons_succ, List.set_cons_zero, List.set_cons_succ, List.length_cons, List.length_nil, true_and, and_true, y_lIn, y_lKn, y_lZn, y_lLn, y_wIn, y_wZn, y_wLn, lit, le_n, lt_n, eq_n, lit, litL, le_n, lt_n, eq_n, nI_add, m_neg, pk_sub, pk_mul, i_l, l_i, l_add, l_mul, l_sub, lc_le, lc_ge, lc_lt, lc_gt, lc_eq, l_rem2, l_rem3, i_rem2, i_rem3]
      refine br1 (by first | decide | omega | trivial | simp) (k g' hM' ⟨q, h85', fun i p hi hp => ?_⟩ hfr h1)
      rw [hq _ (by omega), show (9 * i + p) / 9 = i by omega]
      rfl
    | succ d ih =>
      intro i g' q hi hM' h85' hq hfr h1 k
      have st : ∀ v : Nat, v = row0 (i / 9) (i % 9) → wp 219 b 35 [.ref 73, .int (nI i)] [.int (nI v), .int (nI i), .ref 85] g' Q := by
        intro v hv
        simp (disch := omega) only [q_X11_read_35, q_X11_read_36, q_X11_read_39, h85', y_is, y_gf, y_pf, y_f0, y_f1, y_f3, y_nI, y_nK, y_nZ, y_nL, y_nR, y_k1i, y_k1r, y_k1l, y_k1n, y_tl, y_tn, y_s, y_ss, List.getElem?_cons_zero, List.getElem?_cons_succ, List.set_cons_zero, List.set_cons_succ, List.length_cons, List.length_nil, true_and, and_true, y_lIn, y_lKn, y_lZn, y_lLn, y_wIn, y_wZn, y_wLn, lit, le_n, lt_n, eq_n, lit, nI_add]
        refine ih (i + 1) _ _ (by omega) (by rw [y_ne (by decide)]; exact hM') y_s (fun j hj => ?_) (fun k k1 k2 => by rw [y_ne k2]; exact hfr k k1 k2) h1 k
        by_cases e : j = i
        · subst e; rw [u_s, hv]
        · rw [u_n e]; exact hq j (by omega)
      rw [q_X11_read_2]
      simp (disch := omega) only [q_X11_read_3, q_X11_read_5, q_X11_read_8, q_X11_read_9, q_X11_read_12, q_X11_read_13, q_X11_read_14, q_X11_read_16, hM', le_n, y_is, y_gf, y_pf, y_f0, y_f1, y_f3, y_nI, y_nK, y_nZ, y_nL, y_nR, y_k1i, y_k1r, y_k1l, y_k1n, y_tl, y_tn, y_s, y_ss, List.getElem?_cons_zero, List.getElem?_cons_succ, List.set_cons_zero, List.set_cons_succ, List.length_cons, List.length_nil, true_and, and_true, y_lIn, y_lKn, y_lZn, y_lLn, y_wIn, y_wZn, y_wLn, lit, le_n, lt_n, eq_n, lit, litL, le_n, lt_n, eq_n, nI_add, m_neg, pk_sub, pk_mul, i_l, l_i, l_add, l_mul, l_sub, lc_le, lc_ge, lc_lt, lc_gt, lc_eq, l_rem2, l_rem3, i_rem2, i_rem3]
      refine br0 (by omega) (brs (fun z => ?_) (fun z => ?_))
      · simp (disch := omega) only [q_X11_read_24, q_X11_read_25, q_X11_read_27, y_is, y_gf, y_pf, y_f0, y_f1, y_f3, y_nI, y_nK, y_nZ, y_nL, y_nR, y_k1i, y_k1r, y_k1l, y_k1n, y_tl, y_tn, y_s, y_ss, List.getElem?_cons_zero, List.getElem?_cons_succ, List.set_cons_zero, List.set_cons_succ, List.length_cons, List.length_nil, true_and, and_true, lit, le_n]
        refine brs (fun y => ?_) (fun y => ?_)
        · simp only [q_X11_read_34, y_is, y_gf, y_pf, y_f0, y_f1, y_f3, y_nI, y_nK, y_nZ, y_nL, y_nR, y_k1i, y_k1r, y_k1l, y_k1n, y_tl, y_tn, y_s, y_ss, List.getElem?_cons_zero, List.getElem?_cons_succ, List.set_cons_zero, List.set_cons_succ, List.length_cons, List.length_nil, true_and, and_true]
          refine st 0 ?_
          unfold row0
          rw [if_neg (by omega), if_neg (by omega)]
        · simp only [q_X11_read_30, q_X11_read_31, y_is, y_gf, y_pf, y_f0, y_f1, y_f3, y_nI, y_nK, y_nZ, y_nL, y_nR, y_k1i, y_k1r, y_k1l, y_k1n, y_tl, y_tn, y_s, y_ss, List.getElem?_cons_zero, List.getElem?_cons_succ, List.set_cons_zero, List.set_cons_succ, List.length_cons, List.length_nil, true_and, and_true]
          refine st 1 ?_
          unfold row0
          rw [if_neg (by omega), if_pos (by omega)]
      · simp only [q_X11_read_19, q_X11_read_21, y_is, y_gf, y_pf, y_f0, y_f1, y_f3, y_nI, y_nK, y_nZ, y_nL, y_nR, y_k1i, y_k1r, y_k1l, y_k1n, y_tl, y_tn, y_s, y_ss, List.getElem?_cons_zero, List.getElem?_cons_succ, List.set_cons_zero, List.set_cons_succ, List.length_cons, List.length_nil, true_and, and_true]
        refine st 10 ?_
        unfold row0
        rw [if_pos (by omega)]
  obtain ⟨qq, h85⟩ := h85
  simp only [q_X11_read_0, q_X11_read_1, y_is, y_gf, y_pf, y_f0, y_f1, y_f3, y_nI, y_nK, y_nZ, y_nL, y_nR, y_k1i, y_k1r, y_k1l, y_k1n, y_tl, y_tn, y_s, y_ss, List.getElem?_cons_zero, List.getElem?_cons_succ, List.set_cons_zero, List.set_cons_succ, List.length_cons, List.length_nil, true_and, and_true]
  refine init 27 0 g qq rfl hM h85 (fun k hk => by omega) (fun _ _ _ => rfl) rfl (fun g2 hM2 hr2 hfr2 h12 => ?_)
  simp only [q_X11_read_42, q_X11_read_43, q_X11_read_44, hM2, y_is, y_gf, y_pf, y_f0, y_f1, y_f3, y_nI, y_nK, y_nZ, y_nL, y_nR, y_k1i, y_k1r, y_k1l, y_k1n, y_tl, y_tn, y_s, y_ss, List.getElem?_cons_zero, List.getElem?_cons_succ, List.set_cons_zero, List.set_cons_succ, List.length_cons, List.length_nil, true_and, and_true]
  have hB2 : by_ g2 tb tl := hB.frm (hfr2 _ (by decide) (by decide))
  refine s_look (a := 0) hM2 hB2 (Nat.zero_le _) (fun g3 va hM3 hv3 hf3 => ?_)
  have hB3 := hB2.frm (hf3.2 84 (by omega))
  have h0 : (0 : Nat) ≤ tl := Nat.zero_le _
  have hE0 := tkE_b (tb := tb) h0
  have hE1 := tkE_b (tb := tb) hE0.2.1
  have hE2 := tkE_b (tb := tb) hE1.2.1
  have frm : ∀ g4, fr g3 g4 73 74 → (∀ k, k ≠ 73 → k ≠ 85 → g4.2 k = g.2 k) ∧ g4.1 = g.1 ∧ rof g4 row0 := by
    intro g4 hf4
    refine ⟨fun k k1 k2 => by rw [hf4.2 _ (by omega), hf3.2 _ (by omega)]; exact hfr2 k k1 k2, hf4.1.trans (hf3.1.trans h12), ?_⟩
    obtain ⟨q, e1, e2⟩ := hr2
    exact ⟨q, by rw [hf4.2 _ (by omega), hf3.2 _ (by omega)]; exact e1, e2⟩
  -- one fails
  have bad : ∀ p, pal tb tl = .inl p → ∀ g' q7 q8 q9 q10, g'.2 73 = ob 9 [.ref 74, .ref 75, .ref 76, .ref 77, .ref 78, .ref 79, .int (f0), .int (f1), .int (f2), .ref 80, .int (f3), .ref 81, .int (f4), .ref 82, .long (r), .ref 83, .ref 84, .int (nI tl), .int (nI p), .int (q7), .int (q8), .int (q9), .ref 85, .int (q10)] → (∃ q, g'.2 85 = aI 27 q) → (∀ k, k ≠ 73 → k ≠ 85 → g'.2 k = g.2 k) → g'.1 = g.1 → wp 219 b 51 [.ref 73, .int (nI 27)] [.int 0] g' Q := by
    intro p hp g' q7 q8 q9 q10 hM' h85' hfr' h1'
    simp (disch := omega) only [q_X11_read_51, q_X11_read_54, q_X11_read_56, q_X11_read_57, q_X11_read_60, q_X11_read_61, hM', y_is, y_gf, y_pf, y_f0, y_f1, y_f3, y_nI, y_nK, y_nZ, y_nL, y_nR, y_k1i, y_k1r, y_k1l, y_k1n, y_tl, y_tn, y_s, y_ss, List.getElem?_cons_zero, List.getElem?_cons_succ, List.set_cons_zero, List.set_cons_succ, List.length_cons, List.length_nil, true_and, and_true]
    exact br0 (fun z => z (by first | decide | omega | trivial | simp)) (hbad p hp g' _ _ _ _ hM' h85' hfr' h1')
  have toE : ∀ g4, rof g4 row0 → ∃ q, g4.2 85 = aI 27 q := fun g4 ⟨q, e, _⟩ => ⟨q, e⟩
  simp (disch := omega) only [q_X11_read_47, q_X11_read_48, hM3, y_is, y_gf, y_pf, y_f0, y_f1, y_f3, y_nI, y_nK, y_nZ, y_nL, y_nR, y_k1i, y_k1r, y_k1l, y_k1n, y_tl, y_tn, y_s, y_ss, List.getElem?_cons_zero, List.getElem?_cons_succ, List.set_cons_zero, List.set_cons_succ, List.length_cons, List.length_nil, true_and, and_true]
  refine s_readsFirst (a := 0) hM3 hB3 h0 (fun hw => ?_) (fun hw hno g4 q7 q8 q9 q10 hM4 hf4 => ?_) (fun hw hyes g4 q9 hM4 hf4 => ?_)
  · obtain ⟨a1, a2, a3⟩ := frm g3 fr.rf
    refine bad (tkP tb tl 0) (by unfold pal; rw [if_neg (by rw [hw]; decide)]) g3 _ _ _ _ hM3 (toE _ a3) a1 a2
  · obtain ⟨a1, a2, a3⟩ := frm g4 hf4
    refine bad _ (by unfold pal; rw [if_pos hw]; unfold pal2; rw [if_neg hno]) g4 _ _ _ _ hM4 (toE _ a3) a1 a2
  · obtain ⟨a1, a2, a3⟩ := frm g4 hf4
    have hpal : pal tb tl = pal3 tb tl (tkV tb tl (tkE tb tl 0)) (tkE tb tl (tkE tb tl 0)) := by unfold pal; rw [if_pos hw]; unfold pal2; rw [if_pos hyes]
    rw [hpal] at hbad hok bad
    obtain ⟨-, n1, n2⟩ := hyes
    generalize tkV tb tl (tkE tb tl 0) = n at *
    generalize tkE tb tl (tkE tb tl 0) = a at *
    unfold pal3 at hbad hok bad
    by_cases c3 : tkT tb tl a = 3
    · rw [if_pos c3] at hbad hok bad ⊢
      have hE := tkE_b (tb := tb) hE1.2.1
      simp (disch := omega) only [q_X11_read_51, y_is, y_gf, y_pf, y_f0, y_f1, y_f3, y_nI, y_nK, y_nZ, y_nL, y_nR, y_k1i, y_k1r, y_k1l, y_k1n, y_tl, y_tn, y_s, y_ss, List.getElem?_cons_zero, List.getElem?_cons_succ, List.set_cons_zero, List.set_cons_succ, List.length_cons, List.length_nil, true_and, and_true]
      refine br1 (by decide) ?_
      simp (disch := omega) only [q_X11_read_62, q_X11_read_63, hM4, y_is, y_gf, y_pf, y_f0, y_f1, y_f3, y_nI, y_nK, y_nZ, y_nL, y_nR, y_k1i, y_k1r, y_k1l, y_k1n, y_tl, y_tn, y_s, y_ss, List.getElem?_cons_zero, List.getElem?_cons_succ, List.set_cons_zero, List.set_cons_succ, List.length_cons, List.length_nil, true_and, and_true]
      have hB4 := hB3.frm (hf4.2 84 (by omega))
      refine s_goOn hM4 hB4 hE.1 hE.2.1 (fun g5 va5 hM5 hv5 hf5 => ?_)
      have h745 : g5.2 74 = aI 141 f := by rw [hf5.2 _ (by omega), a1 _ (by decide) (by decide)]; exact h74
      have loop : ∀ (d a : Nat) (rr : rowsT) (g' : mzG) (va : Int32) (R : Nat ⊕ rowsT), 200 ≤ a + d → a ≤ tl → pits tb tl n d a rr = R → g'.2 73 = ob 9 [.ref 74, .ref 75, .ref 76, .ref 77, .ref 78, .ref 79, .int (f0), .int (f1), .int (f2), .ref 80, .int (f3), .ref 81, .int (f4), .ref 82, .long (r), .ref 83, .ref 84, .int (nI tl), .int (nI (tkP tb tl a)), .int (nI (tkE tb tl a - tkP tb tl a)), .int (nI (tkT tb tl a)), .int (va), .ref 85, .int (nI n)] → rof g' rr → (∀ k, k ≠ 73 → k ≠ 85 → g'.2 k = g.2 k) → g'.1 = g.1 → (∀ p, R = .inl p → ∀ g' q7 q8 q9 q10, g'.2 73 = ob 9 [.ref 74, .ref 75, .ref 76, .ref 77, .ref 78, .ref 79, .int (f0), .int (f1), .int (f2), .ref 80, .int (f3), .ref 81, .int (f4), .ref 82, .long (r), .ref 83, .ref 84, .int (nI tl), .int (nI p), .int (q7), .int (q8), .int (q9), .ref 85, .int (q10)] → (∃ q, g'.2 85 = aI 27 q) → (∀ k, k ≠ 73 → k ≠ 85 → g'.2 k = g.2 k) → g'.1 = g.1 → Q (some (.int (-10 - nI p))) g') → (∀ rr, R = .inr rr → ∀ g' q6 q7 q8 q9, g'.2 73 = ob 9 [.ref 74, .ref 75, .ref 76, .ref 77, .ref 78, .ref 79, .int (f0), .int (f1), .int (f2), .ref 80, .int (f3), .ref 81, .int (f4), .ref 82, .long (r), .ref 83, .ref 84, .int (nI tl), .int (q6), .int (q7), .int (q8), .int (q9), .ref 85, .int (nI n)] → rof g' rr → (∀ k, k ≠ 73 → k ≠ 85 → g'.2 k = g.2 k) → g'.1 = g.1 → wp 219 b 95 [.ref 73, .int (nI 27)] [] g' Q) → wp 219 b 66 [.ref 73, .int (nI 27)] [] g' Q := by
        intro d
        induction d with
        | zero =>
          intro a rr g' va R had hal hR hM' hr' hfr' h1' kb ko
          rw [pits] at hR
          rw [tk_end (by omega) hal] at hM'
          rw [q_X11_read_66]
          simp (disch := omega) only [q_X11_read_67, q_X11_read_70, hM', y_is, y_gf, y_pf, y_f0, y_f1, y_f3, y_nI, y_nK, y_nZ, y_nL, y_nR, y_k1i, y_k1r, y_k1l, y_k1n, y_tl, y_tn, y_s, y_ss, List.getElem?_cons_zero, List.getElem?_cons_succ, List.set_cons_zero, List.set_cons_succ, List.length_cons, List.length_nil, true_and, and_true, y_lIn, y_lKn, y_lZn, y_lLn, y_wIn, y_wZn, y_wLn, lit, le_n, lt_n, eq_n, lit, litL, le_n, lt_n, eq_n, nI_add, m_neg, pk_sub, pk_mul, i_l, l_i, l_add, l_mul, l_sub, lc_le, lc_ge, lc_lt, lc_gt, lc_eq, l_rem2, l_rem3, i_rem2, i_rem3]
          exact br1 (by first | decide | omega | trivial | simp) (ko rr hR.symm g' _ _ _ _ hM' hr' hfr' h1')
        | succ d ih =>
          intro a rr g' va R had hal hR hM' hr' hfr' h1' kb ko
          rw [pits] at hR
          have ht := tkT_le (tb := tb) (len := tl) (a := a)
          rw [q_X11_read_66]
          simp (disch := omega) only [q_X11_read_67, q_X11_read_70, hM', y_is, y_gf, y_pf, y_f0, y_f1, y_f3, y_nI, y_nK, y_nZ, y_nL, y_nR, y_k1i, y_k1r, y_k1l, y_k1n, y_tl, y_tn, y_s, y_ss, List.getElem?_cons_zero, List.getElem?_cons_succ, List.set_cons_zero, List.set_cons_succ, List.length_cons, List.length_nil, true_and, and_true, y_lIn, y_lKn, y_lZn, y_lLn, y_wIn, y_wZn, y_wLn, lit, le_n, lt_n, eq_n, lit, litL, le_n, lt_n, eq_n, nI_add, m_neg, pk_sub, pk_mul, i_l, l_i, l_add, l_mul, l_sub, lc_le, lc_ge, lc_lt, lc_gt, lc_eq, l_rem2, l_rem3, i_rem2, i_rem3]
          refine brs (fun z => ?_) (fun z => ?_)
          · rw [if_pos z] at hR
            exact ko rr hR.symm g' _ _ _ _ hM' hr' hfr' h1'
          · rw [if_neg z] at hR
            simp (disch := omega) only [q_X11_read_73, q_X11_read_74, hM', y_is, y_gf, y_pf, y_f0, y_f1, y_f3, y_nI, y_nK, y_nZ, y_nL, y_nR, y_k1i, y_k1r, y_k1l, y_k1n, y_tl, y_tn, y_s, y_ss, List.getElem?_cons_zero, List.getElem?_cons_succ, List.set_cons_zero, List.set_cons_succ, List.length_cons, List.length_nil, true_and, and_true]
            have hB' : by_ g' tb tl := hB.frm (hfr' _ (by decide) (by decide))
            refine s_readsNext hM' hB' hal n2 hr' (fun p e g6 q7 q8 q9 hM6 h85' hfr6 h16 => ?_) (fun a2 r2 e g6 q p t q9 hpa hM6 hr6 hlt hle hfr6 _ h16 => ?_)
            · rw [e] at hR
              simp (disch := omega) only [q_X11_read_77, q_X11_read_80, q_X11_read_82, q_X11_read_83, q_X11_read_86, q_X11_read_87, hM6, y_is, y_gf, y_pf, y_f0, y_f1, y_f3, y_nI, y_nK, y_nZ, y_nL, y_nR, y_k1i, y_k1r, y_k1l, y_k1n, y_tl, y_tn, y_s, y_ss, List.getElem?_cons_zero, List.getElem?_cons_succ, List.set_cons_zero, List.set_cons_succ, List.length_cons, List.length_nil, true_and, and_true]
              exact br0 (fun z => z (by first | decide | omega | trivial | simp)) (kb p hR.symm g6 _ _ _ _ hM6 h85' (fun k k1 k2 => (hfr6 k k1 k2).trans (hfr' k k1 k2)) (h16.trans h1'))
            · rw [e] at hR
              simp (disch := omega) only [q_X11_read_77, y_is, y_gf, y_pf, y_f0, y_f1, y_f3, y_nI, y_nK, y_nZ, y_nL, y_nR, y_k1i, y_k1r, y_k1l, y_k1n, y_tl, y_tn, y_s, y_ss, List.getElem?_cons_zero, List.getElem?_cons_succ, List.set_cons_zero, List.set_cons_succ, List.length_cons, List.length_nil, true_and, and_true]
              refine br1 (by decide) ?_
              simp (disch := omega) only [q_X11_read_88, q_X11_read_89, hM6, y_is, y_gf, y_pf, y_f0, y_f1, y_f3, y_nI, y_nK, y_nZ, y_nL, y_nR, y_k1i, y_k1r, y_k1l, y_k1n, y_tl, y_tn, y_s, y_ss, List.getElem?_cons_zero, List.getElem?_cons_succ, List.set_cons_zero, List.set_cons_succ, List.length_cons, List.length_nil, true_and, and_true]
              refine s_goOn hM6 (hB'.frm (hfr6 _ (by decide) (by decide))) hpa hle (fun g7 va7 hM7 hv7 hf7 => ?_)
              simp only [q_X11_read_92, y_is, y_gf, y_pf, y_f0, y_f1, y_f3, y_nI, y_nK, y_nZ, y_nL, y_nR, y_k1i, y_k1r, y_k1l, y_k1n, y_tl, y_tn, y_s, y_ss, List.getElem?_cons_zero, List.getElem?_cons_succ, List.set_cons_zero, List.set_cons_succ, List.length_cons, List.length_nil, true_and, and_true]
              refine ih a2 r2 g7 va7 R (by omega) hle hR hM7 ?_ (fun k k1 k2 => by rw [hf7.2 _ (by omega), hfr6 k k1 k2]; exact hfr' k k1 k2) (hf7.1.trans (h16.trans h1')) kb ko
              obtain ⟨q, e1, e2⟩ := hr6
              exact ⟨q, by rw [hf7.2 _ (by omega)]; exact e1, e2⟩
      refine loop 200 (tkE tb tl a) row0 g5 va5 _ (by omega) hE.2.1 rfl hM5 ?_ (fun k k1 k2 => by rw [hf5.2 _ (by omega)]; exact a1 k k1 k2) (hf5.1.trans a2) ?_ ?_
      · obtain ⟨q, e1, e2⟩ := a3
        exact ⟨q, by rw [hf5.2 _ (by omega)]; exact e1, e2⟩
      · intro p e
        exact hbad p (by rw [e])
      · intro rr e g6 q6 q7 q8 q9 hM6 hr6 hfr6 h16
        refine s_mread_end (g0 := g) (fun g7 f7 q6 q7 q8 q9 hM7 h747 hW7 h857 hfr7 h17 => hok n rr (by rw [e]) n1 n2 g7 f7 _ _ _ _ hM7 h747 hW7 h857 hfr7 h17) hM6 (by rw [hfr6 _ (by decide) (by decide)]; exact h74) hW hr6 (fun k k1 k2 k3 => hfr6 k k1 k3) h16
    · rw [if_neg c3] at hbad hok bad ⊢
      exact bad _ rfl g4 _ _ _ _ hM4 (toE _ a3) a1 a2
end MREAD3
