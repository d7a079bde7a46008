/-! ===== the reference: the same calls ===== -/
section MOPS
variable {b : mzB} {g : mzG} {Q : mzQ} {S : sT}
theorem m_bad {v : Int32} (h : MR g S) (hQ : mO g (rfs S 0, v) Q) : wp 132 b 0 [.ref 73, .int v] [] g Q := by
  obtain ⟨x, r, hM, -⟩ := h.mM
  exact s_mbad hM h.mR (fun g' h1 h2 => hQ g' (h.r h2 h1) (h2.wide (by omega) (by omega)))
theorem m_no (h : MR g S) (hQ : mO g (rfs S 1, -3) Q) : wp 133 b 0 [.ref 73] [] g Q := by
  obtain ⟨x, r, hM, -⟩ := h.mM
  exact s_mno hM h.mR (fun g' h1 h2 => hQ g' (h.r h2 h1) (h2.wide (by omega) (by omega)))
theorem m_full (h : MR g S) (hQ : mO g (rfs S 2, -4) Q) : wp 134 b 0 [.ref 73] [] g Q := by
  obtain ⟨x, r, hM, -⟩ := h.mM
  exact s_mfull hM h.mR (fun g' h1 h2 => hQ g' (h.r h2 h1) (h2.wide (by omega) (by omega)))
/-- one number of the watch anew -/
theorem pN.up {W : Nat → Nat} {f : Nat → Int32} {k n : Nat} {v : Int32} (h : nwf f W) (hv : v = wI k n) : pN (hs g 74 (aI 141 (upd f k v))) (va_up W k n) := ⟨_, y_s, nwf_up h hv⟩
theorem m_posts {v : Int32} (h : MR g S) (hS : sv S) (hQ : mO g (oPosts S v) Q) : wp 152 b 0 [.ref 73, .int v, .null] [] g Q := by
  unfold oPosts at hQ
  obtain ⟨x, r, hM, -⟩ := id h.mM
  obtain ⟨f, h74, hW⟩ := id h.mW
  simp only [q_X11_posts_0, q_X11_posts_1, q_X11_posts_2, q_X11_posts_3, q_X11_posts_6, y_is, y_gf, y_pf, y_f0, y_f1, y_f3, y_nI, y_nK, y_nZ, y_nL, y_nR, y_k1i, y_k1r, y_k1l, y_k1n, y_tl, y_tn, y_s, y_ss, List.getElem?_cons_zero, List.getElem?_cons_succ, List.set_cons_zero, List.set_cons_succ, List.length_cons, List.length_nil, true_and, and_true, litL]
  refine s_inI (by decide) (by decide) (fun z => ?_) (fun z => ?_)
  · obtain ⟨j, j1, j2, e⟩ := z
    subst e
    rw [inB_n (by omega) j1 j2, ck_n (by omega), if_pos rfl] at hQ
    simp only [q_X11_posts_9, y_is, y_gf, y_pf, y_f0, y_f1, y_f3, y_nI, y_nK, y_nZ, y_nL, y_nR, y_k1i, y_k1r, y_k1l, y_k1n, y_tl, y_tn, y_s, y_ss, List.getElem?_cons_zero, List.getElem?_cons_succ, List.set_cons_zero, List.set_cons_succ, List.length_cons, List.length_nil, true_and, and_true]
    refine br1 (by decide) ?_
    simp only [q_X11_posts_19, q_X11_posts_20, hM, y_is, y_gf, y_pf, y_f0, y_f1, y_f3, y_nI, y_nK, y_nZ, y_nL, y_nR, y_k1i, y_k1r, y_k1l, y_k1n, y_tl, y_tn, y_s, y_ss, List.getElem?_cons_zero, List.getElem?_cons_succ, List.set_cons_zero, List.set_cons_succ, List.length_cons, List.length_nil, true_and, and_true]
    refine s_watched hM h74 hW ?_
    simp only [q_X11_posts_23, q_X11_posts_24, q_X11_posts_25, q_X11_posts_26, hM, y_is, y_gf, y_pf, y_f0, y_f1, y_f3, y_nI, y_nK, y_nZ, y_nL, y_nR, y_k1i, y_k1r, y_k1l, y_k1n, y_tl, y_tn, y_s, y_ss, List.getElem?_cons_zero, List.getElem?_cons_succ, List.set_cons_zero, List.set_cons_succ, List.length_cons, List.length_nil, true_and, and_true]
    refine s_begin hM h74 hW (fun g' f' a1 a2 a3 => ?_)
    simp only [q_X11_posts_29, q_X11_posts_30, y_is, y_gf, y_pf, y_f0, y_f1, y_f3, y_nI, y_nK, y_nZ, y_nL, y_nR, y_k1i, y_k1r, y_k1l, y_k1n, y_tl, y_tn, y_s, y_ss, List.getElem?_cons_zero, List.getElem?_cons_succ, List.set_cons_zero, List.set_cons_succ, List.length_cons, List.length_nil, true_and, and_true]
    exact hQ g' (h.w a3 ⟨f', a1, a2⟩) (a3.wide (by omega) (by omega))
  · rw [inB_f (by omega) (by omega) z, if_neg (by decide)] at hQ
    simp only [q_X11_posts_9, q_X11_posts_12, q_X11_posts_13, q_X11_posts_15, hM, y_is, y_gf, y_pf, y_f0, y_f1, y_f3, y_nI, y_nK, y_nZ, y_nL, y_nR, y_k1i, y_k1r, y_k1l, y_k1n, y_tl, y_tn, y_s, y_ss, List.getElem?_cons_zero, List.getElem?_cons_succ, List.set_cons_zero, List.set_cons_succ, List.length_cons, List.length_nil, true_and, and_true]
    refine br0 (fun z => z (by first | decide | omega | trivial | simp)) (m_bad h (fun g' a1 a2 => ?_))
    simp only [q_X11_posts_18, y_is, y_gf, y_pf, y_f0, y_f1, y_f3, y_nI, y_nK, y_nZ, y_nL, y_nR, y_k1i, y_k1r, y_k1l, y_k1n, y_tl, y_tn, y_s, y_ss, List.getElem?_cons_zero, List.getElem?_cons_succ, List.set_cons_zero, List.set_cons_succ, List.length_cons, List.length_nil, true_and, and_true]
    exact hQ g' a1 a2
theorem m_put {p i x : Int32} (h : MR g S) (hS : sv S) (hQ : mO g (oPut S p i x) Q) : wp 153 b 0 [.ref 73, .int p, .int i, .int x, .null, .null] [] g Q := by
  unfold oPut at hQ
  obtain ⟨x', r, hM, -⟩ := id h.mM
  obtain ⟨f, h74, hW⟩ := id h.mW
  obtain ⟨⟨n1, n9⟩, -⟩ := hS.vW
  have bad : (inB p 0 (S.W 0 - 1) && (inB i 0 2 && inB x 0 (mo (ck i)))) = false → wp 153 b 43 [.ref 73, .int p, .int i, .int x, .null, .null] [] g Q := by
    intro e
    rw [e, if_neg (by decide)] at hQ
    simp only [q_X11_put_43, q_X11_put_44, q_X11_put_46, hM, y_is, y_gf, y_pf, y_f0, y_f1, y_f3, y_nI, y_nK, y_nZ, y_nL, y_nR, y_k1i, y_k1r, y_k1l, y_k1n, y_tl, y_tn, y_s, y_ss, List.getElem?_cons_zero, List.getElem?_cons_succ, List.set_cons_zero, List.set_cons_succ, List.length_cons, List.length_nil, true_and, and_true]
    refine m_bad h (fun g' a1 a2 => ?_)
    simp only [q_X11_put_49, y_is, y_gf, y_pf, y_f0, y_f1, y_f3, y_nI, y_nK, y_nZ, y_nL, y_nR, y_k1i, y_k1r, y_k1l, y_k1n, y_tl, y_tn, y_s, y_ss, List.getElem?_cons_zero, List.getElem?_cons_succ, List.set_cons_zero, List.set_cons_succ, List.length_cons, List.length_nil, true_and, and_true]
    exact hQ g' a1 a2
  simp only [q_X11_put_0, q_X11_put_1, q_X11_put_2, hM, y_is, y_gf, y_pf, y_f0, y_f1, y_f3, y_nI, y_nK, y_nZ, y_nL, y_nR, y_k1i, y_k1r, y_k1l, y_k1n, y_tl, y_tn, y_s, y_ss, List.getElem?_cons_zero, List.getElem?_cons_succ, List.set_cons_zero, List.set_cons_succ, List.length_cons, List.length_nil, true_and, and_true]
  refine s_misPost hM h74 hW n1 n9 (fun z => ?_) (fun z => ?_)
  · obtain ⟨q, q1, q2, e⟩ := z
    subst e
    rw [inB_n (by omega) q1 q2, Bool.true_and] at bad hQ
    simp only [q_X11_put_5, q_X11_put_8, q_X11_put_9, q_X11_put_10, q_X11_put_11, q_X11_put_14, y_is, y_gf, y_pf, y_f0, y_f1, y_f3, y_nI, y_nK, y_nZ, y_nL, y_nR, y_k1i, y_k1r, y_k1l, y_k1n, y_tl, y_tn, y_s, y_ss, List.getElem?_cons_zero, List.getElem?_cons_succ, List.set_cons_zero, List.set_cons_succ, List.length_cons, List.length_nil, true_and, and_true, litL]
    refine br0 (by decide) ?_
    refine s_inI (by decide) (by decide) (fun z => ?_) (fun z => ?_)
    · obtain ⟨j, j1, j2, e⟩ := z
      subst e
      rw [inB_n (by omega) j1 j2, Bool.true_and, ck_n (by omega), ck_n (by omega)] at hQ
      rw [inB_n (by omega) j1 j2, Bool.true_and, ck_n (by omega)] at bad
      simp only [q_X11_put_17, y_is, y_gf, y_pf, y_f0, y_f1, y_f3, y_nI, y_nK, y_nZ, y_nL, y_nR, y_k1i, y_k1r, y_k1l, y_k1n, y_tl, y_tn, y_s, y_ss, List.getElem?_cons_zero, List.getElem?_cons_succ, List.set_cons_zero, List.set_cons_succ, List.length_cons, List.length_nil, true_and, and_true]
      refine br0 (by decide) ?_
      -- where it lies
      have at70 : ∀ (m a : Nat), x = nI m → m ≤ 99 → a = 1 + 9 * j → inB x 0 (mo j) = true → wp 153 b 70 [.ref 73, .int (nI q), .int (nI j), .int x, .null, .null] [.int (nI a)] g Q := by
        intro m a e hm ha hb
        subst e
        rw [hb, if_pos rfl, ck_n (by omega)] at hQ
        have e1 := hW (a + q) (by omega)
        rw [wI_n (by omega)] at e1
        simp (disch := omega) only [q_X11_put_70, q_X11_put_71, q_X11_put_72, q_X11_put_74, q_X11_put_75, q_X11_put_78, q_X11_put_80, q_X11_put_81, q_X11_put_83, q_X11_put_84, q_X11_put_87, q_X11_put_89, q_X11_put_90, q_X11_put_91, q_X11_put_93, hM, h74, e1, y_is, y_gf, y_pf, y_f0, y_f1, y_f3, y_nI, y_nK, y_nZ, y_nL, y_nR, y_k1i, y_k1r, y_k1l, y_k1n, y_tl, y_tn, y_s, y_ss, List.getElem?_cons_zero, List.getElem?_cons_succ, List.set_cons_zero, List.set_cons_succ, List.length_cons, List.length_nil, true_and, and_true, y_lIn, y_lKn, y_lZn, y_lLn, y_wIn, y_wZn, y_wLn, lit, le_n, lt_n, eq_n, nI_add]
        subst ha
        exact hQ _ (h.w (fr.rf.hs (by omega) (by omega)) (pN.up hW (by rw [wI_n (by omega)]))) (fr.rf.hs (by omega) (by omega))
      have at37 : ∀ c, c = mo j → c ≤ 99 → wp 153 b 37 [.ref 73, .int (nI q), .int (nI j), .int x, .null, .null] [.long (lN c), .long 0, .long x.toInt64] g Q := by
        intro c hc c9
        simp only [q_X11_put_37, y_is, y_gf, y_pf, y_f0, y_f1, y_f3, y_nI, y_nK, y_nZ, y_nL, y_nR, y_k1i, y_k1r, y_k1l, y_k1n, y_tl, y_tn, y_s, y_ss, List.getElem?_cons_zero, List.getElem?_cons_succ, List.set_cons_zero, List.set_cons_succ, List.length_cons, List.length_nil, true_and, and_true, litL]
        refine s_inI (by decide) (by omega) (fun z => ?_) (fun z => ?_)
        · obtain ⟨m, m1, m2, e⟩ := z
          have hb : inB x 0 (mo j) = true := by rw [e, ← hc]; exact inB_n (by omega) m1 m2
          have k := fun a ha => at70 m a e (by omega) ha hb
          simp only [q_X11_put_40, y_is, y_gf, y_pf, y_f0, y_f1, y_f3, y_nI, y_nK, y_nZ, y_nL, y_nR, y_k1i, y_k1r, y_k1l, y_k1n, y_tl, y_tn, y_s, y_ss, List.getElem?_cons_zero, List.getElem?_cons_succ, List.set_cons_zero, List.set_cons_succ, List.length_cons, List.length_nil, true_and, and_true]
          refine br1 (by decide) ?_
          simp (disch := omega) only [q_X11_put_50, q_X11_put_51, y_is, y_gf, y_pf, y_f0, y_f1, y_f3, y_nI, y_nK, y_nZ, y_nL, y_nR, y_k1i, y_k1r, y_k1l, y_k1n, y_tl, y_tn, y_s, y_ss, List.getElem?_cons_zero, List.getElem?_cons_succ, List.set_cons_zero, List.set_cons_succ, List.length_cons, List.length_nil, true_and, and_true, lit, eq_n]
          by_cases c0 : j = 0
          · rw [bnt c0]
            simp only [q_X11_put_54, q_X11_put_55, y_is, y_gf, y_pf, y_f0, y_f1, y_f3, y_nI, y_nK, y_nZ, y_nL, y_nR, y_k1i, y_k1r, y_k1l, y_k1n, y_tl, y_tn, y_s, y_ss, List.getElem?_cons_zero, List.getElem?_cons_succ, List.set_cons_zero, List.set_cons_succ, List.length_cons, List.length_nil, true_and, and_true, lit]
            exact k 1 (by omega)
          rw [bnf c0]
          simp (disch := omega) only [q_X11_put_58, q_X11_put_59, q_X11_put_60, y_is, y_gf, y_pf, y_f0, y_f1, y_f3, y_nI, y_nK, y_nZ, y_nL, y_nR, y_k1i, y_k1r, y_k1l, y_k1n, y_tl, y_tn, y_s, y_ss, List.getElem?_cons_zero, List.getElem?_cons_succ, List.set_cons_zero, List.set_cons_succ, List.length_cons, List.length_nil, true_and, and_true, lit, eq_n]
          by_cases c1 : j = 1
          · rw [bnt c1]
            simp only [q_X11_put_63, q_X11_put_65, y_is, y_gf, y_pf, y_f0, y_f1, y_f3, y_nI, y_nK, y_nZ, y_nL, y_nR, y_k1i, y_k1r, y_k1l, y_k1n, y_tl, y_tn, y_s, y_ss, List.getElem?_cons_zero, List.getElem?_cons_succ, List.set_cons_zero, List.set_cons_succ, List.length_cons, List.length_nil, true_and, and_true, lit]
            exact k 10 (by omega)
          rw [bnf c1]
          simp only [q_X11_put_68, y_is, y_gf, y_pf, y_f0, y_f1, y_f3, y_nI, y_nK, y_nZ, y_nL, y_nR, y_k1i, y_k1r, y_k1l, y_k1n, y_tl, y_tn, y_s, y_ss, List.getElem?_cons_zero, List.getElem?_cons_succ, List.set_cons_zero, List.set_cons_succ, List.length_cons, List.length_nil, true_and, and_true, lit]
          exact k 19 (by omega)
        · simp only [q_X11_put_40, y_is, y_gf, y_pf, y_f0, y_f1, y_f3, y_nI, y_nK, y_nZ, y_nL, y_nR, y_k1i, y_k1r, y_k1l, y_k1n, y_tl, y_tn, y_s, y_ss, List.getElem?_cons_zero, List.getElem?_cons_succ, List.set_cons_zero, List.set_cons_succ, List.length_cons, List.length_nil, true_and, and_true]
          exact br0 (fun z => z (by first | decide | omega | trivial | simp)) (bad (inB_f (by decide) (by omega) (by rw [← hc]; exact z)))
      simp (disch := omega) only [q_X11_put_20, q_X11_put_21, q_X11_put_22, q_X11_put_23, q_X11_put_24, q_X11_put_25, y_is, y_gf, y_pf, y_f0, y_f1, y_f3, y_nI, y_nK, y_nZ, y_nL, y_nR, y_k1i, y_k1r, y_k1l, y_k1n, y_tl, y_tn, y_s, y_ss, List.getElem?_cons_zero, List.getElem?_cons_succ, List.set_cons_zero, List.set_cons_succ, List.length_cons, List.length_nil, true_and, and_true, lit, eq_n]
      by_cases c2 : j = 2
      · rw [bnt c2]
        simp only [q_X11_put_28, q_X11_put_31, y_is, y_gf, y_pf, y_f0, y_f1, y_f3, y_nI, y_nK, y_nZ, y_nL, y_nR, y_k1i, y_k1r, y_k1l, y_k1n, y_tl, y_tn, y_s, y_ss, List.getElem?_cons_zero, List.getElem?_cons_succ, List.set_cons_zero, List.set_cons_succ, List.length_cons, List.length_nil, true_and, and_true, litL]
        exact at37 12 (by unfold mo; rw [if_pos c2]) (by decide)
      · rw [bnf c2]
        simp only [q_X11_put_34, y_is, y_gf, y_pf, y_f0, y_f1, y_f3, y_nI, y_nK, y_nZ, y_nL, y_nR, y_k1i, y_k1r, y_k1l, y_k1n, y_tl, y_tn, y_s, y_ss, List.getElem?_cons_zero, List.getElem?_cons_succ, List.set_cons_zero, List.set_cons_succ, List.length_cons, List.length_nil, true_and, and_true, litL]
        exact at37 99 (by unfold mo; rw [if_neg c2]) (by decide)
    · simp only [q_X11_put_17, y_is, y_gf, y_pf, y_f0, y_f1, y_f3, y_nI, y_nK, y_nZ, y_nL, y_nR, y_k1i, y_k1r, y_k1l, y_k1n, y_tl, y_tn, y_s, y_ss, List.getElem?_cons_zero, List.getElem?_cons_succ, List.set_cons_zero, List.set_cons_succ, List.length_cons, List.length_nil, true_and, and_true]
      exact br1 (by first | decide | omega | trivial | simp) (bad (by rw [inB_f (by decide) (by decide) z, Bool.false_and]))
  · simp only [q_X11_put_5, y_is, y_gf, y_pf, y_f0, y_f1, y_f3, y_nI, y_nK, y_nZ, y_nL, y_nR, y_k1i, y_k1r, y_k1l, y_k1n, y_tl, y_tn, y_s, y_ss, List.getElem?_cons_zero, List.getElem?_cons_succ, List.set_cons_zero, List.set_cons_succ, List.length_cons, List.length_nil, true_and, and_true]
    exact br1 (by first | decide | omega | trivial | simp) (bad (by rw [inB_f (by decide) (by omega) z, Bool.false_and]))
theorem m_captain {k s t d : Int32} (h : MR g S) (hS : sv S) (hQ : mO g (oCaptain S k s t d) Q) : wp 154 b 0 [.ref 73, .int k, .int s, .int t, .int d] [] g Q := by
  unfold oCaptain at hQ
  obtain ⟨x', r, hM, -⟩ := id h.mM
  obtain ⟨f, h74, hW⟩ := id h.mW
  obtain ⟨⟨n1, n9⟩, -⟩ := hS.vW
  have bad : (inB k 0 4 && (inB s 0 (S.W 0 - 1) && (inB t 0 9 && inB d 0 999999))) = false → wp 154 b 45 [.ref 73, .int k, .int s, .int t, .int d] [] g Q := by
    intro e
    rw [e, if_neg (by decide)] at hQ
    simp only [q_X11_captain_45, q_X11_captain_46, q_X11_captain_48, hM, y_is, y_gf, y_pf, y_f0, y_f1, y_f3, y_nI, y_nK, y_nZ, y_nL, y_nR, y_k1i, y_k1r, y_k1l, y_k1n, y_tl, y_tn, y_s, y_ss, List.getElem?_cons_zero, List.getElem?_cons_succ, List.set_cons_zero, List.set_cons_succ, List.length_cons, List.length_nil, true_and, and_true]
    refine m_bad h (fun g' a1 a2 => ?_)
    simp only [q_X11_captain_51, y_is, y_gf, y_pf, y_f0, y_f1, y_f3, y_nI, y_nK, y_nZ, y_nL, y_nR, y_k1i, y_k1r, y_k1l, y_k1n, y_tl, y_tn, y_s, y_ss, List.getElem?_cons_zero, List.getElem?_cons_succ, List.set_cons_zero, List.set_cons_succ, List.length_cons, List.length_nil, true_and, and_true]
    exact hQ g' a1 a2
  simp only [q_X11_captain_0, q_X11_captain_1, q_X11_captain_2, q_X11_captain_3, q_X11_captain_6, y_is, y_gf, y_pf, y_f0, y_f1, y_f3, y_nI, y_nK, y_nZ, y_nL, y_nR, y_k1i, y_k1r, y_k1l, y_k1n, y_tl, y_tn, y_s, y_ss, List.getElem?_cons_zero, List.getElem?_cons_succ, List.set_cons_zero, List.set_cons_succ, List.length_cons, List.length_nil, true_and, and_true, litL]
  refine s_inI (by decide) (by decide) (fun z => ?_) (fun z => ?_)
  · obtain ⟨k', k1, k2, e⟩ := z
    subst e
    rw [inB_n (by omega) k1 k2, Bool.true_and] at bad hQ
    simp only [q_X11_captain_9, q_X11_captain_12, q_X11_captain_13, q_X11_captain_14, hM, y_is, y_gf, y_pf, y_f0, y_f1, y_f3, y_nI, y_nK, y_nZ, y_nL, y_nR, y_k1i, y_k1r, y_k1l, y_k1n, y_tl, y_tn, y_s, y_ss, List.getElem?_cons_zero, List.getElem?_cons_succ, List.set_cons_zero, List.set_cons_succ, List.length_cons, List.length_nil, true_and, and_true]
    refine br0 (by decide) (s_misPost hM h74 hW n1 n9 (fun z => ?_) (fun z => ?_))
    · obtain ⟨s', s1, s2, e⟩ := z
      subst e
      rw [inB_n (by omega) s1 s2, Bool.true_and] at bad hQ
      simp only [q_X11_captain_17, q_X11_captain_20, q_X11_captain_21, q_X11_captain_22, q_X11_captain_23, q_X11_captain_26, y_is, y_gf, y_pf, y_f0, y_f1, y_f3, y_nI, y_nK, y_nZ, y_nL, y_nR, y_k1i, y_k1r, y_k1l, y_k1n, y_tl, y_tn, y_s, y_ss, List.getElem?_cons_zero, List.getElem?_cons_succ, List.set_cons_zero, List.set_cons_succ, List.length_cons, List.length_nil, true_and, and_true, litL]
      refine br0 (by decide) (s_inI (by decide) (by decide) (fun z => ?_) (fun z => ?_))
      · obtain ⟨t', t1, t2, e⟩ := z
        subst e
        rw [inB_n (by omega) t1 t2, Bool.true_and] at bad hQ
        simp only [q_X11_captain_29, q_X11_captain_32, q_X11_captain_34, q_X11_captain_35, q_X11_captain_36, q_X11_captain_39, y_is, y_gf, y_pf, y_f0, y_f1, y_f3, y_nI, y_nK, y_nZ, y_nL, y_nR, y_k1i, y_k1r, y_k1l, y_k1n, y_tl, y_tn, y_s, y_ss, List.getElem?_cons_zero, List.getElem?_cons_succ, List.set_cons_zero, List.set_cons_succ, List.length_cons, List.length_nil, true_and, and_true, litL]
        refine br0 (by decide) (s_inI (by decide) (by decide) (fun z => ?_) (fun z => ?_))
        · obtain ⟨d', d1, d2, e⟩ := z
          subst e
          rw [inB_n (by omega) d1 d2, if_pos rfl, ck_n (by omega), ck_n (by omega), ck_n (by omega), ck_n (by omega)] at hQ
          simp (disch := omega) only [q_X11_captain_42, q_X11_captain_52, q_X11_captain_53, q_X11_captain_56, q_X11_captain_58, q_X11_captain_59, q_X11_captain_60, q_X11_captain_61, q_X11_captain_64, q_X11_captain_66, q_X11_captain_67, q_X11_captain_68, q_X11_captain_69, q_X11_captain_72, q_X11_captain_74, q_X11_captain_75, q_X11_captain_76, q_X11_captain_77, q_X11_captain_80, q_X11_captain_82, q_X11_captain_84, q_X11_captain_85, q_X11_captain_86, hM, h74, y_is, y_gf, y_pf, y_f0, y_f1, y_f3, y_nI, y_nK, y_nZ, y_nL, y_nR, y_k1i, y_k1r, y_k1l, y_k1n, y_tl, y_tn, y_s, y_ss, List.getElem?_cons_zero, List.getElem?_cons_succ, List.set_cons_zero, List.set_cons_succ, List.length_cons, List.length_nil, true_and, and_true, y_lIn, y_lKn, y_lZn, y_lLn, y_wIn, y_wZn, y_wLn, lit, le_n, lt_n, eq_n, y_ne]
          refine br1 (by decide) (hQ _ (h.w (fr.rf.hs (by omega) (by omega)) ⟨_, y_s, ?_⟩) (fr.rf.hs (by omega) (by omega)))
          exact nwf_up (nwf_up (nwf_up (nwf_up hW (by rw [wI_n (by omega)])) (by rw [wI_n (by omega)])) (by rw [wI_n (by omega)])) (by rw [wI_n (by omega)])
        · simp only [q_X11_captain_42, y_is, y_gf, y_pf, y_f0, y_f1, y_f3, y_nI, y_nK, y_nZ, y_nL, y_nR, y_k1i, y_k1r, y_k1l, y_k1n, y_tl, y_tn, y_s, y_ss, List.getElem?_cons_zero, List.getElem?_cons_succ, List.set_cons_zero, List.set_cons_succ, List.length_cons, List.length_nil, true_and, and_true]
          exact br0 (fun z => z (by first | decide | omega | trivial | simp)) (bad (inB_f (by decide) (by decide) z))
      · simp only [q_X11_captain_29, y_is, y_gf, y_pf, y_f0, y_f1, y_f3, y_nI, y_nK, y_nZ, y_nL, y_nR, y_k1i, y_k1r, y_k1l, y_k1n, y_tl, y_tn, y_s, y_ss, List.getElem?_cons_zero, List.getElem?_cons_succ, List.set_cons_zero, List.set_cons_succ, List.length_cons, List.length_nil, true_and, and_true]
        exact br1 (by first | decide | omega | trivial | simp) (bad (by rw [inB_f (by decide) (by decide) z, Bool.false_and]))
    · simp only [q_X11_captain_17, y_is, y_gf, y_pf, y_f0, y_f1, y_f3, y_nI, y_nK, y_nZ, y_nL, y_nR, y_k1i, y_k1r, y_k1l, y_k1n, y_tl, y_tn, y_s, y_ss, List.getElem?_cons_zero, List.getElem?_cons_succ, List.set_cons_zero, List.set_cons_succ, List.length_cons, List.length_nil, true_and, and_true]
      exact br1 (by first | decide | omega | trivial | simp) (bad (by rw [inB_f (by decide) (by omega) z, Bool.false_and]))
  · simp only [q_X11_captain_9, y_is, y_gf, y_pf, y_f0, y_f1, y_f3, y_nI, y_nK, y_nZ, y_nL, y_nR, y_k1i, y_k1r, y_k1l, y_k1n, y_tl, y_tn, y_s, y_ss, List.getElem?_cons_zero, List.getElem?_cons_succ, List.set_cons_zero, List.set_cons_succ, List.length_cons, List.length_nil, true_and, and_true]
    exact br1 (by first | decide | omega | trivial | simp) (bad (by rw [inB_f (by decide) (by decide) z, Bool.false_and]))
theorem m_clear (h : MR g S) (hQ : mO g (oClear S) Q) : wp 212 b 0 [.ref 73, .null] [] g Q := by
  obtain ⟨x', r, hM, x0, x5⟩ := id h.mM
  simp (disch := omega) only [q_X11_clear_0, q_X11_clear_1, q_X11_clear_4, q_X11_clear_5, q_X11_clear_6, q_X11_clear_7, q_X11_clear_10, q_X11_clear_11, hM, x5, y_is, y_gf, y_pf, y_f0, y_f1, y_f3, y_nI, y_nK, y_nZ, y_nL, y_nR, y_k1i, y_k1r, y_k1l, y_k1n, y_tl, y_tn, y_s, y_ss, List.getElem?_cons_zero, List.getElem?_cons_succ, List.set_cons_zero, List.set_cons_succ, List.length_cons, List.length_nil, true_and, and_true]
  obtain ⟨⟨fb, b1, b2⟩, b3⟩ := id h.mB
  refine ⟨by decide, hQ _ (h.t (fun k k1 k2 => by rw [y_ne k1]) ?_ ⟨⟨fb, by rw [y_ne (by decide)]; exact b1, fun i hi => absurd hi (Nat.not_lt_zero i)⟩, Nat.zero_le _⟩) (fr.rf.hs (by omega) (by omega))⟩
  obtain ⟨x2, k1, k2, k3⟩ := mo_x (g := hs g 73 _) y_s
  exact ⟨x2, r, k1, k2.trans x0, k3⟩
theorem m_erase (h : MR g S) (hQ : mO g (oErase S) Q) : wp 157 b 0 [.ref 73, .null] [] g Q := by
  obtain ⟨x', r, hM, -⟩ := id h.mM
  obtain ⟨f, h74, hW⟩ := id h.mW
  have e1 := hW 100 (by omega)
  rw [wI_n (by omega)] at e1
  simp (disch := omega) only [q_X11_erase_0, q_X11_erase_1, q_X11_erase_4, q_X11_erase_6, q_X11_erase_7, q_X11_erase_8, q_X11_erase_9, q_X11_erase_12, q_X11_erase_14, q_X11_erase_15, q_X11_erase_16, q_X11_erase_17, hM, h74, e1, y_is, y_gf, y_pf, y_f0, y_f1, y_f3, y_nI, y_nK, y_nZ, y_nL, y_nR, y_k1i, y_k1r, y_k1l, y_k1n, y_tl, y_tn, y_s, y_ss, List.getElem?_cons_zero, List.getElem?_cons_succ, List.set_cons_zero, List.set_cons_succ, List.length_cons, List.length_nil, true_and, and_true, y_lIn, y_lKn, y_lZn, y_lLn, y_wIn, y_wZn, y_wLn, lit, le_n, lt_n, eq_n]
  exact hQ _ (h.w (fr.rf.hs (by omega) (by omega)) (pN.up hW (by rw [wI_n (by omega)]))) (fr.rf.hs (by omega) (by omega))
theorem m_write {c : Int32} (h : MR g S) (hS : sv S) (hQ : mO g (oWrite S c) Q) : wp 156 b 0 [.ref 73, .int c] [] g Q := by
  unfold oWrite at hQ
  obtain ⟨x', r, hM, -⟩ := id h.mM
  obtain ⟨f, h74, hW⟩ := id h.mW
  obtain ⟨-, -, -, -, ⟨-, l40⟩, -⟩ := hS.vW
  have e1 := hW 100 (by omega)
  rw [wI_n (by omega)] at e1
  simp only [q_X11_write_0, q_X11_write_1, q_X11_write_2, q_X11_write_3, q_X11_write_6, y_is, y_gf, y_pf, y_f0, y_f1, y_f3, y_nI, y_nK, y_nZ, y_nL, y_nR, y_k1i, y_k1r, y_k1l, y_k1n, y_tl, y_tn, y_s, y_ss, List.getElem?_cons_zero, List.getElem?_cons_succ, List.set_cons_zero, List.set_cons_succ, List.length_cons, List.length_nil, true_and, and_true, litL]
  refine s_inI (by decide) (by decide) (fun z => ?_) (fun z => ?_)
  · obtain ⟨d', d1, d2, e⟩ := z
    subst e
    rw [inB_n (by omega) d1 d2, ck_n (by omega), if_pos rfl] at hQ
    simp (disch := omega) only [q_X11_write_9, q_X11_write_19, q_X11_write_20, q_X11_write_23, q_X11_write_25, q_X11_write_26, q_X11_write_28, hM, h74, e1, y_is, y_gf, y_pf, y_f0, y_f1, y_f3, y_nI, y_nK, y_nZ, y_nL, y_nR, y_k1i, y_k1r, y_k1l, y_k1n, y_tl, y_tn, y_s, y_ss, List.getElem?_cons_zero, List.getElem?_cons_succ, List.set_cons_zero, List.set_cons_succ, List.length_cons, List.length_nil, true_and, and_true, y_lIn, y_lKn, y_lZn, y_lLn, y_wIn, y_wZn, y_wLn, lit, le_n, lt_n, eq_n]
    refine br1 (by decide) ?_
    by_cases c40 : S.W 100 = 40
    · rw [bnt c40]
      rw [if_pos c40] at hQ
      simp only [q_X11_write_31, q_X11_write_32, hM, y_is, y_gf, y_pf, y_f0, y_f1, y_f3, y_nI, y_nK, y_nZ, y_nL, y_nR, y_k1i, y_k1r, y_k1l, y_k1n, y_tl, y_tn, y_s, y_ss, List.getElem?_cons_zero, List.getElem?_cons_succ, List.set_cons_zero, List.set_cons_succ, List.length_cons, List.length_nil, true_and, and_true]
      refine m_full h (fun g' a1 a2 => ?_)
      simp only [q_X11_write_35, y_is, y_gf, y_pf, y_f0, y_f1, y_f3, y_nI, y_nK, y_nZ, y_nL, y_nR, y_k1i, y_k1r, y_k1l, y_k1n, y_tl, y_tn, y_s, y_ss, List.getElem?_cons_zero, List.getElem?_cons_succ, List.set_cons_zero, List.set_cons_succ, List.length_cons, List.length_nil, true_and, and_true]
      exact hQ g' a1 a2
    · rw [bnf c40]
      rw [if_neg c40] at hQ
      have e2 : upd f (101 + S.W 100) (nI d') 100 = nI (S.W 100) := by rw [u_n (by omega)]; exact e1
      simp (disch := omega) only [q_X11_write_36, q_X11_write_37, q_X11_write_40, q_X11_write_42, q_X11_write_43, q_X11_write_46, q_X11_write_48, q_X11_write_49, q_X11_write_50, q_X11_write_51, q_X11_write_52, q_X11_write_53, q_X11_write_56, q_X11_write_58, q_X11_write_59, q_X11_write_60, q_X11_write_61, q_X11_write_62, q_X11_write_63, q_X11_write_64, q_X11_write_67, q_X11_write_69, q_X11_write_70, hM, h74, e1, e2, u_s, y_is, y_gf, y_pf, y_f0, y_f1, y_f3, y_nI, y_nK, y_nZ, y_nL, y_nR, y_k1i, y_k1r, y_k1l, y_k1n, y_tl, y_tn, y_s, y_ss, List.getElem?_cons_zero, List.getElem?_cons_succ, List.set_cons_zero, List.set_cons_succ, List.length_cons, List.length_nil, true_and, and_true, y_lIn, y_lKn, y_lZn, y_lLn, y_wIn, y_wZn, y_wLn, lit, le_n, lt_n, eq_n, y_ne, nI_add]
      exact hQ _ (h.w (fr.rf.hs (by omega) (by omega)) ⟨_, y_s, nwf_up (nwf_up hW (by rw [wI_n (by omega)])) (by rw [wI_n (by omega)])⟩) (fr.rf.hs (by omega) (by omega))
  · rw [inB_f (by omega) (by omega) z, if_neg (by decide)] at hQ
    simp only [q_X11_write_9, q_X11_write_12, q_X11_write_13, q_X11_write_15, hM, y_is, y_gf, y_pf, y_f0, y_f1, y_f3, y_nI, y_nK, y_nZ, y_nL, y_nR, y_k1i, y_k1r, y_k1l, y_k1n, y_tl, y_tn, y_s, y_ss, List.getElem?_cons_zero, List.getElem?_cons_succ, List.set_cons_zero, List.set_cons_succ, List.length_cons, List.length_nil, true_and, and_true]
    refine br0 (fun z => z (by first | decide | omega | trivial | simp)) (m_bad h (fun g' a1 a2 => ?_))
    simp only [q_X11_write_18, y_is, y_gf, y_pf, y_f0, y_f1, y_f3, y_nI, y_nK, y_nZ, y_nL, y_nR, y_k1i, y_k1r, y_k1l, y_k1n, y_tl, y_tn, y_s, y_ss, List.getElem?_cons_zero, List.getElem?_cons_succ, List.set_cons_zero, List.set_cons_succ, List.length_cons, List.length_nil, true_and, and_true]
    exact hQ g' a1 a2
end MOPS
