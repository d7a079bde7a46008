/-! ===== the reference: what is told, seen, stolen ===== -/
section MOPS2
variable {b : mzB} {g : mzG} {Q : mzQ} {S : sT}
theorem m_forget (h : MR g S) (hQ : mO g (oForget S) Q) : wp 199 b 0 [.ref 73, .null] [] g Q := by
  obtain ⟨x', r, hM, -⟩ := id h.mM
  obtain ⟨f, h74, hW⟩ := id h.mW
  have e1 := hW 87 (by omega)
  rw [wI_n (by omega)] at e1
  simp (disch := omega) only [q_X11_forget_0, q_X11_forget_1, q_X11_forget_4, q_X11_forget_6, q_X11_forget_7, q_X11_forget_8, q_X11_forget_9, q_X11_forget_12, q_X11_forget_14, q_X11_forget_15, q_X11_forget_16, q_X11_forget_17, hM, h74, e1, y_is, y_gf, y_pf, y_f0, y_f1, y_f3, y_nI, y_nK, y_nZ, y_nL, y_nR, y_k1i, y_k1r, y_k1l, y_k1n, y_tl, y_tn, y_s, y_ss, List.getElem?_cons_zero, List.getElem?_cons_succ, List.set_cons_zero, List.set_cons_succ, List.length_cons, List.length_nil, true_and, and_true, y_lIn, y_lKn, y_lZn, y_lLn, y_wIn, y_wZn, y_wLn, lit, le_n, lt_n, eq_n]
  exact hQ _ (h.w (fr.rf.hs (by omega) (by omega)) (pN.up hW (by rw [wI_n (by omega)]))) (fr.rf.hs (by omega) (by omega))
theorem m_blind (h : MR g S) (hQ : mO g (oBlind S) Q) : wp 202 b 0 [.ref 73, .null] [] g Q := by
  obtain ⟨x', r, hM, -⟩ := id h.mM
  obtain ⟨f, h74, hW⟩ := id h.mW
  have e1 := hW 50 (by omega)
  rw [wI_n (by omega)] at e1
  simp (disch := omega) only [q_X11_blind_0, q_X11_blind_1, q_X11_blind_4, q_X11_blind_6, q_X11_blind_7, q_X11_blind_8, q_X11_blind_9, q_X11_blind_12, q_X11_blind_14, q_X11_blind_15, q_X11_blind_16, q_X11_blind_17, hM, h74, e1, y_is, y_gf, y_pf, y_f0, y_f1, y_f3, y_nI, y_nK, y_nZ, y_nL, y_nR, y_k1i, y_k1r, y_k1l, y_k1n, y_tl, y_tn, y_s, y_ss, List.getElem?_cons_zero, List.getElem?_cons_succ, List.set_cons_zero, List.set_cons_succ, List.length_cons, List.length_nil, true_and, and_true, y_lIn, y_lKn, y_lZn, y_lLn, y_wIn, y_wZn, y_wLn, lit, le_n, lt_n, eq_n]
  exact hQ _ (h.w (fr.rf.hs (by omega) (by omega)) (pN.up hW (by rw [wI_n (by omega)]))) (fr.rf.hs (by omega) (by omega))
theorem m_tell {v : Int32} (h : MR g S) (hS : sv S) (hQ : mO g (oTell S v) Q) : wp 198 b 0 [.ref 73, .int v] [] g Q := by
  unfold oTell at hQ
  obtain ⟨x', r, hM, -⟩ := id h.mM
  obtain ⟨f, h74, hW⟩ := id h.mW
  obtain ⟨⟨n1, n9⟩, -, -, -, ⟨l12, -⟩, -⟩ := hS.vW
  have e1 := hW 87 (by omega)
  rw [wI_n (by omega)] at e1
  have ok : (v = -1 ∨ inB v 0 (S.W 0 - 1) = true) → wp 198 b 20 [.ref 73, .int v] [] g Q := by
    intro hv
    rw [if_pos hv] at hQ
    have hvt := tI_N (by omega) hv
    simp (disch := omega) only [q_X11_tell__20, q_X11_tell__21, q_X11_tell__24, q_X11_tell__26, q_X11_tell__27, q_X11_tell__29, hM, h74, e1, y_is, y_gf, y_pf, y_f0, y_f1, y_f3, y_nI, y_nK, y_nZ, y_nL, y_nR, y_k1i, y_k1r, y_k1l, y_k1n, y_tl, y_tn, y_s, y_ss, List.getElem?_cons_zero, List.getElem?_cons_succ, List.set_cons_zero, List.set_cons_succ, List.length_cons, List.length_nil, true_and, and_true, y_lIn, y_lKn, y_lZn, y_lLn, y_wIn, y_wZn, y_wLn, lit, le_n, lt_n, eq_n]
    by_cases c40 : S.W 87 = 12
    · rw [bnt c40]
      rw [if_pos c40] at hQ
      simp only [q_X11_tell__32, q_X11_tell__33, hM, y_is, y_gf, y_pf, y_f0, y_f1, y_f3, y_nI, y_nK, y_nZ, y_nL, y_nR, y_k1i, y_k1r, y_k1l, y_k1n, y_tl, y_tn, y_s, y_ss, List.getElem?_cons_zero, List.getElem?_cons_succ, List.set_cons_zero, List.set_cons_succ, List.length_cons, List.length_nil, true_and, and_true]
      refine m_full h (fun g' a1 a2 => ?_)
      simp only [q_X11_tell__36, y_is, y_gf, y_pf, y_f0, y_f1, y_f3, y_nI, y_nK, y_nZ, y_nL, y_nR, y_k1i, y_k1r, y_k1l, y_k1n, y_tl, y_tn, y_s, y_ss, List.getElem?_cons_zero, List.getElem?_cons_succ, List.set_cons_zero, List.set_cons_succ, List.length_cons, List.length_nil, true_and, and_true]
      exact hQ g' a1 a2
    · rw [bnf c40]
      rw [if_neg c40] at hQ
      have e2 : upd f (88 + S.W 87) v 87 = nI (S.W 87) := by rw [u_n (by omega)]; exact e1
      simp (disch := omega) only [q_X11_tell__37, q_X11_tell__38, q_X11_tell__41, q_X11_tell__43, q_X11_tell__44, q_X11_tell__47, q_X11_tell__49, q_X11_tell__50, q_X11_tell__51, q_X11_tell__52, q_X11_tell__53, q_X11_tell__54, q_X11_tell__57, q_X11_tell__59, q_X11_tell__60, q_X11_tell__61, q_X11_tell__62, q_X11_tell__63, q_X11_tell__64, q_X11_tell__65, q_X11_tell__68, q_X11_tell__70, q_X11_tell__71, hM, h74, e1, e2, u_s, y_is, y_gf, y_pf, y_f0, y_f1, y_f3, y_nI, y_nK, y_nZ, y_nL, y_nR, y_k1i, y_k1r, y_k1l, y_k1n, y_tl, y_tn, y_s, y_ss, List.getElem?_cons_zero, List.getElem?_cons_succ, List.set_cons_zero, List.set_cons_succ, List.length_cons, List.length_nil, true_and, and_true, y_lIn, y_lKn, y_lZn, y_lLn, y_wIn, y_wZn, y_wLn, lit, le_n, lt_n, eq_n, y_ne, nI_add]
      exact hQ _ (h.w (fr.rf.hs (by omega) (by omega)) ⟨_, y_s, nwf_up (nwf_up hW (by rw [wI_t (by omega) (by omega)]; exact hvt)) (by rw [wI_n (by omega)])⟩) (fr.rf.hs (by omega) (by omega))
  simp only [q_X11_tell__0, q_X11_tell__1, q_X11_tell__2, q_X11_tell__5, q_X11_tell__6, q_X11_tell__7, hM, y_is, y_gf, y_pf, y_f0, y_f1, y_f3, y_nI, y_nK, y_nZ, y_nL, y_nR, y_k1i, y_k1r, y_k1l, y_k1n, y_tl, y_tn, y_s, y_ss, List.getElem?_cons_zero, List.getElem?_cons_succ, List.set_cons_zero, List.set_cons_succ, List.length_cons, List.length_nil, true_and, and_true]
  refine brs (fun z => ok (Or.inl z)) (fun z => ?_)
  refine s_misPost hM h74 hW n1 n9 (fun y => ?_) (fun y => ?_)
  · simp only [q_X11_tell__10, y_is, y_gf, y_pf, y_f0, y_f1, y_f3, y_nI, y_nK, y_nZ, y_nL, y_nR, y_k1i, y_k1r, y_k1l, y_k1n, y_tl, y_tn, y_s, y_ss, List.getElem?_cons_zero, List.getElem?_cons_succ, List.set_cons_zero, List.set_cons_succ, List.length_cons, List.length_nil, true_and, and_true]
    exact br1 (by decide) (ok (Or.inr (inB_t (by decide) (by omega) y)))
  · rw [if_neg (by rintro (e | e); exact z e; rw [inB_f (by decide) (by omega) y] at e; cases e)] at hQ
    simp only [q_X11_tell__10, q_X11_tell__13, q_X11_tell__14, q_X11_tell__16, hM, y_is, y_gf, y_pf, y_f0, y_f1, y_f3, y_nI, y_nK, y_nZ, y_nL, y_nR, y_k1i, y_k1r, y_k1l, y_k1n, y_tl, y_tn, y_s, y_ss, List.getElem?_cons_zero, List.getElem?_cons_succ, List.set_cons_zero, List.set_cons_succ, List.length_cons, List.length_nil, true_and, and_true]
    refine br0 (fun z => z (by first | decide | omega | trivial | simp)) (m_bad h (fun g' a1 a2 => ?_))
    simp only [q_X11_tell__19, y_is, y_gf, y_pf, y_f0, y_f1, y_f3, y_nI, y_nK, y_nZ, y_nL, y_nR, y_k1i, y_k1r, y_k1l, y_k1n, y_tl, y_tn, y_s, y_ss, List.getElem?_cons_zero, List.getElem?_cons_succ, List.set_cons_zero, List.set_cons_succ, List.length_cons, List.length_nil, true_and, and_true]
    exact hQ g' a1 a2
theorem m_sight {h' p a : Int32} (h : MR g S) (hS : sv S) (hQ : mO g (oSight S h' p a) Q) : wp 201 b 0 [.ref 73, .int h', .int p, .int a, .null] [] g Q := by
  unfold oSight at hQ
  obtain ⟨x', r, hM, -⟩ := id h.mM
  obtain ⟨f, h74, hW⟩ := id h.mW
  obtain ⟨⟨n1, n9⟩, -, ⟨-, -, -, -, l12⟩, -⟩ := hS.vW
  have bad : (inB h' 0 999 && (inB p 0 (S.W 0 - 1) && inB a 0 1)) = false → wp 201 b 30 [.ref 73, .int h', .int p, .int a, .null] [] g Q := by
    intro e
    rw [e, if_neg (by decide)] at hQ
    simp only [q_X11_sight_30, q_X11_sight_31, q_X11_sight_33, hM, y_is, y_gf, y_pf, y_f0, y_f1, y_f3, y_nI, y_nK, y_nZ, y_nL, y_nR, y_k1i, y_k1r, y_k1l, y_k1n, y_tl, y_tn, y_s, y_ss, List.getElem?_cons_zero, List.getElem?_cons_succ, List.set_cons_zero, List.set_cons_succ, List.length_cons, List.length_nil, true_and, and_true]
    refine m_bad h (fun g' a1 a2 => ?_)
    simp only [q_X11_sight_36, y_is, y_gf, y_pf, y_f0, y_f1, y_f3, y_nI, y_nK, y_nZ, y_nL, y_nR, y_k1i, y_k1r, y_k1l, y_k1n, y_tl, y_tn, y_s, y_ss, List.getElem?_cons_zero, List.getElem?_cons_succ, List.set_cons_zero, List.set_cons_succ, List.length_cons, List.length_nil, true_and, and_true]
    exact hQ g' a1 a2
  simp only [q_X11_sight_0, q_X11_sight_1, q_X11_sight_2, q_X11_sight_3, q_X11_sight_6, y_is, y_gf, y_pf, y_f0, y_f1, y_f3, y_nI, y_nK, y_nZ, y_nL, y_nR, y_k1i, y_k1r, y_k1l, y_k1n, y_tl, y_tn, y_s, y_ss, List.getElem?_cons_zero, List.getElem?_cons_succ, List.set_cons_zero, List.set_cons_succ, List.length_cons, List.length_nil, true_and, and_true, litL]
  refine s_inI (by decide) (by decide) (fun z => ?_) (fun z => ?_)
  · obtain ⟨k', k1, k2, e⟩ := z
    subst e
    rw [inB_n (by omega) k1 k2, Bool.true_and] at bad hQ
    simp only [q_X11_sight_9, q_X11_sight_12, q_X11_sight_13, q_X11_sight_14, hM, y_is, y_gf, y_pf, y_f0, y_f1, y_f3, y_nI, y_nK, y_nZ, y_nL, y_nR, y_k1i, y_k1r, y_k1l, y_k1n, y_tl, y_tn, y_s, y_ss, List.getElem?_cons_zero, List.getElem?_cons_succ, List.set_cons_zero, List.set_cons_succ, List.length_cons, List.length_nil, true_and, and_true]
    refine br0 (by decide) (s_misPost hM h74 hW n1 n9 (fun z => ?_) (fun z => ?_))
    · obtain ⟨s', s1, s2, e⟩ := z
      subst e
      rw [inB_n (by omega) s1 s2, Bool.true_and] at bad hQ
      simp only [q_X11_sight_17, q_X11_sight_20, q_X11_sight_21, q_X11_sight_22, q_X11_sight_23, q_X11_sight_24, y_is, y_gf, y_pf, y_f0, y_f1, y_f3, y_nI, y_nK, y_nZ, y_nL, y_nR, y_k1i, y_k1r, y_k1l, y_k1n, y_tl, y_tn, y_s, y_ss, List.getElem?_cons_zero, List.getElem?_cons_succ, List.set_cons_zero, List.set_cons_succ, List.length_cons, List.length_nil, true_and, and_true, litL]
      refine br0 (by decide) (s_inI (by decide) (by decide) (fun z => ?_) (fun z => ?_))
      · obtain ⟨t', t1, t2, e⟩ := z
        subst e
        rw [inB_n (by omega) t1 t2, if_pos rfl, ck_n (by omega), ck_n (by omega), ck_n (by omega)] at hQ
        have e1 := hW 50 (by omega)
        rw [wI_n (by omega)] at e1
        simp (disch := omega) only [q_X11_sight_27, q_X11_sight_37, q_X11_sight_38, q_X11_sight_41, q_X11_sight_43, q_X11_sight_44, q_X11_sight_46, q_X11_sight_48, q_X11_sight_50, hM, h74, e1, y_is, y_gf, y_pf, y_f0, y_f1, y_f3, y_nI, y_nK, y_nZ, y_nL, y_nR, y_k1i, y_k1r, y_k1l, y_k1n, y_tl, y_tn, y_s, y_ss, List.getElem?_cons_zero, List.getElem?_cons_succ, List.set_cons_zero, List.set_cons_succ, List.length_cons, List.length_nil, true_and, and_true, y_lIn, y_lKn, y_lZn, y_lLn, y_wIn, y_wZn, y_wLn, lit, le_n, lt_n, eq_n]
        refine br1 (by decide) ?_
        by_cases c40 : S.W 50 = 12
        · rw [bnt c40]
          rw [if_pos c40] at hQ
          simp only [q_X11_sight_53, q_X11_sight_54, hM, y_is, y_gf, y_pf, y_f0, y_f1, y_f3, y_nI, y_nK, y_nZ, y_nL, y_nR, y_k1i, y_k1r, y_k1l, y_k1n, y_tl, y_tn, y_s, y_ss, List.getElem?_cons_zero, List.getElem?_cons_succ, List.set_cons_zero, List.set_cons_succ, List.length_cons, List.length_nil, true_and, and_true]
          refine m_full h (fun g' a1 a2 => ?_)
          simp only [q_X11_sight_57, y_is, y_gf, y_pf, y_f0, y_f1, y_f3, y_nI, y_nK, y_nZ, y_nL, y_nR, y_k1i, y_k1r, y_k1l, y_k1n, y_tl, y_tn, y_s, y_ss, List.getElem?_cons_zero, List.getElem?_cons_succ, List.set_cons_zero, List.set_cons_succ, List.length_cons, List.length_nil, true_and, and_true]
          exact hQ g' a1 a2
        · rw [bnf c40]
          rw [if_neg c40] at hQ
          have e2 : upd (upd (upd f (51 + 3 * S.W 50) (nI k')) (51 + 3 * S.W 50 + 1) (nI s')) (51 + 3 * S.W 50 + 2) (nI t') 50 = nI (S.W 50) := by rw [u_n (by omega), u_n (by omega), u_n (by omega)]; exact e1
          simp (disch := omega) only [q_X11_sight_58, q_X11_sight_59, q_X11_sight_62, q_X11_sight_64, q_X11_sight_65, q_X11_sight_67, q_X11_sight_68, q_X11_sight_69, q_X11_sight_70, q_X11_sight_71, q_X11_sight_72, q_X11_sight_75, q_X11_sight_77, q_X11_sight_78, q_X11_sight_80, q_X11_sight_81, q_X11_sight_82, q_X11_sight_83, q_X11_sight_84, q_X11_sight_85, q_X11_sight_86, q_X11_sight_87, q_X11_sight_90, q_X11_sight_92, q_X11_sight_93, q_X11_sight_95, q_X11_sight_96, q_X11_sight_97, q_X11_sight_98, q_X11_sight_99, q_X11_sight_100, q_X11_sight_101, q_X11_sight_102, q_X11_sight_105, q_X11_sight_107, q_X11_sight_108, q_X11_sight_109, q_X11_sight_110, q_X11_sight_111, q_X11_sight_112, q_X11_sight_114, hM, h74, e1, e2, u_s, y_is, y_gf, y_pf, y_f0, y_f1, y_f3, y_nI, y_nK, y_nZ, y_nL, y_nR, y_k1i, y_k1r, y_k1l, y_k1n, y_tl, y_tn, y_s, y_ss, List.getElem?_cons_zero, List.getElem?_cons_succ, List.set_cons_zero, List.set_cons_succ, List.length_cons, List.length_nil, true_and, and_true, y_lIn, y_lKn, y_lZn, y_lLn, y_wIn, y_wZn, y_wLn, lit, le_n, lt_n, eq_n, y_ne, nI_add, pk_mul]
          exact hQ _ (h.w (fr.rf.hs (by omega) (by omega)) ⟨_, y_s, nwf_up (nwf_up (nwf_up (nwf_up hW (by rw [wI_n (by omega)])) (by rw [wI_n (by omega)])) (by rw [wI_n (by omega)])) (by rw [wI_n (by omega)])⟩) (fr.rf.hs (by omega) (by omega))
      · simp only [q_X11_sight_27, y_is, y_gf, y_pf, y_f0, y_f1, y_f3, y_nI, y_nK, y_nZ, y_nL, y_nR, y_k1i, y_k1r, y_k1l, y_k1n, y_tl, y_tn, y_s, y_ss, List.getElem?_cons_zero, List.getElem?_cons_succ, List.set_cons_zero, List.set_cons_succ, List.length_cons, List.length_nil, true_and, and_true]
        exact br0 (fun z => z (by first | decide | omega | trivial | simp)) (bad (inB_f (by decide) (by decide) z))
    · simp only [q_X11_sight_17, y_is, y_gf, y_pf, y_f0, y_f1, y_f3, y_nI, y_nK, y_nZ, y_nL, y_nR, y_k1i, y_k1r, y_k1l, y_k1n, y_tl, y_tn, y_s, y_ss, List.getElem?_cons_zero, List.getElem?_cons_succ, List.set_cons_zero, List.set_cons_succ, List.length_cons, List.length_nil, true_and, and_true]
      exact br1 (by first | decide | omega | trivial | simp) (bad (by rw [inB_f (by decide) (by omega) z, Bool.false_and]))
  · simp only [q_X11_sight_9, y_is, y_gf, y_pf, y_f0, y_f1, y_f3, y_nI, y_nK, y_nZ, y_nL, y_nR, y_k1i, y_k1r, y_k1l, y_k1n, y_tl, y_tn, y_s, y_ss, List.getElem?_cons_zero, List.getElem?_cons_succ, List.set_cons_zero, List.set_cons_succ, List.length_cons, List.length_nil, true_and, and_true]
    exact br1 (by first | decide | omega | trivial | simp) (bad (by rw [inB_f (by decide) (by decide) z, Bool.false_and]))
theorem m_thefts {p d t : Int32} (h : MR g S) (hS : sv S) (hQ : mO g (oThefts S p d t) Q) : wp 206 b 0 [.ref 73, .int p, .int d, .int t] [] g Q := by
  unfold oThefts at hQ
  obtain ⟨x', r, hM, -⟩ := id h.mM
  obtain ⟨f, h74, hW⟩ := id h.mW
  obtain ⟨⟨n1, n9⟩, -⟩ := hS.vW
  have bad : (inB p 0 (S.W 0 - 1) && (inB t 0 40 && inB d 0 (ck t))) = false → wp 206 b 31 [.ref 73, .int p, .int d, .int t] [] g Q := by
    intro e
    rw [e, if_neg (by decide)] at hQ
    simp only [q_X11_thefts_31, q_X11_thefts_32, q_X11_thefts_34, hM, y_is, y_gf, y_pf, y_f0, y_f1, y_f3, y_nI, y_nK, y_nZ, y_nL, y_nR, y_k1i, y_k1r, y_k1l, y_k1n, y_tl, y_tn, y_s, y_ss, List.getElem?_cons_zero, List.getElem?_cons_succ, List.set_cons_zero, List.set_cons_succ, List.length_cons, List.length_nil, true_and, and_true]
    refine m_bad h (fun g' a1 a2 => ?_)
    simp only [q_X11_thefts_37, y_is, y_gf, y_pf, y_f0, y_f1, y_f3, y_nI, y_nK, y_nZ, y_nL, y_nR, y_k1i, y_k1r, y_k1l, y_k1n, y_tl, y_tn, y_s, y_ss, List.getElem?_cons_zero, List.getElem?_cons_succ, List.set_cons_zero, List.set_cons_succ, List.length_cons, List.length_nil, true_and, and_true]
    exact hQ g' a1 a2
  simp only [q_X11_thefts_0, q_X11_thefts_1, q_X11_thefts_2, hM, y_is, y_gf, y_pf, y_f0, y_f1, y_f3, y_nI, y_nK, y_nZ, y_nL, y_nR, y_k1i, y_k1r, y_k1l, y_k1n, y_tl, y_tn, y_s, y_ss, List.getElem?_cons_zero, List.getElem?_cons_succ, List.set_cons_zero, List.set_cons_succ, List.length_cons, List.length_nil, true_and, and_true]
  refine s_misPost hM h74 hW n1 n9 (fun z => ?_) (fun z => ?_)
  · obtain ⟨s', s1, s2, e⟩ := z
    subst e
    rw [inB_n (by omega) s1 s2, Bool.true_and] at bad hQ
    simp only [q_X11_thefts_5, q_X11_thefts_8, q_X11_thefts_9, q_X11_thefts_10, q_X11_thefts_11, q_X11_thefts_14, y_is, y_gf, y_pf, y_f0, y_f1, y_f3, y_nI, y_nK, y_nZ, y_nL, y_nR, y_k1i, y_k1r, y_k1l, y_k1n, y_tl, y_tn, y_s, y_ss, List.getElem?_cons_zero, List.getElem?_cons_succ, List.set_cons_zero, List.set_cons_succ, List.length_cons, List.length_nil, true_and, and_true, litL]
    refine br0 (by decide) (s_inI (by decide) (by decide) (fun z => ?_) (fun z => ?_))
    · obtain ⟨t', t1, t2, e⟩ := z
      subst e
      rw [inB_n (by omega) t1 t2, ck_n (by omega), Bool.true_and] at bad hQ
      simp (disch := omega) only [q_X11_thefts_17, q_X11_thefts_20, q_X11_thefts_21, q_X11_thefts_22, q_X11_thefts_23, q_X11_thefts_24, q_X11_thefts_25, y_is, y_gf, y_pf, y_f0, y_f1, y_f3, y_nI, y_nK, y_nZ, y_nL, y_nR, y_k1i, y_k1r, y_k1l, y_k1n, y_tl, y_tn, y_s, y_ss, List.getElem?_cons_zero, List.getElem?_cons_succ, List.set_cons_zero, List.set_cons_succ, List.length_cons, List.length_nil, true_and, and_true, litL, i_l]
      refine br0 (by decide) (s_inI (by decide) (by omega) (fun z => ?_) (fun z => ?_))
      · obtain ⟨d', d1, d2, e⟩ := z
        subst e
        rw [inB_n (by omega) d1 d2, if_pos rfl, ck_n (by omega), ck_n (by omega)] at hQ
        simp (disch := omega) only [q_X11_thefts_28, q_X11_thefts_38, q_X11_thefts_39, q_X11_thefts_42, q_X11_thefts_44, q_X11_thefts_45, q_X11_thefts_46, q_X11_thefts_47, q_X11_thefts_48, q_X11_thefts_49, q_X11_thefts_52, q_X11_thefts_54, q_X11_thefts_55, q_X11_thefts_56, q_X11_thefts_57, q_X11_thefts_58, q_X11_thefts_59, hM, h74, y_is, y_gf, y_pf, y_f0, y_f1, y_f3, y_nI, y_nK, y_nZ, y_nL, y_nR, y_k1i, y_k1r, y_k1l, y_k1n, y_tl, y_tn, y_s, y_ss, List.getElem?_cons_zero, List.getElem?_cons_succ, List.set_cons_zero, List.set_cons_succ, List.length_cons, List.length_nil, true_and, and_true, y_lIn, y_lKn, y_lZn, y_lLn, y_wIn, y_wZn, y_wLn, lit, le_n, lt_n, eq_n, y_ne, nI_add]
        exact br1 (by decide) (hQ _ (h.w (fr.rf.hs (by omega) (by omega)) ⟨_, y_s, nwf_up (nwf_up hW (by rw [wI_n (by omega)])) (by rw [wI_n (by omega)])⟩) (fr.rf.hs (by omega) (by omega)))
      · simp only [q_X11_thefts_28, y_is, y_gf, y_pf, y_f0, y_f1, y_f3, y_nI, y_nK, y_nZ, y_nL, y_nR, y_k1i, y_k1r, y_k1l, y_k1n, y_tl, y_tn, y_s, y_ss, List.getElem?_cons_zero, List.getElem?_cons_succ, List.set_cons_zero, List.set_cons_succ, List.length_cons, List.length_nil, true_and, and_true]
        exact br0 (fun z => z (by first | decide | omega | trivial | simp)) (bad (inB_f (by decide) (by omega) z))
    · simp only [q_X11_thefts_17, y_is, y_gf, y_pf, y_f0, y_f1, y_f3, y_nI, y_nK, y_nZ, y_nL, y_nR, y_k1i, y_k1r, y_k1l, y_k1n, y_tl, y_tn, y_s, y_ss, List.getElem?_cons_zero, List.getElem?_cons_succ, List.set_cons_zero, List.set_cons_succ, List.length_cons, List.length_nil, true_and, and_true]
      exact br1 (by first | decide | omega | trivial | simp) (bad (by rw [inB_f (by decide) (by decide) z, Bool.false_and]))
  · simp only [q_X11_thefts_5, y_is, y_gf, y_pf, y_f0, y_f1, y_f3, y_nI, y_nK, y_nZ, y_nL, y_nR, y_k1i, y_k1r, y_k1l, y_k1n, y_tl, y_tn, y_s, y_ss, List.getElem?_cons_zero, List.getElem?_cons_succ, List.set_cons_zero, List.set_cons_succ, List.length_cons, List.length_nil, true_and, and_true]
    exact br1 (by first | decide | omega | trivial | simp) (bad (by rw [inB_f (by decide) (by omega) z, Bool.false_and]))
end MOPS2
