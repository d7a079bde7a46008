/-! ===== the reference: who sleeps, when ===== -/
section MOPS4
variable {b : mzB} {g : mzG} {Q : mzQ} {S : sT}
theorem m_fault (h : MR g S) (hS : sv S) (hQ : mO g (oFault S) Q) : wp 169 b 0 [.ref 73, .null] [] g Q := by
  obtain ⟨x, r, hM, x0, x5⟩ := id h.mM
  obtain ⟨f, h74, hW⟩ := id h.mW
  obtain ⟨-, -, -, -, ⟨-, l40⟩, hch⟩ := hS.vW
  obtain ⟨⟨F, h80⟩, ⟨s, h81⟩, L, h82⟩ := id h.mS
  unfold oFault flt at hQ
  have hsim := sim0 (env := fun c => L (lof c)) (ch := chW S.W) (len := S.W 100)
  simp only [q_X11_fault_0, q_X11_fault_1, hM, y_is, y_gf, y_pf, y_f0, y_f1, y_f3, y_nI, y_nK, y_nZ, y_nL, y_nR, y_k1i, y_k1r, y_k1l, y_k1n, y_tl, y_tn, y_s, y_ss, List.getElem?_cons_zero, List.getElem?_cons_succ, List.set_cons_zero, List.set_cons_succ, List.length_cons, List.length_nil, true_and, and_true]
  refine s_reads (env := fun c => L (lof c)) hM h74 hW rfl l40 hch h82 (fun _ _ => rfl) h80 h81 _ rfl ?_ ?_
  · intro fl hfl g2 q1 q3 q4 r2 hM2 h80' h81' hf2
    rw [hsim] at hfl
    cases hc : cres (chW S.W) (S.W 100) with
    | inl fl' =>
      rw [hc] at hfl hQ
      have e : fl' = fl := Sum.inl.inj hfl
      subst e
      simp only [q_X11_fault_4, q_X11_fault_5, q_X11_fault_6, q_X11_fault_9, hM2, y_is, y_gf, y_pf, y_f0, y_f1, y_f3, y_nI, y_nK, y_nZ, y_nL, y_nR, y_k1i, y_k1r, y_k1l, y_k1n, y_tl, y_tn, y_s, y_ss, List.getElem?_cons_zero, List.getElem?_cons_succ, List.set_cons_zero, List.set_cons_succ, List.length_cons, List.length_nil, true_and, and_true]
      obtain ⟨x2, k1, k2, k3⟩ := mo_x hM2
      exact hQ g2 (h.s (fr4.of hf2) ⟨x2, r2, k1, k2.trans x0, k3.trans x5⟩ ⟨h80', h81', L, by rw [hf2.2 _ (by decide) (by decide) (by decide)]; exact h82⟩) ⟨hf2.1, fun k hk => hf2.2 k (by omega) (by omega) (by omega)⟩
    | inr q => rw [hc] at hfl; simp at hfl
  · intro v hv g2 q1 q3 q4 hM2 h80' h81' hf2
    rw [hsim] at hv
    cases hc : cres (chW S.W) (S.W 100) with
    | inl fl' => rw [hc] at hv; simp at hv
    | inr q =>
      rw [hc] at hQ
      simp only [q_X11_fault_4, q_X11_fault_5, q_X11_fault_6, q_X11_fault_9, hM2, y_is, y_gf, y_pf, y_f0, y_f1, y_f3, y_nI, y_nK, y_nZ, y_nL, y_nR, y_k1i, y_k1r, y_k1l, y_k1n, y_tl, y_tn, y_s, y_ss, List.getElem?_cons_zero, List.getElem?_cons_succ, List.set_cons_zero, List.set_cons_succ, List.length_cons, List.length_nil, true_and, and_true]
      obtain ⟨x2, k1, k2, k3⟩ := mo_x hM2
      exact hQ g2 (h.s (fr4.of hf2) ⟨x2, v, k1, k2.trans x0, k3.trans x5⟩ ⟨h80', h81', L, by rw [hf2.2 _ (by decide) (by decide) (by decide)]; exact h82⟩) ⟨hf2.1, fun k hk => hf2.2 k (by omega) (by omega) (by omega)⟩
theorem m_asleep {h' w : Int32} (h : MR g S) (hS : sv S) (hQ : mO g (oAsleep S h' w) Q) : wp 175 b 0 [.ref 73, .int h', .int w, .null] [] g Q := by
  unfold oAsleep at hQ
  obtain ⟨x, r, hM, x0, x5⟩ := id h.mM
  obtain ⟨f, h74, hW⟩ := id h.mW
  obtain ⟨⟨n1, n9⟩, hp, ⟨w46, w47, w48, w49, -⟩, -, ⟨-, l40⟩, hch⟩ := id hS.vW
  have bad : (inB h' 0 999 && inB w 0 1) = false → wp 175 b 22 [.ref 73, .int h', .int w, .null] [] g Q := by
    intro e
    rw [e, if_neg (by decide)] at hQ
    simp only [q_X11_asleep_22, q_X11_asleep_23, q_X11_asleep_25, hM, y_is, y_gf, y_pf, y_f0, y_f1, y_f3, y_nI, y_nK, y_nZ, y_nL, y_nR, y_k1i, y_k1r, y_k1l, y_k1n, y_tl, y_tn, y_s, y_ss, List.getElem?_cons_zero, List.getElem?_cons_succ, List.set_cons_zero, List.set_cons_succ, List.length_cons, List.length_nil, true_and, and_true]
    refine m_bad h (fun g' a1 a2 => ?_)
    simp only [q_X11_asleep_28, y_is, y_gf, y_pf, y_f0, y_f1, y_f3, y_nI, y_nK, y_nZ, y_nL, y_nR, y_k1i, y_k1r, y_k1l, y_k1n, y_tl, y_tn, y_s, y_ss, List.getElem?_cons_zero, List.getElem?_cons_succ, List.set_cons_zero, List.set_cons_succ, List.length_cons, List.length_nil, true_and, and_true]
    exact hQ g' a1 a2
  simp only [q_X11_asleep_0, q_X11_asleep_1, q_X11_asleep_2, q_X11_asleep_3, q_X11_asleep_6, y_is, y_gf, y_pf, y_f0, y_f1, y_f3, y_nI, y_nK, y_nZ, y_nL, y_nR, y_k1i, y_k1r, y_k1l, y_k1n, y_tl, y_tn, y_s, y_ss, List.getElem?_cons_zero, List.getElem?_cons_succ, List.set_cons_zero, List.set_cons_succ, List.length_cons, List.length_nil, true_and, and_true, litL]
  refine s_inI (by decide) (by decide) (fun z => ?_) (fun z => ?_)
  · obtain ⟨k', k1, k2, e⟩ := z
    subst e
    rw [inB_n (by omega) k1 k2, Bool.true_and] at bad hQ
    simp only [q_X11_asleep_9, q_X11_asleep_12, q_X11_asleep_13, q_X11_asleep_14, q_X11_asleep_15, q_X11_asleep_16, y_is, y_gf, y_pf, y_f0, y_f1, y_f3, y_nI, y_nK, y_nZ, y_nL, y_nR, y_k1i, y_k1r, y_k1l, y_k1n, y_tl, y_tn, y_s, y_ss, List.getElem?_cons_zero, List.getElem?_cons_succ, List.set_cons_zero, List.set_cons_succ, List.length_cons, List.length_nil, true_and, and_true, litL]
    refine br0 (by decide) (s_inI (by decide) (by decide) (fun z => ?_) (fun z => ?_))
    · obtain ⟨a', t1, t2, e⟩ := z
      subst e
      rw [inB_n (by omega) t1 t2, ck_n (by omega), ck_n (by omega), if_pos rfl] at hQ
      simp (disch := omega) only [q_X11_asleep_19, q_X11_asleep_29, q_X11_asleep_30, q_X11_asleep_31, hM, y_is, y_gf, y_pf, y_f0, y_f1, y_f3, y_nI, y_nK, y_nZ, y_nL, y_nR, y_k1i, y_k1r, y_k1l, y_k1n, y_tl, y_tn, y_s, y_ss, List.getElem?_cons_zero, List.getElem?_cons_succ, List.set_cons_zero, List.set_cons_succ, List.length_cons, List.length_nil, true_and, and_true]
      refine br1 (by decide) (s_msleeper hM h74 hW hS.vW k2 h.mS (fun g' x2 r2 m1 m2 m3 m4 m5 => ?_))
      have h1 : MR g' S := h.s m5 ⟨x2, r2, m1, m2.trans x0, m3.trans x5⟩ m4
      have hf : fr g g' 73 86 := ⟨m5.1, fun k hk => m5.2 k (by omega) (by omega) (by omega) (by omega)⟩
      show wp 175 _ _ _ [.int (oI (slS S k'))] _ _
      cases hs : slS S k' with
      | none =>
        rw [hs] at hQ
        simp only [q_X11_asleep_34, q_X11_asleep_35, q_X11_asleep_36, q_X11_asleep_37, oI, y_is, y_gf, y_pf, y_f0, y_f1, y_f3, y_nI, y_nK, y_nZ, y_nL, y_nR, y_k1i, y_k1r, y_k1l, y_k1n, y_tl, y_tn, y_s, y_ss, List.getElem?_cons_zero, List.getElem?_cons_succ, List.set_cons_zero, List.set_cons_succ, List.length_cons, List.length_nil, true_and, and_true]
        refine br0 (fun z => z (by first | decide | omega | trivial | simp)) ?_
        simp only [q_X11_asleep_40, q_X11_asleep_41, m1, y_is, y_gf, y_pf, y_f0, y_f1, y_f3, y_nI, y_nK, y_nZ, y_nL, y_nR, y_k1i, y_k1r, y_k1l, y_k1n, y_tl, y_tn, y_s, y_ss, List.getElem?_cons_zero, List.getElem?_cons_succ, List.set_cons_zero, List.set_cons_succ, List.length_cons, List.length_nil, true_and, and_true]
        refine m_no h1 (fun g2 a1 a2 => ?_)
        simp only [q_X11_asleep_44, y_is, y_gf, y_pf, y_f0, y_f1, y_f3, y_nI, y_nK, y_nZ, y_nL, y_nR, y_k1i, y_k1r, y_k1l, y_k1n, y_tl, y_tn, y_s, y_ss, List.getElem?_cons_zero, List.getElem?_cons_succ, List.set_cons_zero, List.set_cons_succ, List.length_cons, List.length_nil, true_and, and_true]
        exact hQ g2 a1 (hf.tr a2)
      | some p =>
        rw [hs] at hQ
        have hpl : p < S.W 0 := slO_lt n1 hs
        have h74' : g'.2 74 = aI 141 f := by rw [m5.2 _ (by decide) (by decide) (by decide) (by decide)]; exact h74
        have e46 := hW 46 (by omega)
        rw [wI_n (by omega)] at e46
        simp (disch := omega) only [q_X11_asleep_34, q_X11_asleep_35, q_X11_asleep_36, q_X11_asleep_37, oI, y_is, y_gf, y_pf, y_f0, y_f1, y_f3, y_nI, y_nK, y_nZ, y_nL, y_nR, y_k1i, y_k1r, y_k1l, y_k1n, y_tl, y_tn, y_s, y_ss, List.getElem?_cons_zero, List.getElem?_cons_succ, List.set_cons_zero, List.set_cons_succ, List.length_cons, List.length_nil, true_and, and_true]
        refine br1 (fun z => (m1_ne (by omega)).mp z) ?_
        simp (disch := omega) only [q_X11_asleep_45, q_X11_asleep_46, q_X11_asleep_47, y_is, y_gf, y_pf, y_f0, y_f1, y_f3, y_nI, y_nK, y_nZ, y_nL, y_nR, y_k1i, y_k1r, y_k1l, y_k1n, y_tl, y_tn, y_s, y_ss, List.getElem?_cons_zero, List.getElem?_cons_succ, List.set_cons_zero, List.set_cons_succ, List.length_cons, List.length_nil, true_and, and_true, lit, eq_n]
        have same : ¬ (a' = 1 ∧ S.W 46 = 3) → wp 175 b 72 [.ref 73, .int (nI k'), .int (nI a'), .int (nI p)] [] g' Q := by
          intro c
          simp only [if_neg c] at hQ
          simp only [q_X11_asleep_72, q_X11_asleep_73, y_is, y_gf, y_pf, y_f0, y_f1, y_f3, y_nI, y_nK, y_nZ, y_nL, y_nR, y_k1i, y_k1r, y_k1l, y_k1n, y_tl, y_tn, y_s, y_ss, List.getElem?_cons_zero, List.getElem?_cons_succ, List.set_cons_zero, List.set_cons_succ, List.length_cons, List.length_nil, true_and, and_true]
          exact hQ g' h1 hf
        by_cases c1 : a' = 1
        · rw [bnt c1]
          simp (disch := omega) only [q_X11_asleep_50, q_X11_asleep_51, q_X11_asleep_54, q_X11_asleep_56, q_X11_asleep_57, q_X11_asleep_58, m1, h74', e46, y_is, y_gf, y_pf, y_f0, y_f1, y_f3, y_nI, y_nK, y_nZ, y_nL, y_nR, y_k1i, y_k1r, y_k1l, y_k1n, y_tl, y_tn, y_s, y_ss, List.getElem?_cons_zero, List.getElem?_cons_succ, List.set_cons_zero, List.set_cons_succ, List.length_cons, List.length_nil, true_and, and_true, y_lIn, y_lKn, y_lZn, y_lLn, y_wIn, y_wZn, y_wLn, lit, le_n, lt_n, eq_n]
          by_cases c3 : S.W 46 = 3
          · rw [bnt c3]
            simp only [if_pos (show a' = 1 ∧ S.W 46 = 3 from ⟨c1, c3⟩)] at hQ
            simp (disch := omega) only [q_X11_asleep_61, q_X11_asleep_62, q_X11_asleep_63, q_X11_asleep_64, q_X11_asleep_65, m1, y_is, y_gf, y_pf, y_f0, y_f1, y_f3, y_nI, y_nK, y_nZ, y_nL, y_nR, y_k1i, y_k1r, y_k1l, y_k1n, y_tl, y_tn, y_s, y_ss, List.getElem?_cons_zero, List.getElem?_cons_succ, List.set_cons_zero, List.set_cons_succ, List.length_cons, List.length_nil, true_and, and_true, lit, nI_add]
            refine s_watched m1 h74' hW ?_
            simp (disch := omega) only [q_X11_asleep_68, q_X11_asleep_69, q_X11_asleep_73, y_is, y_gf, y_pf, y_f0, y_f1, y_f3, y_nI, y_nK, y_nZ, y_nL, y_nR, y_k1i, y_k1r, y_k1l, y_k1n, y_tl, y_tn, y_s, y_ss, List.getElem?_cons_zero, List.getElem?_cons_succ, List.set_cons_zero, List.set_cons_succ, List.length_cons, List.length_nil, true_and, and_true, lit, eq_n, i_rem1]
            refine ⟨by omega, ?_⟩
            exact hQ g' h1 hf
          · rw [bnf c3]
            exact same (fun z => c3 z.2)
        · rw [bnf c1]
          exact same (fun z => c1 z.1)
    · simp only [q_X11_asleep_19, y_is, y_gf, y_pf, y_f0, y_f1, y_f3, y_nI, y_nK, y_nZ, y_nL, y_nR, y_k1i, y_k1r, y_k1l, y_k1n, y_tl, y_tn, y_s, y_ss, List.getElem?_cons_zero, List.getElem?_cons_succ, List.set_cons_zero, List.set_cons_succ, List.length_cons, List.length_nil, true_and, and_true]
      exact br0 (fun z => z (by first | decide | omega | trivial | simp)) (bad (inB_f (by decide) (by decide) z))
  · simp only [q_X11_asleep_9, y_is, y_gf, y_pf, y_f0, y_f1, y_f3, y_nI, y_nK, y_nZ, y_nL, y_nR, y_k1i, y_k1r, y_k1l, y_k1n, y_tl, y_tn, y_s, y_ss, List.getElem?_cons_zero, List.getElem?_cons_succ, List.set_cons_zero, List.set_cons_succ, List.length_cons, List.length_nil, true_and, and_true]
    exact br1 (by first | decide | omega | trivial | simp) (bad (by rw [inB_f (by decide) (by decide) z, Bool.false_and]))
theorem m_judge (h : MR g S) (hS : sv S) (hQ : mO g (oJudge S) Q) : wp 200 b 0 [.ref 73, .null, .null, .null, .null, .null, .null] [] g Q := by
  obtain ⟨x, r, hM, -⟩ := id h.mM
  obtain ⟨f, h74, hW⟩ := id h.mW
  exact s_mjudge hM h74 hW hS.vW (hQ g h fr.rf)
theorem m_rounds {v : Int32} (h : MR g S) (hS : sv S) (hQ : mO g (oRounds S v) Q) : wp 204 b 0 [.ref 73, .int v, .null, .null, .null, .null] [] g Q := by
  unfold oRounds at hQ
  obtain ⟨x, r, hM, -⟩ := id h.mM
  obtain ⟨f, h74, hW⟩ := id h.mW
  simp only [q_X11_rounds_0, q_X11_rounds_1, q_X11_rounds_2, q_X11_rounds_3, q_X11_rounds_4, y_is, y_gf, y_pf, y_f0, y_f1, y_f3, y_nI, y_nK, y_nZ, y_nL, y_nR, y_k1i, y_k1r, y_k1l, y_k1n, y_tl, y_tn, y_s, y_ss, List.getElem?_cons_zero, List.getElem?_cons_succ, List.set_cons_zero, List.set_cons_succ, List.length_cons, List.length_nil, true_and, and_true, litL]
  refine s_inI (by decide) (by decide) (fun z => ?_) (fun z => ?_)
  · obtain ⟨j, j1, j2, e⟩ := z
    subst e
    rw [inB_n (by omega) j1 j2, ck_n (by omega), if_pos rfl] at hQ
    simp only [q_X11_rounds_7, y_is, y_gf, y_pf, y_f0, y_f1, y_f3, y_nI, y_nK, y_nZ, y_nL, y_nR, y_k1i, y_k1r, y_k1l, y_k1n, y_tl, y_tn, y_s, y_ss, List.getElem?_cons_zero, List.getElem?_cons_succ, List.set_cons_zero, List.set_cons_succ, List.length_cons, List.length_nil, true_and, and_true]
    exact br1 (by decide) (s_mrounds hM h74 hW hS.vW j2 (hQ g h fr.rf))
  · rw [inB_f (by omega) (by omega) z, if_neg (by decide)] at hQ
    simp only [q_X11_rounds_7, q_X11_rounds_10, q_X11_rounds_11, q_X11_rounds_13, hM, y_is, y_gf, y_pf, y_f0, y_f1, y_f3, y_nI, y_nK, y_nZ, y_nL, y_nR, y_k1i, y_k1r, y_k1l, y_k1n, y_tl, y_tn, y_s, y_ss, List.getElem?_cons_zero, List.getElem?_cons_succ, List.set_cons_zero, List.set_cons_succ, List.length_cons, List.length_nil, true_and, and_true]
    refine br0 (fun z => z (by first | decide | omega | trivial | simp)) (m_bad h (fun g' a1 a2 => ?_))
    simp only [q_X11_rounds_16, y_is, y_gf, y_pf, y_f0, y_f1, y_f3, y_nI, y_nK, y_nZ, y_nL, y_nR, y_k1i, y_k1r, y_k1l, y_k1n, y_tl, y_tn, y_s, y_ss, List.getElem?_cons_zero, List.getElem?_cons_succ, List.set_cons_zero, List.set_cons_succ, List.length_cons, List.length_nil, true_and, and_true]
    exact hQ g' a1 a2
theorem m_soon {v : Int32} (h : MR g S) (hS : sv S) (hQ : mO g (oSoon S v) Q) : wp 205 b 0 [.ref 73, .int v, .null, .null, .null, .null, .null, .null] [] g Q := by
  unfold oSoon at hQ
  obtain ⟨x, r, hM, -⟩ := id h.mM
  obtain ⟨f, h74, hW⟩ := id h.mW
  obtain ⟨⟨n1, n9⟩, -⟩ := id hS.vW
  simp only [q_X11_soon_0, q_X11_soon_1, q_X11_soon_2, hM, y_is, y_gf, y_pf, y_f0, y_f1, y_f3, y_nI, y_nK, y_nZ, y_nL, y_nR, y_k1i, y_k1r, y_k1l, y_k1n, y_tl, y_tn, y_s, y_ss, List.getElem?_cons_zero, List.getElem?_cons_succ, List.set_cons_zero, List.set_cons_succ, List.length_cons, List.length_nil, true_and, and_true]
  refine s_misPost hM h74 hW n1 n9 (fun z => ?_) (fun z => ?_)
  · obtain ⟨j, j1, j2, e⟩ := z
    subst e
    rw [inB_n (by omega) j1 j2, ck_n (by omega), if_pos rfl] at hQ
    simp only [q_X11_soon_5, y_is, y_gf, y_pf, y_f0, y_f1, y_f3, y_nI, y_nK, y_nZ, y_nL, y_nR, y_k1i, y_k1r, y_k1l, y_k1n, y_tl, y_tn, y_s, y_ss, List.getElem?_cons_zero, List.getElem?_cons_succ, List.set_cons_zero, List.set_cons_succ, List.length_cons, List.length_nil, true_and, and_true]
    exact br1 (by decide) (s_msoon hM h74 hW hS.vW (by omega) h.mY (fun g' a1 a2 => hQ g' (h.y a2 a1) (a2.wide (by omega) (by omega))))
  · rw [inB_f (by omega) (by omega) z, if_neg (by decide)] at hQ
    simp only [q_X11_soon_5, q_X11_soon_8, q_X11_soon_9, q_X11_soon_11, hM, y_is, y_gf, y_pf, y_f0, y_f1, y_f3, y_nI, y_nK, y_nZ, y_nL, y_nR, y_k1i, y_k1r, y_k1l, y_k1n, y_tl, y_tn, y_s, y_ss, List.getElem?_cons_zero, List.getElem?_cons_succ, List.set_cons_zero, List.set_cons_succ, List.length_cons, List.length_nil, true_and, and_true]
    refine br0 (fun z => z (by first | decide | omega | trivial | simp)) (m_bad h (fun g' a1 a2 => ?_))
    simp only [q_X11_soon_14, y_is, y_gf, y_pf, y_f0, y_f1, y_f3, y_nI, y_nK, y_nZ, y_nL, y_nR, y_k1i, y_k1r, y_k1l, y_k1n, y_tl, y_tn, y_s, y_ss, List.getElem?_cons_zero, List.getElem?_cons_succ, List.set_cons_zero, List.set_cons_succ, List.length_cons, List.length_nil, true_and, and_true]
    exact hQ g' a1 a2
theorem m_nights (h : MR g S) (hS : sv S) (hQ : mO8 g (oNights S) Q) : wp 196 b 0 [.ref 73] [] g Q := by
  unfold oNights wyS at hQ
  obtain ⟨x, r, hM, -⟩ := id h.mM
  obtain ⟨f, h74, hW⟩ := id h.mW
  obtain ⟨⟨n1, n9⟩, hp, -⟩ := id hS.vW
  have hsm := sm_le (f := neW S.W) (c := 12) (n := S.W 0) (fun i hi => (hp i (by omega)).2.2.1)
  simp only [q_X11_nights_0, q_X11_nights_1, hM, y_is, y_gf, y_pf, y_f0, y_f1, y_f3, y_nI, y_nK, y_nZ, y_nL, y_nR, y_k1i, y_k1r, y_k1l, y_k1n, y_tl, y_tn, y_s, y_ss, List.getElem?_cons_zero, List.getElem?_cons_succ, List.set_cons_zero, List.set_cons_succ, List.length_cons, List.length_nil, true_and, and_true]
  refine s_mneeds hM h74 hW rfl n9 ?_
  simp (disch := omega) only [q_X11_nights_4, q_X11_nights_6, y_is, y_gf, y_pf, y_f0, y_f1, y_f3, y_nI, y_nK, y_nZ, y_nL, y_nR, y_k1i, y_k1r, y_k1l, y_k1n, y_tl, y_tn, y_s, y_ss, List.getElem?_cons_zero, List.getElem?_cons_succ, List.set_cons_zero, List.set_cons_succ, List.length_cons, List.length_nil, true_and, and_true, lit, le_n]
  refine brs (fun c => ?_) (fun c => ?_)
  · rw [if_pos c] at hQ
    simp only [q_X11_nights_17, q_X11_nights_18, hM, y_is, y_gf, y_pf, y_f0, y_f1, y_f3, y_nI, y_nK, y_nZ, y_nL, y_nR, y_k1i, y_k1r, y_k1l, y_k1n, y_tl, y_tn, y_s, y_ss, List.getElem?_cons_zero, List.getElem?_cons_succ, List.set_cons_zero, List.set_cons_succ, List.length_cons, List.length_nil, true_and, and_true]
    refine s_mstretches hM h74 hW rfl n9 hS.vW ?_
    simp only [q_X11_nights_21, q_X11_nights_23, q_X11_nights_24, hM, y_is, y_gf, y_pf, y_f0, y_f1, y_f3, y_nI, y_nK, y_nZ, y_nL, y_nR, y_k1i, y_k1r, y_k1l, y_k1n, y_tl, y_tn, y_s, y_ss, List.getElem?_cons_zero, List.getElem?_cons_succ, List.set_cons_zero, List.set_cons_succ, List.length_cons, List.length_nil, true_and, and_true]
    refine s_mneeds hM h74 hW rfl n9 ?_
    have hsl := slp_le (neW S.W) (S.W 0)
    simp (disch := omega) only [q_X11_nights_27, q_X11_nights_28, y_is, y_gf, y_pf, y_f0, y_f1, y_f3, y_nI, y_nK, y_nZ, y_nL, y_nR, y_k1i, y_k1r, y_k1l, y_k1n, y_tl, y_tn, y_s, y_ss, List.getElem?_cons_zero, List.getElem?_cons_succ, List.set_cons_zero, List.set_cons_succ, List.length_cons, List.length_nil, true_and, and_true, lit, pk_sub]
    refine s_mways (by omega) (by omega) ?_
    simp only [q_X11_nights_31, y_is, y_gf, y_pf, y_f0, y_f1, y_f3, y_nI, y_nK, y_nZ, y_nL, y_nR, y_k1i, y_k1r, y_k1l, y_k1n, y_tl, y_tn, y_s, y_ss, List.getElem?_cons_zero, List.getElem?_cons_succ, List.set_cons_zero, List.set_cons_succ, List.length_cons, List.length_nil, true_and, and_true]
    exact hQ g h fr.rf
  · rw [if_neg c] at hQ
    simp only [q_X11_nights_9, q_X11_nights_10, hM, y_is, y_gf, y_pf, y_f0, y_f1, y_f3, y_nI, y_nK, y_nZ, y_nL, y_nR, y_k1i, y_k1r, y_k1l, y_k1n, y_tl, y_tn, y_s, y_ss, List.getElem?_cons_zero, List.getElem?_cons_succ, List.set_cons_zero, List.set_cons_succ, List.length_cons, List.length_nil, true_and, and_true]
    refine m_no h (fun g' a1 a2 => ?_)
    simp only [q_X11_nights_13, q_X11_nights_14, q_X11_nights_31, y_is, y_gf, y_pf, y_f0, y_f1, y_f3, y_nI, y_nK, y_nZ, y_nL, y_nR, y_k1i, y_k1r, y_k1l, y_k1n, y_tl, y_tn, y_s, y_ss, List.getElem?_cons_zero, List.getElem?_cons_succ, List.set_cons_zero, List.set_cons_succ, List.length_cons, List.length_nil, true_and, and_true]
    exact hQ g' a1 a2
theorem m_night {i : Int64} {h' : Int32} (h : MR g S) (hS : sv S) (hQ : mO g (oNight S i h') Q) : wp 197 b 0 [.ref 73, .long i, .null, .int h', .null, .null, .null, .null, .null, .null, .null, .null, .null, .null, .null] [] g Q := by
  unfold oNight wyS at hQ
  obtain ⟨x, r, hM, -⟩ := id h.mM
  obtain ⟨f, h74, hW⟩ := id h.mW
  obtain ⟨⟨n1, n9⟩, hp, -⟩ := id hS.vW
  have hsm := sm_le (f := neW S.W) (c := 12) (n := S.W 0) (fun i hi => (hp i (by omega)).2.2.1)
  have bad : (decide (¬ i < 0) && inB h' 0 11) = false → wp 197 b 18 [.ref 73, .long i, .null, .int h', .null, .null, .null, .null, .null, .null, .null, .null, .null, .null, .null] [] g Q := by
    intro e
    rw [e, if_neg (by decide)] at hQ
    simp only [q_X11_night_18, q_X11_night_19, q_X11_night_21, hM, y_is, y_gf, y_pf, y_f0, y_f1, y_f3, y_nI, y_nK, y_nZ, y_nL, y_nR, y_k1i, y_k1r, y_k1l, y_k1n, y_tl, y_tn, y_s, y_ss, List.getElem?_cons_zero, List.getElem?_cons_succ, List.set_cons_zero, List.set_cons_succ, List.length_cons, List.length_nil, true_and, and_true]
    refine m_bad h (fun g' a1 a2 => ?_)
    simp only [q_X11_night_24, y_is, y_gf, y_pf, y_f0, y_f1, y_f3, y_nI, y_nK, y_nZ, y_nL, y_nR, y_k1i, y_k1r, y_k1l, y_k1n, y_tl, y_tn, y_s, y_ss, List.getElem?_cons_zero, List.getElem?_cons_succ, List.set_cons_zero, List.set_cons_succ, List.length_cons, List.length_nil, true_and, and_true]
    exact hQ g' a1 a2
  simp only [q_X11_night_0, q_X11_night_1, q_X11_night_2, q_X11_night_3, q_X11_night_6, q_X11_night_7, q_X11_night_8, q_X11_night_9, q_X11_night_12, y_is, y_gf, y_pf, y_f0, y_f1, y_f3, y_nI, y_nK, y_nZ, y_nL, y_nR, y_k1i, y_k1r, y_k1l, y_k1n, y_tl, y_tn, y_s, y_ss, List.getElem?_cons_zero, List.getElem?_cons_succ, List.set_cons_zero, List.set_cons_succ, List.length_cons, List.length_nil, true_and, and_true, lcl, litL]
  refine brs (fun z => bad (by rw [decide_eq_false (fun y => y z), Bool.false_and])) (fun z => ?_)
  have z : ¬ i < 0 := z
  rw [decide_eq_true z, Bool.true_and] at bad hQ
  refine s_inI (by decide) (by decide) (fun y => ?_) (fun y => ?_)
  · obtain ⟨j, j1, j2, e⟩ := y
    subst e
    rw [inB_n (by omega) j1 j2, ck_n (by omega), if_pos rfl] at hQ
    obtain ⟨m, m1, m2, m3⟩ := lN_of z
    rw [m3] at hQ
    subst m2
    simp only [q_X11_night_15, q_X11_night_25, q_X11_night_26, hM, y_is, y_gf, y_pf, y_f0, y_f1, y_f3, y_nI, y_nK, y_nZ, y_nL, y_nR, y_k1i, y_k1r, y_k1l, y_k1n, y_tl, y_tn, y_s, y_ss, List.getElem?_cons_zero, List.getElem?_cons_succ, List.set_cons_zero, List.set_cons_succ, List.length_cons, List.length_nil, true_and, and_true]
    refine br1 (by decide) (s_mneeds hM h74 hW rfl n9 ?_)
    simp (disch := omega) only [q_X11_night_29, q_X11_night_31, y_is, y_gf, y_pf, y_f0, y_f1, y_f3, y_nI, y_nK, y_nZ, y_nL, y_nR, y_k1i, y_k1r, y_k1l, y_k1n, y_tl, y_tn, y_s, y_ss, List.getElem?_cons_zero, List.getElem?_cons_succ, List.set_cons_zero, List.set_cons_succ, List.length_cons, List.length_nil, true_and, and_true, lit, le_n]
    refine brs (fun c => ?_) (fun c => ?_)
    · rw [if_pos c] at hQ
      simp only [q_X11_night_39, q_X11_night_40, hM, y_is, y_gf, y_pf, y_f0, y_f1, y_f3, y_nI, y_nK, y_nZ, y_nL, y_nR, y_k1i, y_k1r, y_k1l, y_k1n, y_tl, y_tn, y_s, y_ss, List.getElem?_cons_zero, List.getElem?_cons_succ, List.set_cons_zero, List.set_cons_succ, List.length_cons, List.length_nil, true_and, and_true]
      refine s_mstretches hM h74 hW rfl n9 hS.vW ?_
      simp only [q_X11_night_43, q_X11_night_45, q_X11_night_47, q_X11_night_48, hM, y_is, y_gf, y_pf, y_f0, y_f1, y_f3, y_nI, y_nK, y_nZ, y_nL, y_nR, y_k1i, y_k1r, y_k1l, y_k1n, y_tl, y_tn, y_s, y_ss, List.getElem?_cons_zero, List.getElem?_cons_succ, List.set_cons_zero, List.set_cons_succ, List.length_cons, List.length_nil, true_and, and_true]
      refine s_mneeds hM h74 hW rfl n9 ?_
      have hsl := slp_le (neW S.W) (S.W 0)
      simp (disch := omega) only [q_X11_night_51, q_X11_night_52, q_X11_night_54, q_X11_night_55, q_X11_night_57, q_X11_night_59, y_is, y_gf, y_pf, y_f0, y_f1, y_f3, y_nI, y_nK, y_nZ, y_nL, y_nR, y_k1i, y_k1r, y_k1l, y_k1n, y_tl, y_tn, y_s, y_ss, List.getElem?_cons_zero, List.getElem?_cons_succ, List.set_cons_zero, List.set_cons_succ, List.length_cons, List.length_nil, true_and, and_true, lit, pk_sub]
      refine s_mways (by omega) (by omega) ?_
      simp only [q_X11_night_62, q_X11_night_63, y_is, y_gf, y_pf, y_f0, y_f1, y_f3, y_nI, y_nK, y_nZ, y_nL, y_nR, y_k1i, y_k1r, y_k1l, y_k1n, y_tl, y_tn, y_s, y_ss, List.getElem?_cons_zero, List.getElem?_cons_succ, List.set_cons_zero, List.set_cons_succ, List.length_cons, List.length_nil, true_and, and_true, lcl]
      refine brs (fun q => ?_) (fun q => ?_)
      · rw [if_pos q] at hQ
        have := wys_b (idle := 12 - sm (neW S.W) (S.W 0)) (s := slp (neW S.W) (S.W 0)) (by omega) (by omega)
        rw [l_lt m1 (by omega)] at q
        simp (disch := omega) only [q_X11_night_69, q_X11_night_70, q_X11_night_72, q_X11_night_73, q_X11_night_75, q_X11_night_76, q_X11_night_78, q_X11_night_79, y_is, y_gf, y_pf, y_f0, y_f1, y_f3, y_nI, y_nK, y_nZ, y_nL, y_nR, y_k1i, y_k1r, y_k1l, y_k1n, y_tl, y_tn, y_s, y_ss, List.getElem?_cons_zero, List.getElem?_cons_succ, List.set_cons_zero, List.set_cons_succ, List.length_cons, List.length_nil, true_and, and_true]
        exact s_mnsl hM h74 hW hS.vW n9 (by omega) _ (hQ g h fr.rf) 12 _ _ 0 m 0 none _ _ _ _ (by omega) (ninv_0 c q) rfl
      · rw [if_neg q] at hQ
        simp only [q_X11_night_66, q_X11_night_68, y_is, y_gf, y_pf, y_f0, y_f1, y_f3, y_nI, y_nK, y_nZ, y_nL, y_nR, y_k1i, y_k1r, y_k1l, y_k1n, y_tl, y_tn, y_s, y_ss, List.getElem?_cons_zero, List.getElem?_cons_succ, List.set_cons_zero, List.set_cons_succ, List.length_cons, List.length_nil, true_and, and_true]
        exact hQ g h fr.rf
    · rw [if_neg c] at hQ
      simp only [q_X11_night_34, q_X11_night_35, hM, y_is, y_gf, y_pf, y_f0, y_f1, y_f3, y_nI, y_nK, y_nZ, y_nL, y_nR, y_k1i, y_k1r, y_k1l, y_k1n, y_tl, y_tn, y_s, y_ss, List.getElem?_cons_zero, List.getElem?_cons_succ, List.set_cons_zero, List.set_cons_succ, List.length_cons, List.length_nil, true_and, and_true]
      refine m_no h (fun g' a1 a2 => ?_)
      simp only [q_X11_night_38, y_is, y_gf, y_pf, y_f0, y_f1, y_f3, y_nI, y_nK, y_nZ, y_nL, y_nR, y_k1i, y_k1r, y_k1l, y_k1n, y_tl, y_tn, y_s, y_ss, List.getElem?_cons_zero, List.getElem?_cons_succ, List.set_cons_zero, List.set_cons_succ, List.length_cons, List.length_nil, true_and, and_true]
      exact hQ g' a1 a2
  · simp only [q_X11_night_15, y_is, y_gf, y_pf, y_f0, y_f1, y_f3, y_nI, y_nK, y_nZ, y_nL, y_nR, y_k1i, y_k1r, y_k1l, y_k1n, y_tl, y_tn, y_s, y_ss, List.getElem?_cons_zero, List.getElem?_cons_succ, List.set_cons_zero, List.set_cons_succ, List.length_cons, List.length_nil, true_and, and_true]
    exact br0 (fun z => z (by first | decide | omega | trivial | simp)) (bad (inB_f (by decide) (by decide) y))
end MOPS4
