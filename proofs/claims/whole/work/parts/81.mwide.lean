/-! ===== the reference: the wide ones ===== -/
theorem pw_mem {wo : Nat → Nat} : ∀ {p y : Nat}, y ∈ pw wo p → ∃ i, i < p ∧ y = wo i ∧ 0 < y
  | 0, y, h => by simp [pw] at h
  | p + 1, y, h => by
    rw [pw] at h
    have r : y ∈ pw wo p → ∃ i, i < p + 1 ∧ y = wo i ∧ 0 < y := fun h => by
      obtain ⟨i, h1, h2⟩ := pw_mem h
      exact ⟨i, by omega, h2⟩
    by_cases c : wo p = 0
    · simp only [c] at h
      first
        | exact r h
        | (rw [if_pos rfl] at h; exact r h)
        | (simp at h; exact r h)
    · first
        | rw [if_neg c] at h
        | rw [if_pos (by omega)] at h
      rcases List.mem_cons.mp h with h | h
      · exact ⟨p, by omega, h, by omega⟩
      · exact r h
theorem soW_len {W : Nat → Nat} : (soW W).length = (pw (woW W) (W 0)).length := (srt_p _).length_eq
theorem bsW_le {W : Nat → Nat} (h : wv W) {a : Nat} (ha : a ≤ 9) : (bsW W a).1 ≤ 9 * 99 ^ 9 ∧ 0 < (bsW W a).2 ∧ (bsW W a).2 ≤ 9 * 99 ^ 8 := by
  have n9 := h.1.2
  have m : ∀ y, y ∈ soW W → y ≤ 99 ∧ 0 < y := fun y hy => by
    obtain ⟨i, i1, i2, i3⟩ := pw_mem ((srt_p _).mem_iff.mp hy)
    refine ⟨?_, i3⟩
    rw [i2]
    exact (h.2.1 i (by omega)).1
  have hl := pw_len (woW W) (W 0)
  exact bs_b _ _ _ (by omega) (by rw [soW_len]; omega) (fun y hy => (m y hy).1) (fun y hy => (m y hy).2) ⟨by decide, by decide, by decide⟩
section MWIDE
variable {b : mzB} {g : mzG} {Q : mzQ} {S : sT}
theorem m_wide {x : Nat → Int32} {r : Int64} {g' : mzG} {V : Nat → Nat} {p q : Nat} (h : MR g S) (hx0 : x 0 = sgN S.N) (hx5 : x 5 = nI S.tl) (hf : fr g g' 78 80) (hM : g'.2 73 = ob 9 [.ref 74, .ref 75, .ref 76, .ref 77, .ref 78, .ref 79, .int (x 0), .int (x 1), .int (x 2), .ref 80, .int (x 3), .ref 81, .int (x 4), .ref 82, .long (r), .ref 83, .ref 84, .int (x 5), .int (x 6), .int (x 7), .int (x 8), .int (x 9), .ref 85, .int (x 10)]) (hV : ms g' E0 V) (hp : 2 ≤ p) (hp8 : p < 8) (hq : 2 ≤ q) (hq8 : q < 8) (hB0 : 0 < V q) (hA : V p < BB ^ 31) (hB : V q < BB ^ 31) (hQ : ∀ g2, MR g2 (rdc S (V p) (V q)) → fr g g2 73 86 → Q none g2) : wp 148 b 0 [.ref 73, .int (nI p), .int (nI q), .int 0] [] g' Q := by
  refine s_mtell hM hV hp hp8 hq hq8 hB0 hA hB (fun g2 V' k1 k2 k3 k4 k5 => ?_)
  obtain ⟨x2, a1, a2, a3⟩ := mo_x k1
  have k6 := (frn.of hf).tr k5
  refine hQ g2 (h.n k6 ⟨x2, r, a1, a2.trans ?_, a3.trans hx5⟩ ⟨V', k2, k3, k4⟩) ⟨k6.1, fun k hk => k6.2 k (by omega) (by omega) (by omega)⟩
  unfold sgN
  by_cases e : V p = 0
  · rw [e, if_pos rfl, if_pos (Nat.zero_div _)]
  · rw [if_neg e, if_neg]
    intro u
    have := Nat.div_mul_cancel (Nat.gcd_dvd_left (V p) (V q))
    rw [u, Nat.zero_mul] at this
    exact e this.symm
theorem m_ladder {h' : Int32} (h : MR g S) (hS : sv S) (hQ : mO g (oLadder S h') Q) : wp 183 b 0 [.ref 73, .int h', .null] [] g Q := by
  unfold oLadder at hQ
  obtain ⟨x, r, hM, x0, x5⟩ := id h.mM
  obtain ⟨f, h74, hW⟩ := id h.mW
  obtain ⟨V, hV, -, -⟩ := id h.mV
  have hv := hS.vW
  have hwl := whW_le hv
  have n1 := hv.1.1
  have n9 := hv.1.2
  simp only [q_X11_ladder_0, q_X11_ladder_1, q_X11_ladder_2, q_X11_ladder_3, q_X11_ladder_6, y_is, y_gf, y_pf, y_f0, y_f1, y_f3, y_nI, y_nK, y_nZ, y_nL, y_nR, y_k1i, y_k1r, y_k1l, y_k1n, y_tl, y_tn, y_s, y_ss, List.getElem?_cons_zero, List.getElem?_cons_succ, List.set_cons_zero, List.set_cons_succ, List.length_cons, List.length_nil, true_and, and_true, litL]
  refine s_inI (by decide) (by decide) (fun z => ?_) (fun z => ?_)
  · obtain ⟨m, m1, m2, e⟩ := z
    subst e
    rw [inB_n (by omega) m1 m2, ck_n (by omega), if_pos rfl] at hQ
    simp only [q_X11_ladder_9, q_X11_ladder_19, q_X11_ladder_20, hM, y_is, y_gf, y_pf, y_f0, y_f1, y_f3, y_nI, y_nK, y_nZ, y_nL, y_nR, y_k1i, y_k1r, y_k1l, y_k1n, y_tl, y_tn, y_s, y_ss, List.getElem?_cons_zero, List.getElem?_cons_succ, List.set_cons_zero, List.set_cons_succ, List.length_cons, List.length_nil, true_and, and_true]
    refine br1 (by decide) (s_mwhole hM h74 hW rfl n9 ?_)
    show wp _ _ _ _ [.int (nI (whW S.W))] _ _
    simp (disch := omega) only [q_X11_ladder_23, y_is, y_gf, y_pf, y_f0, y_f1, y_f3, y_nI, y_nK, y_nZ, y_nL, y_nR, y_k1i, y_k1r, y_k1l, y_k1n, y_tl, y_tn, y_s, y_ss, List.getElem?_cons_zero, List.getElem?_cons_succ, List.set_cons_zero, List.set_cons_succ, List.length_cons, List.length_nil, true_and, and_true, lit, eq_n]
    by_cases c : whW S.W = 0
    · rw [bnt c]
      rw [if_pos c] at hQ
      simp only [q_X11_ladder_26, q_X11_ladder_27, hM, y_is, y_gf, y_pf, y_f0, y_f1, y_f3, y_nI, y_nK, y_nZ, y_nL, y_nR, y_k1i, y_k1r, y_k1l, y_k1n, y_tl, y_tn, y_s, y_ss, List.getElem?_cons_zero, List.getElem?_cons_succ, List.set_cons_zero, List.set_cons_succ, List.length_cons, List.length_nil, true_and, and_true]
      refine m_no h (fun g' a1 a2 => ?_)
      simp only [q_X11_ladder_30, y_is, y_gf, y_pf, y_f0, y_f1, y_f3, y_nI, y_nK, y_nZ, y_nL, y_nR, y_k1i, y_k1r, y_k1l, y_k1n, y_tl, y_tn, y_s, y_ss, List.getElem?_cons_zero, List.getElem?_cons_succ, List.set_cons_zero, List.set_cons_succ, List.length_cons, List.length_nil, true_and, and_true]
      exact hQ g' a1 a2
    · rw [bnf c]
      rw [if_neg c] at hQ
      have p99 : ∀ i, i ≤ 9 → 99 ^ i ≤ 99 ^ 9 := fun i hi => Nat.pow_le_pow_right (by decide) hi
      have q1 : (99 : Nat) ^ 9 * 99 < BB ^ 31 := by decide +kernel
      have q2 : BB ^ 31 < BB ^ 63 := by decide +kernel
      have hpw : ∀ t, t < 9 → ∀ i, i ≤ 9 → shW S.W t ^ i ≤ 99 ^ 9 := fun t ht i hi => Nat.le_trans (Nat.pow_le_pow_left (hv.2.1 t ht).2.1 i) (p99 i hi)
      have hfw : ∀ t, t < 9 → shW S.W t ^ m * woW S.W t ≤ 99 ^ 9 * 99 := fun t ht => Nat.mul_le_mul (hpw t ht m m2) (hv.2.1 t ht).1
      have hmx : mxn (fun i => shW S.W i ^ m * woW S.W i) (S.W 0) ≤ 99 ^ 9 * 99 := mxn_le (fun i hi => hfw i (by omega))
      have hw1 : ∀ i, i ≤ m → whW S.W ^ i < BB ^ 31 := fun i hi => Nat.lt_of_le_of_lt (Nat.le_trans (Nat.pow_le_pow_left hwl i) (Nat.pow_le_pow_right (by decide) (show i ≤ 9 by omega))) (by decide +kernel)
      have hw0 : 0 < whW S.W ^ m := Nat.pow_pos (by omega)
      have loop : ∀ (d i : Nat) (g' : mzG) (V' : Nat → Nat), i + d = S.W 0 → ms g' E0 V' → V' 4 = mxn (fun i => shW S.W i ^ m * woW S.W i) i → fr g g' 78 80 → wp 183 b 39 [.ref 73, .int (nI m), .int (nI i)] [] g' Q := by
        intro d
        induction d with
        | zero =>
          intro i g' V' hi hV' h4 hf
          have hi : i = S.W 0 := by omega
          subst hi
          have hM' : g'.2 73 = ob 9 [.ref 74, .ref 75, .ref 76, .ref 77, .ref 78, .ref 79, .int (x 0), .int (x 1), .int (x 2), .ref 80, .int (x 3), .ref 81, .int (x 4), .ref 82, .long (r), .ref 83, .ref 84, .int (x 5), .int (x 6), .int (x 7), .int (x 8), .int (x 9), .ref 85, .int (x 10)] := by rw [hf.2 _ (by omega)]; exact hM
          have h74' : g'.2 74 = aI 141 f := by rw [hf.2 _ (by omega)]; exact h74
          rw [q_X11_ladder_39]
          simp (disch := omega) only [q_X11_ladder_40, q_X11_ladder_41, hM', y_is, y_gf, y_pf, y_f0, y_f1, y_f3, y_nI, y_nK, y_nZ, y_nL, y_nR, y_k1i, y_k1r, y_k1l, y_k1n, y_tl, y_tn, y_s, y_ss, List.getElem?_cons_zero, List.getElem?_cons_succ, List.set_cons_zero, List.set_cons_succ, List.length_cons, List.length_nil, true_and, and_true]
          refine s_watched hM' h74' hW ?_
          simp (disch := omega) only [q_X11_ladder_44, q_X11_ladder_102, q_X11_ladder_103, q_X11_ladder_104, q_X11_ladder_105, hM', y_is, y_gf, y_pf, y_f0, y_f1, y_f3, y_nI, y_nK, y_nZ, y_nL, y_nR, y_k1i, y_k1r, y_k1l, y_k1n, y_tl, y_tn, y_s, y_ss, List.getElem?_cons_zero, List.getElem?_cons_succ, List.set_cons_zero, List.set_cons_succ, List.length_cons, List.length_nil, true_and, and_true, lit, le_n]
          refine br1 (by first | decide | omega | trivial | simp) (s_mcopy hM' hV' (by decide) (E0n _) (by decide) (E0n _) (by decide) (fun g1 hM1 hV1 hf1 => ?_))
          have h741 : g1.2 74 = aI 141 f := by rw [hf1.2 _ (by omega)]; exact h74'
          simp (disch := omega) only [q_X11_ladder_108, q_X11_ladder_109, q_X11_ladder_110, q_X11_ladder_111, hM1, y_is, y_gf, y_pf, y_f0, y_f1, y_f3, y_nI, y_nK, y_nZ, y_nL, y_nR, y_k1i, y_k1r, y_k1l, y_k1n, y_tl, y_tn, y_s, y_ss, List.getElem?_cons_zero, List.getElem?_cons_succ, List.set_cons_zero, List.set_cons_succ, List.length_cons, List.length_nil, true_and, and_true, lit]
          refine s_mwhole hM1 h741 hW rfl n9 ?_
          show wp _ _ _ _ [.int (nI (whW S.W)), _, _] _ _
          simp (disch := omega) only [q_X11_ladder_114, q_X11_ladder_115, q_X11_ladder_116, hM1, y_is, y_gf, y_pf, y_f0, y_f1, y_f3, y_nI, y_nK, y_nZ, y_nL, y_nR, y_k1i, y_k1r, y_k1l, y_k1n, y_tl, y_tn, y_s, y_ss, List.getElem?_cons_zero, List.getElem?_cons_succ, List.set_cons_zero, List.set_cons_succ, List.length_cons, List.length_nil, true_and, and_true, lit, i_l]
          refine s_mpower hM1 hV1 (by decide) (E0n _) (by omega) (by omega) (fun i hi => Nat.lt_trans (hw1 i hi) q2) (fun g2 hM2 hV2 hf2 => ?_)
          have e2 : va_up (va_up V' 2 (V' 4)) 3 (whW S.W ^ m) 2 = mxn (fun i => shW S.W i ^ m * woW S.W i) (S.W 0) := by rw [up_n (by decide), up_s, h4]
          have e3 : va_up (va_up V' 2 (V' 4)) 3 (whW S.W ^ m) 3 = whW S.W ^ m := up_s
          simp (disch := omega) only [q_X11_ladder_119, q_X11_ladder_120, q_X11_ladder_121, q_X11_ladder_122, q_X11_ladder_123, hM2, y_is, y_gf, y_pf, y_f0, y_f1, y_f3, y_nI, y_nK, y_nZ, y_nL, y_nR, y_k1i, y_k1r, y_k1l, y_k1n, y_tl, y_tn, y_s, y_ss, List.getElem?_cons_zero, List.getElem?_cons_succ, List.set_cons_zero, List.set_cons_succ, List.length_cons, List.length_nil, true_and, and_true, lit]
          refine m_wide h x0 x5 ((hf.tr hf1).tr hf2) hM2 hV2 (by decide) (by decide) (by decide) (by decide) (by rw [e3]; exact hw0) (by rw [e2]; exact Nat.lt_of_le_of_lt hmx q1) (by rw [e3]; exact hw1 m (Nat.le_refl _)) (fun g3 k1 k2 => ?_)
          rw [e2, e3] at k1
          simp only [q_X11_ladder_126, q_X11_ladder_127, y_is, y_gf, y_pf, y_f0, y_f1, y_f3, y_nI, y_nK, y_nZ, y_nL, y_nR, y_k1i, y_k1r, y_k1l, y_k1n, y_tl, y_tn, y_s, y_ss, List.getElem?_cons_zero, List.getElem?_cons_succ, List.set_cons_zero, List.set_cons_succ, List.length_cons, List.length_nil, true_and, and_true]
          exact hQ g3 k1 k2
        | succ d ih =>
          intro i g' V' hi hV' h4 hf
          have hM' : g'.2 73 = ob 9 [.ref 74, .ref 75, .ref 76, .ref 77, .ref 78, .ref 79, .int (x 0), .int (x 1), .int (x 2), .ref 80, .int (x 3), .ref 81, .int (x 4), .ref 82, .long (r), .ref 83, .ref 84, .int (x 5), .int (x 6), .int (x 7), .int (x 8), .int (x 9), .ref 85, .int (x 10)] := by rw [hf.2 _ (by omega)]; exact hM
          have h74' : g'.2 74 = aI 141 f := by rw [hf.2 _ (by omega)]; exact h74
          have ih := fun g2 V2 => ih (i + 1) g2 V2 (by omega)
          rw [mxn] at ih
          have e1 : f (10 + i) = nI (shW S.W i) := by rw [hW (10 + i) (by omega), wI_n (by omega)]; rfl
          have e2 : f (1 + i) = nI (woW S.W i) := by rw [hW (1 + i) (by omega), wI_n (by omega)]; rfl
          have s9 : shW S.W i ≤ 99 := (hv.2.1 i (by omega)).2.1
          have w9 : woW S.W i ≤ 99 := (hv.2.1 i (by omega)).1
          rw [q_X11_ladder_39]
          simp (disch := omega) only [q_X11_ladder_40, q_X11_ladder_41, hM', y_is, y_gf, y_pf, y_f0, y_f1, y_f3, y_nI, y_nK, y_nZ, y_nL, y_nR, y_k1i, y_k1r, y_k1l, y_k1n, y_tl, y_tn, y_s, y_ss, List.getElem?_cons_zero, List.getElem?_cons_succ, List.set_cons_zero, List.set_cons_succ, List.length_cons, List.length_nil, true_and, and_true]
          refine s_watched hM' h74' hW ?_
          simp (disch := omega) only [q_X11_ladder_44, q_X11_ladder_47, q_X11_ladder_48, q_X11_ladder_50, q_X11_ladder_51, q_X11_ladder_54, q_X11_ladder_56, q_X11_ladder_57, q_X11_ladder_58, q_X11_ladder_59, q_X11_ladder_60, q_X11_ladder_61, hM', h74', e1, y_is, y_gf, y_pf, y_f0, y_f1, y_f3, y_nI, y_nK, y_nZ, y_nL, y_nR, y_k1i, y_k1r, y_k1l, y_k1n, y_tl, y_tn, y_s, y_ss, List.getElem?_cons_zero, List.getElem?_cons_succ, List.set_cons_zero, List.set_cons_succ, List.length_cons, List.length_nil, true_and, and_true, y_lIn, y_lKn, y_lZn, y_lLn, y_wIn, y_wZn, y_wLn, lit, le_n, lt_n, eq_n, lit, nI_add, i_l]
          refine br0 (by omega) (s_mpower hM' hV' (by decide) (E0n _) (by omega) (by omega) (fun j hj => Nat.lt_of_le_of_lt (hpw i (by omega) j (by omega)) (by decide +kernel)) (fun g1 hM1 hV1 hf1 => ?_))
          have h741 : g1.2 74 = aI 141 f := by rw [hf1.2 _ (by omega)]; exact h74'
          simp (disch := omega) only [q_X11_ladder_64, q_X11_ladder_65, q_X11_ladder_67, q_X11_ladder_68, q_X11_ladder_71, q_X11_ladder_72, q_X11_ladder_73, q_X11_ladder_74, q_X11_ladder_75, q_X11_ladder_76, hM1, h741, e2, y_is, y_gf, y_pf, y_f0, y_f1, y_f3, y_nI, y_nK, y_nZ, y_nL, y_nR, y_k1i, y_k1r, y_k1l, y_k1n, y_tl, y_tn, y_s, y_ss, List.getElem?_cons_zero, List.getElem?_cons_succ, List.set_cons_zero, List.set_cons_succ, List.length_cons, List.length_nil, true_and, and_true, y_lIn, y_lKn, y_lZn, y_lLn, y_wIn, y_wZn, y_wLn, lit, le_n, lt_n, eq_n, lit, nI_add, i_l]
          refine s_mtimes hM1 hV1 (by decide) (E0n _) (by omega) (by rw [up_s]; exact Nat.lt_of_le_of_lt (hfw i (by omega)) (Nat.lt_trans q1 q2)) (fun g2 hM2 hV2 hf2 => ?_)
          rw [up_s] at hV2
          simp (disch := omega) only [q_X11_ladder_79, q_X11_ladder_80, q_X11_ladder_82, q_X11_ladder_83, hM2, y_is, y_gf, y_pf, y_f0, y_f1, y_f3, y_nI, y_nK, y_nZ, y_nL, y_nR, y_k1i, y_k1r, y_k1l, y_k1n, y_tl, y_tn, y_s, y_ss, List.getElem?_cons_zero, List.getElem?_cons_succ, List.set_cons_zero, List.set_cons_succ, List.length_cons, List.length_nil, true_and, and_true, lit]
          refine s_mcompare hM2 hV2 (by decide) (E0n _) (by decide) (E0n _) ?_
          rw [up_s, up_n (by decide), up_n (by decide), h4]
          simp only [q_X11_ladder_86, y_is, y_gf, y_pf, y_f0, y_f1, y_f3, y_nI, y_nK, y_nZ, y_nL, y_nR, y_k1i, y_k1r, y_k1l, y_k1n, y_tl, y_tn, y_s, y_ss, List.getElem?_cons_zero, List.getElem?_cons_succ, List.set_cons_zero, List.set_cons_succ, List.length_cons, List.length_nil, true_and, and_true]
          have hf2' := (hf.tr hf1).tr hf2
          unfold cmpI
          by_cases cc : mxn (fun i => shW S.W i ^ m * woW S.W i) i < shW S.W i ^ m * woW S.W i
          · rw [if_neg (by omega), if_neg (by omega)]
            refine br0 (by decide) ?_
            simp (disch := omega) only [q_X11_ladder_89, q_X11_ladder_90, q_X11_ladder_91, q_X11_ladder_93, hM2, y_is, y_gf, y_pf, y_f0, y_f1, y_f3, y_nI, y_nK, y_nZ, y_nL, y_nR, y_k1i, y_k1r, y_k1l, y_k1n, y_tl, y_tn, y_s, y_ss, List.getElem?_cons_zero, List.getElem?_cons_succ, List.set_cons_zero, List.set_cons_succ, List.length_cons, List.length_nil, true_and, and_true, lit]
            refine s_mcopy hM2 hV2 (by decide) (E0n _) (by decide) (E0n _) (by decide) (fun g3 hM3 hV3 hf3 => ?_)
            simp (disch := omega) only [q_X11_ladder_96, q_X11_ladder_99, y_is, y_gf, y_pf, y_f0, y_f1, y_f3, y_nI, y_nK, y_nZ, y_nL, y_nR, y_k1i, y_k1r, y_k1l, y_k1n, y_tl, y_tn, y_s, y_ss, List.getElem?_cons_zero, List.getElem?_cons_succ, List.set_cons_zero, List.set_cons_succ, List.length_cons, List.length_nil, true_and, and_true, lit, nI_add]
            refine ih g3 _ hV3 ?_ (hf2'.tr hf3)
            rw [up_s, up_s, if_pos cc]
          · have hle : (if shW S.W i ^ m * woW S.W i < mxn (fun i => shW S.W i ^ m * woW S.W i) i then (-1 : Int32) else if shW S.W i ^ m * woW S.W i = mxn (fun i => shW S.W i ^ m * woW S.W i) i then 0 else 1) ≤ 0 := by
              by_cases l : shW S.W i ^ m * woW S.W i < mxn (fun i => shW S.W i ^ m * woW S.W i) i
              · rw [if_pos l]; decide
              · rw [if_neg l, if_pos (by omega)]; decide
            refine br1 hle ?_
            simp (disch := omega) only [q_X11_ladder_96, q_X11_ladder_99, y_is, y_gf, y_pf, y_f0, y_f1, y_f3, y_nI, y_nK, y_nZ, y_nL, y_nR, y_k1i, y_k1r, y_k1l, y_k1n, y_tl, y_tn, y_s, y_ss, List.getElem?_cons_zero, List.getElem?_cons_succ, List.set_cons_zero, List.set_cons_succ, List.length_cons, List.length_nil, true_and, and_true, lit, nI_add]
            refine ih g2 _ hV2 ?_ hf2'
            rw [up_n (by decide), up_n (by decide), h4, if_neg cc]
      simp (disch := omega) only [q_X11_ladder_31, q_X11_ladder_32, q_X11_ladder_33, q_X11_ladder_34, hM, y_is, y_gf, y_pf, y_f0, y_f1, y_f3, y_nI, y_nK, y_nZ, y_nL, y_nR, y_k1i, y_k1r, y_k1l, y_k1n, y_tl, y_tn, y_s, y_ss, List.getElem?_cons_zero, List.getElem?_cons_succ, List.set_cons_zero, List.set_cons_succ, List.length_cons, List.length_nil, true_and, and_true, lit, litL]
      refine s_mset hM hV (by decide) (E0n _) (by decide) (fun g1 hM1 hV1 hf1 => ?_)
      simp (disch := omega) only [q_X11_ladder_37, q_X11_ladder_38, y_is, y_gf, y_pf, y_f0, y_f1, y_f3, y_nI, y_nK, y_nZ, y_nL, y_nR, y_k1i, y_k1r, y_k1l, y_k1n, y_tl, y_tn, y_s, y_ss, List.getElem?_cons_zero, List.getElem?_cons_succ, List.set_cons_zero, List.set_cons_succ, List.length_cons, List.length_nil, true_and, and_true]
      exact loop (S.W 0) 0 g1 _ (by omega) hV1 (by rw [up_s]; rfl) hf1
  · rw [inB_f (by omega) (by omega) z, if_neg (by decide)] at hQ
    simp only [q_X11_ladder_9, q_X11_ladder_12, q_X11_ladder_13, q_X11_ladder_15, hM, y_is, y_gf, y_pf, y_f0, y_f1, y_f3, y_nI, y_nK, y_nZ, y_nL, y_nR, y_k1i, y_k1r, y_k1l, y_k1n, y_tl, y_tn, y_s, y_ss, List.getElem?_cons_zero, List.getElem?_cons_succ, List.set_cons_zero, List.set_cons_succ, List.length_cons, List.length_nil, true_and, and_true]
    refine br0 (fun z => z (by first | decide | omega | trivial | simp)) (m_bad h (fun g' a1 a2 => ?_))
    simp only [q_X11_ladder_18, y_is, y_gf, y_pf, y_f0, y_f1, y_f3, y_nI, y_nK, y_nZ, y_nL, y_nR, y_k1i, y_k1r, y_k1l, y_k1n, y_tl, y_tn, y_s, y_ss, List.getElem?_cons_zero, List.getElem?_cons_succ, List.set_cons_zero, List.set_cons_succ, List.length_cons, List.length_nil, true_and, and_true]
    exact hQ g' a1 a2
end MWIDE
