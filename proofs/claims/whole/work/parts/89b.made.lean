/-! ===== made at the start: the program's object ===== -/
theorem nw_two {g g' : mzG} {lo hi : Nat} (h : ∀ j, (lo ≤ j ∧ j < hi) ∨ 1000 ≤ j → g'.2 j = g.2 j) : ∃ m : mzG, fr (g'.1, g.2) m 0 lo ∧ fr m g' hi 1000 := by
  refine ⟨(g'.1, fun j => if j < lo then g'.2 j else g.2 j), ⟨rfl, fun j hj => ?_⟩, ⟨rfl, fun j hj => ?_⟩⟩
  · exact if_neg (by omega)
  · show g'.2 j = if j < lo then g'.2 j else g.2 j
    by_cases c : j < lo
    · rw [if_pos c]
    · rw [if_neg c]; exact h j (by omega)
def S0 : sT := (W0, fun _ => none, fun _ => 0, 0, 0, 1, fun _ => 0)
section MADE
variable {g : mzG} {Q : mzQ}
theorem n_main (h0 : g.2 0 = ob 8 [.null, .null, .null, .null, .null, .null, .null, .null, .null]) (hw : g.1 = 1) (hK : kc g) (hQ : ∀ g', CR g' S0 → g'.1 = 73 → (∀ j, 1000 ≤ j → g'.2 j = g.2 j) → Q none g') : wp 88 (72, 1060) 0 [.ref 0, .null] [] g Q := by
  have c2 : Int32.toNatClampNeg 2 = 2 := by decide
  have c3 : Int32.toNatClampNeg 3 = 3 := by decide
  have c0 : Int32.toNatClampNeg 0 = 0 := by decide
  have c1 : Int32.toNatClampNeg 1 = 1 := by decide
  have i1 : (0 : Int32) + 1 = 1 := by decide
  have i2 : (1 : Int32) + 1 = 2 := by decide
  have hK0 : g.2 1000 = aK 5 kz_at := hK.2.2.2.2.1
  simp (disch := omega) only [q_X10_init_0, q_X10_init_4, q_X10_init_8, q_X10_init_1, q_X10_init_5, hw, y_is, y_gf, y_pf, y_f0, y_f1, y_f3, y_nI, y_nK, y_nZ, y_nL, y_nR, y_k1i, y_k1r, y_k1l, y_k1n, y_tl, y_tn, y_s, y_ss, List.getElem?_cons_zero, List.getElem?_cons_succ, List.set_cons_zero, List.set_cons_succ, List.length_cons, List.length_nil, true_and, and_true]
  refine ⟨by decide, by decide, ⟨by decide, by decide⟩, ?_⟩
  generalize hg : hn g _ = gA
  obtain ⟨a1, a2, a3⟩ := hn_f hw hg
  clear hg
  rw [q_X10_init_9 ⟨by decide, by decide⟩, a2, y_is]
  refine ⟨trivial, n_watch a2 a1.symm (by omega) ((a3 _ (by decide)).trans hK0) (fun g1 tW d1 d3 => ?_)⟩
  rw [a1] at d1 d3
  have o1 : g1.2 0 = ob 8 [.null, .null, .null, .null, .null, .null, .null, .null, .null] := (d3 _ (by decide)).trans ((a3 _ (by decide)).trans h0)
  have f1 : ∀ j, 1000 ≤ j → g1.2 j = g.2 j := fun j hj => (d3 _ (by omega)).trans (a3 _ (by omega))
  simp (disch := omega) only [q_X10_init_12, q_X10_init_15, q_X10_init_16, q_X10_init_17, o1, d1, hs_1, c2, y_is, y_gf, y_pf, y_f0, y_f1, y_f3, y_nI, y_nK, y_nZ, y_nL, y_nR, y_k1i, y_k1r, y_k1l, y_k1n, y_tl, y_tn, y_s, y_ss, List.getElem?_cons_zero, List.getElem?_cons_succ, List.set_cons_zero, List.set_cons_succ, List.length_cons, List.length_nil, true_and, and_true]
  refine ⟨by decide, ⟨by decide, by decide, by decide⟩, ⟨by decide, by decide⟩, ?_⟩
  generalize hg : hn (hs g1 _ _) _ = g2
  obtain ⟨n2, t13, o2, r2⟩ := hh_f d1 (by decide) hg
  clear hg
  have f2 : ∀ j, (1 ≤ j ∧ j < 13) ∨ 1000 ≤ j → g2.2 j = g1.2 j := fun j hj => r2 _ (by omega) (by omega)
  simp (disch := omega) only [q_X10_init_20, q_X10_init_23, q_X10_init_24, q_X10_init_25, o2, n2, hs_1, c2, y_is, y_gf, y_pf, y_f0, y_f1, y_f3, y_nI, y_nK, y_nZ, y_nL, y_nR, y_k1i, y_k1r, y_k1l, y_k1n, y_tl, y_tn, y_s, y_ss, List.getElem?_cons_zero, List.getElem?_cons_succ, List.set_cons_zero, List.set_cons_succ, List.length_cons, List.length_nil, true_and, and_true]
  refine ⟨by decide, ⟨by decide, by decide, by decide⟩, ⟨by decide, by decide⟩, ?_⟩
  generalize hg : hn (hs g2 _ _) _ = g3
  obtain ⟨n3, t14, o3, r3⟩ := hh_f n2 (by decide) hg
  clear hg
  have f3 : ∀ j, (1 ≤ j ∧ j < 14) ∨ 1000 ≤ j → g3.2 j = g2.2 j := fun j hj => r3 _ (by omega) (by omega)
  simp (disch := omega) only [q_X10_init_27, q_X10_init_30, q_X10_init_34, q_X10_init_31, o3, n3, hs_1, y_is, y_gf, y_pf, y_f0, y_f1, y_f3, y_nI, y_nK, y_nZ, y_nL, y_nR, y_k1i, y_k1r, y_k1l, y_k1n, y_tl, y_tn, y_s, y_ss, List.getElem?_cons_zero, List.getElem?_cons_succ, List.set_cons_zero, List.set_cons_succ, List.length_cons, List.length_nil, true_and, and_true]
  refine ⟨by decide, by decide, ⟨by decide, by decide⟩, ?_⟩
  generalize hg : hn (hs g3 _ _) _ = e4
  obtain ⟨m4, u4, v4, w4⟩ := hh_f n3 (by decide) hg
  clear hg
  rw [q_X10_init_35 ⟨by decide, by decide⟩, u4, y_is]
  refine ⟨trivial, n_tx u4 m4 ?_ (fun g4 tT x4 => ?_)⟩
  · rw [w4 _ (by decide) (by decide), f3 _ (by decide), f2 _ (by decide), f1 _ (by decide)]; exact hK0
  have n4 : g4.1 = 29 := x4.1
  have o4 : g4.2 0 = ob 8 [.ref 1, .ref 13, .ref 14, .null, .null, .null, .null, .null, .null] := (x4.2 _ (by decide)).trans v4
  have f4 : ∀ j, (1 ≤ j ∧ j < 15) ∨ 1000 ≤ j → g4.2 j = g3.2 j := fun j hj => (x4.2 _ (by omega)).trans (w4 _ (by omega) (by omega))
  simp (disch := omega) only [q_X10_init_38, q_X10_init_41, q_X10_init_45, q_X10_init_42, o4, n4, hs_1, y_is, y_gf, y_pf, y_f0, y_f1, y_f3, y_nI, y_nK, y_nZ, y_nL, y_nR, y_k1i, y_k1r, y_k1l, y_k1n, y_tl, y_tn, y_s, y_ss, List.getElem?_cons_zero, List.getElem?_cons_succ, List.set_cons_zero, List.set_cons_succ, List.length_cons, List.length_nil, true_and, and_true]
  refine ⟨by decide, by decide, ⟨by decide, by decide⟩, ?_⟩
  generalize hg : hn (hs g4 _ _) _ = e5
  obtain ⟨m5, u5, v5, w5⟩ := hh_f n4 (by decide) hg
  clear hg
  rw [q_X10_init_46 ⟨by decide, by decide⟩, u5, y_is]
  refine ⟨trivial, n_cap u5 m5 (fun g5 t29 tU x5 => ?_)⟩
  have n5 : g5.1 = 34 := x5.1
  have o5 : g5.2 0 = ob 8 [.ref 1, .ref 13, .ref 14, .ref 15, .null, .null, .null, .null, .null] := (x5.2 _ (by decide)).trans v5
  have f5 : ∀ j, (1 ≤ j ∧ j < 29) ∨ 1000 ≤ j → g5.2 j = g4.2 j := fun j hj => (x5.2 _ (by omega)).trans (w5 _ (by omega) (by omega))
  simp (disch := omega) only [q_X10_init_49, q_X10_init_52, q_X10_init_56, q_X10_init_53, o5, n5, hs_1, y_is, y_gf, y_pf, y_f0, y_f1, y_f3, y_nI, y_nK, y_nZ, y_nL, y_nR, y_k1i, y_k1r, y_k1l, y_k1n, y_tl, y_tn, y_s, y_ss, List.getElem?_cons_zero, List.getElem?_cons_succ, List.set_cons_zero, List.set_cons_succ, List.length_cons, List.length_nil, true_and, and_true]
  refine ⟨by decide, by decide, ⟨by decide, by decide⟩, ?_⟩
  generalize hg : hn (hs g5 _ _) _ = e6
  obtain ⟨m6, u6, v6, w6⟩ := hh_f n5 (by decide) hg
  clear hg
  rw [q_X10_init_57 ⟨by decide, by decide⟩, u6, y_is]
  refine ⟨trivial, n_bal u6 m6 (fun g6 tB x6 => ?_)⟩
  have n6 : g6.1 = 36 := x6.1
  have o6 : g6.2 0 = ob 8 [.ref 1, .ref 13, .ref 14, .ref 15, .ref 29, .null, .null, .null, .null] := (x6.2 _ (by decide)).trans v6
  have f6 : ∀ j, (1 ≤ j ∧ j < 34) ∨ 1000 ≤ j → g6.2 j = g5.2 j := fun j hj => (x6.2 _ (by omega)).trans (w6 _ (by omega) (by omega))
  simp (disch := omega) only [q_X10_init_60, q_X10_init_63, q_X10_init_67, q_X10_init_64, o6, n6, hs_1, y_is, y_gf, y_pf, y_f0, y_f1, y_f3, y_nI, y_nK, y_nZ, y_nL, y_nR, y_k1i, y_k1r, y_k1l, y_k1n, y_tl, y_tn, y_s, y_ss, List.getElem?_cons_zero, List.getElem?_cons_succ, List.set_cons_zero, List.set_cons_succ, List.length_cons, List.length_nil, true_and, and_true]
  refine ⟨by decide, by decide, ⟨by decide, by decide⟩, ?_⟩
  generalize hg : hn (hs g6 _ _) _ = e7
  obtain ⟨m7, u7, v7, w7⟩ := hh_f n6 (by decide) hg
  clear hg
  rw [q_X10_init_68 ⟨by decide, by decide⟩, u7, y_is]
  refine ⟨trivial, n_th u7 m7 (fun g7 tH x7 => ?_)⟩
  have n7 : g7.1 = 43 := x7.1
  have o7 : g7.2 0 = ob 8 [.ref 1, .ref 13, .ref 14, .ref 15, .ref 29, .ref 34, .null, .null, .null] := (x7.2 _ (by decide)).trans v7
  have f7 : ∀ j, (1 ≤ j ∧ j < 36) ∨ 1000 ≤ j → g7.2 j = g6.2 j := fun j hj => (x7.2 _ (by omega)).trans (w7 _ (by omega) (by omega))
  simp (disch := omega) only [q_X10_init_71, q_X10_init_74, q_X10_init_78, q_X10_init_75, o7, n7, hs_1, y_is, y_gf, y_pf, y_f0, y_f1, y_f3, y_nI, y_nK, y_nZ, y_nL, y_nR, y_k1i, y_k1r, y_k1l, y_k1n, y_tl, y_tn, y_s, y_ss, List.getElem?_cons_zero, List.getElem?_cons_succ, List.set_cons_zero, List.set_cons_succ, List.length_cons, List.length_nil, true_and, and_true]
  refine ⟨by decide, by decide, ⟨by decide, by decide⟩, ?_⟩
  generalize hg : hn (hs g7 _ _) _ = e8
  obtain ⟨m8, u8, v8, w8⟩ := hh_f n7 (by decide) hg
  clear hg
  rw [q_X10_init_79 ⟨by decide, by decide⟩, u8, y_is]
  refine ⟨trivial, n_ft u8 m8 (fun g8 tF x8 => ?_)⟩
  have n8 : g8.1 = 48 := x8.1
  have o8 : g8.2 0 = ob 8 [.ref 1, .ref 13, .ref 14, .ref 15, .ref 29, .ref 34, .ref 36, .null, .null] := (x8.2 _ (by decide)).trans v8
  have f8 : ∀ j, (1 ≤ j ∧ j < 43) ∨ 1000 ≤ j → g8.2 j = g7.2 j := fun j hj => (x8.2 _ (by omega)).trans (w8 _ (by omega) (by omega))
  simp (disch := omega) only [q_X10_init_82, q_X10_init_85, q_X10_init_86, q_X10_init_87, o8, n8, hs_1, c3, y_is, y_gf, y_pf, y_f0, y_f1, y_f3, y_nI, y_nK, y_nZ, y_nL, y_nR, y_k1i, y_k1r, y_k1l, y_k1n, y_tl, y_tn, y_s, y_ss, List.getElem?_cons_zero, List.getElem?_cons_succ, List.set_cons_zero, List.set_cons_succ, List.length_cons, List.length_nil, true_and, and_true]
  refine ⟨by decide, ⟨by decide, by decide, by decide⟩, ⟨by decide, by decide⟩, ?_⟩
  generalize hg : hn (hs g8 _ _) _ = g9
  obtain ⟨n9, t48, o9, r9⟩ := hh_f n8 (by decide) hg
  clear hg
  have f9 : ∀ j, (1 ≤ j ∧ j < 48) ∨ 1000 ≤ j → g9.2 j = g8.2 j := fun j hj => r9 _ (by omega) (by omega)
  simp (disch := omega) only [q_X10_init_89, q_X10_init_92, q_X10_init_93, o9, y_is, y_gf, y_pf, y_f0, y_f1, y_f3, y_nI, y_nK, y_nZ, y_nL, y_nR, y_k1i, y_k1r, y_k1l, y_k1n, y_tl, y_tn, y_s, y_ss, List.getElem?_cons_zero, List.getElem?_cons_succ, List.set_cons_zero, List.set_cons_succ, List.length_cons, List.length_nil, true_and, and_true]
  refine ⟨by decide, ?_⟩
  rw [q_X10_init_94]
  simp (disch := omega) only [q_X10_init_95, q_X10_init_96, y_is, y_gf, y_pf, y_f0, y_f1, y_f3, y_nI, y_nK, y_nZ, y_nL, y_nR, y_k1i, y_k1r, y_k1l, y_k1n, y_tl, y_tn, y_s, y_ss, List.getElem?_cons_zero, List.getElem?_cons_succ, List.set_cons_zero, List.set_cons_succ, List.length_cons, List.length_nil, true_and, and_true]
  refine br0 (by decide) ?_
  simp (disch := omega) only [q_X10_init_99, q_X10_init_100, q_X10_init_103, q_X10_init_107, q_X10_init_104, n9, hs_1, y_is, y_gf, y_pf, y_f0, y_f1, y_f3, y_nI, y_nK, y_nZ, y_nL, y_nR, y_k1i, y_k1r, y_k1l, y_k1n, y_tl, y_tn, y_s, y_ss, List.getElem?_cons_zero, List.getElem?_cons_succ, List.set_cons_zero, List.set_cons_succ, List.length_cons, List.length_nil, true_and, and_true]
  refine ⟨by decide, ⟨by decide, by decide⟩, ?_⟩
  generalize hg : hn (hs g9 _ _) _ = ea
  obtain ⟨ma, ua, va, wa⟩ := hh_f n9 (by decide) hg
  clear hg
  rw [q_X10_init_108 ⟨by decide, by decide⟩, ua, y_is]
  have kk : ∀ j, 1000 ≤ j → g9.2 j = g.2 j := fun j hj => by rw [f9 _ (by omega), f8 _ (by omega), f7 _ (by omega), f6 _ (by omega), f5 _ (by omega), f4 _ (by omega), f3 _ (by omega), f2 _ (by omega), f1 _ (by omega)]
  refine ⟨trivial, n_watch ua ma.symm (by omega) (by rw [wa _ (by decide) (by decide), kk _ (by decide)]; exact hK0) (fun ga tA na fa => ?_)⟩
  rw [ma] at na fa
  have s13 : ga.2 13 = aR (.object "WatchSleep$Watch") 2 (fun _ => none) := by rw [fa _ (by decide), wa _ (by decide) (by decide), f9 _ (by decide), f8 _ (by decide), f7 _ (by decide), f6 _ (by decide), f5 _ (by decide), f4 _ (by decide), f3 _ (by decide)]; exact t13
  have sa : ga.2 0 = ob 8 [.ref 1, .ref 13, .ref 14, .ref 15, .ref 29, .ref 34, .ref 36, .ref 43, .ref 48] := (fa _ (by decide)).trans va
  obtain ⟨vA, AA, tA, -⟩ := tA
  simp (disch := omega) only [q_X10_init_111, s13, tA.1, y_wR, c0, c1, y_is, y_gf, y_pf, y_f0, y_f1, y_f3, y_nI, y_nK, y_nZ, y_nL, y_nR, y_k1i, y_k1r, y_k1l, y_k1n, y_tl, y_tn, y_s, y_ss, List.getElem?_cons_zero, List.getElem?_cons_succ, List.set_cons_zero, List.set_cons_succ, List.length_cons, List.length_nil, true_and, and_true]
  refine ⟨by unfold vp_in; decide, ?_⟩
  simp (disch := omega) only [q_X10_init_112, q_X10_init_115, i1, i2, y_is, y_gf, y_pf, y_f0, y_f1, y_f3, y_nI, y_nK, y_nZ, y_nL, y_nR, y_k1i, y_k1r, y_k1l, y_k1n, y_tl, y_tn, y_s, y_ss, List.getElem?_cons_zero, List.getElem?_cons_succ, List.set_cons_zero, List.set_cons_succ, List.length_cons, List.length_nil, true_and, and_true]
  rw [q_X10_init_94]
  simp (disch := omega) only [q_X10_init_95, q_X10_init_96, y_is, y_gf, y_pf, y_f0, y_f1, y_f3, y_nI, y_nK, y_nZ, y_nL, y_nR, y_k1i, y_k1r, y_k1l, y_k1n, y_tl, y_tn, y_s, y_ss, List.getElem?_cons_zero, List.getElem?_cons_succ, List.set_cons_zero, List.set_cons_succ, List.length_cons, List.length_nil, true_and, and_true]
  refine br0 (by decide) ?_
  have sb : (hs ga 13 (aR (.object "WatchSleep$Watch") 2 (va_up (fun _ => none) 0 (some 49)))).2 0 = ob 8 [.ref 1, .ref 13, .ref 14, .ref 15, .ref 29, .ref 34, .ref 36, .ref 43, .ref 48] := (y_ne (by decide)).trans sa
  simp (disch := omega) only [q_X10_init_99, q_X10_init_100, q_X10_init_103, q_X10_init_107, q_X10_init_104, na, hs_1, sb, y_is, y_gf, y_pf, y_f0, y_f1, y_f3, y_nI, y_nK, y_nZ, y_nL, y_nR, y_k1i, y_k1r, y_k1l, y_k1n, y_tl, y_tn, y_s, y_ss, List.getElem?_cons_zero, List.getElem?_cons_succ, List.set_cons_zero, List.set_cons_succ, List.length_cons, List.length_nil, true_and, and_true]
  refine ⟨by decide, ⟨by decide, by decide⟩, ?_⟩
  generalize hg : hn (hs ga _ _) _ = eb
  obtain ⟨mb, ub, vb, wb⟩ := hh_f na (by decide) hg
  clear hg
  rw [q_X10_init_108 ⟨by decide, by decide⟩, ub, y_is]
  refine ⟨trivial, n_watch ub mb.symm (by omega) (by rw [wb _ (by decide) (by decide), fa _ (by decide), wa _ (by decide) (by decide), kk _ (by decide)]; exact hK0) (fun gb tZ nb fb => ?_)⟩
  rw [mb] at nb fb
  have s13 := (fb 13 (by decide)).trans vb
  obtain ⟨vZ, AZ, tZ, -⟩ := tZ
  simp (disch := omega) only [q_X10_init_111, s13, tZ.1, y_wR, c0, c1, y_is, y_gf, y_pf, y_f0, y_f1, y_f3, y_nI, y_nK, y_nZ, y_nL, y_nR, y_k1i, y_k1r, y_k1l, y_k1n, y_tl, y_tn, y_s, y_ss, List.getElem?_cons_zero, List.getElem?_cons_succ, List.set_cons_zero, List.set_cons_succ, List.length_cons, List.length_nil, true_and, and_true]
  refine ⟨by unfold vp_in; decide, ?_⟩
  simp (disch := omega) only [q_X10_init_112, q_X10_init_115, i1, i2, y_is, y_gf, y_pf, y_f0, y_f1, y_f3, y_nI, y_nK, y_nZ, y_nL, y_nR, y_k1i, y_k1r, y_k1l, y_k1n, y_tl, y_tn, y_s, y_ss, List.getElem?_cons_zero, List.getElem?_cons_succ, List.set_cons_zero, List.set_cons_succ, List.length_cons, List.length_nil, true_and, and_true]
  rw [q_X10_init_94]
  simp (disch := omega) only [q_X10_init_95, q_X10_init_96, y_is, y_gf, y_pf, y_f0, y_f1, y_f3, y_nI, y_nK, y_nZ, y_nL, y_nR, y_k1i, y_k1r, y_k1l, y_k1n, y_tl, y_tn, y_s, y_ss, List.getElem?_cons_zero, List.getElem?_cons_succ, List.set_cons_zero, List.set_cons_succ, List.length_cons, List.length_nil, true_and, and_true]
  refine br1 (by decide) ?_
  simp only [q_X10_init_118, y_is, y_gf, y_pf, y_f0, y_f1, y_f3, y_nI, y_nK, y_nZ, y_nL, y_nR, y_k1i, y_k1r, y_k1l, y_k1n, y_tl, y_tn, y_s, y_ss, List.getElem?_cons_zero, List.getElem?_cons_succ, List.set_cons_zero, List.set_cons_succ, List.length_cons, List.length_nil, true_and, and_true]
  generalize hg : hs gb 13 _ = gz
  have z1 : gz.1 = gb.1 := by rw [← hg]; rfl
  have z13 : gz.2 13 = aR (.object "WatchSleep$Watch") 2 (va_up (va_up (fun _ => none) 0 (some 49)) 1 (some 61)) := by rw [← hg]; exact y_s
  have z3 : ∀ j, j ≠ 13 → gz.2 j = gb.2 j := fun j hj => by rw [← hg]; exact y_ne hj
  clear hg
  have pz : ∀ j, j ≠ 13 → (j < 61 ∨ 1000 ≤ j) → gz.2 j = ga.2 j := fun j h1 h2 => by rw [z3 _ h1, fb _ (by omega), wb _ h1 (by omega)]
  have p9 : ∀ j, j ≠ 13 → ((1 ≤ j ∧ j < 49) ∨ 1000 ≤ j) → gz.2 j = g9.2 j := fun j h1 h2 => by rw [pz _ h1 (by omega), fa _ (by omega), wa _ (by omega) (by omega)]
  have p8 : ∀ j, j ≠ 13 → ((1 ≤ j ∧ j < 48) ∨ 1000 ≤ j) → gz.2 j = g8.2 j := fun j h1 h2 => (p9 _ h1 (by omega)).trans (f9 _ (by omega))
  have p7 : ∀ j, j ≠ 13 → ((1 ≤ j ∧ j < 43) ∨ 1000 ≤ j) → gz.2 j = g7.2 j := fun j h1 h2 => (p8 _ h1 (by omega)).trans (f8 _ (by omega))
  have p6 : ∀ j, j ≠ 13 → ((1 ≤ j ∧ j < 36) ∨ 1000 ≤ j) → gz.2 j = g6.2 j := fun j h1 h2 => (p7 _ h1 (by omega)).trans (f7 _ (by omega))
  have p5 : ∀ j, j ≠ 13 → ((1 ≤ j ∧ j < 34) ∨ 1000 ≤ j) → gz.2 j = g5.2 j := fun j h1 h2 => (p6 _ h1 (by omega)).trans (f6 _ (by omega))
  have p4 : ∀ j, j ≠ 13 → ((1 ≤ j ∧ j < 29) ∨ 1000 ≤ j) → gz.2 j = g4.2 j := fun j h1 h2 => (p5 _ h1 (by omega)).trans (f5 _ (by omega))
  have p3 : ∀ j, j ≠ 13 → ((1 ≤ j ∧ j < 15) ∨ 1000 ≤ j) → gz.2 j = g3.2 j := fun j h1 h2 => (p4 _ h1 (by omega)).trans (f4 _ (by omega))
  have p2 : ∀ j, j ≠ 13 → ((1 ≤ j ∧ j < 14) ∨ 1000 ≤ j) → gz.2 j = g2.2 j := fun j h1 h2 => (p3 _ h1 (by omega)).trans (f3 _ (by omega))
  have p1 : ∀ j, j ≠ 13 → ((1 ≤ j ∧ j < 13) ∨ 1000 ≤ j) → gz.2 j = g1.2 j := fun j h1 h2 => (p2 _ h1 (by omega)).trans (f2 _ (by omega))
  have pk : ∀ j, 1000 ≤ j → gz.2 j = g.2 j := fun j hj => by rw [p1 _ (by omega) (by omega), f1 _ hj]
  refine hQ gz ⟨⟨?_, ⟨_, z13, ?_, ?_⟩, ?_⟩, ?_, ⟨⟨fun _ => 0, ?_, fun i hi => rfl⟩, ?_⟩, ?_, ?_, ?_, ?_, ?_, ?_, ?_⟩ (by rw [z1, nb]) pk
  · rw [pz _ (by decide) (by decide)]; exact sa
  · decide
  · decide
  · rw [p5 _ (by decide) (by decide)]; exact t29
  · obtain ⟨m, x1, x2⟩ := nw_two (g := g1) (g' := gz) (lo := 1) (hi := 13) (fun j hj => p1 _ (by omega) (by omega))
    exact ((show wat (gz.1, g1.2) 1 W0 from tW).frm x1 (by omega)).frm x2 (by omega)
  · rw [p3 _ (by decide) (by decide)]; exact t14
  · intro i hi
    refine (show i = 0 ∨ i = 1 by omega).elim (fun h => ?_) (fun h => ?_)
    · subst h
      exact ⟨vA, AA, tA.kept (fun k h1 h2 => pz _ (by omega) (by omega)), fun X hX => nomatch hX⟩
    · subst h
      exact ⟨vZ, AZ, tZ.kept (fun k h1 h2 => z3 _ (by omega)), fun X hX => nomatch hX⟩
  · obtain ⟨m, x1, x2⟩ := nw_two (g := g4) (g' := gz) (lo := 15) (hi := 29) (fun j hj => p4 _ (by omega) (by omega))
    exact ((show pT (gz.1, g4.2) _ _ from tT).frm x1 (by omega)).frm x2 (by omega)
  · obtain ⟨m, x1, x2⟩ := nw_two (g := g5) (g' := gz) (lo := 30) (hi := 34) (fun j hj => p5 _ (by omega) (by omega))
    exact ((show pU (gz.1, g5.2) from tU).frm x1 (by omega)).frm x2 (by omega)
  · obtain ⟨m, x1, x2⟩ := nw_two (g := g6) (g' := gz) (lo := 34) (hi := 36) (fun j hj => p6 _ (by omega) (by omega))
    exact ((show pB (gz.1, g6.2) from tB).frm x1 (by omega)).frm x2 (by omega)
  · obtain ⟨m, x1, x2⟩ := nw_two (g := g7) (g' := gz) (lo := 36) (hi := 43) (fun j hj => p7 _ (by omega) (by omega))
    exact ((show pH (gz.1, g7.2) from ⟨_, _, _, tH⟩).frm x1 (by omega)).frm x2 (by omega)
  · obtain ⟨m, x1, x2⟩ := nw_two (g := g8) (g' := gz) (lo := 43) (hi := 48) (fun j hj => p8 _ (by omega) (by omega))
    exact ((show ft (gz.1, g8.2) 43 0 1 from tF).frm x1 (by omega)).frm x2 (by omega)
  · rw [p9 _ (by decide) (by decide)]; exact t48
  · exact (show kc (gz.1, g.2) from hK).frm (lo := 0) (hi := 1000) ⟨rfl, fun j hj => pk _ (by omega)⟩ (by omega)
end MADE
