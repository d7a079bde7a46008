/-! ===== made at the start: Thieves, Fraction, text, Captain ===== -/
theorem hn_f {g g' : mzG} {c : mzC} {n : Nat} (h : g.1 = n) (e : hn g c = g') : g'.1 = n + 1 ∧ g'.2 n = c ∧ ∀ j, j ≠ n → g'.2 j = g.2 j := by
  subst h
  subst e
  exact ⟨rfl, hn_s rfl, fun j hj => hn_n hj⟩
/-- a field of k written, then a new cell -/
theorem hh_f {g g' : mzG} {c N : mzC} {k n : Nat} (h : g.1 = n) (hk : k ≠ n) (e : hn (hs g k c) N = g') : g'.1 = n + 1 ∧ g'.2 n = N ∧ g'.2 k = c ∧ ∀ j, j ≠ k → j ≠ n → g'.2 j = g.2 j := by
  obtain ⟨a, b, d⟩ := hn_f (hs_1.trans h) e
  exact ⟨a, b, (d k hk).trans y_s, fun j h1 h2 => (d j h2).trans (y_ne h1)⟩
section NEW3
variable {b : mzB} {g : mzG} {Q : mzQ}
theorem n_ft (h0 : g.2 43 = ob 2 [.null, .null]) (hw : g.1 = 44) (hQ : ∀ g', ft g' 43 0 1 → nw g g' 43 48 → Q none g') : wp 17 (4, 36) 0 [.ref 43] [] g Q := by
  simp (disch := omega) only [q_X2_init_0, q_X2_init_4, q_X2_init_8, q_X2_init_1, q_X2_init_5, hw, y_is, y_gf, y_pf, y_f0, y_f1, y_f3, y_nI, y_nK, y_nZ, y_nL, y_nR, y_k1i, y_k1r, y_k1l, y_k1n, y_tl, y_tn, y_s, y_ss, List.getElem?_cons_zero, List.getElem?_cons_succ, List.set_cons_zero, List.set_cons_succ, List.length_cons, List.length_nil, true_and, and_true]
  refine ⟨by decide, by decide, ⟨by decide, by decide⟩, ?_⟩
  generalize hg : hn g _ = gA
  obtain ⟨a1, a2, a3⟩ := hn_f hw hg
  clear hg
  rw [q_X2_init_9 ⟨by decide, by decide⟩, a2, y_is]
  refine ⟨trivial, n_nat a2 a1.symm (by omega) (fun g1 b1 b2 b3 => ?_)⟩
  rw [a1] at b2
  have e0 : g1.2 43 = ob 2 [.null, .null] := (b3 _ (by decide) (by decide)).trans ((a3 _ (by decide)).trans h0)
  simp (disch := omega) only [q_X2_init_12, q_X2_init_15, q_X2_init_19, q_X2_init_16, e0, b2, hs_1, y_is, y_gf, y_pf, y_f0, y_f1, y_f3, y_nI, y_nK, y_nZ, y_nL, y_nR, y_k1i, y_k1r, y_k1l, y_k1n, y_tl, y_tn, y_s, y_ss, List.getElem?_cons_zero, List.getElem?_cons_succ, List.set_cons_zero, List.set_cons_succ, List.length_cons, List.length_nil, true_and, and_true]
  refine ⟨by decide, by decide, ⟨by decide, by decide⟩, ?_⟩
  generalize hg : hn (hs g1 _ _) _ = gB
  obtain ⟨c1, c2, c0, c3⟩ := hh_f b2 (by decide) hg
  clear hg
  rw [q_X2_init_20 ⟨by decide, by decide⟩, c2, y_is]
  refine ⟨trivial, n_nat c2 c1.symm (by omega) (fun g2 d1 d2 d3 => ?_)⟩
  rw [c1] at d2
  have e1 : g2.2 43 = ob 2 [.ref 44, .null] := (d3 _ (by decide) (by decide)).trans c0
  have nB : nv (hs g2 43 (ob 2 [.ref 44, .ref 46])) 46 0 := d1.kept (y_ne (by decide)) (y_ne (by decide))
  have nA : nv (hs g2 43 (ob 2 [.ref 44, .ref 46])) 44 0 := b1.kept (by rw [y_ne (by decide), d3 _ (by decide) (by decide), c3 _ (by decide) (by decide)]) (by rw [y_ne (by decide), d3 _ (by decide) (by decide), c3 _ (by decide) (by decide)])
  simp (disch := omega) only [q_X2_init_23, q_X2_init_26, q_X2_init_27, q_X2_init_30, q_X2_init_31, e1, y_is, y_gf, y_pf, y_f0, y_f1, y_f3, y_nI, y_nK, y_nZ, y_nL, y_nR, y_k1i, y_k1r, y_k1l, y_k1n, y_tl, y_tn, y_s, y_ss, List.getElem?_cons_zero, List.getElem?_cons_succ, List.set_cons_zero, List.set_cons_succ, List.length_cons, List.length_nil, true_and, and_true, litL, nB.is]
  refine ⟨by decide, s_set nB (by decide) (fun g3 x1 x2 => ?_)⟩
  simp only [q_X2_init_34, y_is, y_gf, y_pf, y_f0, y_f1, y_f3, y_nI, y_nK, y_nZ, y_nL, y_nR, y_k1i, y_k1r, y_k1l, y_k1n, y_tl, y_tn, y_s, y_ss, List.getElem?_cons_zero, List.getElem?_cons_succ, List.set_cons_zero, List.set_cons_succ, List.length_cons, List.length_nil, true_and, and_true]
  refine hQ g3 ⟨?_, nA.fr x2 (by omega), x1⟩ ⟨?_, fun j hj => ?_⟩
  · rw [x2.2 _ (by omega), y_s]
  · rw [x2.1, hs_1, d2]
  · rw [x2.2 _ (by omega), y_ne (by omega), d3 _ (by omega) (by omega), c3 _ (by omega) (by omega), b3 _ (by omega) (by omega), a3 _ (by omega)]
theorem n_th (h0 : g.2 36 = ob 5 [.null, .null, .null]) (hw : g.1 = 37) (hQ : ∀ g', th g' 36 0 0 0 → nw g g' 36 43 → Q none g') : wp 60 (6, 54) 0 [.ref 36] [] g Q := by
  simp (disch := omega) only [q_X7_init_0, q_X7_init_4, q_X7_init_8, q_X7_init_1, q_X7_init_5, hw, y_is, y_gf, y_pf, y_f0, y_f1, y_f3, y_nI, y_nK, y_nZ, y_nL, y_nR, y_k1i, y_k1r, y_k1l, y_k1n, y_tl, y_tn, y_s, y_ss, List.getElem?_cons_zero, List.getElem?_cons_succ, List.set_cons_zero, List.set_cons_succ, List.length_cons, List.length_nil, true_and, and_true]
  refine ⟨by decide, by decide, ⟨by decide, by decide⟩, ?_⟩
  generalize hg : hn g _ = gA
  obtain ⟨a1, a2, a3⟩ := hn_f hw hg
  clear hg
  rw [q_X7_init_9 ⟨by decide, by decide⟩, a2, y_is]
  refine ⟨trivial, n_nat a2 a1.symm (by omega) (fun g1 b1 b2 b3 => ?_)⟩
  rw [a1] at b2
  have e0 : g1.2 36 = ob 5 [.null, .null, .null] := (b3 _ (by decide) (by decide)).trans ((a3 _ (by decide)).trans h0)
  simp (disch := omega) only [q_X7_init_12, q_X7_init_15, q_X7_init_19, q_X7_init_16, e0, b2, hs_1, y_is, y_gf, y_pf, y_f0, y_f1, y_f3, y_nI, y_nK, y_nZ, y_nL, y_nR, y_k1i, y_k1r, y_k1l, y_k1n, y_tl, y_tn, y_s, y_ss, List.getElem?_cons_zero, List.getElem?_cons_succ, List.set_cons_zero, List.set_cons_succ, List.length_cons, List.length_nil, true_and, and_true]
  refine ⟨by decide, by decide, ⟨by decide, by decide⟩, ?_⟩
  generalize hg : hn (hs g1 _ _) _ = gB
  obtain ⟨c1, c2, c0, c3⟩ := hh_f b2 (by decide) hg
  clear hg
  rw [q_X7_init_20 ⟨by decide, by decide⟩, c2, y_is]
  refine ⟨trivial, n_nat c2 c1.symm (by omega) (fun g2 d1 d2 d3 => ?_)⟩
  rw [c1] at d2
  have e1 : g2.2 36 = ob 5 [.ref 37, .null, .null] := (d3 _ (by decide) (by decide)).trans c0
  simp (disch := omega) only [q_X7_init_23, q_X7_init_26, q_X7_init_30, q_X7_init_27, e1, d2, hs_1, y_is, y_gf, y_pf, y_f0, y_f1, y_f3, y_nI, y_nK, y_nZ, y_nL, y_nR, y_k1i, y_k1r, y_k1l, y_k1n, y_tl, y_tn, y_s, y_ss, List.getElem?_cons_zero, List.getElem?_cons_succ, List.set_cons_zero, List.set_cons_succ, List.length_cons, List.length_nil, true_and, and_true]
  refine ⟨by decide, by decide, ⟨by decide, by decide⟩, ?_⟩
  generalize hg : hn (hs g2 _ _) _ = gC
  obtain ⟨i1, i2, i0, i3⟩ := hh_f d2 (by decide) hg
  clear hg
  rw [q_X7_init_31 ⟨by decide, by decide⟩, i2, y_is]
  refine ⟨trivial, n_nat i2 i1.symm (by omega) (fun g3 k1 k2 k3 => ?_)⟩
  rw [i1] at k2
  have e2 : g3.2 36 = ob 5 [.ref 37, .ref 39, .null] := (k3 _ (by decide) (by decide)).trans i0
  simp (disch := omega) only [q_X7_init_34, q_X7_init_37, e2, hs_1, y_is, y_gf, y_pf, y_f0, y_f1, y_f3, y_nI, y_nK, y_nZ, y_nL, y_nR, y_k1i, y_k1r, y_k1l, y_k1n, y_tl, y_tn, y_s, y_ss, List.getElem?_cons_zero, List.getElem?_cons_succ, List.set_cons_zero, List.set_cons_succ, List.length_cons, List.length_nil, true_and, and_true]
  refine ⟨by decide, hQ _ ⟨y_s, ?_, ?_, ?_⟩ ⟨?_, fun j hj => ?_⟩⟩
  · exact b1.kept (by rw [y_ne (by decide), k3 _ (by decide) (by decide), i3 _ (by decide) (by decide), d3 _ (by decide) (by decide), c3 _ (by decide) (by decide)]) (by rw [y_ne (by decide), k3 _ (by decide) (by decide), i3 _ (by decide) (by decide), d3 _ (by decide) (by decide), c3 _ (by decide) (by decide)])
  · exact d1.kept (by rw [y_ne (by decide), k3 _ (by decide) (by decide), i3 _ (by decide) (by decide)]) (by rw [y_ne (by decide), k3 _ (by decide) (by decide), i3 _ (by decide) (by decide)])
  · exact k1.kept (by rw [y_ne (by decide)]) (by rw [y_ne (by decide)])
  · rw [hs_1, k2]
  · rw [y_ne (by omega), k3 _ (by omega) (by omega), i3 _ (by omega) (by omega), d3 _ (by omega) (by omega), c3 _ (by omega) (by omega), b3 _ (by omega) (by omega), a3 _ (by omega)]
theorem n_tx (h0 : g.2 15 = ob 6 [.null, .int 0, .null, .int 0, .int 0, .int 0, .int 0]) (hw : g.1 = 16) (hK : g.2 1000 = aK 5 kz_at) (hQ : ∀ g', pT g' (fun _ => 0) 0 → nw g g' 15 29 → Q none g') : wp 65 (13, 352) 0 [.ref 15] [] g Q := by
  have c200 : Int32.toNatClampNeg 200 = 200 := by decide
  simp (disch := omega) only [q_X8_init_0, q_X8_init_4, q_X8_init_8, q_X8_init_1, q_X8_init_5, hw, y_is, y_gf, y_pf, y_f0, y_f1, y_f3, y_nI, y_nK, y_nZ, y_nL, y_nR, y_k1i, y_k1r, y_k1l, y_k1n, y_tl, y_tn, y_s, y_ss, List.getElem?_cons_zero, List.getElem?_cons_succ, List.set_cons_zero, List.set_cons_succ, List.length_cons, List.length_nil, true_and, and_true]
  refine ⟨by decide, by decide, ⟨by decide, by decide⟩, ?_⟩
  generalize hg : hn g _ = gA
  obtain ⟨a1, a2, a3⟩ := hn_f hw hg
  clear hg
  rw [q_X8_init_9 ⟨by decide, by decide⟩, a2, y_is]
  refine ⟨trivial, n_watch a2 a1.symm (by omega) ((a3 _ (by decide)).trans hK) (fun g1 b1 b2 b3 => ?_)⟩
  rw [a1] at b2 b3
  have e0 : g1.2 15 = ob 6 [.null, .int 0, .null, .int 0, .int 0, .int 0, .int 0] := (b3 _ (by decide)).trans ((a3 _ (by decide)).trans h0)
  simp (disch := omega) only [q_X8_init_12, q_X8_init_15, q_X8_init_16, q_X8_init_19, e0, b2, hs_1, c200, y_is, y_gf, y_pf, y_f0, y_f1, y_f3, y_nI, y_nK, y_nZ, y_nL, y_nR, y_k1i, y_k1r, y_k1l, y_k1n, y_tl, y_tn, y_s, y_ss, List.getElem?_cons_zero, List.getElem?_cons_succ, List.set_cons_zero, List.set_cons_succ, List.length_cons, List.length_nil, true_and, and_true]
  refine ⟨by decide, ⟨by decide, by decide, by decide⟩, ⟨by decide, by decide⟩, ?_⟩
  generalize hg : hn (hs g1 _ _) _ = gB
  obtain ⟨c1, c2, c0, c3⟩ := hh_f b2 (by decide) hg
  clear hg
  simp (disch := omega) only [q_X8_init_21, q_X8_init_24, c0, hs_1, y_is, y_gf, y_pf, y_f0, y_f1, y_f3, y_nI, y_nK, y_nZ, y_nL, y_nR, y_k1i, y_k1r, y_k1l, y_k1n, y_tl, y_tn, y_s, y_ss, List.getElem?_cons_zero, List.getElem?_cons_succ, List.set_cons_zero, List.set_cons_succ, List.length_cons, List.length_nil, true_and, and_true]
  obtain ⟨v, A, b1, -⟩ := b1
  refine ⟨by decide, hQ _ ⟨⟨0, 0, 0, 0, y_s, ⟨fun _ => 0, (y_ne (by decide)).trans c2, fun i hi => by omega⟩, by decide⟩, v, A, b1.kept (fun k h1 h2 => by rw [y_ne (by omega), c3 _ (by omega) (by omega)])⟩ ⟨?_, fun j hj => ?_⟩⟩
  · rw [hs_1, c1]
  · rw [y_ne (by omega), c3 _ (by omega) (by omega), b3 _ (by omega), a3 _ (by omega)]
theorem n_cap (h0 : g.2 29 = ob 1 [.null]) (hw : g.1 = 30) (hQ : ∀ g', g'.2 29 = ob 1 [.ref 30] → pU g' → nw g g' 29 34 → Q none g') : wp 8 (4, 129) 0 [.ref 29] [] g Q := by
  simp (disch := omega) only [q_X1_init_0, q_X1_init_4, q_X1_init_8, q_X1_init_1, q_X1_init_5, hw, y_is, y_gf, y_pf, y_f0, y_f1, y_f3, y_nI, y_nK, y_nZ, y_nL, y_nR, y_k1i, y_k1r, y_k1l, y_k1n, y_tl, y_tn, y_s, y_ss, List.getElem?_cons_zero, List.getElem?_cons_succ, List.set_cons_zero, List.set_cons_succ, List.length_cons, List.length_nil, true_and, and_true]
  refine ⟨by decide, by decide, ⟨by decide, by decide⟩, ?_⟩
  generalize hg : hn g _ = gA
  obtain ⟨a1, a2, a3⟩ := hn_f hw hg
  clear hg
  rw [q_X1_init_9 ⟨by decide, by decide⟩, a2, y_is]
  refine ⟨trivial, n_rule a2 a1 (fun g1 b1 b2 => ?_)⟩
  have e0 : g1.2 29 = ob 1 [.null] := (b2.2 _ (by decide)).trans ((a3 _ (by decide)).trans h0)
  simp (disch := omega) only [q_X1_init_12, q_X1_init_15, e0, hs_1, y_is, y_gf, y_pf, y_f0, y_f1, y_f3, y_nI, y_nK, y_nZ, y_nL, y_nR, y_k1i, y_k1r, y_k1l, y_k1n, y_tl, y_tn, y_s, y_ss, List.getElem?_cons_zero, List.getElem?_cons_succ, List.set_cons_zero, List.set_cons_succ, List.length_cons, List.length_nil, true_and, and_true]
  refine ⟨by decide, hQ _ y_s ⟨_, _, _, _, _, _, b1.frm (lo := 29) (hi := 30) ⟨rfl, fun j hj => y_ne (by omega)⟩ (by omega)⟩ ⟨b2.1, fun j hj => ?_⟩⟩
  rw [y_ne (by omega), b2.2 _ (by omega), a3 _ (by omega)]
end NEW3
