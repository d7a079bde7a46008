/-! ===== Watch ===== -/
/-- a Watch at w: its numbers v (n, kind, start, step, seed, sights, hours, signs), its rows A (0 to 4 of POSTS, 5 to 7 of SIGHTS, 8 the NIGHT, 9 THE RULE) -/
def wt (g : mzG) (w : Nat) (v : Nat → Int32) (A : Nat → Nat → Int32) : Prop :=
  g.2 w = ob 7 [.int (v 0), .ref (w + 1), .int (v 1), .int (v 2), .int (v 3), .int (v 4), .ref (w + 7), .ref (w + 8), .ref (w + 9), .int (v 5), .ref (w + 10), .int (v 6), .ref (w + 11), .int (v 7)] ∧ g.2 (w + 1) = aR (.array .int) 5 (fun i => if i < 5 then some (w + 1 + 1 + i) else none) ∧ (∀ i, i < 5 → g.2 (w + 1 + 1 + i) = aI 9 (A i)) ∧ g.2 (w + 7) = aI 12 (A 5) ∧ g.2 (w + 8) = aI 12 (A 6) ∧ g.2 (w + 9) = aI 12 (A 7) ∧ g.2 (w + 10) = aI 12 (A 8) ∧ g.2 (w + 11) = aI 40 (A 9)
theorem wt.kept {g g' : mzG} {w : Nat} {v : Nat → Int32} {A : Nat → Nat → Int32} (h : wt g w v A) (hk : ∀ k, w ≤ k → k < w + 12 → g'.2 k = g.2 k) : wt g' w v A := by
  obtain ⟨h0, h1, h2, h5, h6, h7, h8, h9⟩ := h
  refine ⟨?_, ?_, fun i hi => ?_, ?_, ?_, ?_, ?_, ?_⟩
  · rw [hk w (by omega) (by omega)]; exact h0
  · rw [hk _ (by omega) (by omega)]; exact h1
  · rw [hk _ (by omega) (by omega)]; exact h2 i hi
  all_goals (rw [hk _ (by omega) (by omega)]; assumption)
/-- a row of POSTS -/
theorem y_row {w i : Nat} {KN : Nat → Prop} (h : i < 5) : mz_lR (aR (.array .int) 5 (fun i => if i < 5 then some (w + 1 + 1 + i) else none)) (nI i) KN = KN (w + 1 + 1 + i) := by
  rw [y_lRn h (by decide), if_pos h]
section WATCH
variable {b : mzB} {g : mzG} {Q : mzQ} {w : Nat} {v : Nat → Int32} {A : Nat → Nat → Int32}
theorem s_whole_loop {n : Nat} (hW : wt g w v A) (hv : v 0 = nI n) (hn : n ≤ 9) (hQ : Q (some (.int (l_sum (A 1) n))) g) : ∀ d i, i + d = n → wp 82 b 4 [.ref w, .int (l_sum (A 1) i), .int (nI i)] [] g Q := by
  obtain ⟨h0, h1, h2, -⟩ := hW
  intro d
  induction d with
  | zero =>
    intro i hi
    rw [q_X9_whole_4]
    simp (disch := omega) only [q_X9_whole_5, q_X9_whole_6, q_X9_whole_9, q_X9_whole_29, q_X9_whole_30, h0, y_is, y_gf, y_pf, y_f0, y_f1, y_f3, y_nI, y_nK, y_nZ, y_nL, y_nR, y_k1i, y_k1r, y_k1l, y_k1n, y_tl, y_tn, y_s, y_ss, List.getElem?_cons_zero, List.getElem?_cons_succ, List.set_cons_zero, List.set_cons_succ, List.length_cons, List.length_nil, true_and, and_true, hv, le_n]
    exact br1 (by omega) (by rw [show i = n by omega]; exact hQ)
  | succ d ih =>
    intro i hi
    rw [q_X9_whole_4]
    simp (disch := omega) only [q_X9_whole_5, q_X9_whole_6, q_X9_whole_9, q_X9_whole_12, q_X9_whole_13, q_X9_whole_14, q_X9_whole_17, q_X9_whole_18, q_X9_whole_19, q_X9_whole_20, q_X9_whole_21, q_X9_whole_22, q_X9_whole_23, q_X9_whole_26, h0, h1, y_is, y_gf, y_pf, y_f0, y_f1, y_f3, y_nI, y_nK, y_nZ, y_nL, y_nR, y_k1i, y_k1r, y_k1l, y_k1n, y_tl, y_tn, y_s, y_ss, List.getElem?_cons_zero, List.getElem?_cons_succ, List.set_cons_zero, List.set_cons_succ, List.length_cons, List.length_nil, true_and, and_true, hv, y_lIn, y_lKn, y_lZn, y_lLn, y_wIn, y_wZn, y_wLn, lit, le_n, lt_n, eq_n, y_row, h2]
    refine br0 (by omega) ?_
    have := ih (i + 1) (by omega)
    rw [nI_succ] at this
    exact this
theorem s_whole {n : Nat} (hW : wt g w v A) (hv : v 0 = nI n) (hn : n ≤ 9) (hQ : Q (some (.int (l_sum (A 1) n))) g) : wp 82 b 0 [.ref w, .null, .null] [] g Q := by
  simp only [q_X9_whole_0, q_X9_whole_1, q_X9_whole_2, q_X9_whole_3, y_is, y_gf, y_pf, y_f0, y_f1, y_f3, y_nI, y_nK, y_nZ, y_nL, y_nR, y_k1i, y_k1r, y_k1l, y_k1n, y_tl, y_tn, y_s, y_ss, List.getElem?_cons_zero, List.getElem?_cons_succ, List.set_cons_zero, List.set_cons_succ, List.length_cons, List.length_nil, true_and, and_true]
  exact s_whole_loop hW hv hn hQ n 0 (by omega)
theorem s_weight {p : Nat} (hW : wt g w v A) (hp : p < 9) (hQ : Q (some (.int (A 1 p * A 0 p))) g) : wp 83 b 0 [.ref w, .int (nI p)] [] g Q := by
  obtain ⟨h0, h1, h2, -⟩ := hW
  simp (disch := omega) only [q_X9_weight_0, q_X9_weight_1, q_X9_weight_4, q_X9_weight_5, q_X9_weight_6, q_X9_weight_7, q_X9_weight_8, q_X9_weight_9, q_X9_weight_12, q_X9_weight_13, q_X9_weight_14, q_X9_weight_15, q_X9_weight_16, q_X9_weight_17, h0, h1, y_is, y_gf, y_pf, y_f0, y_f1, y_f3, y_nI, y_nK, y_nZ, y_nL, y_nR, y_k1i, y_k1r, y_k1l, y_k1n, y_tl, y_tn, y_s, y_ss, List.getElem?_cons_zero, List.getElem?_cons_succ, List.set_cons_zero, List.set_cons_succ, List.length_cons, List.length_nil, true_and, and_true, y_lIn, y_lKn, y_lZn, y_lLn, y_wIn, y_wZn, y_wLn, lit, le_n, lt_n, eq_n, y_row, h2]
  exact hQ
end WATCH
