/-! ===== made at the start: the helpers ===== -/
section NEW2
variable {b : mzB} {g : mzG} {Q : mzQ}
theorem n_rule (h0 : g.2 30 = ob 4 [.int 0, .int 0, .null, .int 0, .null, .int 0, .int 0, .int 0, .null]) (hw : g.1 = 31) (hQ : ∀ g', ru g' (-1) 0 0 [] [] 0 → nw g g' 30 34 → Q none g') : wp 39 (3, 120) 0 [.ref 30] [] g Q := by
  obtain ⟨n, f⟩ := g
  simp only at hw
  subst hw
  have c40 : Int32.toNatClampNeg 40 = 40 := by decide
  have h0 : f 30 = _ := h0
  simp (disch := omega) only [q_X5_init_0, q_X5_init_4, q_X5_init_5, q_X5_init_6, q_X5_init_9, q_X5_init_10, q_X5_init_1, q_X5_init_12, h0, hs_1, hn_1, c40, y_is, y_gf, y_pf, y_f0, y_f1, y_f3, y_nI, y_nK, y_nZ, y_nL, y_nR, y_k1i, y_k1r, y_k1l, y_k1n, y_tl, y_tn, y_s, y_ss, List.getElem?_cons_zero, List.getElem?_cons_succ, List.set_cons_zero, List.set_cons_succ, List.length_cons, List.length_nil, true_and, and_true]
  refine ⟨by decide, by decide, ⟨by decide, by decide, by decide⟩, ⟨by decide, by decide⟩, ?_⟩
  simp (disch := first | omega | (simp only [hs_1, mr_1, hn_1]; omega)) only [q_X5_init_14, q_X5_init_17, q_X5_init_18, q_X5_init_20, hs_1, hn_1, hn_n, c40, y_is, y_gf, y_pf, y_f0, y_f1, y_f3, y_nI, y_nK, y_nZ, y_nL, y_nR, y_k1i, y_k1r, y_k1l, y_k1n, y_tl, y_tn, y_s, y_ss, List.getElem?_cons_zero, List.getElem?_cons_succ, List.set_cons_zero, List.set_cons_succ, List.length_cons, List.length_nil, true_and, and_true]
  refine ⟨by decide, ⟨by decide, by decide, by decide⟩, ⟨by decide, by decide⟩, ?_⟩
  simp (disch := first | omega | (simp only [hs_1, mr_1, hn_1]; omega)) only [q_X5_init_22, q_X5_init_25, q_X5_init_26, q_X5_init_28, hs_1, hn_1, hn_n, c40, y_is, y_gf, y_pf, y_f0, y_f1, y_f3, y_nI, y_nK, y_nZ, y_nL, y_nR, y_k1i, y_k1r, y_k1l, y_k1n, y_tl, y_tn, y_s, y_ss, List.getElem?_cons_zero, List.getElem?_cons_succ, List.set_cons_zero, List.set_cons_succ, List.length_cons, List.length_nil, true_and, and_true]
  refine ⟨by decide, ⟨by decide, by decide, by decide⟩, ⟨by decide, by decide⟩, ?_⟩
  simp (disch := first | omega | (simp only [hs_1, mr_1, hn_1]; omega)) only [q_X5_init_30, q_X5_init_33, hs_1, hn_1, hn_n, y_is, y_gf, y_pf, y_f0, y_f1, y_f3, y_nI, y_nK, y_nZ, y_nL, y_nR, y_k1i, y_k1r, y_k1l, y_k1n, y_tl, y_tn, y_s, y_ss, List.getElem?_cons_zero, List.getElem?_cons_succ, List.set_cons_zero, List.set_cons_succ, List.length_cons, List.length_nil, true_and, and_true]
  refine ⟨by decide, hQ _ ?_ ⟨rfl, fun j hj => ?_⟩⟩
  · refine ⟨y_s, ⟨fun _ => 0, ?_, by simp [sfI]⟩, ⟨fun _ => 0, ?_, by simp [sfI]⟩, fun _ => 0, ?_⟩
    · rw [y_ne (by decide), hn_n (by simp only [hs_1, hn_1]; omega), y_ne (by decide), hn_n (by simp only [hs_1, hn_1]; omega), y_ne (by decide), hn_s (by simp only [hs_1, hn_1])]
    · rw [y_ne (by decide), hn_n (by simp only [hs_1, hn_1]; omega), y_ne (by decide), hn_s (by simp only [hs_1, hn_1])]
    · rw [y_ne (by decide), hn_s (by simp only [hs_1, hn_1])]
  · rw [y_ne (by omega), hn_n (by simp only [hs_1, hn_1]; omega), y_ne (by omega), hn_n (by simp only [hs_1, hn_1]; omega), y_ne (by omega), hn_n (by simp only [hs_1, hn_1]; omega), y_ne (by omega)]
theorem n_bal (h0 : g.2 34 = ob 0 [.long 0, .long 0, .null, .int 0]) (hw : g.1 = 35) (hQ : ∀ g', pB g' → nw g g' 34 36 → Q none g') : wp 1 (1, 9) 0 [.ref 34] [] g Q := by
  obtain ⟨n, f⟩ := g
  simp only at hw
  subst hw
  have c9 : Int32.toNatClampNeg 9 = 9 := by decide
  have h0 : f 34 = _ := h0
  simp (disch := omega) only [q_X0_init_0, q_X0_init_4, q_X0_init_5, q_X0_init_6, q_X0_init_9, q_X0_init_10, q_X0_init_1, q_X0_init_12, h0, hs_1, hn_1, c9, y_is, y_gf, y_pf, y_f0, y_f1, y_f3, y_nI, y_nK, y_nZ, y_nL, y_nR, y_k1i, y_k1r, y_k1l, y_k1n, y_tl, y_tn, y_s, y_ss, List.getElem?_cons_zero, List.getElem?_cons_succ, List.set_cons_zero, List.set_cons_succ, List.length_cons, List.length_nil, true_and, and_true]
  refine ⟨by decide, by decide, ⟨by decide, by decide, by decide⟩, ⟨by decide, by decide⟩, ?_⟩
  simp (disch := first | omega | (simp only [hs_1, mr_1, hn_1]; omega)) only [q_X0_init_14, q_X0_init_17, hs_1, hn_1, hn_n, y_is, y_gf, y_pf, y_f0, y_f1, y_f3, y_nI, y_nK, y_nZ, y_nL, y_nR, y_k1i, y_k1r, y_k1l, y_k1n, y_tl, y_tn, y_s, y_ss, List.getElem?_cons_zero, List.getElem?_cons_succ, List.set_cons_zero, List.set_cons_succ, List.length_cons, List.length_nil, true_and, and_true]
  refine ⟨by decide, hQ _ ⟨0, 1, 0, fun _ => 0, y_s, ?_⟩ ⟨rfl, fun j hj => ?_⟩⟩
  · rw [y_ne (by decide), hn_s (by simp only [hs_1, hn_1])]
  · rw [y_ne (by omega), hn_n (by simp only [hs_1, hn_1]; omega), y_ne (by omega)]
end NEW2
