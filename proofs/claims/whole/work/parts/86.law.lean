/-! ===== the law: each call on both sides ===== -/
def LW (g : mzG) (S : sT) (n : Nat) (sc : Nat → Int32) : Prop := CR g S ∧ MR g S ∧ sv S ∧ g.2 1011 = aK n sc
theorem LW.go {g g1 g2 : mzG} {S S' : sT} {n : Nat} {sc : Nat → Int32} (h : LW g S n sc) (h1 : CR g1 S') (f1 : fr g g1 0 73) (h2 : MR g2 S') (f2 : fr g1 g2 73 86) (hs : sv S') : LW g2 S' n sc := ⟨h1.frm f2 (by omega) (by omega), h2, hs, by rw [f2.2 _ (by omega), f1.2 _ (by omega)]; exact h.2.2.2⟩
section LAW
variable {b : mzB} {Q : mzQ} {n : Nat} {sc : Nat → Int32}
theorem l_posts {g : mzG} {S : sT} {i : Nat} (h : LW g S n sc) (hi : i + 5 ≤ n) (hn : n ≤ 2560) (hQ : ∀ g' S', LW g' S' n sc → wp 0 b 1166 [.ref 1011, .ref 0, .ref 73, .int (nI i)] [] g' Q) : wp 0 b 200 [.ref 1011, .ref 0, .ref 73, .int (nI i)] [] g Q := by
  obtain ⟨x, r, hM, -⟩ := id h.2.1.mM
  simp (disch := omega) only [q_L_law_200, q_L_law_201, q_L_law_202, q_L_law_203, q_L_law_204, q_L_law_205, q_L_law_206, h.1.c0.1, h.2.2.2, y_is, y_gf, y_pf, y_f0, y_f1, y_f3, y_nI, y_nK, y_nZ, y_nL, y_nR, y_k1i, y_k1r, y_k1l, y_k1n, y_tl, y_tn, y_s, y_ss, List.getElem?_cons_zero, List.getElem?_cons_succ, List.set_cons_zero, List.set_cons_succ, List.length_cons, List.length_nil, true_and, and_true, y_lIn, y_lKn, y_lZn, y_lLn, y_wIn, y_wZn, y_wLn, lit, le_n, lt_n, eq_n, nI_add]
  refine c_posts h.1 h.2.2.1 (fun g1 h1 f1 => ?_)
  have hM1 : g1.2 73 = ob 9 [.ref 74, .ref 75, .ref 76, .ref 77, .ref 78, .ref 79, .int (x 0), .int (x 1), .int (x 2), .ref 80, .int (x 3), .ref 81, .int (x 4), .ref 82, .long (r), .ref 83, .ref 84, .int (x 5), .int (x 6), .int (x 7), .int (x 8), .int (x 9), .ref 85, .int (x 10)] := by rw [f1.2 _ (by omega)]; exact hM
  have hs1 : g1.2 1011 = aK n sc := by rw [f1.2 _ (by omega)]; exact h.2.2.2
  simp (disch := omega) only [q_L_law_209, q_L_law_210, q_L_law_211, q_L_law_212, q_L_law_213, q_L_law_214, q_L_law_215, hM1, hs1, y_is, y_gf, y_pf, y_f0, y_f1, y_f3, y_nI, y_nK, y_nZ, y_nL, y_nR, y_k1i, y_k1r, y_k1l, y_k1n, y_tl, y_tn, y_s, y_ss, List.getElem?_cons_zero, List.getElem?_cons_succ, List.set_cons_zero, List.set_cons_succ, List.length_cons, List.length_nil, true_and, and_true, y_lIn, y_lKn, y_lZn, y_lLn, y_wIn, y_wZn, y_wLn, lit, le_n, lt_n, eq_n, nI_add]
  refine m_posts (h.2.1.frm f1 (by omega)) h.2.2.1 (fun g2 h2 f2 => ?_)
  simp only [q_L_law_218, y_is, y_gf, y_pf, y_f0, y_f1, y_f3, y_nI, y_nK, y_nZ, y_nL, y_nR, y_k1i, y_k1r, y_k1l, y_k1n, y_tl, y_tn, y_s, y_ss, List.getElem?_cons_zero, List.getElem?_cons_succ, List.set_cons_zero, List.set_cons_succ, List.length_cons, List.length_nil, true_and, and_true]
  exact br1 (by first | decide | omega | trivial | simp) (hQ g2 _ (h.go h1 f1 h2 f2 (k_posts h.2.2.1)))
theorem l_put {g : mzG} {S : sT} {i : Nat} (h : LW g S n sc) (hi : i + 5 ≤ n) (hn : n ≤ 2560) (hQ : ∀ g' S', LW g' S' n sc → wp 0 b 1166 [.ref 1011, .ref 0, .ref 73, .int (nI i)] [] g' Q) : wp 0 b 223 [.ref 1011, .ref 0, .ref 73, .int (nI i)] [] g Q := by
  obtain ⟨x, r, hM, -⟩ := id h.2.1.mM
  simp (disch := omega) only [q_L_law_223, q_L_law_224, q_L_law_225, q_L_law_226, q_L_law_227, q_L_law_228, q_L_law_229, q_L_law_230, q_L_law_231, q_L_law_232, q_L_law_233, q_L_law_234, q_L_law_235, q_L_law_236, q_L_law_237, q_L_law_238, q_L_law_239, h.1.c0.1, h.2.2.2, y_is, y_gf, y_pf, y_f0, y_f1, y_f3, y_nI, y_nK, y_nZ, y_nL, y_nR, y_k1i, y_k1r, y_k1l, y_k1n, y_tl, y_tn, y_s, y_ss, List.getElem?_cons_zero, List.getElem?_cons_succ, List.set_cons_zero, List.set_cons_succ, List.length_cons, List.length_nil, true_and, and_true, y_lIn, y_lKn, y_lZn, y_lLn, y_wIn, y_wZn, y_wLn, lit, le_n, lt_n, eq_n, nI_add]
  refine c_put h.1 h.2.2.1 (fun g1 h1 f1 => ?_)
  have hM1 : g1.2 73 = ob 9 [.ref 74, .ref 75, .ref 76, .ref 77, .ref 78, .ref 79, .int (x 0), .int (x 1), .int (x 2), .ref 80, .int (x 3), .ref 81, .int (x 4), .ref 82, .long (r), .ref 83, .ref 84, .int (x 5), .int (x 6), .int (x 7), .int (x 8), .int (x 9), .ref 85, .int (x 10)] := by rw [f1.2 _ (by omega)]; exact hM
  have hs1 : g1.2 1011 = aK n sc := by rw [f1.2 _ (by omega)]; exact h.2.2.2
  simp (disch := omega) only [q_L_law_242, q_L_law_243, q_L_law_244, q_L_law_245, q_L_law_246, q_L_law_247, q_L_law_248, q_L_law_249, q_L_law_250, q_L_law_251, q_L_law_252, q_L_law_253, q_L_law_254, q_L_law_255, q_L_law_256, q_L_law_257, q_L_law_258, hM1, hs1, y_is, y_gf, y_pf, y_f0, y_f1, y_f3, y_nI, y_nK, y_nZ, y_nL, y_nR, y_k1i, y_k1r, y_k1l, y_k1n, y_tl, y_tn, y_s, y_ss, List.getElem?_cons_zero, List.getElem?_cons_succ, List.set_cons_zero, List.set_cons_succ, List.length_cons, List.length_nil, true_and, and_true, y_lIn, y_lKn, y_lZn, y_lLn, y_wIn, y_wZn, y_wLn, lit, le_n, lt_n, eq_n, nI_add]
  refine m_put (h.2.1.frm f1 (by omega)) h.2.2.1 (fun g2 h2 f2 => ?_)
  simp only [q_L_law_261, y_is, y_gf, y_pf, y_f0, y_f1, y_f3, y_nI, y_nK, y_nZ, y_nL, y_nR, y_k1i, y_k1r, y_k1l, y_k1n, y_tl, y_tn, y_s, y_ss, List.getElem?_cons_zero, List.getElem?_cons_succ, List.set_cons_zero, List.set_cons_succ, List.length_cons, List.length_nil, true_and, and_true]
  exact br1 (by first | decide | omega | trivial | simp) (hQ g2 _ (h.go h1 f1 h2 f2 (k_put h.2.2.1)))
theorem l_captain {g : mzG} {S : sT} {i : Nat} (h : LW g S n sc) (hi : i + 5 ≤ n) (hn : n ≤ 2560) (hQ : ∀ g' S', LW g' S' n sc → wp 0 b 1166 [.ref 1011, .ref 0, .ref 73, .int (nI i)] [] g' Q) : wp 0 b 266 [.ref 1011, .ref 0, .ref 73, .int (nI i)] [] g Q := by
  obtain ⟨x, r, hM, -⟩ := id h.2.1.mM
  simp (disch := omega) only [q_L_law_266, q_L_law_267, q_L_law_268, q_L_law_269, q_L_law_270, q_L_law_271, q_L_law_272, q_L_law_273, q_L_law_274, q_L_law_275, q_L_law_276, q_L_law_277, q_L_law_278, q_L_law_279, q_L_law_280, q_L_law_281, q_L_law_282, q_L_law_283, q_L_law_284, q_L_law_285, q_L_law_286, q_L_law_287, h.1.c0.1, h.2.2.2, y_is, y_gf, y_pf, y_f0, y_f1, y_f3, y_nI, y_nK, y_nZ, y_nL, y_nR, y_k1i, y_k1r, y_k1l, y_k1n, y_tl, y_tn, y_s, y_ss, List.getElem?_cons_zero, List.getElem?_cons_succ, List.set_cons_zero, List.set_cons_succ, List.length_cons, List.length_nil, true_and, and_true, y_lIn, y_lKn, y_lZn, y_lLn, y_wIn, y_wZn, y_wLn, lit, le_n, lt_n, eq_n, nI_add]
  refine c_captain h.1 h.2.2.1 (fun g1 h1 f1 => ?_)
  have hM1 : g1.2 73 = ob 9 [.ref 74, .ref 75, .ref 76, .ref 77, .ref 78, .ref 79, .int (x 0), .int (x 1), .int (x 2), .ref 80, .int (x 3), .ref 81, .int (x 4), .ref 82, .long (r), .ref 83, .ref 84, .int (x 5), .int (x 6), .int (x 7), .int (x 8), .int (x 9), .ref 85, .int (x 10)] := by rw [f1.2 _ (by omega)]; exact hM
  have hs1 : g1.2 1011 = aK n sc := by rw [f1.2 _ (by omega)]; exact h.2.2.2
  simp (disch := omega) only [q_L_law_290, q_L_law_291, q_L_law_292, q_L_law_293, q_L_law_294, q_L_law_295, q_L_law_296, q_L_law_297, q_L_law_298, q_L_law_299, q_L_law_300, q_L_law_301, q_L_law_302, q_L_law_303, q_L_law_304, q_L_law_305, q_L_law_306, q_L_law_307, q_L_law_308, q_L_law_309, q_L_law_310, q_L_law_311, hM1, hs1, y_is, y_gf, y_pf, y_f0, y_f1, y_f3, y_nI, y_nK, y_nZ, y_nL, y_nR, y_k1i, y_k1r, y_k1l, y_k1n, y_tl, y_tn, y_s, y_ss, List.getElem?_cons_zero, List.getElem?_cons_succ, List.set_cons_zero, List.set_cons_succ, List.length_cons, List.length_nil, true_and, and_true, y_lIn, y_lKn, y_lZn, y_lLn, y_wIn, y_wZn, y_wLn, lit, le_n, lt_n, eq_n, nI_add]
  refine m_captain (h.2.1.frm f1 (by omega)) h.2.2.1 (fun g2 h2 f2 => ?_)
  simp only [q_L_law_314, y_is, y_gf, y_pf, y_f0, y_f1, y_f3, y_nI, y_nK, y_nZ, y_nL, y_nR, y_k1i, y_k1r, y_k1l, y_k1n, y_tl, y_tn, y_s, y_ss, List.getElem?_cons_zero, List.getElem?_cons_succ, List.set_cons_zero, List.set_cons_succ, List.length_cons, List.length_nil, true_and, and_true]
  exact br1 (by first | decide | omega | trivial | simp) (hQ g2 _ (h.go h1 f1 h2 f2 (k_captain h.2.2.1)))
theorem l_type {g : mzG} {S : sT} {i : Nat} (h : LW g S n sc) (hi : i + 5 ≤ n) (hn : n ≤ 2560) (hQ : ∀ g' S', LW g' S' n sc → wp 0 b 1166 [.ref 1011, .ref 0, .ref 73, .int (nI i)] [] g' Q) : wp 0 b 319 [.ref 1011, .ref 0, .ref 73, .int (nI i)] [] g Q := by
  obtain ⟨x, r, hM, -⟩ := id h.2.1.mM
  simp (disch := omega) only [q_L_law_319, q_L_law_320, q_L_law_321, q_L_law_322, q_L_law_323, q_L_law_324, q_L_law_325, q_L_law_326, q_L_law_328, q_L_law_329, q_L_law_330, q_L_law_331, q_L_law_332, q_L_law_333, q_L_law_334, q_L_law_335, q_L_law_338, q_L_law_339, q_L_law_340, q_L_law_341, q_L_law_342, q_L_law_343, q_L_law_344, q_L_law_345, h.1.c0.1, h.2.2.2, y_is, y_gf, y_pf, y_f0, y_f1, y_f3, y_nI, y_nK, y_nZ, y_nL, y_nR, y_k1i, y_k1r, y_k1l, y_k1n, y_tl, y_tn, y_s, y_ss, List.getElem?_cons_zero, List.getElem?_cons_succ, List.set_cons_zero, List.set_cons_succ, List.length_cons, List.length_nil, true_and, and_true, y_lIn, y_lKn, y_lZn, y_lLn, y_wIn, y_wZn, y_wLn, lit, le_n, lt_n, eq_n, nI_add]
  refine c_type h.1 h.2.2.1 (fun g1 h1 f1 => ?_)
  have hM1 : g1.2 73 = ob 9 [.ref 74, .ref 75, .ref 76, .ref 77, .ref 78, .ref 79, .int (x 0), .int (x 1), .int (x 2), .ref 80, .int (x 3), .ref 81, .int (x 4), .ref 82, .long (r), .ref 83, .ref 84, .int (x 5), .int (x 6), .int (x 7), .int (x 8), .int (x 9), .ref 85, .int (x 10)] := by rw [f1.2 _ (by omega)]; exact hM
  have hs1 : g1.2 1011 = aK n sc := by rw [f1.2 _ (by omega)]; exact h.2.2.2
  simp (disch := omega) only [q_L_law_348, q_L_law_349, q_L_law_350, q_L_law_351, q_L_law_352, q_L_law_353, q_L_law_354, q_L_law_355, q_L_law_357, q_L_law_358, q_L_law_359, q_L_law_360, q_L_law_361, q_L_law_362, q_L_law_363, q_L_law_364, q_L_law_367, q_L_law_368, q_L_law_369, q_L_law_370, q_L_law_371, q_L_law_372, q_L_law_373, q_L_law_374, hM1, hs1, y_is, y_gf, y_pf, y_f0, y_f1, y_f3, y_nI, y_nK, y_nZ, y_nL, y_nR, y_k1i, y_k1r, y_k1l, y_k1n, y_tl, y_tn, y_s, y_ss, List.getElem?_cons_zero, List.getElem?_cons_succ, List.set_cons_zero, List.set_cons_succ, List.length_cons, List.length_nil, true_and, and_true, y_lIn, y_lKn, y_lZn, y_lLn, y_wIn, y_wZn, y_wLn, lit, le_n, lt_n, eq_n, nI_add]
  refine m_type (h.2.1.frm f1 (by omega)) h.2.2.1 (fun g2 h2 f2 => ?_)
  simp only [q_L_law_377, y_is, y_gf, y_pf, y_f0, y_f1, y_f3, y_nI, y_nK, y_nZ, y_nL, y_nR, y_k1i, y_k1r, y_k1l, y_k1n, y_tl, y_tn, y_s, y_ss, List.getElem?_cons_zero, List.getElem?_cons_succ, List.set_cons_zero, List.set_cons_succ, List.length_cons, List.length_nil, true_and, and_true]
  exact br1 (by first | decide | omega | trivial | simp) (hQ g2 _ (h.go h1 f1 h2 f2 (k_type h.2.2.1)))
theorem l_clear {g : mzG} {S : sT} {i : Nat} (h : LW g S n sc) (hi : i + 5 ≤ n) (hn : n ≤ 2560) (hQ : ∀ g' S', LW g' S' n sc → wp 0 b 1166 [.ref 1011, .ref 0, .ref 73, .int (nI i)] [] g' Q) : wp 0 b 382 [.ref 1011, .ref 0, .ref 73, .int (nI i)] [] g Q := by
  obtain ⟨x, r, hM, -⟩ := id h.2.1.mM
  simp (disch := omega) only [q_L_law_382, q_L_law_383, h.1.c0.1, h.2.2.2, y_is, y_gf, y_pf, y_f0, y_f1, y_f3, y_nI, y_nK, y_nZ, y_nL, y_nR, y_k1i, y_k1r, y_k1l, y_k1n, y_tl, y_tn, y_s, y_ss, List.getElem?_cons_zero, List.getElem?_cons_succ, List.set_cons_zero, List.set_cons_succ, List.length_cons, List.length_nil, true_and, and_true, y_lIn, y_lKn, y_lZn, y_lLn, y_wIn, y_wZn, y_wLn, lit, le_n, lt_n, eq_n, nI_add]
  refine c_clear h.1 (fun g1 h1 f1 => ?_)
  have hM1 : g1.2 73 = ob 9 [.ref 74, .ref 75, .ref 76, .ref 77, .ref 78, .ref 79, .int (x 0), .int (x 1), .int (x 2), .ref 80, .int (x 3), .ref 81, .int (x 4), .ref 82, .long (r), .ref 83, .ref 84, .int (x 5), .int (x 6), .int (x 7), .int (x 8), .int (x 9), .ref 85, .int (x 10)] := by rw [f1.2 _ (by omega)]; exact hM
  have hs1 : g1.2 1011 = aK n sc := by rw [f1.2 _ (by omega)]; exact h.2.2.2
  simp (disch := omega) only [q_L_law_386, q_L_law_387, hM1, hs1, y_is, y_gf, y_pf, y_f0, y_f1, y_f3, y_nI, y_nK, y_nZ, y_nL, y_nR, y_k1i, y_k1r, y_k1l, y_k1n, y_tl, y_tn, y_s, y_ss, List.getElem?_cons_zero, List.getElem?_cons_succ, List.set_cons_zero, List.set_cons_succ, List.length_cons, List.length_nil, true_and, and_true, y_lIn, y_lKn, y_lZn, y_lLn, y_wIn, y_wZn, y_wLn, lit, le_n, lt_n, eq_n, nI_add]
  refine m_clear (h.2.1.frm f1 (by omega)) (fun g2 h2 f2 => ?_)
  simp only [q_L_law_390, y_is, y_gf, y_pf, y_f0, y_f1, y_f3, y_nI, y_nK, y_nZ, y_nL, y_nR, y_k1i, y_k1r, y_k1l, y_k1n, y_tl, y_tn, y_s, y_ss, List.getElem?_cons_zero, List.getElem?_cons_succ, List.set_cons_zero, List.set_cons_succ, List.length_cons, List.length_nil, true_and, and_true]
  exact br1 (by first | decide | omega | trivial | simp) (hQ g2 _ (h.go h1 f1 h2 f2 (k_clear h.2.2.1)))
theorem l_read {g : mzG} {S : sT} {i : Nat} (h : LW g S n sc) (hi : i + 5 ≤ n) (hn : n ≤ 2560) (hQ : ∀ g' S', LW g' S' n sc → wp 0 b 1166 [.ref 1011, .ref 0, .ref 73, .int (nI i)] [] g' Q) : wp 0 b 395 [.ref 1011, .ref 0, .ref 73, .int (nI i)] [] g Q := by
  obtain ⟨x, r, hM, -⟩ := id h.2.1.mM
  simp (disch := omega) only [q_L_law_395, q_L_law_396, h.1.c0.1, h.2.2.2, y_is, y_gf, y_pf, y_f0, y_f1, y_f3, y_nI, y_nK, y_nZ, y_nL, y_nR, y_k1i, y_k1r, y_k1l, y_k1n, y_tl, y_tn, y_s, y_ss, List.getElem?_cons_zero, List.getElem?_cons_succ, List.set_cons_zero, List.set_cons_succ, List.length_cons, List.length_nil, true_and, and_true, y_lIn, y_lKn, y_lZn, y_lLn, y_wIn, y_wZn, y_wLn, lit, le_n, lt_n, eq_n, nI_add]
  refine c_read h.1 h.2.2.1 (fun g1 h1 f1 => ?_)
  have hM1 : g1.2 73 = ob 9 [.ref 74, .ref 75, .ref 76, .ref 77, .ref 78, .ref 79, .int (x 0), .int (x 1), .int (x 2), .ref 80, .int (x 3), .ref 81, .int (x 4), .ref 82, .long (r), .ref 83, .ref 84, .int (x 5), .int (x 6), .int (x 7), .int (x 8), .int (x 9), .ref 85, .int (x 10)] := by rw [f1.2 _ (by omega)]; exact hM
  have hs1 : g1.2 1011 = aK n sc := by rw [f1.2 _ (by omega)]; exact h.2.2.2
  simp (disch := omega) only [q_L_law_399, q_L_law_400, hM1, hs1, y_is, y_gf, y_pf, y_f0, y_f1, y_f3, y_nI, y_nK, y_nZ, y_nL, y_nR, y_k1i, y_k1r, y_k1l, y_k1n, y_tl, y_tn, y_s, y_ss, List.getElem?_cons_zero, List.getElem?_cons_succ, List.set_cons_zero, List.set_cons_succ, List.length_cons, List.length_nil, true_and, and_true, y_lIn, y_lKn, y_lZn, y_lLn, y_wIn, y_wZn, y_wLn, lit, le_n, lt_n, eq_n, nI_add]
  refine m_read (h.2.1.frm f1 (by omega)) h.2.2.1 (fun g2 h2 f2 => ?_)
  simp only [q_L_law_403, y_is, y_gf, y_pf, y_f0, y_f1, y_f3, y_nI, y_nK, y_nZ, y_nL, y_nR, y_k1i, y_k1r, y_k1l, y_k1n, y_tl, y_tn, y_s, y_ss, List.getElem?_cons_zero, List.getElem?_cons_succ, List.set_cons_zero, List.set_cons_succ, List.length_cons, List.length_nil, true_and, and_true]
  exact br1 (by first | decide | omega | trivial | simp) (hQ g2 _ (h.go h1 f1 h2 f2 (k_read h.2.2.1)))
theorem l_write {g : mzG} {S : sT} {i : Nat} (h : LW g S n sc) (hi : i + 5 ≤ n) (hn : n ≤ 2560) (hQ : ∀ g' S', LW g' S' n sc → wp 0 b 1166 [.ref 1011, .ref 0, .ref 73, .int (nI i)] [] g' Q) : wp 0 b 408 [.ref 1011, .ref 0, .ref 73, .int (nI i)] [] g Q := by
  obtain ⟨x, r, hM, -⟩ := id h.2.1.mM
  simp (disch := omega) only [q_L_law_408, q_L_law_409, q_L_law_410, q_L_law_411, q_L_law_412, q_L_law_413, q_L_law_414, h.1.c0.1, h.2.2.2, y_is, y_gf, y_pf, y_f0, y_f1, y_f3, y_nI, y_nK, y_nZ, y_nL, y_nR, y_k1i, y_k1r, y_k1l, y_k1n, y_tl, y_tn, y_s, y_ss, List.getElem?_cons_zero, List.getElem?_cons_succ, List.set_cons_zero, List.set_cons_succ, List.length_cons, List.length_nil, true_and, and_true, y_lIn, y_lKn, y_lZn, y_lLn, y_wIn, y_wZn, y_wLn, lit, le_n, lt_n, eq_n, nI_add]
  refine c_write h.1 h.2.2.1 (fun g1 h1 f1 => ?_)
  have hM1 : g1.2 73 = ob 9 [.ref 74, .ref 75, .ref 76, .ref 77, .ref 78, .ref 79, .int (x 0), .int (x 1), .int (x 2), .ref 80, .int (x 3), .ref 81, .int (x 4), .ref 82, .long (r), .ref 83, .ref 84, .int (x 5), .int (x 6), .int (x 7), .int (x 8), .int (x 9), .ref 85, .int (x 10)] := by rw [f1.2 _ (by omega)]; exact hM
  have hs1 : g1.2 1011 = aK n sc := by rw [f1.2 _ (by omega)]; exact h.2.2.2
  simp (disch := omega) only [q_L_law_417, q_L_law_418, q_L_law_419, q_L_law_420, q_L_law_421, q_L_law_422, q_L_law_423, hM1, hs1, y_is, y_gf, y_pf, y_f0, y_f1, y_f3, y_nI, y_nK, y_nZ, y_nL, y_nR, y_k1i, y_k1r, y_k1l, y_k1n, y_tl, y_tn, y_s, y_ss, List.getElem?_cons_zero, List.getElem?_cons_succ, List.set_cons_zero, List.set_cons_succ, List.length_cons, List.length_nil, true_and, and_true, y_lIn, y_lKn, y_lZn, y_lLn, y_wIn, y_wZn, y_wLn, lit, le_n, lt_n, eq_n, nI_add]
  refine m_write (h.2.1.frm f1 (by omega)) h.2.2.1 (fun g2 h2 f2 => ?_)
  simp only [q_L_law_426, y_is, y_gf, y_pf, y_f0, y_f1, y_f3, y_nI, y_nK, y_nZ, y_nL, y_nR, y_k1i, y_k1r, y_k1l, y_k1n, y_tl, y_tn, y_s, y_ss, List.getElem?_cons_zero, List.getElem?_cons_succ, List.set_cons_zero, List.set_cons_succ, List.length_cons, List.length_nil, true_and, and_true]
  exact br1 (by first | decide | omega | trivial | simp) (hQ g2 _ (h.go h1 f1 h2 f2 (k_write h.2.2.1)))
theorem l_erase {g : mzG} {S : sT} {i : Nat} (h : LW g S n sc) (hi : i + 5 ≤ n) (hn : n ≤ 2560) (hQ : ∀ g' S', LW g' S' n sc → wp 0 b 1166 [.ref 1011, .ref 0, .ref 73, .int (nI i)] [] g' Q) : wp 0 b 431 [.ref 1011, .ref 0, .ref 73, .int (nI i)] [] g Q := by
  obtain ⟨x, r, hM, -⟩ := id h.2.1.mM
  simp (disch := omega) only [q_L_law_431, q_L_law_432, h.1.c0.1, h.2.2.2, y_is, y_gf, y_pf, y_f0, y_f1, y_f3, y_nI, y_nK, y_nZ, y_nL, y_nR, y_k1i, y_k1r, y_k1l, y_k1n, y_tl, y_tn, y_s, y_ss, List.getElem?_cons_zero, List.getElem?_cons_succ, List.set_cons_zero, List.set_cons_succ, List.length_cons, List.length_nil, true_and, and_true, y_lIn, y_lKn, y_lZn, y_lLn, y_wIn, y_wZn, y_wLn, lit, le_n, lt_n, eq_n, nI_add]
  refine c_erase h.1 (fun g1 h1 f1 => ?_)
  have hM1 : g1.2 73 = ob 9 [.ref 74, .ref 75, .ref 76, .ref 77, .ref 78, .ref 79, .int (x 0), .int (x 1), .int (x 2), .ref 80, .int (x 3), .ref 81, .int (x 4), .ref 82, .long (r), .ref 83, .ref 84, .int (x 5), .int (x 6), .int (x 7), .int (x 8), .int (x 9), .ref 85, .int (x 10)] := by rw [f1.2 _ (by omega)]; exact hM
  have hs1 : g1.2 1011 = aK n sc := by rw [f1.2 _ (by omega)]; exact h.2.2.2
  simp (disch := omega) only [q_L_law_435, q_L_law_436, hM1, hs1, y_is, y_gf, y_pf, y_f0, y_f1, y_f3, y_nI, y_nK, y_nZ, y_nL, y_nR, y_k1i, y_k1r, y_k1l, y_k1n, y_tl, y_tn, y_s, y_ss, List.getElem?_cons_zero, List.getElem?_cons_succ, List.set_cons_zero, List.set_cons_succ, List.length_cons, List.length_nil, true_and, and_true, y_lIn, y_lKn, y_lZn, y_lLn, y_wIn, y_wZn, y_wLn, lit, le_n, lt_n, eq_n, nI_add]
  refine m_erase (h.2.1.frm f1 (by omega)) (fun g2 h2 f2 => ?_)
  simp only [q_L_law_439, y_is, y_gf, y_pf, y_f0, y_f1, y_f3, y_nI, y_nK, y_nZ, y_nL, y_nR, y_k1i, y_k1r, y_k1l, y_k1n, y_tl, y_tn, y_s, y_ss, List.getElem?_cons_zero, List.getElem?_cons_succ, List.set_cons_zero, List.set_cons_succ, List.length_cons, List.length_nil, true_and, and_true]
  exact br1 (by first | decide | omega | trivial | simp) (hQ g2 _ (h.go h1 f1 h2 f2 (k_erase h.2.2.1)))
theorem l_fault {g : mzG} {S : sT} {i : Nat} (h : LW g S n sc) (hi : i + 5 ≤ n) (hn : n ≤ 2560) (hQ : ∀ g' S', LW g' S' n sc → wp 0 b 1166 [.ref 1011, .ref 0, .ref 73, .int (nI i)] [] g' Q) : wp 0 b 444 [.ref 1011, .ref 0, .ref 73, .int (nI i)] [] g Q := by
  obtain ⟨x, r, hM, -⟩ := id h.2.1.mM
  simp (disch := omega) only [q_L_law_444, q_L_law_445, h.1.c0.1, h.2.2.2, y_is, y_gf, y_pf, y_f0, y_f1, y_f3, y_nI, y_nK, y_nZ, y_nL, y_nR, y_k1i, y_k1r, y_k1l, y_k1n, y_tl, y_tn, y_s, y_ss, List.getElem?_cons_zero, List.getElem?_cons_succ, List.set_cons_zero, List.set_cons_succ, List.length_cons, List.length_nil, true_and, and_true, y_lIn, y_lKn, y_lZn, y_lLn, y_wIn, y_wZn, y_wLn, lit, le_n, lt_n, eq_n, nI_add]
  refine c_fault h.1 h.2.2.1 (fun g1 h1 f1 => ?_)
  have hM1 : g1.2 73 = ob 9 [.ref 74, .ref 75, .ref 76, .ref 77, .ref 78, .ref 79, .int (x 0), .int (x 1), .int (x 2), .ref 80, .int (x 3), .ref 81, .int (x 4), .ref 82, .long (r), .ref 83, .ref 84, .int (x 5), .int (x 6), .int (x 7), .int (x 8), .int (x 9), .ref 85, .int (x 10)] := by rw [f1.2 _ (by omega)]; exact hM
  have hs1 : g1.2 1011 = aK n sc := by rw [f1.2 _ (by omega)]; exact h.2.2.2
  simp (disch := omega) only [q_L_law_448, q_L_law_449, hM1, hs1, y_is, y_gf, y_pf, y_f0, y_f1, y_f3, y_nI, y_nK, y_nZ, y_nL, y_nR, y_k1i, y_k1r, y_k1l, y_k1n, y_tl, y_tn, y_s, y_ss, List.getElem?_cons_zero, List.getElem?_cons_succ, List.set_cons_zero, List.set_cons_succ, List.length_cons, List.length_nil, true_and, and_true, y_lIn, y_lKn, y_lZn, y_lLn, y_wIn, y_wZn, y_wLn, lit, le_n, lt_n, eq_n, nI_add]
  refine m_fault (h.2.1.frm f1 (by omega)) h.2.2.1 (fun g2 h2 f2 => ?_)
  simp only [q_L_law_452, y_is, y_gf, y_pf, y_f0, y_f1, y_f3, y_nI, y_nK, y_nZ, y_nL, y_nR, y_k1i, y_k1r, y_k1l, y_k1n, y_tl, y_tn, y_s, y_ss, List.getElem?_cons_zero, List.getElem?_cons_succ, List.set_cons_zero, List.set_cons_succ, List.length_cons, List.length_nil, true_and, and_true]
  exact br1 (by first | decide | omega | trivial | simp) (hQ g2 _ (h.go h1 f1 h2 f2 (k_fault h.2.2.1)))
theorem l_asleep {g : mzG} {S : sT} {i : Nat} (h : LW g S n sc) (hi : i + 5 ≤ n) (hn : n ≤ 2560) (hQ : ∀ g' S', LW g' S' n sc → wp 0 b 1166 [.ref 1011, .ref 0, .ref 73, .int (nI i)] [] g' Q) : wp 0 b 457 [.ref 1011, .ref 0, .ref 73, .int (nI i)] [] g Q := by
  obtain ⟨x, r, hM, -⟩ := id h.2.1.mM
  simp (disch := omega) only [q_L_law_457, q_L_law_458, q_L_law_459, q_L_law_460, q_L_law_461, q_L_law_462, q_L_law_463, q_L_law_464, q_L_law_465, q_L_law_466, q_L_law_467, q_L_law_468, h.1.c0.1, h.2.2.2, y_is, y_gf, y_pf, y_f0, y_f1, y_f3, y_nI, y_nK, y_nZ, y_nL, y_nR, y_k1i, y_k1r, y_k1l, y_k1n, y_tl, y_tn, y_s, y_ss, List.getElem?_cons_zero, List.getElem?_cons_succ, List.set_cons_zero, List.set_cons_succ, List.length_cons, List.length_nil, true_and, and_true, y_lIn, y_lKn, y_lZn, y_lLn, y_wIn, y_wZn, y_wLn, lit, le_n, lt_n, eq_n, nI_add]
  refine c_asleep h.1 h.2.2.1 (fun g1 h1 f1 => ?_)
  have hM1 : g1.2 73 = ob 9 [.ref 74, .ref 75, .ref 76, .ref 77, .ref 78, .ref 79, .int (x 0), .int (x 1), .int (x 2), .ref 80, .int (x 3), .ref 81, .int (x 4), .ref 82, .long (r), .ref 83, .ref 84, .int (x 5), .int (x 6), .int (x 7), .int (x 8), .int (x 9), .ref 85, .int (x 10)] := by rw [f1.2 _ (by omega)]; exact hM
  have hs1 : g1.2 1011 = aK n sc := by rw [f1.2 _ (by omega)]; exact h.2.2.2
  simp (disch := omega) only [q_L_law_471, q_L_law_472, q_L_law_473, q_L_law_474, q_L_law_475, q_L_law_476, q_L_law_477, q_L_law_478, q_L_law_479, q_L_law_480, q_L_law_481, q_L_law_482, hM1, hs1, y_is, y_gf, y_pf, y_f0, y_f1, y_f3, y_nI, y_nK, y_nZ, y_nL, y_nR, y_k1i, y_k1r, y_k1l, y_k1n, y_tl, y_tn, y_s, y_ss, List.getElem?_cons_zero, List.getElem?_cons_succ, List.set_cons_zero, List.set_cons_succ, List.length_cons, List.length_nil, true_and, and_true, y_lIn, y_lKn, y_lZn, y_lLn, y_wIn, y_wZn, y_wLn, lit, le_n, lt_n, eq_n, nI_add]
  refine m_asleep (h.2.1.frm f1 (by omega)) h.2.2.1 (fun g2 h2 f2 => ?_)
  simp only [q_L_law_485, y_is, y_gf, y_pf, y_f0, y_f1, y_f3, y_nI, y_nK, y_nZ, y_nL, y_nR, y_k1i, y_k1r, y_k1l, y_k1n, y_tl, y_tn, y_s, y_ss, List.getElem?_cons_zero, List.getElem?_cons_succ, List.set_cons_zero, List.set_cons_succ, List.length_cons, List.length_nil, true_and, and_true]
  exact br1 (by first | decide | omega | trivial | simp) (hQ g2 _ (h.go h1 f1 h2 f2 (k_asleep h.2.2.1)))
theorem l_has {g : mzG} {S : sT} {i : Nat} (h : LW g S n sc) (hi : i + 5 ≤ n) (hn : n ≤ 2560) (hQ : ∀ g' S', LW g' S' n sc → wp 0 b 1166 [.ref 1011, .ref 0, .ref 73, .int (nI i)] [] g' Q) : wp 0 b 490 [.ref 1011, .ref 0, .ref 73, .int (nI i)] [] g Q := by
  obtain ⟨x, r, hM, -⟩ := id h.2.1.mM
  simp (disch := omega) only [q_L_law_490, q_L_law_491, q_L_law_492, q_L_law_493, q_L_law_494, q_L_law_495, q_L_law_496, h.1.c0.1, h.2.2.2, y_is, y_gf, y_pf, y_f0, y_f1, y_f3, y_nI, y_nK, y_nZ, y_nL, y_nR, y_k1i, y_k1r, y_k1l, y_k1n, y_tl, y_tn, y_s, y_ss, List.getElem?_cons_zero, List.getElem?_cons_succ, List.set_cons_zero, List.set_cons_succ, List.length_cons, List.length_nil, true_and, and_true, y_lIn, y_lKn, y_lZn, y_lLn, y_wIn, y_wZn, y_wLn, lit, le_n, lt_n, eq_n, nI_add]
  refine c_has h.1 h.2.2.1 (fun g1 h1 f1 => ?_)
  have hM1 : g1.2 73 = ob 9 [.ref 74, .ref 75, .ref 76, .ref 77, .ref 78, .ref 79, .int (x 0), .int (x 1), .int (x 2), .ref 80, .int (x 3), .ref 81, .int (x 4), .ref 82, .long (r), .ref 83, .ref 84, .int (x 5), .int (x 6), .int (x 7), .int (x 8), .int (x 9), .ref 85, .int (x 10)] := by rw [f1.2 _ (by omega)]; exact hM
  have hs1 : g1.2 1011 = aK n sc := by rw [f1.2 _ (by omega)]; exact h.2.2.2
  simp (disch := omega) only [q_L_law_499, q_L_law_500, q_L_law_501, q_L_law_502, q_L_law_503, q_L_law_504, q_L_law_505, hM1, hs1, y_is, y_gf, y_pf, y_f0, y_f1, y_f3, y_nI, y_nK, y_nZ, y_nL, y_nR, y_k1i, y_k1r, y_k1l, y_k1n, y_tl, y_tn, y_s, y_ss, List.getElem?_cons_zero, List.getElem?_cons_succ, List.set_cons_zero, List.set_cons_succ, List.length_cons, List.length_nil, true_and, and_true, y_lIn, y_lKn, y_lZn, y_lLn, y_wIn, y_wZn, y_wLn, lit, le_n, lt_n, eq_n, nI_add]
  refine m_has (h.2.1.frm f1 (by omega)) h.2.2.1 (fun g2 h2 f2 => ?_)
  simp only [q_L_law_508, y_is, y_gf, y_pf, y_f0, y_f1, y_f3, y_nI, y_nK, y_nZ, y_nL, y_nR, y_k1i, y_k1r, y_k1l, y_k1n, y_tl, y_tn, y_s, y_ss, List.getElem?_cons_zero, List.getElem?_cons_succ, List.set_cons_zero, List.set_cons_succ, List.length_cons, List.length_nil, true_and, and_true]
  exact br1 (by first | decide | omega | trivial | simp) (hQ g2 _ (h.go h1 f1 h2 f2 (k_has h.2.2.1)))
theorem l_tries {g : mzG} {S : sT} {i : Nat} (h : LW g S n sc) (hi : i + 5 ≤ n) (hn : n ≤ 2560) (hQ : ∀ g' S', LW g' S' n sc → wp 0 b 1166 [.ref 1011, .ref 0, .ref 73, .int (nI i)] [] g' Q) : wp 0 b 513 [.ref 1011, .ref 0, .ref 73, .int (nI i)] [] g Q := by
  obtain ⟨x, r, hM, -⟩ := id h.2.1.mM
  simp (disch := omega) only [q_L_law_513, q_L_law_514, h.1.c0.1, h.2.2.2, y_is, y_gf, y_pf, y_f0, y_f1, y_f3, y_nI, y_nK, y_nZ, y_nL, y_nR, y_k1i, y_k1r, y_k1l, y_k1n, y_tl, y_tn, y_s, y_ss, List.getElem?_cons_zero, List.getElem?_cons_succ, List.set_cons_zero, List.set_cons_succ, List.length_cons, List.length_nil, true_and, and_true, y_lIn, y_lKn, y_lZn, y_lLn, y_wIn, y_wZn, y_wLn, lit, le_n, lt_n, eq_n, nI_add]
  refine c_tries h.1 h.2.2.1 (fun g1 h1 f1 => ?_)
  have hM1 : g1.2 73 = ob 9 [.ref 74, .ref 75, .ref 76, .ref 77, .ref 78, .ref 79, .int (x 0), .int (x 1), .int (x 2), .ref 80, .int (x 3), .ref 81, .int (x 4), .ref 82, .long (r), .ref 83, .ref 84, .int (x 5), .int (x 6), .int (x 7), .int (x 8), .int (x 9), .ref 85, .int (x 10)] := by rw [f1.2 _ (by omega)]; exact hM
  have hs1 : g1.2 1011 = aK n sc := by rw [f1.2 _ (by omega)]; exact h.2.2.2
  simp (disch := omega) only [q_L_law_517, q_L_law_518, hM1, hs1, y_is, y_gf, y_pf, y_f0, y_f1, y_f3, y_nI, y_nK, y_nZ, y_nL, y_nR, y_k1i, y_k1r, y_k1l, y_k1n, y_tl, y_tn, y_s, y_ss, List.getElem?_cons_zero, List.getElem?_cons_succ, List.set_cons_zero, List.set_cons_succ, List.length_cons, List.length_nil, true_and, and_true, y_lIn, y_lKn, y_lZn, y_lLn, y_wIn, y_wZn, y_wLn, lit, le_n, lt_n, eq_n, nI_add]
  refine m_tries (h.2.1.frm f1 (by omega)) h.2.2.1 (fun g2 h2 f2 => ?_)
  simp only [q_L_law_521, y_is, y_gf, y_pf, y_f0, y_f1, y_f3, y_nI, y_nK, y_nZ, y_nL, y_nR, y_k1i, y_k1r, y_k1l, y_k1n, y_tl, y_tn, y_s, y_ss, List.getElem?_cons_zero, List.getElem?_cons_succ, List.set_cons_zero, List.set_cons_succ, List.length_cons, List.length_nil, true_and, and_true]
  exact br1 (by first | decide | omega | trivial | simp) (hQ g2 _ (h.go h1 f1 h2 f2 (k_tries h.2.2.1)))
theorem l_two {g : mzG} {S : sT} {i : Nat} (h : LW g S n sc) (hi : i + 5 ≤ n) (hn : n ≤ 2560) (hQ : ∀ g' S', LW g' S' n sc → wp 0 b 1166 [.ref 1011, .ref 0, .ref 73, .int (nI i)] [] g' Q) : wp 0 b 526 [.ref 1011, .ref 0, .ref 73, .int (nI i)] [] g Q := by
  obtain ⟨x, r, hM, -⟩ := id h.2.1.mM
  simp (disch := omega) only [q_L_law_526, q_L_law_527, h.1.c0.1, h.2.2.2, y_is, y_gf, y_pf, y_f0, y_f1, y_f3, y_nI, y_nK, y_nZ, y_nL, y_nR, y_k1i, y_k1r, y_k1l, y_k1n, y_tl, y_tn, y_s, y_ss, List.getElem?_cons_zero, List.getElem?_cons_succ, List.set_cons_zero, List.set_cons_succ, List.length_cons, List.length_nil, true_and, and_true, y_lIn, y_lKn, y_lZn, y_lLn, y_wIn, y_wZn, y_wLn, lit, le_n, lt_n, eq_n, nI_add]
  refine c_two h.1 h.2.2.1 (fun g1 h1 f1 => ?_)
  have hM1 : g1.2 73 = ob 9 [.ref 74, .ref 75, .ref 76, .ref 77, .ref 78, .ref 79, .int (x 0), .int (x 1), .int (x 2), .ref 80, .int (x 3), .ref 81, .int (x 4), .ref 82, .long (r), .ref 83, .ref 84, .int (x 5), .int (x 6), .int (x 7), .int (x 8), .int (x 9), .ref 85, .int (x 10)] := by rw [f1.2 _ (by omega)]; exact hM
  have hs1 : g1.2 1011 = aK n sc := by rw [f1.2 _ (by omega)]; exact h.2.2.2
  simp (disch := omega) only [q_L_law_530, q_L_law_531, hM1, hs1, y_is, y_gf, y_pf, y_f0, y_f1, y_f3, y_nI, y_nK, y_nZ, y_nL, y_nR, y_k1i, y_k1r, y_k1l, y_k1n, y_tl, y_tn, y_s, y_ss, List.getElem?_cons_zero, List.getElem?_cons_succ, List.set_cons_zero, List.set_cons_succ, List.length_cons, List.length_nil, true_and, and_true, y_lIn, y_lKn, y_lZn, y_lLn, y_wIn, y_wZn, y_wLn, lit, le_n, lt_n, eq_n, nI_add]
  refine m_two (h.2.1.frm f1 (by omega)) h.2.2.1 (fun g2 h2 f2 => ?_)
  simp only [q_L_law_534, y_is, y_gf, y_pf, y_f0, y_f1, y_f3, y_nI, y_nK, y_nZ, y_nL, y_nR, y_k1i, y_k1r, y_k1l, y_k1n, y_tl, y_tn, y_s, y_ss, List.getElem?_cons_zero, List.getElem?_cons_succ, List.set_cons_zero, List.set_cons_succ, List.length_cons, List.length_nil, true_and, and_true]
  exact br1 (by first | decide | omega | trivial | simp) (hQ g2 _ (h.go h1 f1 h2 f2 (k_two h.2.2.1)))
theorem l_ladder {g : mzG} {S : sT} {i : Nat} (h : LW g S n sc) (hi : i + 5 ≤ n) (hn : n ≤ 2560) (hQ : ∀ g' S', LW g' S' n sc → wp 0 b 1166 [.ref 1011, .ref 0, .ref 73, .int (nI i)] [] g' Q) : wp 0 b 539 [.ref 1011, .ref 0, .ref 73, .int (nI i)] [] g Q := by
  obtain ⟨x, r, hM, -⟩ := id h.2.1.mM
  simp (disch := omega) only [q_L_law_539, q_L_law_540, q_L_law_541, q_L_law_542, q_L_law_543, q_L_law_544, q_L_law_545, h.1.c0.1, h.2.2.2, y_is, y_gf, y_pf, y_f0, y_f1, y_f3, y_nI, y_nK, y_nZ, y_nL, y_nR, y_k1i, y_k1r, y_k1l, y_k1n, y_tl, y_tn, y_s, y_ss, List.getElem?_cons_zero, List.getElem?_cons_succ, List.set_cons_zero, List.set_cons_succ, List.length_cons, List.length_nil, true_and, and_true, y_lIn, y_lKn, y_lZn, y_lLn, y_wIn, y_wZn, y_wLn, lit, le_n, lt_n, eq_n, nI_add]
  refine c_ladder h.1 h.2.2.1 (fun g1 h1 f1 => ?_)
  have hM1 : g1.2 73 = ob 9 [.ref 74, .ref 75, .ref 76, .ref 77, .ref 78, .ref 79, .int (x 0), .int (x 1), .int (x 2), .ref 80, .int (x 3), .ref 81, .int (x 4), .ref 82, .long (r), .ref 83, .ref 84, .int (x 5), .int (x 6), .int (x 7), .int (x 8), .int (x 9), .ref 85, .int (x 10)] := by rw [f1.2 _ (by omega)]; exact hM
  have hs1 : g1.2 1011 = aK n sc := by rw [f1.2 _ (by omega)]; exact h.2.2.2
  simp (disch := omega) only [q_L_law_548, q_L_law_549, q_L_law_550, q_L_law_551, q_L_law_552, q_L_law_553, q_L_law_554, hM1, hs1, y_is, y_gf, y_pf, y_f0, y_f1, y_f3, y_nI, y_nK, y_nZ, y_nL, y_nR, y_k1i, y_k1r, y_k1l, y_k1n, y_tl, y_tn, y_s, y_ss, List.getElem?_cons_zero, List.getElem?_cons_succ, List.set_cons_zero, List.set_cons_succ, List.length_cons, List.length_nil, true_and, and_true, y_lIn, y_lKn, y_lZn, y_lLn, y_wIn, y_wZn, y_wLn, lit, le_n, lt_n, eq_n, nI_add]
  refine m_ladder (h.2.1.frm f1 (by omega)) h.2.2.1 (fun g2 h2 f2 => ?_)
  simp only [q_L_law_557, y_is, y_gf, y_pf, y_f0, y_f1, y_f3, y_nI, y_nK, y_nZ, y_nL, y_nR, y_k1i, y_k1r, y_k1l, y_k1n, y_tl, y_tn, y_s, y_ss, List.getElem?_cons_zero, List.getElem?_cons_succ, List.set_cons_zero, List.set_cons_succ, List.length_cons, List.length_nil, true_and, and_true]
  exact br1 (by first | decide | omega | trivial | simp) (hQ g2 _ (h.go h1 f1 h2 f2 (k_ladder h.2.2.1)))
theorem l_knows {g : mzG} {S : sT} {i : Nat} (h : LW g S n sc) (hi : i + 5 ≤ n) (hn : n ≤ 2560) (hQ : ∀ g' S', LW g' S' n sc → wp 0 b 1166 [.ref 1011, .ref 0, .ref 73, .int (nI i)] [] g' Q) : wp 0 b 562 [.ref 1011, .ref 0, .ref 73, .int (nI i)] [] g Q := by
  obtain ⟨x, r, hM, -⟩ := id h.2.1.mM
  simp (disch := omega) only [q_L_law_562, q_L_law_563, h.1.c0.1, h.2.2.2, y_is, y_gf, y_pf, y_f0, y_f1, y_f3, y_nI, y_nK, y_nZ, y_nL, y_nR, y_k1i, y_k1r, y_k1l, y_k1n, y_tl, y_tn, y_s, y_ss, List.getElem?_cons_zero, List.getElem?_cons_succ, List.set_cons_zero, List.set_cons_succ, List.length_cons, List.length_nil, true_and, and_true, y_lIn, y_lKn, y_lZn, y_lLn, y_wIn, y_wZn, y_wLn, lit, le_n, lt_n, eq_n, nI_add]
  refine c_knows h.1 h.2.2.1 (fun g1 h1 f1 => ?_)
  have hM1 : g1.2 73 = ob 9 [.ref 74, .ref 75, .ref 76, .ref 77, .ref 78, .ref 79, .int (x 0), .int (x 1), .int (x 2), .ref 80, .int (x 3), .ref 81, .int (x 4), .ref 82, .long (r), .ref 83, .ref 84, .int (x 5), .int (x 6), .int (x 7), .int (x 8), .int (x 9), .ref 85, .int (x 10)] := by rw [f1.2 _ (by omega)]; exact hM
  have hs1 : g1.2 1011 = aK n sc := by rw [f1.2 _ (by omega)]; exact h.2.2.2
  simp (disch := omega) only [q_L_law_566, q_L_law_567, hM1, hs1, y_is, y_gf, y_pf, y_f0, y_f1, y_f3, y_nI, y_nK, y_nZ, y_nL, y_nR, y_k1i, y_k1r, y_k1l, y_k1n, y_tl, y_tn, y_s, y_ss, List.getElem?_cons_zero, List.getElem?_cons_succ, List.set_cons_zero, List.set_cons_succ, List.length_cons, List.length_nil, true_and, and_true, y_lIn, y_lKn, y_lZn, y_lLn, y_wIn, y_wZn, y_wLn, lit, le_n, lt_n, eq_n, nI_add]
  refine m_knows (h.2.1.frm f1 (by omega)) h.2.2.1 (fun g2 h2 f2 => ?_)
  simp only [q_L_law_570, y_is, y_gf, y_pf, y_f0, y_f1, y_f3, y_nI, y_nK, y_nZ, y_nL, y_nR, y_k1i, y_k1r, y_k1l, y_k1n, y_tl, y_tn, y_s, y_ss, List.getElem?_cons_zero, List.getElem?_cons_succ, List.set_cons_zero, List.set_cons_succ, List.length_cons, List.length_nil, true_and, and_true]
  exact br1 (by first | decide | omega | trivial | simp) (hQ g2 _ (h.go h1 f1 h2 f2 (k_knows h.2.2.1)))
theorem l_best {g : mzG} {S : sT} {i : Nat} (h : LW g S n sc) (hi : i + 5 ≤ n) (hn : n ≤ 2560) (hQ : ∀ g' S', LW g' S' n sc → wp 0 b 1166 [.ref 1011, .ref 0, .ref 73, .int (nI i)] [] g' Q) : wp 0 b 575 [.ref 1011, .ref 0, .ref 73, .int (nI i)] [] g Q := by
  obtain ⟨x, r, hM, -⟩ := id h.2.1.mM
  simp (disch := omega) only [q_L_law_575, q_L_law_576, q_L_law_577, q_L_law_578, q_L_law_579, q_L_law_580, q_L_law_581, h.1.c0.1, h.2.2.2, y_is, y_gf, y_pf, y_f0, y_f1, y_f3, y_nI, y_nK, y_nZ, y_nL, y_nR, y_k1i, y_k1r, y_k1l, y_k1n, y_tl, y_tn, y_s, y_ss, List.getElem?_cons_zero, List.getElem?_cons_succ, List.set_cons_zero, List.set_cons_succ, List.length_cons, List.length_nil, true_and, and_true, y_lIn, y_lKn, y_lZn, y_lLn, y_wIn, y_wZn, y_wLn, lit, le_n, lt_n, eq_n, nI_add]
  refine c_best h.1 h.2.2.1 (fun g1 h1 f1 => ?_)
  have hM1 : g1.2 73 = ob 9 [.ref 74, .ref 75, .ref 76, .ref 77, .ref 78, .ref 79, .int (x 0), .int (x 1), .int (x 2), .ref 80, .int (x 3), .ref 81, .int (x 4), .ref 82, .long (r), .ref 83, .ref 84, .int (x 5), .int (x 6), .int (x 7), .int (x 8), .int (x 9), .ref 85, .int (x 10)] := by rw [f1.2 _ (by omega)]; exact hM
  have hs1 : g1.2 1011 = aK n sc := by rw [f1.2 _ (by omega)]; exact h.2.2.2
  simp (disch := omega) only [q_L_law_584, q_L_law_585, q_L_law_586, q_L_law_587, q_L_law_588, q_L_law_589, q_L_law_590, hM1, hs1, y_is, y_gf, y_pf, y_f0, y_f1, y_f3, y_nI, y_nK, y_nZ, y_nL, y_nR, y_k1i, y_k1r, y_k1l, y_k1n, y_tl, y_tn, y_s, y_ss, List.getElem?_cons_zero, List.getElem?_cons_succ, List.set_cons_zero, List.set_cons_succ, List.length_cons, List.length_nil, true_and, and_true, y_lIn, y_lKn, y_lZn, y_lLn, y_wIn, y_wZn, y_wLn, lit, le_n, lt_n, eq_n, nI_add]
  refine m_best (h.2.1.frm f1 (by omega)) h.2.2.1 (fun g2 h2 f2 => ?_)
  simp only [q_L_law_593, y_is, y_gf, y_pf, y_f0, y_f1, y_f3, y_nI, y_nK, y_nZ, y_nL, y_nR, y_k1i, y_k1r, y_k1l, y_k1n, y_tl, y_tn, y_s, y_ss, List.getElem?_cons_zero, List.getElem?_cons_succ, List.set_cons_zero, List.set_cons_succ, List.length_cons, List.length_nil, true_and, and_true]
  exact br1 (by first | decide | omega | trivial | simp) (hQ g2 _ (h.go h1 f1 h2 f2 (k_best h.2.2.1)))
theorem l_chance {g : mzG} {S : sT} {i : Nat} (h : LW g S n sc) (hi : i + 5 ≤ n) (hn : n ≤ 2560) (hQ : ∀ g' S', LW g' S' n sc → wp 0 b 1166 [.ref 1011, .ref 0, .ref 73, .int (nI i)] [] g' Q) : wp 0 b 598 [.ref 1011, .ref 0, .ref 73, .int (nI i)] [] g Q := by
  obtain ⟨x, r, hM, -⟩ := id h.2.1.mM
  simp (disch := omega) only [q_L_law_598, q_L_law_599, q_L_law_600, q_L_law_601, q_L_law_602, q_L_law_603, q_L_law_604, q_L_law_605, q_L_law_606, q_L_law_607, q_L_law_608, q_L_law_609, h.1.c0.1, h.2.2.2, y_is, y_gf, y_pf, y_f0, y_f1, y_f3, y_nI, y_nK, y_nZ, y_nL, y_nR, y_k1i, y_k1r, y_k1l, y_k1n, y_tl, y_tn, y_s, y_ss, List.getElem?_cons_zero, List.getElem?_cons_succ, List.set_cons_zero, List.set_cons_succ, List.length_cons, List.length_nil, true_and, and_true, y_lIn, y_lKn, y_lZn, y_lLn, y_wIn, y_wZn, y_wLn, lit, le_n, lt_n, eq_n, nI_add]
  refine c_chance h.1 h.2.2.1 (fun g1 h1 f1 => ?_)
  have hM1 : g1.2 73 = ob 9 [.ref 74, .ref 75, .ref 76, .ref 77, .ref 78, .ref 79, .int (x 0), .int (x 1), .int (x 2), .ref 80, .int (x 3), .ref 81, .int (x 4), .ref 82, .long (r), .ref 83, .ref 84, .int (x 5), .int (x 6), .int (x 7), .int (x 8), .int (x 9), .ref 85, .int (x 10)] := by rw [f1.2 _ (by omega)]; exact hM
  have hs1 : g1.2 1011 = aK n sc := by rw [f1.2 _ (by omega)]; exact h.2.2.2
  simp (disch := omega) only [q_L_law_612, q_L_law_613, q_L_law_614, q_L_law_615, q_L_law_616, q_L_law_617, q_L_law_618, q_L_law_619, q_L_law_620, q_L_law_621, q_L_law_622, q_L_law_623, hM1, hs1, y_is, y_gf, y_pf, y_f0, y_f1, y_f3, y_nI, y_nK, y_nZ, y_nL, y_nR, y_k1i, y_k1r, y_k1l, y_k1n, y_tl, y_tn, y_s, y_ss, List.getElem?_cons_zero, List.getElem?_cons_succ, List.set_cons_zero, List.set_cons_succ, List.length_cons, List.length_nil, true_and, and_true, y_lIn, y_lKn, y_lZn, y_lLn, y_wIn, y_wZn, y_wLn, lit, le_n, lt_n, eq_n, nI_add]
  refine m_chance (h.2.1.frm f1 (by omega)) h.2.2.1 (fun g2 h2 f2 => ?_)
  simp only [q_L_law_626, y_is, y_gf, y_pf, y_f0, y_f1, y_f3, y_nI, y_nK, y_nZ, y_nL, y_nR, y_k1i, y_k1r, y_k1l, y_k1n, y_tl, y_tn, y_s, y_ss, List.getElem?_cons_zero, List.getElem?_cons_succ, List.set_cons_zero, List.set_cons_succ, List.length_cons, List.length_nil, true_and, and_true]
  exact br1 (by first | decide | omega | trivial | simp) (hQ g2 _ (h.go h1 f1 h2 f2 (k_chance h.2.2.1)))
theorem l_duke {g : mzG} {S : sT} {i : Nat} (h : LW g S n sc) (hi : i + 5 ≤ n) (hn : n ≤ 2560) (hQ : ∀ g' S', LW g' S' n sc → wp 0 b 1166 [.ref 1011, .ref 0, .ref 73, .int (nI i)] [] g' Q) : wp 0 b 631 [.ref 1011, .ref 0, .ref 73, .int (nI i)] [] g Q := by
  obtain ⟨x, r, hM, -⟩ := id h.2.1.mM
  simp (disch := omega) only [q_L_law_631, q_L_law_632, q_L_law_633, q_L_law_634, q_L_law_635, q_L_law_636, q_L_law_637, h.1.c0.1, h.2.2.2, y_is, y_gf, y_pf, y_f0, y_f1, y_f3, y_nI, y_nK, y_nZ, y_nL, y_nR, y_k1i, y_k1r, y_k1l, y_k1n, y_tl, y_tn, y_s, y_ss, List.getElem?_cons_zero, List.getElem?_cons_succ, List.set_cons_zero, List.set_cons_succ, List.length_cons, List.length_nil, true_and, and_true, y_lIn, y_lKn, y_lZn, y_lLn, y_wIn, y_wZn, y_wLn, lit, le_n, lt_n, eq_n, nI_add]
  refine c_duke h.1 h.2.2.1 (fun g1 h1 f1 => ?_)
  have hM1 : g1.2 73 = ob 9 [.ref 74, .ref 75, .ref 76, .ref 77, .ref 78, .ref 79, .int (x 0), .int (x 1), .int (x 2), .ref 80, .int (x 3), .ref 81, .int (x 4), .ref 82, .long (r), .ref 83, .ref 84, .int (x 5), .int (x 6), .int (x 7), .int (x 8), .int (x 9), .ref 85, .int (x 10)] := by rw [f1.2 _ (by omega)]; exact hM
  have hs1 : g1.2 1011 = aK n sc := by rw [f1.2 _ (by omega)]; exact h.2.2.2
  simp (disch := omega) only [q_L_law_640, q_L_law_641, q_L_law_642, q_L_law_643, q_L_law_644, q_L_law_645, q_L_law_646, hM1, hs1, y_is, y_gf, y_pf, y_f0, y_f1, y_f3, y_nI, y_nK, y_nZ, y_nL, y_nR, y_k1i, y_k1r, y_k1l, y_k1n, y_tl, y_tn, y_s, y_ss, List.getElem?_cons_zero, List.getElem?_cons_succ, List.set_cons_zero, List.set_cons_succ, List.length_cons, List.length_nil, true_and, and_true, y_lIn, y_lKn, y_lZn, y_lLn, y_wIn, y_wZn, y_wLn, lit, le_n, lt_n, eq_n, nI_add]
  refine m_duke (h.2.1.frm f1 (by omega)) h.2.2.1 (fun g2 h2 f2 => ?_)
  simp only [q_L_law_649, y_is, y_gf, y_pf, y_f0, y_f1, y_f3, y_nI, y_nK, y_nZ, y_nL, y_nR, y_k1i, y_k1r, y_k1l, y_k1n, y_tl, y_tn, y_s, y_ss, List.getElem?_cons_zero, List.getElem?_cons_succ, List.set_cons_zero, List.set_cons_succ, List.length_cons, List.length_nil, true_and, and_true]
  exact br1 (by first | decide | omega | trivial | simp) (hQ g2 _ (h.go h1 f1 h2 f2 (k_duke h.2.2.1)))
theorem l_creak {g : mzG} {S : sT} {i : Nat} (h : LW g S n sc) (hi : i + 5 ≤ n) (hn : n ≤ 2560) (hQ : ∀ g' S', LW g' S' n sc → wp 0 b 1166 [.ref 1011, .ref 0, .ref 73, .int (nI i)] [] g' Q) : wp 0 b 654 [.ref 1011, .ref 0, .ref 73, .int (nI i)] [] g Q := by
  obtain ⟨x, r, hM, -⟩ := id h.2.1.mM
  simp (disch := omega) only [q_L_law_654, q_L_law_655, q_L_law_656, q_L_law_657, q_L_law_658, q_L_law_659, q_L_law_660, q_L_law_661, q_L_law_662, q_L_law_663, q_L_law_664, q_L_law_665, q_L_law_666, q_L_law_667, q_L_law_668, q_L_law_669, q_L_law_670, h.1.c0.1, h.2.2.2, y_is, y_gf, y_pf, y_f0, y_f1, y_f3, y_nI, y_nK, y_nZ, y_nL, y_nR, y_k1i, y_k1r, y_k1l, y_k1n, y_tl, y_tn, y_s, y_ss, List.getElem?_cons_zero, List.getElem?_cons_succ, List.set_cons_zero, List.set_cons_succ, List.length_cons, List.length_nil, true_and, and_true, y_lIn, y_lKn, y_lZn, y_lLn, y_wIn, y_wZn, y_wLn, lit, le_n, lt_n, eq_n, nI_add]
  refine c_creak h.1 h.2.2.1 (fun g1 h1 f1 => ?_)
  have hM1 : g1.2 73 = ob 9 [.ref 74, .ref 75, .ref 76, .ref 77, .ref 78, .ref 79, .int (x 0), .int (x 1), .int (x 2), .ref 80, .int (x 3), .ref 81, .int (x 4), .ref 82, .long (r), .ref 83, .ref 84, .int (x 5), .int (x 6), .int (x 7), .int (x 8), .int (x 9), .ref 85, .int (x 10)] := by rw [f1.2 _ (by omega)]; exact hM
  have hs1 : g1.2 1011 = aK n sc := by rw [f1.2 _ (by omega)]; exact h.2.2.2
  simp (disch := omega) only [q_L_law_673, q_L_law_674, q_L_law_675, q_L_law_676, q_L_law_677, q_L_law_678, q_L_law_679, q_L_law_680, q_L_law_681, q_L_law_682, q_L_law_683, q_L_law_684, q_L_law_685, q_L_law_686, q_L_law_687, q_L_law_688, q_L_law_689, hM1, hs1, y_is, y_gf, y_pf, y_f0, y_f1, y_f3, y_nI, y_nK, y_nZ, y_nL, y_nR, y_k1i, y_k1r, y_k1l, y_k1n, y_tl, y_tn, y_s, y_ss, List.getElem?_cons_zero, List.getElem?_cons_succ, List.set_cons_zero, List.set_cons_succ, List.length_cons, List.length_nil, true_and, and_true, y_lIn, y_lKn, y_lZn, y_lLn, y_wIn, y_wZn, y_wLn, lit, le_n, lt_n, eq_n, nI_add]
  refine m_creak (h.2.1.frm f1 (by omega)) h.2.2.1 (fun g2 h2 f2 => ?_)
  simp only [q_L_law_692, y_is, y_gf, y_pf, y_f0, y_f1, y_f3, y_nI, y_nK, y_nZ, y_nL, y_nR, y_k1i, y_k1r, y_k1l, y_k1n, y_tl, y_tn, y_s, y_ss, List.getElem?_cons_zero, List.getElem?_cons_succ, List.set_cons_zero, List.set_cons_succ, List.length_cons, List.length_nil, true_and, and_true]
  exact br1 (by first | decide | omega | trivial | simp) (hQ g2 _ (h.go h1 f1 h2 f2 (k_creak h.2.2.1)))
theorem l_nights {g : mzG} {S : sT} {i : Nat} (h : LW g S n sc) (hi : i + 5 ≤ n) (hn : n ≤ 2560) (hQ : ∀ g' S', LW g' S' n sc → wp 0 b 1166 [.ref 1011, .ref 0, .ref 73, .int (nI i)] [] g' Q) : wp 0 b 697 [.ref 1011, .ref 0, .ref 73, .int (nI i)] [] g Q := by
  obtain ⟨x, r, hM, -⟩ := id h.2.1.mM
  simp (disch := omega) only [q_L_law_697, q_L_law_698, h.1.c0.1, h.2.2.2, y_is, y_gf, y_pf, y_f0, y_f1, y_f3, y_nI, y_nK, y_nZ, y_nL, y_nR, y_k1i, y_k1r, y_k1l, y_k1n, y_tl, y_tn, y_s, y_ss, List.getElem?_cons_zero, List.getElem?_cons_succ, List.set_cons_zero, List.set_cons_succ, List.length_cons, List.length_nil, true_and, and_true, y_lIn, y_lKn, y_lZn, y_lLn, y_wIn, y_wZn, y_wLn, lit, le_n, lt_n, eq_n, nI_add]
  refine c_nights h.1 h.2.2.1 (fun g1 h1 f1 => ?_)
  have hM1 : g1.2 73 = ob 9 [.ref 74, .ref 75, .ref 76, .ref 77, .ref 78, .ref 79, .int (x 0), .int (x 1), .int (x 2), .ref 80, .int (x 3), .ref 81, .int (x 4), .ref 82, .long (r), .ref 83, .ref 84, .int (x 5), .int (x 6), .int (x 7), .int (x 8), .int (x 9), .ref 85, .int (x 10)] := by rw [f1.2 _ (by omega)]; exact hM
  have hs1 : g1.2 1011 = aK n sc := by rw [f1.2 _ (by omega)]; exact h.2.2.2
  simp (disch := omega) only [q_L_law_701, q_L_law_702, hM1, hs1, y_is, y_gf, y_pf, y_f0, y_f1, y_f3, y_nI, y_nK, y_nZ, y_nL, y_nR, y_k1i, y_k1r, y_k1l, y_k1n, y_tl, y_tn, y_s, y_ss, List.getElem?_cons_zero, List.getElem?_cons_succ, List.set_cons_zero, List.set_cons_succ, List.length_cons, List.length_nil, true_and, and_true, y_lIn, y_lKn, y_lZn, y_lLn, y_wIn, y_wZn, y_wLn, lit, le_n, lt_n, eq_n, nI_add]
  refine m_nights (h.2.1.frm f1 (by omega)) h.2.2.1 (fun g2 h2 f2 => ?_)
  simp only [q_L_law_705, q_L_law_706, y_is, y_gf, y_pf, y_f0, y_f1, y_f3, y_nI, y_nK, y_nZ, y_nL, y_nR, y_k1i, y_k1r, y_k1l, y_k1n, y_tl, y_tn, y_s, y_ss, List.getElem?_cons_zero, List.getElem?_cons_succ, List.set_cons_zero, List.set_cons_succ, List.length_cons, List.length_nil, true_and, and_true, lcq]
  exact br1 (by first | decide | omega | trivial | simp) (hQ g2 _ (h.go h1 f1 h2 f2 (k_nights h.2.2.1)))
theorem l_night {g : mzG} {S : sT} {i : Nat} (h : LW g S n sc) (hi : i + 5 ≤ n) (hn : n ≤ 2560) (hQ : ∀ g' S', LW g' S' n sc → wp 0 b 1166 [.ref 1011, .ref 0, .ref 73, .int (nI i)] [] g' Q) : wp 0 b 711 [.ref 1011, .ref 0, .ref 73, .int (nI i)] [] g Q := by
  obtain ⟨x, r, hM, -⟩ := id h.2.1.mM
  simp (disch := omega) only [q_L_law_711, q_L_law_712, q_L_law_713, q_L_law_714, q_L_law_715, q_L_law_716, q_L_law_717, q_L_law_718, q_L_law_720, q_L_law_721, q_L_law_722, q_L_law_723, q_L_law_724, q_L_law_725, q_L_law_726, q_L_law_727, q_L_law_730, q_L_law_731, q_L_law_732, q_L_law_733, q_L_law_734, q_L_law_735, q_L_law_736, q_L_law_737, h.1.c0.1, h.2.2.2, y_is, y_gf, y_pf, y_f0, y_f1, y_f3, y_nI, y_nK, y_nZ, y_nL, y_nR, y_k1i, y_k1r, y_k1l, y_k1n, y_tl, y_tn, y_s, y_ss, List.getElem?_cons_zero, List.getElem?_cons_succ, List.set_cons_zero, List.set_cons_succ, List.length_cons, List.length_nil, true_and, and_true, y_lIn, y_lKn, y_lZn, y_lLn, y_wIn, y_wZn, y_wLn, lit, le_n, lt_n, eq_n, nI_add]
  refine c_night h.1 h.2.2.1 (fun g1 h1 f1 => ?_)
  have hM1 : g1.2 73 = ob 9 [.ref 74, .ref 75, .ref 76, .ref 77, .ref 78, .ref 79, .int (x 0), .int (x 1), .int (x 2), .ref 80, .int (x 3), .ref 81, .int (x 4), .ref 82, .long (r), .ref 83, .ref 84, .int (x 5), .int (x 6), .int (x 7), .int (x 8), .int (x 9), .ref 85, .int (x 10)] := by rw [f1.2 _ (by omega)]; exact hM
  have hs1 : g1.2 1011 = aK n sc := by rw [f1.2 _ (by omega)]; exact h.2.2.2
  simp (disch := omega) only [q_L_law_740, q_L_law_741, q_L_law_742, q_L_law_743, q_L_law_744, q_L_law_745, q_L_law_746, q_L_law_747, q_L_law_749, q_L_law_750, q_L_law_751, q_L_law_752, q_L_law_753, q_L_law_754, q_L_law_755, q_L_law_756, q_L_law_759, q_L_law_760, q_L_law_761, q_L_law_762, q_L_law_763, q_L_law_764, q_L_law_765, q_L_law_766, hM1, hs1, y_is, y_gf, y_pf, y_f0, y_f1, y_f3, y_nI, y_nK, y_nZ, y_nL, y_nR, y_k1i, y_k1r, y_k1l, y_k1n, y_tl, y_tn, y_s, y_ss, List.getElem?_cons_zero, List.getElem?_cons_succ, List.set_cons_zero, List.set_cons_succ, List.length_cons, List.length_nil, true_and, and_true, y_lIn, y_lKn, y_lZn, y_lLn, y_wIn, y_wZn, y_wLn, lit, le_n, lt_n, eq_n, nI_add]
  refine m_night (h.2.1.frm f1 (by omega)) h.2.2.1 (fun g2 h2 f2 => ?_)
  simp only [q_L_law_769, y_is, y_gf, y_pf, y_f0, y_f1, y_f3, y_nI, y_nK, y_nZ, y_nL, y_nR, y_k1i, y_k1r, y_k1l, y_k1n, y_tl, y_tn, y_s, y_ss, List.getElem?_cons_zero, List.getElem?_cons_succ, List.set_cons_zero, List.set_cons_succ, List.length_cons, List.length_nil, true_and, and_true]
  exact br1 (by first | decide | omega | trivial | simp) (hQ g2 _ (h.go h1 f1 h2 f2 (k_night h.2.2.1)))
theorem l_tell {g : mzG} {S : sT} {i : Nat} (h : LW g S n sc) (hi : i + 5 ≤ n) (hn : n ≤ 2560) (hQ : ∀ g' S', LW g' S' n sc → wp 0 b 1166 [.ref 1011, .ref 0, .ref 73, .int (nI i)] [] g' Q) : wp 0 b 774 [.ref 1011, .ref 0, .ref 73, .int (nI i)] [] g Q := by
  obtain ⟨x, r, hM, -⟩ := id h.2.1.mM
  simp (disch := omega) only [q_L_law_774, q_L_law_775, q_L_law_776, q_L_law_777, q_L_law_778, q_L_law_779, q_L_law_780, h.1.c0.1, h.2.2.2, y_is, y_gf, y_pf, y_f0, y_f1, y_f3, y_nI, y_nK, y_nZ, y_nL, y_nR, y_k1i, y_k1r, y_k1l, y_k1n, y_tl, y_tn, y_s, y_ss, List.getElem?_cons_zero, List.getElem?_cons_succ, List.set_cons_zero, List.set_cons_succ, List.length_cons, List.length_nil, true_and, and_true, y_lIn, y_lKn, y_lZn, y_lLn, y_wIn, y_wZn, y_wLn, lit, le_n, lt_n, eq_n, nI_add]
  refine c_tell h.1 h.2.2.1 (fun g1 h1 f1 => ?_)
  have hM1 : g1.2 73 = ob 9 [.ref 74, .ref 75, .ref 76, .ref 77, .ref 78, .ref 79, .int (x 0), .int (x 1), .int (x 2), .ref 80, .int (x 3), .ref 81, .int (x 4), .ref 82, .long (r), .ref 83, .ref 84, .int (x 5), .int (x 6), .int (x 7), .int (x 8), .int (x 9), .ref 85, .int (x 10)] := by rw [f1.2 _ (by omega)]; exact hM
  have hs1 : g1.2 1011 = aK n sc := by rw [f1.2 _ (by omega)]; exact h.2.2.2
  simp (disch := omega) only [q_L_law_783, q_L_law_784, q_L_law_785, q_L_law_786, q_L_law_787, q_L_law_788, q_L_law_789, hM1, hs1, y_is, y_gf, y_pf, y_f0, y_f1, y_f3, y_nI, y_nK, y_nZ, y_nL, y_nR, y_k1i, y_k1r, y_k1l, y_k1n, y_tl, y_tn, y_s, y_ss, List.getElem?_cons_zero, List.getElem?_cons_succ, List.set_cons_zero, List.set_cons_succ, List.length_cons, List.length_nil, true_and, and_true, y_lIn, y_lKn, y_lZn, y_lLn, y_wIn, y_wZn, y_wLn, lit, le_n, lt_n, eq_n, nI_add]
  refine m_tell (h.2.1.frm f1 (by omega)) h.2.2.1 (fun g2 h2 f2 => ?_)
  simp only [q_L_law_792, y_is, y_gf, y_pf, y_f0, y_f1, y_f3, y_nI, y_nK, y_nZ, y_nL, y_nR, y_k1i, y_k1r, y_k1l, y_k1n, y_tl, y_tn, y_s, y_ss, List.getElem?_cons_zero, List.getElem?_cons_succ, List.set_cons_zero, List.set_cons_succ, List.length_cons, List.length_nil, true_and, and_true]
  exact br1 (by first | decide | omega | trivial | simp) (hQ g2 _ (h.go h1 f1 h2 f2 (k_tell h.2.2.1)))
theorem l_forget {g : mzG} {S : sT} {i : Nat} (h : LW g S n sc) (hi : i + 5 ≤ n) (hn : n ≤ 2560) (hQ : ∀ g' S', LW g' S' n sc → wp 0 b 1166 [.ref 1011, .ref 0, .ref 73, .int (nI i)] [] g' Q) : wp 0 b 797 [.ref 1011, .ref 0, .ref 73, .int (nI i)] [] g Q := by
  obtain ⟨x, r, hM, -⟩ := id h.2.1.mM
  simp (disch := omega) only [q_L_law_797, q_L_law_798, h.1.c0.1, h.2.2.2, y_is, y_gf, y_pf, y_f0, y_f1, y_f3, y_nI, y_nK, y_nZ, y_nL, y_nR, y_k1i, y_k1r, y_k1l, y_k1n, y_tl, y_tn, y_s, y_ss, List.getElem?_cons_zero, List.getElem?_cons_succ, List.set_cons_zero, List.set_cons_succ, List.length_cons, List.length_nil, true_and, and_true, y_lIn, y_lKn, y_lZn, y_lLn, y_wIn, y_wZn, y_wLn, lit, le_n, lt_n, eq_n, nI_add]
  refine c_forget h.1 (fun g1 h1 f1 => ?_)
  have hM1 : g1.2 73 = ob 9 [.ref 74, .ref 75, .ref 76, .ref 77, .ref 78, .ref 79, .int (x 0), .int (x 1), .int (x 2), .ref 80, .int (x 3), .ref 81, .int (x 4), .ref 82, .long (r), .ref 83, .ref 84, .int (x 5), .int (x 6), .int (x 7), .int (x 8), .int (x 9), .ref 85, .int (x 10)] := by rw [f1.2 _ (by omega)]; exact hM
  have hs1 : g1.2 1011 = aK n sc := by rw [f1.2 _ (by omega)]; exact h.2.2.2
  simp (disch := omega) only [q_L_law_801, q_L_law_802, hM1, hs1, y_is, y_gf, y_pf, y_f0, y_f1, y_f3, y_nI, y_nK, y_nZ, y_nL, y_nR, y_k1i, y_k1r, y_k1l, y_k1n, y_tl, y_tn, y_s, y_ss, List.getElem?_cons_zero, List.getElem?_cons_succ, List.set_cons_zero, List.set_cons_succ, List.length_cons, List.length_nil, true_and, and_true, y_lIn, y_lKn, y_lZn, y_lLn, y_wIn, y_wZn, y_wLn, lit, le_n, lt_n, eq_n, nI_add]
  refine m_forget (h.2.1.frm f1 (by omega)) (fun g2 h2 f2 => ?_)
  simp only [q_L_law_805, y_is, y_gf, y_pf, y_f0, y_f1, y_f3, y_nI, y_nK, y_nZ, y_nL, y_nR, y_k1i, y_k1r, y_k1l, y_k1n, y_tl, y_tn, y_s, y_ss, List.getElem?_cons_zero, List.getElem?_cons_succ, List.set_cons_zero, List.set_cons_succ, List.length_cons, List.length_nil, true_and, and_true]
  exact br1 (by first | decide | omega | trivial | simp) (hQ g2 _ (h.go h1 f1 h2 f2 (k_forget h.2.2.1)))
theorem l_judge {g : mzG} {S : sT} {i : Nat} (h : LW g S n sc) (hi : i + 5 ≤ n) (hn : n ≤ 2560) (hQ : ∀ g' S', LW g' S' n sc → wp 0 b 1166 [.ref 1011, .ref 0, .ref 73, .int (nI i)] [] g' Q) : wp 0 b 810 [.ref 1011, .ref 0, .ref 73, .int (nI i)] [] g Q := by
  obtain ⟨x, r, hM, -⟩ := id h.2.1.mM
  simp (disch := omega) only [q_L_law_810, q_L_law_811, h.1.c0.1, h.2.2.2, y_is, y_gf, y_pf, y_f0, y_f1, y_f3, y_nI, y_nK, y_nZ, y_nL, y_nR, y_k1i, y_k1r, y_k1l, y_k1n, y_tl, y_tn, y_s, y_ss, List.getElem?_cons_zero, List.getElem?_cons_succ, List.set_cons_zero, List.set_cons_succ, List.length_cons, List.length_nil, true_and, and_true, y_lIn, y_lKn, y_lZn, y_lLn, y_wIn, y_wZn, y_wLn, lit, le_n, lt_n, eq_n, nI_add]
  refine c_judge h.1 h.2.2.1 (fun g1 h1 f1 => ?_)
  have hM1 : g1.2 73 = ob 9 [.ref 74, .ref 75, .ref 76, .ref 77, .ref 78, .ref 79, .int (x 0), .int (x 1), .int (x 2), .ref 80, .int (x 3), .ref 81, .int (x 4), .ref 82, .long (r), .ref 83, .ref 84, .int (x 5), .int (x 6), .int (x 7), .int (x 8), .int (x 9), .ref 85, .int (x 10)] := by rw [f1.2 _ (by omega)]; exact hM
  have hs1 : g1.2 1011 = aK n sc := by rw [f1.2 _ (by omega)]; exact h.2.2.2
  simp (disch := omega) only [q_L_law_814, q_L_law_815, hM1, hs1, y_is, y_gf, y_pf, y_f0, y_f1, y_f3, y_nI, y_nK, y_nZ, y_nL, y_nR, y_k1i, y_k1r, y_k1l, y_k1n, y_tl, y_tn, y_s, y_ss, List.getElem?_cons_zero, List.getElem?_cons_succ, List.set_cons_zero, List.set_cons_succ, List.length_cons, List.length_nil, true_and, and_true, y_lIn, y_lKn, y_lZn, y_lLn, y_wIn, y_wZn, y_wLn, lit, le_n, lt_n, eq_n, nI_add]
  refine m_judge (h.2.1.frm f1 (by omega)) h.2.2.1 (fun g2 h2 f2 => ?_)
  simp only [q_L_law_818, y_is, y_gf, y_pf, y_f0, y_f1, y_f3, y_nI, y_nK, y_nZ, y_nL, y_nR, y_k1i, y_k1r, y_k1l, y_k1n, y_tl, y_tn, y_s, y_ss, List.getElem?_cons_zero, List.getElem?_cons_succ, List.set_cons_zero, List.set_cons_succ, List.length_cons, List.length_nil, true_and, and_true]
  exact br1 (by first | decide | omega | trivial | simp) (hQ g2 _ (h.go h1 f1 h2 f2 (k_judge h.2.2.1)))
theorem l_sight {g : mzG} {S : sT} {i : Nat} (h : LW g S n sc) (hi : i + 5 ≤ n) (hn : n ≤ 2560) (hQ : ∀ g' S', LW g' S' n sc → wp 0 b 1166 [.ref 1011, .ref 0, .ref 73, .int (nI i)] [] g' Q) : wp 0 b 823 [.ref 1011, .ref 0, .ref 73, .int (nI i)] [] g Q := by
  obtain ⟨x, r, hM, -⟩ := id h.2.1.mM
  simp (disch := omega) only [q_L_law_823, q_L_law_824, q_L_law_825, q_L_law_826, q_L_law_827, q_L_law_828, q_L_law_829, q_L_law_830, q_L_law_831, q_L_law_832, q_L_law_833, q_L_law_834, q_L_law_835, q_L_law_836, q_L_law_837, q_L_law_838, q_L_law_839, h.1.c0.1, h.2.2.2, y_is, y_gf, y_pf, y_f0, y_f1, y_f3, y_nI, y_nK, y_nZ, y_nL, y_nR, y_k1i, y_k1r, y_k1l, y_k1n, y_tl, y_tn, y_s, y_ss, List.getElem?_cons_zero, List.getElem?_cons_succ, List.set_cons_zero, List.set_cons_succ, List.length_cons, List.length_nil, true_and, and_true, y_lIn, y_lKn, y_lZn, y_lLn, y_wIn, y_wZn, y_wLn, lit, le_n, lt_n, eq_n, nI_add]
  refine c_sight h.1 h.2.2.1 (fun g1 h1 f1 => ?_)
  have hM1 : g1.2 73 = ob 9 [.ref 74, .ref 75, .ref 76, .ref 77, .ref 78, .ref 79, .int (x 0), .int (x 1), .int (x 2), .ref 80, .int (x 3), .ref 81, .int (x 4), .ref 82, .long (r), .ref 83, .ref 84, .int (x 5), .int (x 6), .int (x 7), .int (x 8), .int (x 9), .ref 85, .int (x 10)] := by rw [f1.2 _ (by omega)]; exact hM
  have hs1 : g1.2 1011 = aK n sc := by rw [f1.2 _ (by omega)]; exact h.2.2.2
  simp (disch := omega) only [q_L_law_842, q_L_law_843, q_L_law_844, q_L_law_845, q_L_law_846, q_L_law_847, q_L_law_848, q_L_law_849, q_L_law_850, q_L_law_851, q_L_law_852, q_L_law_853, q_L_law_854, q_L_law_855, q_L_law_856, q_L_law_857, q_L_law_858, hM1, hs1, y_is, y_gf, y_pf, y_f0, y_f1, y_f3, y_nI, y_nK, y_nZ, y_nL, y_nR, y_k1i, y_k1r, y_k1l, y_k1n, y_tl, y_tn, y_s, y_ss, List.getElem?_cons_zero, List.getElem?_cons_succ, List.set_cons_zero, List.set_cons_succ, List.length_cons, List.length_nil, true_and, and_true, y_lIn, y_lKn, y_lZn, y_lLn, y_wIn, y_wZn, y_wLn, lit, le_n, lt_n, eq_n, nI_add]
  refine m_sight (h.2.1.frm f1 (by omega)) h.2.2.1 (fun g2 h2 f2 => ?_)
  simp only [q_L_law_861, y_is, y_gf, y_pf, y_f0, y_f1, y_f3, y_nI, y_nK, y_nZ, y_nL, y_nR, y_k1i, y_k1r, y_k1l, y_k1n, y_tl, y_tn, y_s, y_ss, List.getElem?_cons_zero, List.getElem?_cons_succ, List.set_cons_zero, List.set_cons_succ, List.length_cons, List.length_nil, true_and, and_true]
  exact br1 (by first | decide | omega | trivial | simp) (hQ g2 _ (h.go h1 f1 h2 f2 (k_sight h.2.2.1)))
theorem l_blind {g : mzG} {S : sT} {i : Nat} (h : LW g S n sc) (hi : i + 5 ≤ n) (hn : n ≤ 2560) (hQ : ∀ g' S', LW g' S' n sc → wp 0 b 1166 [.ref 1011, .ref 0, .ref 73, .int (nI i)] [] g' Q) : wp 0 b 866 [.ref 1011, .ref 0, .ref 73, .int (nI i)] [] g Q := by
  obtain ⟨x, r, hM, -⟩ := id h.2.1.mM
  simp (disch := omega) only [q_L_law_866, q_L_law_867, h.1.c0.1, h.2.2.2, y_is, y_gf, y_pf, y_f0, y_f1, y_f3, y_nI, y_nK, y_nZ, y_nL, y_nR, y_k1i, y_k1r, y_k1l, y_k1n, y_tl, y_tn, y_s, y_ss, List.getElem?_cons_zero, List.getElem?_cons_succ, List.set_cons_zero, List.set_cons_succ, List.length_cons, List.length_nil, true_and, and_true, y_lIn, y_lKn, y_lZn, y_lLn, y_wIn, y_wZn, y_wLn, lit, le_n, lt_n, eq_n, nI_add]
  refine c_blind h.1 (fun g1 h1 f1 => ?_)
  have hM1 : g1.2 73 = ob 9 [.ref 74, .ref 75, .ref 76, .ref 77, .ref 78, .ref 79, .int (x 0), .int (x 1), .int (x 2), .ref 80, .int (x 3), .ref 81, .int (x 4), .ref 82, .long (r), .ref 83, .ref 84, .int (x 5), .int (x 6), .int (x 7), .int (x 8), .int (x 9), .ref 85, .int (x 10)] := by rw [f1.2 _ (by omega)]; exact hM
  have hs1 : g1.2 1011 = aK n sc := by rw [f1.2 _ (by omega)]; exact h.2.2.2
  simp (disch := omega) only [q_L_law_870, q_L_law_871, hM1, hs1, y_is, y_gf, y_pf, y_f0, y_f1, y_f3, y_nI, y_nK, y_nZ, y_nL, y_nR, y_k1i, y_k1r, y_k1l, y_k1n, y_tl, y_tn, y_s, y_ss, List.getElem?_cons_zero, List.getElem?_cons_succ, List.set_cons_zero, List.set_cons_succ, List.length_cons, List.length_nil, true_and, and_true, y_lIn, y_lKn, y_lZn, y_lLn, y_wIn, y_wZn, y_wLn, lit, le_n, lt_n, eq_n, nI_add]
  refine m_blind (h.2.1.frm f1 (by omega)) (fun g2 h2 f2 => ?_)
  simp only [q_L_law_874, y_is, y_gf, y_pf, y_f0, y_f1, y_f3, y_nI, y_nK, y_nZ, y_nL, y_nR, y_k1i, y_k1r, y_k1l, y_k1n, y_tl, y_tn, y_s, y_ss, List.getElem?_cons_zero, List.getElem?_cons_succ, List.set_cons_zero, List.set_cons_succ, List.length_cons, List.length_nil, true_and, and_true]
  exact br1 (by first | decide | omega | trivial | simp) (hQ g2 _ (h.go h1 f1 h2 f2 (k_blind h.2.2.1)))
theorem l_rounds {g : mzG} {S : sT} {i : Nat} (h : LW g S n sc) (hi : i + 5 ≤ n) (hn : n ≤ 2560) (hQ : ∀ g' S', LW g' S' n sc → wp 0 b 1166 [.ref 1011, .ref 0, .ref 73, .int (nI i)] [] g' Q) : wp 0 b 879 [.ref 1011, .ref 0, .ref 73, .int (nI i)] [] g Q := by
  obtain ⟨x, r, hM, -⟩ := id h.2.1.mM
  simp (disch := omega) only [q_L_law_879, q_L_law_880, q_L_law_881, q_L_law_882, q_L_law_883, q_L_law_884, q_L_law_885, h.1.c0.1, h.2.2.2, y_is, y_gf, y_pf, y_f0, y_f1, y_f3, y_nI, y_nK, y_nZ, y_nL, y_nR, y_k1i, y_k1r, y_k1l, y_k1n, y_tl, y_tn, y_s, y_ss, List.getElem?_cons_zero, List.getElem?_cons_succ, List.set_cons_zero, List.set_cons_succ, List.length_cons, List.length_nil, true_and, and_true, y_lIn, y_lKn, y_lZn, y_lLn, y_wIn, y_wZn, y_wLn, lit, le_n, lt_n, eq_n, nI_add]
  refine c_rounds h.1 h.2.2.1 (fun g1 h1 f1 => ?_)
  have hM1 : g1.2 73 = ob 9 [.ref 74, .ref 75, .ref 76, .ref 77, .ref 78, .ref 79, .int (x 0), .int (x 1), .int (x 2), .ref 80, .int (x 3), .ref 81, .int (x 4), .ref 82, .long (r), .ref 83, .ref 84, .int (x 5), .int (x 6), .int (x 7), .int (x 8), .int (x 9), .ref 85, .int (x 10)] := by rw [f1.2 _ (by omega)]; exact hM
  have hs1 : g1.2 1011 = aK n sc := by rw [f1.2 _ (by omega)]; exact h.2.2.2
  simp (disch := omega) only [q_L_law_888, q_L_law_889, q_L_law_890, q_L_law_891, q_L_law_892, q_L_law_893, q_L_law_894, hM1, hs1, y_is, y_gf, y_pf, y_f0, y_f1, y_f3, y_nI, y_nK, y_nZ, y_nL, y_nR, y_k1i, y_k1r, y_k1l, y_k1n, y_tl, y_tn, y_s, y_ss, List.getElem?_cons_zero, List.getElem?_cons_succ, List.set_cons_zero, List.set_cons_succ, List.length_cons, List.length_nil, true_and, and_true, y_lIn, y_lKn, y_lZn, y_lLn, y_wIn, y_wZn, y_wLn, lit, le_n, lt_n, eq_n, nI_add]
  refine m_rounds (h.2.1.frm f1 (by omega)) h.2.2.1 (fun g2 h2 f2 => ?_)
  simp only [q_L_law_897, y_is, y_gf, y_pf, y_f0, y_f1, y_f3, y_nI, y_nK, y_nZ, y_nL, y_nR, y_k1i, y_k1r, y_k1l, y_k1n, y_tl, y_tn, y_s, y_ss, List.getElem?_cons_zero, List.getElem?_cons_succ, List.set_cons_zero, List.set_cons_succ, List.length_cons, List.length_nil, true_and, and_true]
  exact br1 (by first | decide | omega | trivial | simp) (hQ g2 _ (h.go h1 f1 h2 f2 (k_rounds h.2.2.1)))
theorem l_soon {g : mzG} {S : sT} {i : Nat} (h : LW g S n sc) (hi : i + 5 ≤ n) (hn : n ≤ 2560) (hQ : ∀ g' S', LW g' S' n sc → wp 0 b 1166 [.ref 1011, .ref 0, .ref 73, .int (nI i)] [] g' Q) : wp 0 b 902 [.ref 1011, .ref 0, .ref 73, .int (nI i)] [] g Q := by
  obtain ⟨x, r, hM, -⟩ := id h.2.1.mM
  simp (disch := omega) only [q_L_law_902, q_L_law_903, q_L_law_904, q_L_law_905, q_L_law_906, q_L_law_907, q_L_law_908, h.1.c0.1, h.2.2.2, y_is, y_gf, y_pf, y_f0, y_f1, y_f3, y_nI, y_nK, y_nZ, y_nL, y_nR, y_k1i, y_k1r, y_k1l, y_k1n, y_tl, y_tn, y_s, y_ss, List.getElem?_cons_zero, List.getElem?_cons_succ, List.set_cons_zero, List.set_cons_succ, List.length_cons, List.length_nil, true_and, and_true, y_lIn, y_lKn, y_lZn, y_lLn, y_wIn, y_wZn, y_wLn, lit, le_n, lt_n, eq_n, nI_add]
  refine c_soon h.1 h.2.2.1 (fun g1 h1 f1 => ?_)
  have hM1 : g1.2 73 = ob 9 [.ref 74, .ref 75, .ref 76, .ref 77, .ref 78, .ref 79, .int (x 0), .int (x 1), .int (x 2), .ref 80, .int (x 3), .ref 81, .int (x 4), .ref 82, .long (r), .ref 83, .ref 84, .int (x 5), .int (x 6), .int (x 7), .int (x 8), .int (x 9), .ref 85, .int (x 10)] := by rw [f1.2 _ (by omega)]; exact hM
  have hs1 : g1.2 1011 = aK n sc := by rw [f1.2 _ (by omega)]; exact h.2.2.2
  simp (disch := omega) only [q_L_law_911, q_L_law_912, q_L_law_913, q_L_law_914, q_L_law_915, q_L_law_916, q_L_law_917, hM1, hs1, y_is, y_gf, y_pf, y_f0, y_f1, y_f3, y_nI, y_nK, y_nZ, y_nL, y_nR, y_k1i, y_k1r, y_k1l, y_k1n, y_tl, y_tn, y_s, y_ss, List.getElem?_cons_zero, List.getElem?_cons_succ, List.set_cons_zero, List.set_cons_succ, List.length_cons, List.length_nil, true_and, and_true, y_lIn, y_lKn, y_lZn, y_lLn, y_wIn, y_wZn, y_wLn, lit, le_n, lt_n, eq_n, nI_add]
  refine m_soon (h.2.1.frm f1 (by omega)) h.2.2.1 (fun g2 h2 f2 => ?_)
  simp only [q_L_law_920, y_is, y_gf, y_pf, y_f0, y_f1, y_f3, y_nI, y_nK, y_nZ, y_nL, y_nR, y_k1i, y_k1r, y_k1l, y_k1n, y_tl, y_tn, y_s, y_ss, List.getElem?_cons_zero, List.getElem?_cons_succ, List.set_cons_zero, List.set_cons_succ, List.length_cons, List.length_nil, true_and, and_true]
  exact br1 (by first | decide | omega | trivial | simp) (hQ g2 _ (h.go h1 f1 h2 f2 (k_soon h.2.2.1)))
theorem l_thefts {g : mzG} {S : sT} {i : Nat} (h : LW g S n sc) (hi : i + 5 ≤ n) (hn : n ≤ 2560) (hQ : ∀ g' S', LW g' S' n sc → wp 0 b 1166 [.ref 1011, .ref 0, .ref 73, .int (nI i)] [] g' Q) : wp 0 b 925 [.ref 1011, .ref 0, .ref 73, .int (nI i)] [] g Q := by
  obtain ⟨x, r, hM, -⟩ := id h.2.1.mM
  simp (disch := omega) only [q_L_law_925, q_L_law_926, q_L_law_927, q_L_law_928, q_L_law_929, q_L_law_930, q_L_law_931, q_L_law_932, q_L_law_933, q_L_law_934, q_L_law_935, q_L_law_936, q_L_law_937, q_L_law_938, q_L_law_939, q_L_law_940, q_L_law_941, h.1.c0.1, h.2.2.2, y_is, y_gf, y_pf, y_f0, y_f1, y_f3, y_nI, y_nK, y_nZ, y_nL, y_nR, y_k1i, y_k1r, y_k1l, y_k1n, y_tl, y_tn, y_s, y_ss, List.getElem?_cons_zero, List.getElem?_cons_succ, List.set_cons_zero, List.set_cons_succ, List.length_cons, List.length_nil, true_and, and_true, y_lIn, y_lKn, y_lZn, y_lLn, y_wIn, y_wZn, y_wLn, lit, le_n, lt_n, eq_n, nI_add]
  refine c_thefts h.1 h.2.2.1 (fun g1 h1 f1 => ?_)
  have hM1 : g1.2 73 = ob 9 [.ref 74, .ref 75, .ref 76, .ref 77, .ref 78, .ref 79, .int (x 0), .int (x 1), .int (x 2), .ref 80, .int (x 3), .ref 81, .int (x 4), .ref 82, .long (r), .ref 83, .ref 84, .int (x 5), .int (x 6), .int (x 7), .int (x 8), .int (x 9), .ref 85, .int (x 10)] := by rw [f1.2 _ (by omega)]; exact hM
  have hs1 : g1.2 1011 = aK n sc := by rw [f1.2 _ (by omega)]; exact h.2.2.2
  simp (disch := omega) only [q_L_law_944, q_L_law_945, q_L_law_946, q_L_law_947, q_L_law_948, q_L_law_949, q_L_law_950, q_L_law_951, q_L_law_952, q_L_law_953, q_L_law_954, q_L_law_955, q_L_law_956, q_L_law_957, q_L_law_958, q_L_law_959, q_L_law_960, hM1, hs1, y_is, y_gf, y_pf, y_f0, y_f1, y_f3, y_nI, y_nK, y_nZ, y_nL, y_nR, y_k1i, y_k1r, y_k1l, y_k1n, y_tl, y_tn, y_s, y_ss, List.getElem?_cons_zero, List.getElem?_cons_succ, List.set_cons_zero, List.set_cons_succ, List.length_cons, List.length_nil, true_and, and_true, y_lIn, y_lKn, y_lZn, y_lLn, y_wIn, y_wZn, y_wLn, lit, le_n, lt_n, eq_n, nI_add]
  refine m_thefts (h.2.1.frm f1 (by omega)) h.2.2.1 (fun g2 h2 f2 => ?_)
  simp only [q_L_law_963, y_is, y_gf, y_pf, y_f0, y_f1, y_f3, y_nI, y_nK, y_nZ, y_nL, y_nR, y_k1i, y_k1r, y_k1l, y_k1n, y_tl, y_tn, y_s, y_ss, List.getElem?_cons_zero, List.getElem?_cons_succ, List.set_cons_zero, List.set_cons_succ, List.length_cons, List.length_nil, true_and, and_true]
  exact br1 (by first | decide | omega | trivial | simp) (hQ g2 _ (h.go h1 f1 h2 f2 (k_thefts h.2.2.1)))
theorem l_doubt {g : mzG} {S : sT} {i : Nat} (h : LW g S n sc) (hi : i + 5 ≤ n) (hn : n ≤ 2560) (hQ : ∀ g' S', LW g' S' n sc → wp 0 b 1166 [.ref 1011, .ref 0, .ref 73, .int (nI i)] [] g' Q) : wp 0 b 968 [.ref 1011, .ref 0, .ref 73, .int (nI i)] [] g Q := by
  obtain ⟨x, r, hM, -⟩ := id h.2.1.mM
  simp (disch := omega) only [q_L_law_968, q_L_law_969, q_L_law_970, q_L_law_971, q_L_law_972, q_L_law_973, q_L_law_974, h.1.c0.1, h.2.2.2, y_is, y_gf, y_pf, y_f0, y_f1, y_f3, y_nI, y_nK, y_nZ, y_nL, y_nR, y_k1i, y_k1r, y_k1l, y_k1n, y_tl, y_tn, y_s, y_ss, List.getElem?_cons_zero, List.getElem?_cons_succ, List.set_cons_zero, List.set_cons_succ, List.length_cons, List.length_nil, true_and, and_true, y_lIn, y_lKn, y_lZn, y_lLn, y_wIn, y_wZn, y_wLn, lit, le_n, lt_n, eq_n, nI_add]
  refine c_doubt h.1 h.2.2.1 (fun g1 h1 f1 => ?_)
  have hM1 : g1.2 73 = ob 9 [.ref 74, .ref 75, .ref 76, .ref 77, .ref 78, .ref 79, .int (x 0), .int (x 1), .int (x 2), .ref 80, .int (x 3), .ref 81, .int (x 4), .ref 82, .long (r), .ref 83, .ref 84, .int (x 5), .int (x 6), .int (x 7), .int (x 8), .int (x 9), .ref 85, .int (x 10)] := by rw [f1.2 _ (by omega)]; exact hM
  have hs1 : g1.2 1011 = aK n sc := by rw [f1.2 _ (by omega)]; exact h.2.2.2
  simp (disch := omega) only [q_L_law_977, q_L_law_978, q_L_law_979, q_L_law_980, q_L_law_981, q_L_law_982, q_L_law_983, hM1, hs1, y_is, y_gf, y_pf, y_f0, y_f1, y_f3, y_nI, y_nK, y_nZ, y_nL, y_nR, y_k1i, y_k1r, y_k1l, y_k1n, y_tl, y_tn, y_s, y_ss, List.getElem?_cons_zero, List.getElem?_cons_succ, List.set_cons_zero, List.set_cons_succ, List.length_cons, List.length_nil, true_and, and_true, y_lIn, y_lKn, y_lZn, y_lLn, y_wIn, y_wZn, y_wLn, lit, le_n, lt_n, eq_n, nI_add]
  refine m_doubt (h.2.1.frm f1 (by omega)) h.2.2.1 (fun g2 h2 f2 => ?_)
  simp only [q_L_law_986, y_is, y_gf, y_pf, y_f0, y_f1, y_f3, y_nI, y_nK, y_nZ, y_nL, y_nR, y_k1i, y_k1r, y_k1l, y_k1n, y_tl, y_tn, y_s, y_ss, List.getElem?_cons_zero, List.getElem?_cons_succ, List.set_cons_zero, List.set_cons_succ, List.length_cons, List.length_nil, true_and, and_true]
  exact br1 (by first | decide | omega | trivial | simp) (hQ g2 _ (h.go h1 f1 h2 f2 (k_doubt h.2.2.1)))
theorem l_spy {g : mzG} {S : sT} {i : Nat} (h : LW g S n sc) (hi : i + 5 ≤ n) (hn : n ≤ 2560) (hQ : ∀ g' S', LW g' S' n sc → wp 0 b 1166 [.ref 1011, .ref 0, .ref 73, .int (nI i)] [] g' Q) : wp 0 b 991 [.ref 1011, .ref 0, .ref 73, .int (nI i)] [] g Q := by
  obtain ⟨x, r, hM, -⟩ := id h.2.1.mM
  simp (disch := omega) only [q_L_law_991, q_L_law_992, h.1.c0.1, h.2.2.2, y_is, y_gf, y_pf, y_f0, y_f1, y_f3, y_nI, y_nK, y_nZ, y_nL, y_nR, y_k1i, y_k1r, y_k1l, y_k1n, y_tl, y_tn, y_s, y_ss, List.getElem?_cons_zero, List.getElem?_cons_succ, List.set_cons_zero, List.set_cons_succ, List.length_cons, List.length_nil, true_and, and_true, y_lIn, y_lKn, y_lZn, y_lLn, y_wIn, y_wZn, y_wLn, lit, le_n, lt_n, eq_n, nI_add]
  refine c_spy h.1 h.2.2.1 (fun g1 h1 f1 => ?_)
  have hM1 : g1.2 73 = ob 9 [.ref 74, .ref 75, .ref 76, .ref 77, .ref 78, .ref 79, .int (x 0), .int (x 1), .int (x 2), .ref 80, .int (x 3), .ref 81, .int (x 4), .ref 82, .long (r), .ref 83, .ref 84, .int (x 5), .int (x 6), .int (x 7), .int (x 8), .int (x 9), .ref 85, .int (x 10)] := by rw [f1.2 _ (by omega)]; exact hM
  have hs1 : g1.2 1011 = aK n sc := by rw [f1.2 _ (by omega)]; exact h.2.2.2
  simp (disch := omega) only [q_L_law_995, q_L_law_996, hM1, hs1, y_is, y_gf, y_pf, y_f0, y_f1, y_f3, y_nI, y_nK, y_nZ, y_nL, y_nR, y_k1i, y_k1r, y_k1l, y_k1n, y_tl, y_tn, y_s, y_ss, List.getElem?_cons_zero, List.getElem?_cons_succ, List.set_cons_zero, List.set_cons_succ, List.length_cons, List.length_nil, true_and, and_true, y_lIn, y_lKn, y_lZn, y_lLn, y_wIn, y_wZn, y_wLn, lit, le_n, lt_n, eq_n, nI_add]
  refine m_spy (h.2.1.frm f1 (by omega)) h.2.2.1 (fun g2 h2 f2 => ?_)
  simp only [q_L_law_999, y_is, y_gf, y_pf, y_f0, y_f1, y_f3, y_nI, y_nK, y_nZ, y_nL, y_nR, y_k1i, y_k1r, y_k1l, y_k1n, y_tl, y_tn, y_s, y_ss, List.getElem?_cons_zero, List.getElem?_cons_succ, List.set_cons_zero, List.set_cons_succ, List.length_cons, List.length_nil, true_and, and_true]
  exact br1 (by first | decide | omega | trivial | simp) (hQ g2 _ (h.go h1 f1 h2 f2 (k_spy h.2.2.1)))
theorem l_sign {g : mzG} {S : sT} {i : Nat} (h : LW g S n sc) (hi : i + 5 ≤ n) (hn : n ≤ 2560) (hQ : ∀ g' S', LW g' S' n sc → wp 0 b 1166 [.ref 1011, .ref 0, .ref 73, .int (nI i)] [] g' Q) : wp 0 b 1004 [.ref 1011, .ref 0, .ref 73, .int (nI i)] [] g Q := by
  obtain ⟨x, r, hM, -⟩ := id h.2.1.mM
  simp (disch := omega) only [q_L_law_1004, q_L_law_1005, q_L_law_1006, q_L_law_1007, q_L_law_1008, q_L_law_1009, q_L_law_1010, h.1.c0.1, h.2.2.2, y_is, y_gf, y_pf, y_f0, y_f1, y_f3, y_nI, y_nK, y_nZ, y_nL, y_nR, y_k1i, y_k1r, y_k1l, y_k1n, y_tl, y_tn, y_s, y_ss, List.getElem?_cons_zero, List.getElem?_cons_succ, List.set_cons_zero, List.set_cons_succ, List.length_cons, List.length_nil, true_and, and_true, y_lIn, y_lKn, y_lZn, y_lLn, y_wIn, y_wZn, y_wLn, lit, le_n, lt_n, eq_n, nI_add]
  refine c_sign h.1 (fun g1 h1 f1 => ?_)
  have hM1 : g1.2 73 = ob 9 [.ref 74, .ref 75, .ref 76, .ref 77, .ref 78, .ref 79, .int (x 0), .int (x 1), .int (x 2), .ref 80, .int (x 3), .ref 81, .int (x 4), .ref 82, .long (r), .ref 83, .ref 84, .int (x 5), .int (x 6), .int (x 7), .int (x 8), .int (x 9), .ref 85, .int (x 10)] := by rw [f1.2 _ (by omega)]; exact hM
  have hs1 : g1.2 1011 = aK n sc := by rw [f1.2 _ (by omega)]; exact h.2.2.2
  simp (disch := omega) only [q_L_law_1013, q_L_law_1014, q_L_law_1015, q_L_law_1016, q_L_law_1017, q_L_law_1018, q_L_law_1019, hM1, hs1, y_is, y_gf, y_pf, y_f0, y_f1, y_f3, y_nI, y_nK, y_nZ, y_nL, y_nR, y_k1i, y_k1r, y_k1l, y_k1n, y_tl, y_tn, y_s, y_ss, List.getElem?_cons_zero, List.getElem?_cons_succ, List.set_cons_zero, List.set_cons_succ, List.length_cons, List.length_nil, true_and, and_true, y_lIn, y_lKn, y_lZn, y_lLn, y_wIn, y_wZn, y_wLn, lit, le_n, lt_n, eq_n, nI_add]
  refine m_sign (h.2.1.frm f1 (by omega)) (fun g2 h2 f2 => ?_)
  simp only [q_L_law_1022, y_is, y_gf, y_pf, y_f0, y_f1, y_f3, y_nI, y_nK, y_nZ, y_nL, y_nR, y_k1i, y_k1r, y_k1l, y_k1n, y_tl, y_tn, y_s, y_ss, List.getElem?_cons_zero, List.getElem?_cons_succ, List.set_cons_zero, List.set_cons_succ, List.length_cons, List.length_nil, true_and, and_true]
  exact br1 (by first | decide | omega | trivial | simp) (hQ g2 _ (h.go h1 f1 h2 f2 (k_sign h.2.2.1)))
theorem l_limb {g : mzG} {S : sT} {i : Nat} (h : LW g S n sc) (hi : i + 5 ≤ n) (hn : n ≤ 2560) (hQ : ∀ g' S', LW g' S' n sc → wp 0 b 1166 [.ref 1011, .ref 0, .ref 73, .int (nI i)] [] g' Q) : wp 0 b 1027 [.ref 1011, .ref 0, .ref 73, .int (nI i)] [] g Q := by
  obtain ⟨x, r, hM, -⟩ := id h.2.1.mM
  simp (disch := omega) only [q_L_law_1027, q_L_law_1028, q_L_law_1029, q_L_law_1030, q_L_law_1031, q_L_law_1032, q_L_law_1033, q_L_law_1034, q_L_law_1035, q_L_law_1036, q_L_law_1037, q_L_law_1038, h.1.c0.1, h.2.2.2, y_is, y_gf, y_pf, y_f0, y_f1, y_f3, y_nI, y_nK, y_nZ, y_nL, y_nR, y_k1i, y_k1r, y_k1l, y_k1n, y_tl, y_tn, y_s, y_ss, List.getElem?_cons_zero, List.getElem?_cons_succ, List.set_cons_zero, List.set_cons_succ, List.length_cons, List.length_nil, true_and, and_true, y_lIn, y_lKn, y_lZn, y_lLn, y_wIn, y_wZn, y_wLn, lit, le_n, lt_n, eq_n, nI_add]
  refine c_limb h.1 (fun g1 h1 f1 => ?_)
  have hM1 : g1.2 73 = ob 9 [.ref 74, .ref 75, .ref 76, .ref 77, .ref 78, .ref 79, .int (x 0), .int (x 1), .int (x 2), .ref 80, .int (x 3), .ref 81, .int (x 4), .ref 82, .long (r), .ref 83, .ref 84, .int (x 5), .int (x 6), .int (x 7), .int (x 8), .int (x 9), .ref 85, .int (x 10)] := by rw [f1.2 _ (by omega)]; exact hM
  have hs1 : g1.2 1011 = aK n sc := by rw [f1.2 _ (by omega)]; exact h.2.2.2
  simp (disch := omega) only [q_L_law_1041, q_L_law_1042, q_L_law_1043, q_L_law_1044, q_L_law_1045, q_L_law_1046, q_L_law_1047, q_L_law_1048, q_L_law_1049, q_L_law_1050, q_L_law_1051, q_L_law_1052, hM1, hs1, y_is, y_gf, y_pf, y_f0, y_f1, y_f3, y_nI, y_nK, y_nZ, y_nL, y_nR, y_k1i, y_k1r, y_k1l, y_k1n, y_tl, y_tn, y_s, y_ss, List.getElem?_cons_zero, List.getElem?_cons_succ, List.set_cons_zero, List.set_cons_succ, List.length_cons, List.length_nil, true_and, and_true, y_lIn, y_lKn, y_lZn, y_lLn, y_wIn, y_wZn, y_wLn, lit, le_n, lt_n, eq_n, nI_add]
  refine m_limb (h.2.1.frm f1 (by omega)) (fun g2 h2 f2 => ?_)
  simp only [q_L_law_1055, y_is, y_gf, y_pf, y_f0, y_f1, y_f3, y_nI, y_nK, y_nZ, y_nL, y_nR, y_k1i, y_k1r, y_k1l, y_k1n, y_tl, y_tn, y_s, y_ss, List.getElem?_cons_zero, List.getElem?_cons_succ, List.set_cons_zero, List.set_cons_succ, List.length_cons, List.length_nil, true_and, and_true]
  exact br1 (by first | decide | omega | trivial | simp) (hQ g2 _ (h.go h1 f1 h2 f2 (k_limb h.2.2.1)))
theorem l_image {g : mzG} {S : sT} {i : Nat} (h : LW g S n sc) (hi : i + 5 ≤ n) (hn : n ≤ 2560) (hQ : ∀ g' S', LW g' S' n sc → wp 0 b 1166 [.ref 1011, .ref 0, .ref 73, .int (nI i)] [] g' Q) : wp 0 b 1060 [.ref 1011, .ref 0, .ref 73, .int (nI i)] [] g Q := by
  obtain ⟨x, r, hM, -⟩ := id h.2.1.mM
  simp (disch := omega) only [q_L_law_1060, q_L_law_1061, q_L_law_1062, q_L_law_1063, q_L_law_1064, q_L_law_1065, q_L_law_1066, h.1.c0.1, h.2.2.2, y_is, y_gf, y_pf, y_f0, y_f1, y_f3, y_nI, y_nK, y_nZ, y_nL, y_nR, y_k1i, y_k1r, y_k1l, y_k1n, y_tl, y_tn, y_s, y_ss, List.getElem?_cons_zero, List.getElem?_cons_succ, List.set_cons_zero, List.set_cons_succ, List.length_cons, List.length_nil, true_and, and_true, y_lIn, y_lKn, y_lZn, y_lLn, y_wIn, y_wZn, y_wLn, lit, le_n, lt_n, eq_n, nI_add]
  refine c_image h.1 h.2.2.1 (fun g1 h1 f1 => ?_)
  have hM1 : g1.2 73 = ob 9 [.ref 74, .ref 75, .ref 76, .ref 77, .ref 78, .ref 79, .int (x 0), .int (x 1), .int (x 2), .ref 80, .int (x 3), .ref 81, .int (x 4), .ref 82, .long (r), .ref 83, .ref 84, .int (x 5), .int (x 6), .int (x 7), .int (x 8), .int (x 9), .ref 85, .int (x 10)] := by rw [f1.2 _ (by omega)]; exact hM
  have hs1 : g1.2 1011 = aK n sc := by rw [f1.2 _ (by omega)]; exact h.2.2.2
  simp (disch := omega) only [q_L_law_1069, q_L_law_1070, q_L_law_1071, q_L_law_1072, q_L_law_1073, q_L_law_1074, q_L_law_1075, hM1, hs1, y_is, y_gf, y_pf, y_f0, y_f1, y_f3, y_nI, y_nK, y_nZ, y_nL, y_nR, y_k1i, y_k1r, y_k1l, y_k1n, y_tl, y_tn, y_s, y_ss, List.getElem?_cons_zero, List.getElem?_cons_succ, List.set_cons_zero, List.set_cons_succ, List.length_cons, List.length_nil, true_and, and_true, y_lIn, y_lKn, y_lZn, y_lLn, y_wIn, y_wZn, y_wLn, lit, le_n, lt_n, eq_n, nI_add]
  refine m_image (h.2.1.frm f1 (by omega)) h.2.2.1 (fun g2 h2 f2 => ?_)
  simp only [q_L_law_1078, y_is, y_gf, y_pf, y_f0, y_f1, y_f3, y_nI, y_nK, y_nZ, y_nL, y_nR, y_k1i, y_k1r, y_k1l, y_k1n, y_tl, y_tn, y_s, y_ss, List.getElem?_cons_zero, List.getElem?_cons_succ, List.set_cons_zero, List.set_cons_succ, List.length_cons, List.length_nil, true_and, and_true]
  exact br1 (by first | decide | omega | trivial | simp) (hQ g2 _ (h.go h1 f1 h2 f2 (k_image h.2.2.1)))
theorem l_from {g : mzG} {S : sT} {i : Nat} (h : LW g S n sc) (hi : i + 5 ≤ n) (hn : n ≤ 2560) (hQ : ∀ g' S', LW g' S' n sc → wp 0 b 1166 [.ref 1011, .ref 0, .ref 73, .int (nI i)] [] g' Q) : wp 0 b 1083 [.ref 1011, .ref 0, .ref 73, .int (nI i)] [] g Q := by
  obtain ⟨x, r, hM, -⟩ := id h.2.1.mM
  simp (disch := omega) only [q_L_law_1083, q_L_law_1084, q_L_law_1085, q_L_law_1086, q_L_law_1087, q_L_law_1088, q_L_law_1089, h.1.c0.1, h.2.2.2, y_is, y_gf, y_pf, y_f0, y_f1, y_f3, y_nI, y_nK, y_nZ, y_nL, y_nR, y_k1i, y_k1r, y_k1l, y_k1n, y_tl, y_tn, y_s, y_ss, List.getElem?_cons_zero, List.getElem?_cons_succ, List.set_cons_zero, List.set_cons_succ, List.length_cons, List.length_nil, true_and, and_true, y_lIn, y_lKn, y_lZn, y_lLn, y_wIn, y_wZn, y_wLn, lit, le_n, lt_n, eq_n, nI_add]
  refine c_from h.1 h.2.2.1 (fun g1 h1 f1 => ?_)
  have hM1 : g1.2 73 = ob 9 [.ref 74, .ref 75, .ref 76, .ref 77, .ref 78, .ref 79, .int (x 0), .int (x 1), .int (x 2), .ref 80, .int (x 3), .ref 81, .int (x 4), .ref 82, .long (r), .ref 83, .ref 84, .int (x 5), .int (x 6), .int (x 7), .int (x 8), .int (x 9), .ref 85, .int (x 10)] := by rw [f1.2 _ (by omega)]; exact hM
  have hs1 : g1.2 1011 = aK n sc := by rw [f1.2 _ (by omega)]; exact h.2.2.2
  simp (disch := omega) only [q_L_law_1092, q_L_law_1093, q_L_law_1094, q_L_law_1095, q_L_law_1096, q_L_law_1097, q_L_law_1098, hM1, hs1, y_is, y_gf, y_pf, y_f0, y_f1, y_f3, y_nI, y_nK, y_nZ, y_nL, y_nR, y_k1i, y_k1r, y_k1l, y_k1n, y_tl, y_tn, y_s, y_ss, List.getElem?_cons_zero, List.getElem?_cons_succ, List.set_cons_zero, List.set_cons_succ, List.length_cons, List.length_nil, true_and, and_true, y_lIn, y_lKn, y_lZn, y_lLn, y_wIn, y_wZn, y_wLn, lit, le_n, lt_n, eq_n, nI_add]
  refine m_from (h.2.1.frm f1 (by omega)) h.2.2.1 (fun g2 h2 f2 => ?_)
  simp only [q_L_law_1101, y_is, y_gf, y_pf, y_f0, y_f1, y_f3, y_nI, y_nK, y_nZ, y_nL, y_nR, y_k1i, y_k1r, y_k1l, y_k1n, y_tl, y_tn, y_s, y_ss, List.getElem?_cons_zero, List.getElem?_cons_succ, List.set_cons_zero, List.set_cons_succ, List.length_cons, List.length_nil, true_and, and_true]
  exact br1 (by first | decide | omega | trivial | simp) (hQ g2 _ (h.go h1 f1 h2 f2 (k_from h.2.2.1)))
theorem l_status {g : mzG} {S : sT} {i : Nat} (h : LW g S n sc) (hi : i + 5 ≤ n) (hn : n ≤ 2560) (hQ : ∀ g' S', LW g' S' n sc → wp 0 b 1166 [.ref 1011, .ref 0, .ref 73, .int (nI i)] [] g' Q) : wp 0 b 1106 [.ref 1011, .ref 0, .ref 73, .int (nI i)] [] g Q := by
  obtain ⟨x, r, hM, -⟩ := id h.2.1.mM
  simp (disch := omega) only [q_L_law_1106, q_L_law_1107, q_L_law_1108, q_L_law_1109, q_L_law_1110, q_L_law_1111, q_L_law_1112, h.1.c0.1, h.2.2.2, y_is, y_gf, y_pf, y_f0, y_f1, y_f3, y_nI, y_nK, y_nZ, y_nL, y_nR, y_k1i, y_k1r, y_k1l, y_k1n, y_tl, y_tn, y_s, y_ss, List.getElem?_cons_zero, List.getElem?_cons_succ, List.set_cons_zero, List.set_cons_succ, List.length_cons, List.length_nil, true_and, and_true, y_lIn, y_lKn, y_lZn, y_lLn, y_wIn, y_wZn, y_wLn, lit, le_n, lt_n, eq_n, nI_add]
  refine c_status h.1 (fun g1 h1 f1 => ?_)
  have hM1 : g1.2 73 = ob 9 [.ref 74, .ref 75, .ref 76, .ref 77, .ref 78, .ref 79, .int (x 0), .int (x 1), .int (x 2), .ref 80, .int (x 3), .ref 81, .int (x 4), .ref 82, .long (r), .ref 83, .ref 84, .int (x 5), .int (x 6), .int (x 7), .int (x 8), .int (x 9), .ref 85, .int (x 10)] := by rw [f1.2 _ (by omega)]; exact hM
  have hs1 : g1.2 1011 = aK n sc := by rw [f1.2 _ (by omega)]; exact h.2.2.2
  simp (disch := omega) only [q_L_law_1115, q_L_law_1116, q_L_law_1117, q_L_law_1118, q_L_law_1119, q_L_law_1120, q_L_law_1121, hM1, hs1, y_is, y_gf, y_pf, y_f0, y_f1, y_f3, y_nI, y_nK, y_nZ, y_nL, y_nR, y_k1i, y_k1r, y_k1l, y_k1n, y_tl, y_tn, y_s, y_ss, List.getElem?_cons_zero, List.getElem?_cons_succ, List.set_cons_zero, List.set_cons_succ, List.length_cons, List.length_nil, true_and, and_true, y_lIn, y_lKn, y_lZn, y_lLn, y_wIn, y_wZn, y_wLn, lit, le_n, lt_n, eq_n, nI_add]
  refine m_status (h.2.1.frm f1 (by omega)) (fun g2 h2 f2 => ?_)
  simp only [q_L_law_1124, y_is, y_gf, y_pf, y_f0, y_f1, y_f3, y_nI, y_nK, y_nZ, y_nL, y_nR, y_k1i, y_k1r, y_k1l, y_k1n, y_tl, y_tn, y_s, y_ss, List.getElem?_cons_zero, List.getElem?_cons_succ, List.set_cons_zero, List.set_cons_succ, List.length_cons, List.length_nil, true_and, and_true]
  exact br1 (by first | decide | omega | trivial | simp) (hQ g2 _ (h.go h1 f1 h2 f2 (k_status h.2.2.1)))
theorem l_count {g : mzG} {S : sT} {i : Nat} (h : LW g S n sc) (hi : i + 5 ≤ n) (hn : n ≤ 2560) (hQ : ∀ g' S', LW g' S' n sc → wp 0 b 1166 [.ref 1011, .ref 0, .ref 73, .int (nI i)] [] g' Q) : wp 0 b 1129 [.ref 1011, .ref 0, .ref 73, .int (nI i)] [] g Q := by
  obtain ⟨x, r, hM, -⟩ := id h.2.1.mM
  simp (disch := omega) only [q_L_law_1129, q_L_law_1130, q_L_law_1131, q_L_law_1132, q_L_law_1133, q_L_law_1134, q_L_law_1135, h.1.c0.1, h.2.2.2, y_is, y_gf, y_pf, y_f0, y_f1, y_f3, y_nI, y_nK, y_nZ, y_nL, y_nR, y_k1i, y_k1r, y_k1l, y_k1n, y_tl, y_tn, y_s, y_ss, List.getElem?_cons_zero, List.getElem?_cons_succ, List.set_cons_zero, List.set_cons_succ, List.length_cons, List.length_nil, true_and, and_true, y_lIn, y_lKn, y_lZn, y_lLn, y_wIn, y_wZn, y_wLn, lit, le_n, lt_n, eq_n, nI_add]
  refine c_count h.1 (fun g1 h1 f1 => ?_)
  have hM1 : g1.2 73 = ob 9 [.ref 74, .ref 75, .ref 76, .ref 77, .ref 78, .ref 79, .int (x 0), .int (x 1), .int (x 2), .ref 80, .int (x 3), .ref 81, .int (x 4), .ref 82, .long (r), .ref 83, .ref 84, .int (x 5), .int (x 6), .int (x 7), .int (x 8), .int (x 9), .ref 85, .int (x 10)] := by rw [f1.2 _ (by omega)]; exact hM
  have hs1 : g1.2 1011 = aK n sc := by rw [f1.2 _ (by omega)]; exact h.2.2.2
  simp (disch := omega) only [q_L_law_1138, q_L_law_1139, q_L_law_1140, q_L_law_1141, q_L_law_1142, q_L_law_1143, q_L_law_1144, hM1, hs1, y_is, y_gf, y_pf, y_f0, y_f1, y_f3, y_nI, y_nK, y_nZ, y_nL, y_nR, y_k1i, y_k1r, y_k1l, y_k1n, y_tl, y_tn, y_s, y_ss, List.getElem?_cons_zero, List.getElem?_cons_succ, List.set_cons_zero, List.set_cons_succ, List.length_cons, List.length_nil, true_and, and_true, y_lIn, y_lKn, y_lZn, y_lLn, y_wIn, y_wZn, y_wLn, lit, le_n, lt_n, eq_n, nI_add]
  refine m_count (h.2.1.frm f1 (by omega)) (fun g2 h2 f2 => ?_)
  simp only [q_L_law_1147, y_is, y_gf, y_pf, y_f0, y_f1, y_f3, y_nI, y_nK, y_nZ, y_nL, y_nR, y_k1i, y_k1r, y_k1l, y_k1n, y_tl, y_tn, y_s, y_ss, List.getElem?_cons_zero, List.getElem?_cons_succ, List.set_cons_zero, List.set_cons_succ, List.length_cons, List.length_nil, true_and, and_true]
  exact br1 (by first | decide | omega | trivial | simp) (hQ g2 _ (h.go h1 f1 h2 f2 (k_count h.2.2.1)))
theorem l_digest {g : mzG} {S : sT} {i : Nat} (h : LW g S n sc) (hi : i + 5 ≤ n) (hn : n ≤ 2560) (hQ : ∀ g' S', LW g' S' n sc → wp 0 b 1166 [.ref 1011, .ref 0, .ref 73, .int (nI i)] [] g' Q) : wp 0 b 1152 [.ref 1011, .ref 0, .ref 73, .int (nI i)] [] g Q := by
  obtain ⟨x, r, hM, -⟩ := id h.2.1.mM
  simp (disch := omega) only [q_L_law_1152, q_L_law_1153, h.1.c0.1, h.2.2.2, y_is, y_gf, y_pf, y_f0, y_f1, y_f3, y_nI, y_nK, y_nZ, y_nL, y_nR, y_k1i, y_k1r, y_k1l, y_k1n, y_tl, y_tn, y_s, y_ss, List.getElem?_cons_zero, List.getElem?_cons_succ, List.set_cons_zero, List.set_cons_succ, List.length_cons, List.length_nil, true_and, and_true, y_lIn, y_lKn, y_lZn, y_lLn, y_wIn, y_wZn, y_wLn, lit, le_n, lt_n, eq_n, nI_add]
  refine c_digest h.1 h.2.2.1 (fun g1 h1 f1 => ?_)
  have hM1 : g1.2 73 = ob 9 [.ref 74, .ref 75, .ref 76, .ref 77, .ref 78, .ref 79, .int (x 0), .int (x 1), .int (x 2), .ref 80, .int (x 3), .ref 81, .int (x 4), .ref 82, .long (r), .ref 83, .ref 84, .int (x 5), .int (x 6), .int (x 7), .int (x 8), .int (x 9), .ref 85, .int (x 10)] := by rw [f1.2 _ (by omega)]; exact hM
  have hs1 : g1.2 1011 = aK n sc := by rw [f1.2 _ (by omega)]; exact h.2.2.2
  simp (disch := omega) only [q_L_law_1156, q_L_law_1157, hM1, hs1, y_is, y_gf, y_pf, y_f0, y_f1, y_f3, y_nI, y_nK, y_nZ, y_nL, y_nR, y_k1i, y_k1r, y_k1l, y_k1n, y_tl, y_tn, y_s, y_ss, List.getElem?_cons_zero, List.getElem?_cons_succ, List.set_cons_zero, List.set_cons_succ, List.length_cons, List.length_nil, true_and, and_true, y_lIn, y_lKn, y_lZn, y_lLn, y_wIn, y_wZn, y_wLn, lit, le_n, lt_n, eq_n, nI_add]
  refine m_digest (h.2.1.frm f1 (by omega)) h.2.2.1 (fun g2 h2 f2 => ?_)
  simp only [q_L_law_1160, q_L_law_1161, y_is, y_gf, y_pf, y_f0, y_f1, y_f3, y_nI, y_nK, y_nZ, y_nL, y_nR, y_k1i, y_k1r, y_k1l, y_k1n, y_tl, y_tn, y_s, y_ss, List.getElem?_cons_zero, List.getElem?_cons_succ, List.set_cons_zero, List.set_cons_succ, List.length_cons, List.length_nil, true_and, and_true, lcq]
  exact br1 (by first | decide | omega | trivial | simp) (hQ g2 _ (h.go h1 f1 h2 f2 (k_digest h.2.2.1)))
theorem tsf_m {ts : List Nat} {d : Nat} {x : Int32} : mz_tsf 0 ts d x = d ∨ mz_tsf 0 ts d x ∈ ts := by
  unfold mz_tsf
  split
  · exact Or.inl rfl
  · rw [List.getD_eq_getElem?_getD]
    cases e : ts[(x.toInt - 0).toNat]? with
    | none => exact Or.inl rfl
    | some y => exact Or.inr (List.mem_of_getElem? e)
theorem l_end {g : mzG} {i : Nat} (hn : n ≤ 2560) (hQ : ∀ g, Q (some (.int 1)) g) (hs : g.2 1011 = aK n sc) (hi : i ≤ 3000) (c : ¬ i + 5 ≤ n) : wp 0 b 18 [.ref 1011, .ref 0, .ref 73, .int (nI i)] [] g Q := by
  have hlt : Int32.ofNat n - 5 < nI i := by
    by_cases h5 : 5 ≤ n
    · rw [show Int32.ofNat n - 5 = nI (n - 5) from pk_sub (a := n) (b := 5) h5, lt_n (by omega) (by omega)]; omega
    · have k : ∀ m : Fin 5, nI m.val - 5 < 0 := by decide +kernel
      exact neg_lt (k ⟨n, by omega⟩) (by omega)
  rw [q_L_law_18]
  simp (disch := omega) only [q_L_law_19, q_L_law_20, q_L_law_21, q_L_law_22, q_L_law_23, q_L_law_1172, q_L_law_1173, hs, y_is, y_gf, y_pf, y_f0, y_f1, y_f3, y_nI, y_nK, y_nZ, y_nL, y_nR, y_k1i, y_k1r, y_k1l, y_k1n, y_tl, y_tn, y_s, y_ss, List.getElem?_cons_zero, List.getElem?_cons_succ, List.set_cons_zero, List.set_cons_succ, List.length_cons, List.length_nil, true_and, and_true]
  exact br1 hlt ⟨by decide, hQ g⟩
theorem l_loop (hn : n ≤ 2560) (hQ : ∀ g, Q (some (.int 1)) g) : ∀ (d i : Nat) (g : mzG) (S : sT), n ≤ i + d → i ≤ 3000 → LW g S n sc → wp 0 b 18 [.ref 1011, .ref 0, .ref 73, .int (nI i)] [] g Q := by
  intro d
  induction d with
  | zero =>
    intro i g S hd hi h
    exact l_end hn hQ h.2.2.2 hi (by omega)
  | succ d ih =>
    intro i g S hd hi h
    by_cases c : i + 5 ≤ n
    · have e5 : Int32.ofNat n - nI 5 = nI (n - 5) := pk_sub (a := n) (b := 5) (by omega)
      rw [q_L_law_18]
      simp (disch := omega) only [q_L_law_19, q_L_law_20, q_L_law_21, q_L_law_22, q_L_law_23, q_L_law_26, q_L_law_27, q_L_law_28, q_L_law_29, q_L_law_31, q_L_law_32, h.2.2.2, e5, y_is, y_gf, y_pf, y_f0, y_f1, y_f3, y_nI, y_nK, y_nZ, y_nL, y_nR, y_k1i, y_k1r, y_k1l, y_k1n, y_tl, y_tn, y_s, y_ss, List.getElem?_cons_zero, List.getElem?_cons_succ, List.set_cons_zero, List.set_cons_succ, List.length_cons, List.length_nil, true_and, and_true, y_lIn, y_lKn, y_lZn, y_lLn, y_wIn, y_wZn, y_wLn, lit, le_n, lt_n, eq_n]
      refine br0 (by omega) ?_
      have k : ∀ g' S', LW g' S' n sc → wp 0 b 1166 [.ref 1011, .ref 0, .ref 73, .int (nI i)] [] g' Q := by
        intro g' S' h'
        simp (disch := omega) only [q_L_law_1166, q_L_law_1169, y_is, y_gf, y_pf, y_f0, y_f1, y_f3, y_nI, y_nK, y_nZ, y_nL, y_nR, y_k1i, y_k1r, y_k1l, y_k1n, y_tl, y_tn, y_s, y_ss, List.getElem?_cons_zero, List.getElem?_cons_succ, List.set_cons_zero, List.set_cons_succ, List.length_cons, List.length_nil, true_and, and_true, lit, nI_add]
        exact ih (i + 5) g' S' (by omega) (by omega) h'
      rcases tsf_m (ts := [200, 223, 266, 319, 382, 395, 408, 431, 444, 457, 490, 513, 526, 539, 562, 575, 598, 631, 654, 697, 711, 774, 797, 810, 823, 866, 879, 902, 925, 968, 991, 1004, 1027, 1060, 1083, 1106, 1129, 1152]) (d := 1166) (x := sc i &&& nI 63) with e | e
      · rw [e]; exact k g S h
      · simp only [List.mem_cons, List.not_mem_nil, or_false] at e
        rcases e with e | e | e | e | e | e | e | e | e | e | e | e | e | e | e | e | e | e | e | e | e | e | e | e | e | e | e | e | e | e | e | e | e | e | e | e | e | e
        · rw [e]; exact l_posts h c hn k
        · rw [e]; exact l_put h c hn k
        · rw [e]; exact l_captain h c hn k
        · rw [e]; exact l_type h c hn k
        · rw [e]; exact l_clear h c hn k
        · rw [e]; exact l_read h c hn k
        · rw [e]; exact l_write h c hn k
        · rw [e]; exact l_erase h c hn k
        · rw [e]; exact l_fault h c hn k
        · rw [e]; exact l_asleep h c hn k
        · rw [e]; exact l_has h c hn k
        · rw [e]; exact l_tries h c hn k
        · rw [e]; exact l_two h c hn k
        · rw [e]; exact l_ladder h c hn k
        · rw [e]; exact l_knows h c hn k
        · rw [e]; exact l_best h c hn k
        · rw [e]; exact l_chance h c hn k
        · rw [e]; exact l_duke h c hn k
        · rw [e]; exact l_creak h c hn k
        · rw [e]; exact l_nights h c hn k
        · rw [e]; exact l_night h c hn k
        · rw [e]; exact l_tell h c hn k
        · rw [e]; exact l_forget h c hn k
        · rw [e]; exact l_judge h c hn k
        · rw [e]; exact l_sight h c hn k
        · rw [e]; exact l_blind h c hn k
        · rw [e]; exact l_rounds h c hn k
        · rw [e]; exact l_soon h c hn k
        · rw [e]; exact l_thefts h c hn k
        · rw [e]; exact l_doubt h c hn k
        · rw [e]; exact l_spy h c hn k
        · rw [e]; exact l_sign h c hn k
        · rw [e]; exact l_limb h c hn k
        · rw [e]; exact l_image h c hn k
        · rw [e]; exact l_from h c hn k
        · rw [e]; exact l_status h c hn k
        · rw [e]; exact l_count h c hn k
        · rw [e]; exact l_digest h c hn k
    · exact l_end hn hQ h.2.2.2 (by omega) (by omega)

end LAW
