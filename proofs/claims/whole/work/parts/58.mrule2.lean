/-! ===== the reference: THE RULE, its methods ===== -/
/-- only the object and the two stacks -/
def fr3 (g g' : mzG) : Prop := g'.1 = g.1 ∧ ∀ k, k ≠ 73 → k ≠ 80 → k ≠ 81 → g'.2 k = g.2 k
theorem fr3.rf {g : mzG} : fr3 g g := ⟨rfl, fun _ _ _ _ => rfl⟩
theorem fr3.tr {g g' g'' : mzG} (h : fr3 g g') (h' : fr3 g' g'') : fr3 g g'' := ⟨h'.1.trans h.1, fun k a c d => (h'.2 k a c d).trans (h.2 k a c d)⟩
theorem fr3.hs {g g' : mzG} {k : Nat} {c : mzC} (h : fr3 g g') (hk : k = 73 ∨ k = 80 ∨ k = 81) : fr3 g (hs g' k c) := ⟨h.1, fun j a d e => by rw [y_ne (by omega)]; exact h.2 j a d e⟩
theorem fr3.of {g g' : mzG} (h : fr g g' 73 74) : fr3 g g' := ⟨h.1, fun k a _ _ => h.2 k (by omega)⟩
def rs (g : mzG) (V : List Int64) (S : List Nat) : Prop := (∃ F, g.2 80 = aL 64 F ∧ sfL F V) ∧ ∃ f, g.2 81 = aI 128 f ∧ sfI f (S.map (fun c => nI (sgc c)))
theorem rs.frm {g g' : mzG} {V : List Int64} {S : List Nat} (h : rs g V S) (h1 : g'.2 80 = g.2 80) (h2 : g'.2 81 = g.2 81) : rs g' V S := by
  obtain ⟨⟨F, a1, a2⟩, f, a3, a4⟩ := h
  exact ⟨⟨F, h1.trans a1, a2⟩, f, h2.trans a3, a4⟩
theorem wok_sg {c : Nat} (h : wok c) : sgc c ≤ 1002 ∧ (1000 < sgc c ↔ rk c = 6) ∧ (sgc c = 1001 ↔ c = 33) ∧ (¬ 1000 ≤ sgc c ↔ bin c) ∧ (bin c → sgc c = c ∧ c < 128) := by
  have hl := wok_lt h
  have key : ∀ c : Fin 128, (c.val = 40 ∨ rk c.val ≠ 0) → sgc c.val ≤ 1002 ∧ (1000 < sgc c.val ↔ rk c.val = 6) ∧ (sgc c.val = 1001 ↔ c.val = 33) ∧ (¬ 1000 ≤ sgc c.val ↔ (rk c.val ≠ 0 ∧ rk c.val ≠ 6)) ∧ ((rk c.val ≠ 0 ∧ rk c.val ≠ 6) → sgc c.val = c.val ∧ c.val < 128) := by decide +kernel
  exact key ⟨c, hl.2.1⟩ h
theorem rkr_bin {c : Nat} (h : bin c) : rkr c = rk c := by unfold rkr; rw [if_neg h.2]
section MRULE2
variable {b : mzB} {Q : mzQ} {g : mzG} {r : Int64} {f : Nat → Int32} {W : Nat → Nat}
theorem s_mrank {c : Nat} (hc : c < 128) (hQ : Q (some (.int (nI (rkr c)))) g) : wp 161 b 0 [.int (nI c)] [] g Q := by
  simp only [q_X11_rank_0, q_X11_rank_1]
  have k : ∀ c : Fin 128, ((mz_lsf [(38, 86), (42, 92), (43, 90), (45, 90), (47, 92), (60, 88), (61, 88), (62, 88), (124, 84)] 94) (nI c.val), rkr c.val) ∈ [(84, 1), (86, 2), (88, 3), (90, 4), (92, 5), (94, 0)] := by decide +kernel
  have := k ⟨c, hc⟩
  simp only [List.mem_cons, Prod.mk.injEq, List.not_mem_nil, or_false] at this
  rcases this with ⟨e1, e2⟩ | ⟨e1, e2⟩ | ⟨e1, e2⟩ | ⟨e1, e2⟩ | ⟨e1, e2⟩ | ⟨e1, e2⟩
  all_goals
    rw [e1]
    rw [e2] at hQ
    simp only [q_X11_rank_84, q_X11_rank_85, q_X11_rank_86, q_X11_rank_87, q_X11_rank_88, q_X11_rank_89, q_X11_rank_90, q_X11_rank_91, q_X11_rank_92, q_X11_rank_93, q_X11_rank_94, q_X11_rank_95]
    exact hQ
theorem s_mrank0 (hQ : Q (some (.int (nI 0))) g) : wp 161 b 0 [.int (-1)] [] g Q := by
  simp only [q_X11_rank_0, q_X11_rank_1]
  rw [show (mz_lsf [(38, 86), (42, 92), (43, 90), (45, 90), (47, 92), (60, 88), (61, 88), (62, 88), (124, 84)] 94) (-1) = 94 by decide +kernel]
  simp only [q_X11_rank_84, q_X11_rank_85, q_X11_rank_86, q_X11_rank_87, q_X11_rank_88, q_X11_rank_89, q_X11_rank_90, q_X11_rank_91, q_X11_rank_92, q_X11_rank_93, q_X11_rank_94, q_X11_rank_95]
  exact hQ
theorem s_misFig {v : Int32} (h1 : inR v 48 57 → Q (some (.int 1)) g) (h0 : ¬ inR v 48 57 → Q (some (.int 0)) g) : wp 166 b 0 [.int v] [] g Q := by
  simp only [q_X11_isFigure_0, q_X11_isFigure_1, q_X11_isFigure_2, q_X11_isFigure_5, q_X11_isFigure_8, y_is, y_gf, y_pf, y_f0, y_f1, y_f3, y_nI, y_nK, y_nZ, y_nL, y_nR, y_k1i, y_k1r, y_k1l, y_k1n, y_tl, y_tn, y_s, y_ss, List.getElem?_cons_zero, List.getElem?_cons_succ, List.set_cons_zero, List.set_cons_succ, List.length_cons, List.length_nil, true_and, and_true, litL]
  refine s_inI (by decide) (by decide) (fun z => ?_) (fun z => ?_)
  · simp only [q_X11_isFigure_11, y_is, y_gf, y_pf, y_f0, y_f1, y_f3, y_nI, y_nK, y_nZ, y_nL, y_nR, y_k1i, y_k1r, y_k1l, y_k1n, y_tl, y_tn, y_s, y_ss, List.getElem?_cons_zero, List.getElem?_cons_succ, List.set_cons_zero, List.set_cons_succ, List.length_cons, List.length_nil, true_and, and_true]
    exact ⟨by decide, h1 z⟩
  · simp only [q_X11_isFigure_11, y_is, y_gf, y_pf, y_f0, y_f1, y_f3, y_nI, y_nK, y_nZ, y_nL, y_nR, y_k1i, y_k1r, y_k1l, y_k1n, y_tl, y_tn, y_s, y_ss, List.getElem?_cons_zero, List.getElem?_cons_succ, List.set_cons_zero, List.set_cons_succ, List.length_cons, List.length_nil, true_and, and_true]
    exact ⟨by decide, h0 z⟩
theorem inR_dg {c : Nat} (hc : c < 1000) : inR (nI c) 48 57 ↔ dg c = true := by
  constructor
  · rintro ⟨j, h1, h2, e⟩
    have := nI_inj (by omega) (by omega) e
    unfold dg; simp; omega
  · intro h
    have := dg_b h
    exact ⟨c, this.1, this.2, rfl⟩
/-- letters by their places -/
def lof (c : Nat) : Nat := if c = 104 then 0 else if c = 110 then 1 else if c = 115 then 2 else if c = 116 then 3 else if c = 108 then 4 else 5
theorem s_letterOf {c : Nat} (hc : c < 128) (hQ : Q (some (.int (if nm c then nI (lof c) else -1))) g) : wp 165 b 0 [.int (nI c)] [] g Q := by
  unfold nm lof at hQ
  simp (disch := omega) only [q_X11_letterOf_0, q_X11_letterOf_1, q_X11_letterOf_3, y_is, y_gf, y_pf, y_f0, y_f1, y_f3, y_nI, y_nK, y_nZ, y_nL, y_nR, y_k1i, y_k1r, y_k1l, y_k1n, y_tl, y_tn, y_s, y_ss, List.getElem?_cons_zero, List.getElem?_cons_succ, List.set_cons_zero, List.set_cons_succ, List.length_cons, List.length_nil, true_and, and_true, lit, eq_n]
  by_cases h : c = 104
  · rw [bnt h]
    subst h
    simp only [q_X11_letterOf_6, q_X11_letterOf_7, q_X11_letterOf_61, y_is, y_gf, y_pf, y_f0, y_f1, y_f3, y_nI, y_nK, y_nZ, y_nL, y_nR, y_k1i, y_k1r, y_k1l, y_k1n, y_tl, y_tn, y_s, y_ss, List.getElem?_cons_zero, List.getElem?_cons_succ, List.set_cons_zero, List.set_cons_succ, List.length_cons, List.length_nil, true_and, and_true]
    exact hQ
  rw [bnf h]
  rw [beq_false_of_ne h, if_neg h] at hQ
  simp (disch := omega) only [q_X11_letterOf_10, q_X11_letterOf_11, q_X11_letterOf_13, y_is, y_gf, y_pf, y_f0, y_f1, y_f3, y_nI, y_nK, y_nZ, y_nL, y_nR, y_k1i, y_k1r, y_k1l, y_k1n, y_tl, y_tn, y_s, y_ss, List.getElem?_cons_zero, List.getElem?_cons_succ, List.set_cons_zero, List.set_cons_succ, List.length_cons, List.length_nil, true_and, and_true, lit, eq_n]
  by_cases h : c = 110
  · rw [bnt h]
    subst h
    simp only [q_X11_letterOf_16, q_X11_letterOf_17, q_X11_letterOf_61, y_is, y_gf, y_pf, y_f0, y_f1, y_f3, y_nI, y_nK, y_nZ, y_nL, y_nR, y_k1i, y_k1r, y_k1l, y_k1n, y_tl, y_tn, y_s, y_ss, List.getElem?_cons_zero, List.getElem?_cons_succ, List.set_cons_zero, List.set_cons_succ, List.length_cons, List.length_nil, true_and, and_true]
    exact hQ
  rw [bnf h]
  rw [beq_false_of_ne h, if_neg h] at hQ
  simp (disch := omega) only [q_X11_letterOf_20, q_X11_letterOf_21, q_X11_letterOf_23, y_is, y_gf, y_pf, y_f0, y_f1, y_f3, y_nI, y_nK, y_nZ, y_nL, y_nR, y_k1i, y_k1r, y_k1l, y_k1n, y_tl, y_tn, y_s, y_ss, List.getElem?_cons_zero, List.getElem?_cons_succ, List.set_cons_zero, List.set_cons_succ, List.length_cons, List.length_nil, true_and, and_true, lit, eq_n]
  by_cases h : c = 115
  · rw [bnt h]
    subst h
    simp only [q_X11_letterOf_26, q_X11_letterOf_27, q_X11_letterOf_61, y_is, y_gf, y_pf, y_f0, y_f1, y_f3, y_nI, y_nK, y_nZ, y_nL, y_nR, y_k1i, y_k1r, y_k1l, y_k1n, y_tl, y_tn, y_s, y_ss, List.getElem?_cons_zero, List.getElem?_cons_succ, List.set_cons_zero, List.set_cons_succ, List.length_cons, List.length_nil, true_and, and_true]
    exact hQ
  rw [bnf h]
  rw [beq_false_of_ne h, if_neg h] at hQ
  simp (disch := omega) only [q_X11_letterOf_30, q_X11_letterOf_31, q_X11_letterOf_33, y_is, y_gf, y_pf, y_f0, y_f1, y_f3, y_nI, y_nK, y_nZ, y_nL, y_nR, y_k1i, y_k1r, y_k1l, y_k1n, y_tl, y_tn, y_s, y_ss, List.getElem?_cons_zero, List.getElem?_cons_succ, List.set_cons_zero, List.set_cons_succ, List.length_cons, List.length_nil, true_and, and_true, lit, eq_n]
  by_cases h : c = 116
  · rw [bnt h]
    subst h
    simp only [q_X11_letterOf_36, q_X11_letterOf_37, q_X11_letterOf_61, y_is, y_gf, y_pf, y_f0, y_f1, y_f3, y_nI, y_nK, y_nZ, y_nL, y_nR, y_k1i, y_k1r, y_k1l, y_k1n, y_tl, y_tn, y_s, y_ss, List.getElem?_cons_zero, List.getElem?_cons_succ, List.set_cons_zero, List.set_cons_succ, List.length_cons, List.length_nil, true_and, and_true]
    exact hQ
  rw [bnf h]
  rw [beq_false_of_ne h, if_neg h] at hQ
  simp (disch := omega) only [q_X11_letterOf_40, q_X11_letterOf_41, q_X11_letterOf_43, y_is, y_gf, y_pf, y_f0, y_f1, y_f3, y_nI, y_nK, y_nZ, y_nL, y_nR, y_k1i, y_k1r, y_k1l, y_k1n, y_tl, y_tn, y_s, y_ss, List.getElem?_cons_zero, List.getElem?_cons_succ, List.set_cons_zero, List.set_cons_succ, List.length_cons, List.length_nil, true_and, and_true, lit, eq_n]
  by_cases h : c = 108
  · rw [bnt h]
    subst h
    simp only [q_X11_letterOf_46, q_X11_letterOf_47, q_X11_letterOf_61, y_is, y_gf, y_pf, y_f0, y_f1, y_f3, y_nI, y_nK, y_nZ, y_nL, y_nR, y_k1i, y_k1r, y_k1l, y_k1n, y_tl, y_tn, y_s, y_ss, List.getElem?_cons_zero, List.getElem?_cons_succ, List.set_cons_zero, List.set_cons_succ, List.length_cons, List.length_nil, true_and, and_true]
    exact hQ
  rw [bnf h]
  rw [beq_false_of_ne h, if_neg h] at hQ
  simp (disch := omega) only [q_X11_letterOf_50, q_X11_letterOf_51, q_X11_letterOf_53, y_is, y_gf, y_pf, y_f0, y_f1, y_f3, y_nI, y_nK, y_nZ, y_nL, y_nR, y_k1i, y_k1r, y_k1l, y_k1n, y_tl, y_tn, y_s, y_ss, List.getElem?_cons_zero, List.getElem?_cons_succ, List.set_cons_zero, List.set_cons_succ, List.length_cons, List.length_nil, true_and, and_true, lit, eq_n]
  by_cases h : c = 120
  · rw [bnt h]
    subst h
    simp only [q_X11_letterOf_56, q_X11_letterOf_57, q_X11_letterOf_61, y_is, y_gf, y_pf, y_f0, y_f1, y_f3, y_nI, y_nK, y_nZ, y_nL, y_nR, y_k1i, y_k1r, y_k1l, y_k1n, y_tl, y_tn, y_s, y_ss, List.getElem?_cons_zero, List.getElem?_cons_succ, List.set_cons_zero, List.set_cons_succ, List.length_cons, List.length_nil, true_and, and_true]
    exact hQ
  rw [bnf h]
  rw [beq_false_of_ne h] at hQ
  simp only [q_X11_letterOf_60, q_X11_letterOf_61, y_is, y_gf, y_pf, y_f0, y_f1, y_f3, y_nI, y_nK, y_nZ, y_nL, y_nR, y_k1i, y_k1r, y_k1l, y_k1n, y_tl, y_tn, y_s, y_ss, List.getElem?_cons_zero, List.getElem?_cons_succ, List.set_cons_zero, List.set_cons_succ, List.length_cons, List.length_nil, true_and, and_true]
  exact hQ
theorem s_letterOf0 (hQ : Q (some (.int (-1))) g) : wp 165 b 0 [.int (-1)] [] g Q := by
  simp only [q_X11_letterOf_0, q_X11_letterOf_1, q_X11_letterOf_3, y_is, y_gf, y_pf, y_f0, y_f1, y_f3, y_nI, y_nK, y_nZ, y_nL, y_nR, y_k1i, y_k1r, y_k1l, y_k1n, y_tl, y_tn, y_s, y_ss, List.getElem?_cons_zero, List.getElem?_cons_succ, List.set_cons_zero, List.set_cons_succ, List.length_cons, List.length_nil, true_and, and_true]
  refine br1 (by decide) ?_
  simp only [q_X11_letterOf_10, q_X11_letterOf_11, q_X11_letterOf_13, y_is, y_gf, y_pf, y_f0, y_f1, y_f3, y_nI, y_nK, y_nZ, y_nL, y_nR, y_k1i, y_k1r, y_k1l, y_k1n, y_tl, y_tn, y_s, y_ss, List.getElem?_cons_zero, List.getElem?_cons_succ, List.set_cons_zero, List.set_cons_succ, List.length_cons, List.length_nil, true_and, and_true]
  refine br1 (by decide) ?_
  simp only [q_X11_letterOf_20, q_X11_letterOf_21, q_X11_letterOf_23, y_is, y_gf, y_pf, y_f0, y_f1, y_f3, y_nI, y_nK, y_nZ, y_nL, y_nR, y_k1i, y_k1r, y_k1l, y_k1n, y_tl, y_tn, y_s, y_ss, List.getElem?_cons_zero, List.getElem?_cons_succ, List.set_cons_zero, List.set_cons_succ, List.length_cons, List.length_nil, true_and, and_true]
  refine br1 (by decide) ?_
  simp only [q_X11_letterOf_30, q_X11_letterOf_31, q_X11_letterOf_33, y_is, y_gf, y_pf, y_f0, y_f1, y_f3, y_nI, y_nK, y_nZ, y_nL, y_nR, y_k1i, y_k1r, y_k1l, y_k1n, y_tl, y_tn, y_s, y_ss, List.getElem?_cons_zero, List.getElem?_cons_succ, List.set_cons_zero, List.set_cons_succ, List.length_cons, List.length_nil, true_and, and_true]
  refine br1 (by decide) ?_
  simp only [q_X11_letterOf_40, q_X11_letterOf_41, q_X11_letterOf_43, y_is, y_gf, y_pf, y_f0, y_f1, y_f3, y_nI, y_nK, y_nZ, y_nL, y_nR, y_k1i, y_k1r, y_k1l, y_k1n, y_tl, y_tn, y_s, y_ss, List.getElem?_cons_zero, List.getElem?_cons_succ, List.set_cons_zero, List.set_cons_succ, List.length_cons, List.length_nil, true_and, and_true]
  refine br1 (by decide) ?_
  simp only [q_X11_letterOf_50, q_X11_letterOf_51, q_X11_letterOf_53, y_is, y_gf, y_pf, y_f0, y_f1, y_f3, y_nI, y_nK, y_nZ, y_nL, y_nR, y_k1i, y_k1r, y_k1l, y_k1n, y_tl, y_tn, y_s, y_ss, List.getElem?_cons_zero, List.getElem?_cons_succ, List.set_cons_zero, List.set_cons_succ, List.length_cons, List.length_nil, true_and, and_true]
  refine br1 (by decide) ?_
  simp only [q_X11_letterOf_60, q_X11_letterOf_61, y_is, y_gf, y_pf, y_f0, y_f1, y_f3, y_nI, y_nK, y_nZ, y_nL, y_nR, y_k1i, y_k1r, y_k1l, y_k1n, y_tl, y_tn, y_s, y_ss, List.getElem?_cons_zero, List.getElem?_cons_succ, List.set_cons_zero, List.set_cons_succ, List.length_cons, List.length_nil, true_and, and_true]
  exact hQ
theorem s_ruleLong {f0 f1 f2 f3 f4 f5 f6 f7 f8 f9 f10 : Int32} {len : Nat} (hM : g.2 73 = ob 9 [.ref 74, .ref 75, .ref 76, .ref 77, .ref 78, .ref 79, .int (f0), .int (f1), .int (f2), .ref 80, .int (f3), .ref 81, .int (f4), .ref 82, .long (r), .ref 83, .ref 84, .int (f5), .int (f6), .int (f7), .int (f8), .int (f9), .ref 85, .int (f10)]) (h74 : g.2 74 = aI 141 f) (hW : nwf f W) (hl : W 100 = len) (hQ : Q (some (.int (nI len))) g) : wp 158 b 0 [.ref 73] [] g Q := by
  have e := hW 100 (by decide)
  rw [wI_n (by decide), hl] at e
  simp (disch := omega) only [q_X11_ruleLong_0, q_X11_ruleLong_1, q_X11_ruleLong_4, q_X11_ruleLong_6, q_X11_ruleLong_7, hM, h74, e, y_is, y_gf, y_pf, y_f0, y_f1, y_f3, y_nI, y_nK, y_nZ, y_nL, y_nR, y_k1i, y_k1r, y_k1l, y_k1n, y_tl, y_tn, y_s, y_ss, List.getElem?_cons_zero, List.getElem?_cons_succ, List.set_cons_zero, List.set_cons_succ, List.length_cons, List.length_nil, true_and, and_true, y_lIn, y_lKn, y_lZn, y_lLn, y_wIn, y_wZn, y_wLn, lit, le_n, lt_n, eq_n]
  exact hQ
theorem s_mcharAt {f0 f1 f2 f3 f4 f5 f6 f7 f8 f9 f10 : Int32} {k : Nat} (hM : g.2 73 = ob 9 [.ref 74, .ref 75, .ref 76, .ref 77, .ref 78, .ref 79, .int (f0), .int (f1), .int (f2), .ref 80, .int (f3), .ref 81, .int (f4), .ref 82, .long (r), .ref 83, .ref 84, .int (f5), .int (f6), .int (f7), .int (f8), .int (f9), .ref 85, .int (f10)]) (h74 : g.2 74 = aI 141 f) (hW : nwf f W) (hk : k < 40) (hQ : Q (some (.int (nI (chW W k)))) g) : wp 159 b 0 [.ref 73, .int (nI k)] [] g Q := by
  have e := hW (101 + k) (by omega)
  rw [wI_n (by omega)] at e
  simp (disch := omega) only [q_X11_charAt_0, q_X11_charAt_1, q_X11_charAt_4, q_X11_charAt_6, q_X11_charAt_7, q_X11_charAt_8, q_X11_charAt_9, hM, h74, e, y_is, y_gf, y_pf, y_f0, y_f1, y_f3, y_nI, y_nK, y_nZ, y_nL, y_nR, y_k1i, y_k1r, y_k1l, y_k1n, y_tl, y_tn, y_s, y_ss, List.getElem?_cons_zero, List.getElem?_cons_succ, List.set_cons_zero, List.set_cons_succ, List.length_cons, List.length_nil, true_and, and_true, y_lIn, y_lKn, y_lZn, y_lLn, y_wIn, y_wZn, y_wLn, lit, le_n, lt_n, eq_n, lit, nI_add]
  exact hQ
theorem s_ahead {f0 f2 f3 f4 f5 f6 f7 f8 f9 f10 : Int32} {len : Nat} (h74 : g.2 74 = aI 141 f) (hW : nwf f W) (hl : W 100 = len) (hlen : len ≤ 40) (hch : ∀ k, k < 40 → chW W k ≤ 127) : ∀ (d a : Nat) (g' : mzG) (Q' : mzQ), a + d = len → g'.2 73 = ob 9 [.ref 74, .ref 75, .ref 76, .ref 77, .ref 78, .ref 79, .int (f0), .int (nI a), .int (f2), .ref 80, .int (f3), .ref 81, .int (f4), .ref 82, .long (r), .ref 83, .ref 84, .int (f5), .int (f6), .int (f7), .int (f8), .int (f9), .ref 85, .int (f10)] → fr g g' 73 74 → (∀ g2, g2.2 73 = ob 9 [.ref 74, .ref 75, .ref 76, .ref 77, .ref 78, .ref 79, .int (f0), .int (nI (skp (chW W) d a)), .int (f2), .ref 80, .int (f3), .ref 81, .int (f4), .ref 82, .long (r), .ref 83, .ref 84, .int (f5), .int (f6), .int (f7), .int (f8), .int (f9), .ref 85, .int (f10)] → fr g g2 73 74 → Q' (some (.int (if len ≤ skp (chW W) d a then -1 else nI (chW W (skp (chW W) d a))))) g2) → wp 160 b 0 [.ref 73] [] g' Q' := by
  intro d
  induction d with
  | zero =>
    intro a g' Q' hd hM hf hQ
    have h74' : g'.2 74 = aI 141 f := by rw [hf.2 _ (by omega)]; exact h74
    rw [skp] at hQ
    rw [q_X11_ahead_0]
    simp (disch := omega) only [q_X11_ahead_1, q_X11_ahead_4, q_X11_ahead_5, hM, y_is, y_gf, y_pf, y_f0, y_f1, y_f3, y_nI, y_nK, y_nZ, y_nL, y_nR, y_k1i, y_k1r, y_k1l, y_k1n, y_tl, y_tn, y_s, y_ss, List.getElem?_cons_zero, List.getElem?_cons_succ, List.set_cons_zero, List.set_cons_succ, List.length_cons, List.length_nil, true_and, and_true]
    refine s_ruleLong hM h74' hW hl ?_
    simp (disch := omega) only [q_X11_ahead_8, y_is, y_gf, y_pf, y_f0, y_f1, y_f3, y_nI, y_nK, y_nZ, y_nL, y_nR, y_k1i, y_k1r, y_k1l, y_k1n, y_tl, y_tn, y_s, y_ss, List.getElem?_cons_zero, List.getElem?_cons_succ, List.set_cons_zero, List.set_cons_succ, List.length_cons, List.length_nil, true_and, and_true, le_n]
    refine br1 (by omega) ?_
    simp (disch := omega) only [q_X11_ahead_37, q_X11_ahead_38, q_X11_ahead_41, q_X11_ahead_42, hM, y_is, y_gf, y_pf, y_f0, y_f1, y_f3, y_nI, y_nK, y_nZ, y_nL, y_nR, y_k1i, y_k1r, y_k1l, y_k1n, y_tl, y_tn, y_s, y_ss, List.getElem?_cons_zero, List.getElem?_cons_succ, List.set_cons_zero, List.set_cons_succ, List.length_cons, List.length_nil, true_and, and_true]
    refine s_ruleLong hM h74' hW hl ?_
    simp (disch := omega) only [q_X11_ahead_45, y_is, y_gf, y_pf, y_f0, y_f1, y_f3, y_nI, y_nK, y_nZ, y_nL, y_nR, y_k1i, y_k1r, y_k1l, y_k1n, y_tl, y_tn, y_s, y_ss, List.getElem?_cons_zero, List.getElem?_cons_succ, List.set_cons_zero, List.set_cons_succ, List.length_cons, List.length_nil, true_and, and_true, le_n]
    refine br1 (by omega) ?_
    simp only [q_X11_ahead_59, q_X11_ahead_60, y_is, y_gf, y_pf, y_f0, y_f1, y_f3, y_nI, y_nK, y_nZ, y_nL, y_nR, y_k1i, y_k1r, y_k1l, y_k1n, y_tl, y_tn, y_s, y_ss, List.getElem?_cons_zero, List.getElem?_cons_succ, List.set_cons_zero, List.set_cons_succ, List.length_cons, List.length_nil, true_and, and_true]
    have := hQ g' hM hf
    rw [if_pos (by omega)] at this
    exact this
  | succ d ih =>
    intro a g' Q' hd hM hf hQ
    have h74' : g'.2 74 = aI 141 f := by rw [hf.2 _ (by omega)]; exact h74
    have hc := hch a (by omega)
    rw [skp] at hQ
    rw [q_X11_ahead_0]
    simp (disch := omega) only [q_X11_ahead_1, q_X11_ahead_4, q_X11_ahead_5, hM, y_is, y_gf, y_pf, y_f0, y_f1, y_f3, y_nI, y_nK, y_nZ, y_nL, y_nR, y_k1i, y_k1r, y_k1l, y_k1n, y_tl, y_tn, y_s, y_ss, List.getElem?_cons_zero, List.getElem?_cons_succ, List.set_cons_zero, List.set_cons_succ, List.length_cons, List.length_nil, true_and, and_true]
    refine s_ruleLong hM h74' hW hl ?_
    simp (disch := omega) only [q_X11_ahead_8, q_X11_ahead_11, q_X11_ahead_12, q_X11_ahead_13, q_X11_ahead_16, hM, y_is, y_gf, y_pf, y_f0, y_f1, y_f3, y_nI, y_nK, y_nZ, y_nL, y_nR, y_k1i, y_k1r, y_k1l, y_k1n, y_tl, y_tn, y_s, y_ss, List.getElem?_cons_zero, List.getElem?_cons_succ, List.set_cons_zero, List.set_cons_succ, List.length_cons, List.length_nil, true_and, and_true, le_n]
    refine br0 (by omega) (s_mcharAt hM h74' hW (by omega) ?_)
    simp (disch := omega) only [q_X11_ahead_19, q_X11_ahead_21, y_is, y_gf, y_pf, y_f0, y_f1, y_f3, y_nI, y_nK, y_nZ, y_nL, y_nR, y_k1i, y_k1r, y_k1l, y_k1n, y_tl, y_tn, y_s, y_ss, List.getElem?_cons_zero, List.getElem?_cons_succ, List.set_cons_zero, List.set_cons_succ, List.length_cons, List.length_nil, true_and, and_true, lit, eq_n]
    by_cases c : chW W a = 32
    · rw [bnt c]
      simp only [if_pos c] at hQ
      simp (disch := omega) only [q_X11_ahead_24, q_X11_ahead_25, q_X11_ahead_26, q_X11_ahead_29, q_X11_ahead_30, q_X11_ahead_31, q_X11_ahead_34, hM, y_is, y_gf, y_pf, y_f0, y_f1, y_f3, y_nI, y_nK, y_nZ, y_nL, y_nR, y_k1i, y_k1r, y_k1l, y_k1n, y_tl, y_tn, y_s, y_ss, List.getElem?_cons_zero, List.getElem?_cons_succ, List.set_cons_zero, List.set_cons_succ, List.length_cons, List.length_nil, true_and, and_true, lit, nI_add]
      exact ⟨by decide, ih (a + 1) _ Q' (by omega) y_s (hf.hs (by omega) (by omega)) hQ⟩
    · rw [bnf c]
      simp only [if_neg c] at hQ
      simp (disch := omega) only [q_X11_ahead_37, q_X11_ahead_38, q_X11_ahead_41, q_X11_ahead_42, hM, y_is, y_gf, y_pf, y_f0, y_f1, y_f3, y_nI, y_nK, y_nZ, y_nL, y_nR, y_k1i, y_k1r, y_k1l, y_k1n, y_tl, y_tn, y_s, y_ss, List.getElem?_cons_zero, List.getElem?_cons_succ, List.set_cons_zero, List.set_cons_succ, List.length_cons, List.length_nil, true_and, and_true]
      refine s_ruleLong hM h74' hW hl ?_
      simp (disch := omega) only [q_X11_ahead_45, q_X11_ahead_48, q_X11_ahead_49, q_X11_ahead_50, q_X11_ahead_53, hM, y_is, y_gf, y_pf, y_f0, y_f1, y_f3, y_nI, y_nK, y_nZ, y_nL, y_nR, y_k1i, y_k1r, y_k1l, y_k1n, y_tl, y_tn, y_s, y_ss, List.getElem?_cons_zero, List.getElem?_cons_succ, List.set_cons_zero, List.set_cons_succ, List.length_cons, List.length_nil, true_and, and_true, le_n]
      refine br0 (by omega) (s_mcharAt hM h74' hW (by omega) ?_)
      simp only [q_X11_ahead_56, q_X11_ahead_60, y_is, y_gf, y_pf, y_f0, y_f1, y_f3, y_nI, y_nK, y_nZ, y_nL, y_nR, y_k1i, y_k1r, y_k1l, y_k1n, y_tl, y_tn, y_s, y_ss, List.getElem?_cons_zero, List.getElem?_cons_succ, List.set_cons_zero, List.set_cons_succ, List.length_cons, List.length_nil, true_and, and_true]
      have := hQ g' hM hf
      rw [if_neg (by omega)] at this
      exact this
theorem s_digits {f0 f2 f3 f4 f5 f6 f7 f8 f9 f10 : Int32} {len a : Nat} (hM : g.2 73 = ob 9 [.ref 74, .ref 75, .ref 76, .ref 77, .ref 78, .ref 79, .int (f0), .int (nI a), .int (f2), .ref 80, .int (f3), .ref 81, .int (f4), .ref 82, .long (r), .ref 83, .ref 84, .int (f5), .int (f6), .int (f7), .int (f8), .int (f9), .ref 85, .int (f10)]) (h74 : g.2 74 = aI 141 f) (hW : nwf f W) (hl : W 100 = len) (hlen : len ≤ 40) (hch : ∀ k, k < 40 → chW W k ≤ 127) (ha : a < len) (h1 : 6 < dn (chW W) (len - a) a → ∀ g' pl, g'.2 73 = ob 9 [.ref 74, .ref 75, .ref 76, .ref 77, .ref 78, .ref 79, .int (f0), .int (pl), .int (nI (10 * a + 2)), .ref 80, .int (f3), .ref 81, .int (f4), .ref 82, .long (r), .ref 83, .ref 84, .int (f5), .int (f6), .int (f7), .int (f8), .int (f9), .ref 85, .int (f10)] → fr g g' 73 74 → Q (some (.long (lN 0))) g') (h2 : ¬ 6 < dn (chW W) (len - a) a → ∀ g', g'.2 73 = ob 9 [.ref 74, .ref 75, .ref 76, .ref 77, .ref 78, .ref 79, .int (f0), .int (nI (a + dn (chW W) (len - a) a)), .int (f2), .ref 80, .int (f3), .ref 81, .int (f4), .ref 82, .long (r), .ref 83, .ref 84, .int (f5), .int (f6), .int (f7), .int (f8), .int (f9), .ref 85, .int (f10)] → fr g g' 73 74 → Q (some (.long (lN (dv (chW W) a (dn (chW W) (len - a) a))))) g') : wp 167 b 0 [.ref 73, .null, .null, .null] [] g Q := by
  have hdn := dn_le (chW W) (len - a) a
  have loop : ∀ d k g', a + k + d = len → k ≤ 6 → dn (chW W) (len - a) a = k + dn (chW W) d (a + k) → (∀ j, j < k → dg (chW W (a + j)) = true) → g'.2 73 = ob 9 [.ref 74, .ref 75, .ref 76, .ref 77, .ref 78, .ref 79, .int (f0), .int (nI (a + k)), .int (f2), .ref 80, .int (f3), .ref 81, .int (f4), .ref 82, .long (r), .ref 83, .ref 84, .int (f5), .int (f6), .int (f7), .int (f8), .int (f9), .ref 85, .int (f10)] → fr g g' 73 74 → wp 167 b 7 [.ref 73, .int (nI a), .long (lN (dv (chW W) a k)), .null] [] g' Q := by
    intro d
    induction d with
    | zero =>
      intro k g' hk h6 hd hj hM' hf
      have h74' : g'.2 74 = aI 141 f := by rw [hf.2 _ (by omega)]; exact h74
      rw [dn, Nat.add_zero] at hd
      rw [hd] at h2
      rw [q_X11_digits_7]
      simp (disch := omega) only [q_X11_digits_8, q_X11_digits_11, q_X11_digits_12, hM', y_is, y_gf, y_pf, y_f0, y_f1, y_f3, y_nI, y_nK, y_nZ, y_nL, y_nR, y_k1i, y_k1r, y_k1l, y_k1n, y_tl, y_tn, y_s, y_ss, List.getElem?_cons_zero, List.getElem?_cons_succ, List.set_cons_zero, List.set_cons_succ, List.length_cons, List.length_nil, true_and, and_true]
      refine s_ruleLong hM' h74' hW hl ?_
      simp (disch := omega) only [q_X11_digits_15, q_X11_digits_88, q_X11_digits_89, y_is, y_gf, y_pf, y_f0, y_f1, y_f3, y_nI, y_nK, y_nZ, y_nL, y_nR, y_k1i, y_k1r, y_k1l, y_k1n, y_tl, y_tn, y_s, y_ss, List.getElem?_cons_zero, List.getElem?_cons_succ, List.set_cons_zero, List.set_cons_succ, List.length_cons, List.length_nil, true_and, and_true, le_n]
      exact br1 (by omega) (h2 (by omega) g' hM' hf)
    | succ d ih =>
      intro k g' hk h6 hd hj hM' hf
      have h74' : g'.2 74 = aI 141 f := by rw [hf.2 _ (by omega)]; exact h74
      have hc := hch (a + k) (by omega)
      rw [dn] at hd
      rw [q_X11_digits_7]
      simp (disch := omega) only [q_X11_digits_8, q_X11_digits_11, q_X11_digits_12, hM', y_is, y_gf, y_pf, y_f0, y_f1, y_f3, y_nI, y_nK, y_nZ, y_nL, y_nR, y_k1i, y_k1r, y_k1l, y_k1n, y_tl, y_tn, y_s, y_ss, List.getElem?_cons_zero, List.getElem?_cons_succ, List.set_cons_zero, List.set_cons_succ, List.length_cons, List.length_nil, true_and, and_true]
      refine s_ruleLong hM' h74' hW hl ?_
      simp (disch := omega) only [q_X11_digits_15, q_X11_digits_18, q_X11_digits_19, q_X11_digits_20, q_X11_digits_23, hM', y_is, y_gf, y_pf, y_f0, y_f1, y_f3, y_nI, y_nK, y_nZ, y_nL, y_nR, y_k1i, y_k1r, y_k1l, y_k1n, y_tl, y_tn, y_s, y_ss, List.getElem?_cons_zero, List.getElem?_cons_succ, List.set_cons_zero, List.set_cons_succ, List.length_cons, List.length_nil, true_and, and_true, le_n]
      refine br0 (by omega) (s_mcharAt hM' h74' hW (by omega) ?_)
      simp only [q_X11_digits_26, y_is, y_gf, y_pf, y_f0, y_f1, y_f3, y_nI, y_nK, y_nZ, y_nL, y_nR, y_k1i, y_k1r, y_k1l, y_k1n, y_tl, y_tn, y_s, y_ss, List.getElem?_cons_zero, List.getElem?_cons_succ, List.set_cons_zero, List.set_cons_succ, List.length_cons, List.length_nil, true_and, and_true]
      refine s_misFig (fun z => ?_) (fun z => ?_)
      · have hD := (inR_dg (by omega)).mp z
        rw [if_pos hD] at hd
        simp only [q_X11_digits_29, y_is, y_gf, y_pf, y_f0, y_f1, y_f3, y_nI, y_nK, y_nZ, y_nL, y_nR, y_k1i, y_k1r, y_k1l, y_k1n, y_tl, y_tn, y_s, y_ss, List.getElem?_cons_zero, List.getElem?_cons_succ, List.set_cons_zero, List.set_cons_succ, List.length_cons, List.length_nil, true_and, and_true]
        refine br0 (by decide) ?_
        simp (disch := omega) only [q_X11_digits_32, q_X11_digits_33, q_X11_digits_36, q_X11_digits_37, q_X11_digits_38, q_X11_digits_40, hM', y_is, y_gf, y_pf, y_f0, y_f1, y_f3, y_nI, y_nK, y_nZ, y_nL, y_nR, y_k1i, y_k1r, y_k1l, y_k1n, y_tl, y_tn, y_s, y_ss, List.getElem?_cons_zero, List.getElem?_cons_succ, List.set_cons_zero, List.set_cons_succ, List.length_cons, List.length_nil, true_and, and_true, lit, pk_sub, Nat.add_sub_cancel_left, eq_n]
        have hb := dg_b hD
        have hj' : ∀ j, j < k + 1 → dg (chW W (a + j)) = true := fun j hjj => by
          by_cases e : j = k
          · rw [e]; exact hD
          · exact hj j (by omega)
        by_cases k6 : k = 6
        · rw [bnt k6]
          simp (disch := omega) only [q_X11_digits_43, q_X11_digits_44, q_X11_digits_46, q_X11_digits_47, q_X11_digits_48, q_X11_digits_49, q_X11_digits_50, q_X11_digits_53, q_X11_digits_54, hM', y_is, y_gf, y_pf, y_f0, y_f1, y_f3, y_nI, y_nK, y_nZ, y_nL, y_nR, y_k1i, y_k1r, y_k1l, y_k1n, y_tl, y_tn, y_s, y_ss, List.getElem?_cons_zero, List.getElem?_cons_succ, List.set_cons_zero, List.set_cons_succ, List.length_cons, List.length_nil, true_and, and_true, lit, litL, pk_mul, nI_add]
          exact ⟨by decide, h1 (by omega) _ _ y_s (hf.hs (by omega) (by omega))⟩
        · rw [bnf k6]
          have hv := dv_le (ch := chW W) (a := a) (k := k) hj
          have hp : 10 ^ k ≤ 10 ^ 6 := Nat.pow_le_pow_right (by decide) h6
          have ihn := fun g2 => ih (k + 1) g2 (by omega) (by omega) (by rw [show a + (k + 1) = a + k + 1 by omega]; omega) hj'
          rw [dv] at ihn
          simp (disch := omega) only [q_X11_digits_55, q_X11_digits_58, q_X11_digits_59, q_X11_digits_60, q_X11_digits_61, q_X11_digits_62, q_X11_digits_65, hM', y_is, y_gf, y_pf, y_f0, y_f1, y_f3, y_nI, y_nK, y_nZ, y_nL, y_nR, y_k1i, y_k1r, y_k1l, y_k1n, y_tl, y_tn, y_s, y_ss, List.getElem?_cons_zero, List.getElem?_cons_succ, List.set_cons_zero, List.set_cons_succ, List.length_cons, List.length_nil, true_and, and_true, litL, l_mul]
          refine s_mcharAt hM' h74' hW (by omega) ?_
          simp (disch := omega) only [q_X11_digits_68, q_X11_digits_69, q_X11_digits_70, q_X11_digits_73, q_X11_digits_74, q_X11_digits_75, q_X11_digits_76, q_X11_digits_77, q_X11_digits_80, q_X11_digits_81, q_X11_digits_82, q_X11_digits_85, hM', y_is, y_gf, y_pf, y_f0, y_f1, y_f3, y_nI, y_nK, y_nZ, y_nL, y_nR, y_k1i, y_k1r, y_k1l, y_k1n, y_tl, y_tn, y_s, y_ss, List.getElem?_cons_zero, List.getElem?_cons_succ, List.set_cons_zero, List.set_cons_succ, List.length_cons, List.length_nil, true_and, and_true, lit, litL, i_l, l_add, l_sub, nI_add]
          exact ⟨by decide, ihn _ y_s (hf.hs (by omega) (by omega))⟩
      · have hD : dg (chW W (a + k)) = false := by
          cases e : dg (chW W (a + k)) with
          | false => rfl
          | true => exact absurd ((inR_dg (by omega)).mpr e) z
        rw [if_neg (by rw [hD]; decide), Nat.add_zero] at hd
        rw [hd] at h2
        simp only [q_X11_digits_29, q_X11_digits_88, q_X11_digits_89, y_is, y_gf, y_pf, y_f0, y_f1, y_f3, y_nI, y_nK, y_nZ, y_nL, y_nR, y_k1i, y_k1r, y_k1l, y_k1n, y_tl, y_tn, y_s, y_ss, List.getElem?_cons_zero, List.getElem?_cons_succ, List.set_cons_zero, List.set_cons_succ, List.length_cons, List.length_nil, true_and, and_true]
        exact br1 (by decide) (h2 (by omega) g' hM' hf)
  simp (disch := omega) only [q_X11_digits_0, q_X11_digits_1, q_X11_digits_4, q_X11_digits_5, q_X11_digits_6, hM, y_is, y_gf, y_pf, y_f0, y_f1, y_f3, y_nI, y_nK, y_nZ, y_nL, y_nR, y_k1i, y_k1r, y_k1l, y_k1n, y_tl, y_tn, y_s, y_ss, List.getElem?_cons_zero, List.getElem?_cons_succ, List.set_cons_zero, List.set_cons_succ, List.length_cons, List.length_nil, true_and, and_true, litL]
  exact loop (len - a) 0 g (by omega) (by omega) (by simp) (fun j hj => by omega) hM fr.rf
theorem s_stands {f0 f1 f2 f5 f6 f7 f8 f9 f10 : Int32} (g0 : mzG) {V : List Int64} (hV : V.length < 64) (R : List Nat × Int64) (hQ : ∀ g', g'.2 73 = ob 9 [.ref 74, .ref 75, .ref 76, .ref 77, .ref 78, .ref 79, .int (f0), .int (f1), .int (f2), .ref 80, .int (nI (V.length + 1)), .ref 81, .int (nI R.1.length), .ref 82, .long (r), .ref 83, .ref 84, .int (f5), .int (f6), .int (f7), .int (f8), .int (f9), .ref 85, .int (f10)] → rs g' (R.2 :: V) R.1 → fr3 g0 g' → Q none g') : ∀ (S : List Nat) (v0 v : Int64) (g : mzG), g.2 73 = ob 9 [.ref 74, .ref 75, .ref 76, .ref 77, .ref 78, .ref 79, .int (f0), .int (f1), .int (f2), .ref 80, .int (nI V.length), .ref 81, .int (nI S.length), .ref 82, .long (r), .ref 83, .ref 84, .int (f5), .int (f6), .int (f7), .int (f8), .int (f9), .ref 85, .int (f10)] → rs g V S → (∀ c, c ∈ S → wok c) → S.length < 100 → fr3 g0 g → stn S v = R → wp 164 b 2 [.ref 73, .long v0, .null, .long v, .null] [] g Q := by
  have fin : ∀ (S : List Nat) (v0 v : Int64) (g : mzG), g.2 73 = ob 9 [.ref 74, .ref 75, .ref 76, .ref 77, .ref 78, .ref 79, .int (f0), .int (f1), .int (f2), .ref 80, .int (nI V.length), .ref 81, .int (nI S.length), .ref 82, .long (r), .ref 83, .ref 84, .int (f5), .int (f6), .int (f7), .int (f8), .int (f9), .ref 85, .int (f10)] → rs g V S → fr3 g0 g → R = (S, v) → wp 164 b 73 [.ref 73, .long v0, .null, .long v, .null] [] g Q := by
    intro S v0 v g hM hr hf e
    subst e
    obtain ⟨⟨F, a1, a2⟩, f, a3, a4⟩ := hr
    simp (disch := omega) only [q_X11_stands_73, q_X11_stands_74, q_X11_stands_77, q_X11_stands_78, q_X11_stands_81, q_X11_stands_82, q_X11_stands_83, q_X11_stands_84, q_X11_stands_85, q_X11_stands_88, q_X11_stands_89, q_X11_stands_90, q_X11_stands_93, hM, a1, y_is, y_gf, y_pf, y_f0, y_f1, y_f3, y_nI, y_nK, y_nZ, y_nL, y_nR, y_k1i, y_k1r, y_k1l, y_k1n, y_tl, y_tn, y_s, y_ss, List.getElem?_cons_zero, List.getElem?_cons_succ, List.set_cons_zero, List.set_cons_succ, List.length_cons, List.length_nil, true_and, and_true, y_lIn, y_lKn, y_lZn, y_lLn, y_wIn, y_wZn, y_wLn, lit, le_n, lt_n, eq_n, lit, nI_add, y_ne]
    exact ⟨by decide, hQ _ y_s ⟨⟨_, by rw [y_ne (by decide), y_s], sfL_push a2⟩, f, by rw [y_ne (by decide), y_ne (by decide)]; exact a3, a4⟩ ((hf.hs (Or.inr (Or.inl rfl))).hs (Or.inl rfl))⟩
  intro S
  induction S with
  | nil =>
    intro v0 v g hM hr hw hl hf e
    rw [stn] at e
    rw [q_X11_stands_2]
    simp (disch := omega) only [q_X11_stands_3, q_X11_stands_6, hM, y_is, y_gf, y_pf, y_f0, y_f1, y_f3, y_nI, y_nK, y_nZ, y_nL, y_nR, y_k1i, y_k1r, y_k1l, y_k1n, y_tl, y_tn, y_s, y_ss, List.getElem?_cons_zero, List.getElem?_cons_succ, List.set_cons_zero, List.set_cons_succ, List.length_cons, List.length_nil, true_and, and_true, lit, le_n]
    exact br1 (by first | decide | omega | trivial | simp) (fin [] v0 v g hM hr hf e.symm)
  | cons c S ih =>
    intro v0 v g hM hr hw hl hf e
    rw [stn] at e
    have hl' : S.length + 1 < 100 := hl
    obtain ⟨⟨F, a1, a2⟩, f, a3, a4⟩ := id hr
    have t1 : f S.length = nI (sgc c) := by have := a4.1; rw [List.length_map] at this; exact this
    have hc := hw c List.mem_cons_self
    obtain ⟨w1, w2, w3, w4, w5⟩ := wok_sg hc
    rw [q_X11_stands_2]
    simp (disch := omega) only [q_X11_stands_3, q_X11_stands_6, q_X11_stands_9, q_X11_stands_10, q_X11_stands_13, q_X11_stands_14, q_X11_stands_17, q_X11_stands_18, q_X11_stands_19, q_X11_stands_20, q_X11_stands_23, hM, a3, y_is, y_gf, y_pf, y_f0, y_f1, y_f3, y_nI, y_nK, y_nZ, y_nL, y_nR, y_k1i, y_k1r, y_k1l, y_k1n, y_tl, y_tn, y_s, y_ss, List.getElem?_cons_zero, List.getElem?_cons_succ, List.set_cons_zero, List.set_cons_succ, List.length_cons, List.length_nil, true_and, and_true, y_lIn, y_lKn, y_lZn, y_lLn, y_wIn, y_wZn, y_wLn, lit, le_n, lt_n, eq_n, lit, pk_sub, Nat.add_sub_cancel, t1, le_n]
    refine br0 (by first | decide | omega | trivial | simp) (brs (fun z => ?_) (fun z => ?_))
    · rw [if_neg (fun h => by have := w2.mpr h; omega)] at e
      exact fin (c :: S) v0 v g hM hr hf e.symm
    · rw [if_pos (w2.mp (by omega))] at e
      have nx : ∀ v1, one c v = v1 → wp 164 b 59 [.ref 73, .long v0, .null, .long v, .null] [.long v1] g Q := by
        intro v1 hv1
        simp (disch := omega) only [q_X11_stands_59, q_X11_stands_60, q_X11_stands_61, q_X11_stands_62, q_X11_stands_65, q_X11_stands_66, q_X11_stands_67, q_X11_stands_70, hM, y_is, y_gf, y_pf, y_f0, y_f1, y_f3, y_nI, y_nK, y_nZ, y_nL, y_nR, y_k1i, y_k1r, y_k1l, y_k1n, y_tl, y_tn, y_s, y_ss, List.getElem?_cons_zero, List.getElem?_cons_succ, List.set_cons_zero, List.set_cons_succ, List.length_cons, List.length_nil, true_and, and_true, lit, pk_sub, Nat.add_sub_cancel]
        refine ⟨by decide, ih v0 v1 _ y_s ?_ (fun d hd => hw d (List.mem_cons_of_mem _ hd)) (by omega) (hf.hs (Or.inl rfl)) (by rw [← hv1]; exact e)⟩
        exact ⟨⟨F, by rw [y_ne (by decide)]; exact a1, a2⟩, f, by rw [y_ne (by decide)]; exact a3, a4.2⟩
      simp (disch := omega) only [q_X11_stands_26, q_X11_stands_27, q_X11_stands_30, q_X11_stands_31, q_X11_stands_34, q_X11_stands_35, q_X11_stands_36, q_X11_stands_37, q_X11_stands_40, hM, a3, y_is, y_gf, y_pf, y_f0, y_f1, y_f3, y_nI, y_nK, y_nZ, y_nL, y_nR, y_k1i, y_k1r, y_k1l, y_k1n, y_tl, y_tn, y_s, y_ss, List.getElem?_cons_zero, List.getElem?_cons_succ, List.set_cons_zero, List.set_cons_succ, List.length_cons, List.length_nil, true_and, and_true, y_lIn, y_lKn, y_lZn, y_lLn, y_wIn, y_wZn, y_wLn, lit, le_n, lt_n, eq_n, lit, pk_sub, Nat.add_sub_cancel, t1, eq_n]
      by_cases h33 : sgc c = 1001
      · rw [bnt h33]
        have hone : one c v = if v = 0 then 1 else 0 := by unfold one; rw [if_pos (w3.mp h33)]
        simp only [q_X11_stands_43, q_X11_stands_44, q_X11_stands_45, q_X11_stands_46, y_is, y_gf, y_pf, y_f0, y_f1, y_f3, y_nI, y_nK, y_nZ, y_nL, y_nR, y_k1i, y_k1r, y_k1l, y_k1n, y_tl, y_tn, y_s, y_ss, List.getElem?_cons_zero, List.getElem?_cons_succ, List.set_cons_zero, List.set_cons_succ, List.length_cons, List.length_nil, true_and, and_true, lcq]
        by_cases z0 : v = 0
        · rw [bnt z0]
          simp only [q_X11_stands_49, q_X11_stands_50, y_is, y_gf, y_pf, y_f0, y_f1, y_f3, y_nI, y_nK, y_nZ, y_nL, y_nR, y_k1i, y_k1r, y_k1l, y_k1n, y_tl, y_tn, y_s, y_ss, List.getElem?_cons_zero, List.getElem?_cons_succ, List.set_cons_zero, List.set_cons_succ, List.length_cons, List.length_nil, true_and, and_true]
          exact nx 1 (by rw [hone, if_pos z0])
        · rw [bnf z0]
          simp only [q_X11_stands_53, q_X11_stands_54, y_is, y_gf, y_pf, y_f0, y_f1, y_f3, y_nI, y_nK, y_nZ, y_nL, y_nR, y_k1i, y_k1r, y_k1l, y_k1n, y_tl, y_tn, y_s, y_ss, List.getElem?_cons_zero, List.getElem?_cons_succ, List.set_cons_zero, List.set_cons_succ, List.length_cons, List.length_nil, true_and, and_true]
          exact nx 0 (by rw [hone, if_neg z0])
      · rw [bnf h33]
        simp only [q_X11_stands_57, q_X11_stands_58, y_is, y_gf, y_pf, y_f0, y_f1, y_f3, y_nI, y_nK, y_nZ, y_nL, y_nR, y_k1i, y_k1r, y_k1l, y_k1n, y_tl, y_tn, y_s, y_ss, List.getElem?_cons_zero, List.getElem?_cons_succ, List.set_cons_zero, List.set_cons_succ, List.length_cons, List.length_nil, true_and, and_true]
        exact nx (-v) (by unfold one; rw [if_neg (fun h => h33 (w3.mpr h))])
theorem s_workOut {f0 f1 f2 f5 f6 f7 f8 f9 f10 : Int32} {c : Nat} {S : List Nat} {y z : Int64} {T : List Int64} (hM : g.2 73 = ob 9 [.ref 74, .ref 75, .ref 76, .ref 77, .ref 78, .ref 79, .int (f0), .int (f1), .int (f2), .ref 80, .int (nI (T.length + 1 + 1)), .ref 81, .int (nI (S.length + 1)), .ref 82, .long (r), .ref 83, .ref 84, .int (f5), .int (f6), .int (f7), .int (f8), .int (f9), .ref 85, .int (f10)]) (hr : rs g (y :: z :: T) (c :: S)) (hc : bin c) (hS : S.length < 100) (hT : T.length < 60) (hQ : ∀ g', g'.2 73 = ob 9 [.ref 74, .ref 75, .ref 76, .ref 77, .ref 78, .ref 79, .int (f0), .int (f1), .int (f2), .ref 80, .int (nI (T.length + 1)), .ref 81, .int (nI S.length), .ref 82, .long (r), .ref 83, .ref 84, .int (f5), .int (f6), .int (f7), .int (f8), .int (f9), .ref 85, .int (f10)] → rs g' (two c z y :: T) S → fr3 g g' → Q none g') : wp 162 b 0 [.ref 73, .null, .null, .null, .null, .null, .null] [] g Q := by
  obtain ⟨⟨F, a1, a2⟩, f, a3, a4⟩ := id hr
  obtain ⟨t1, t2, t3⟩ := id a2
  simp only [List.length_cons] at t1
  have t4 : f S.length = nI (sgc c) := by have := a4.1; rw [List.length_map] at this; exact this
  obtain ⟨-, -, -, -, w5⟩ := wok_sg (Or.inr hc.1)
  obtain ⟨w6, w7⟩ := w5 hc
  rw [w6] at t4
  simp (disch := omega) only [q_X11_workOut_0, q_X11_workOut_1, q_X11_workOut_2, q_X11_workOut_5, q_X11_workOut_6, q_X11_workOut_7, q_X11_workOut_10, q_X11_workOut_11, q_X11_workOut_12, q_X11_workOut_15, q_X11_workOut_16, q_X11_workOut_17, q_X11_workOut_20, q_X11_workOut_21, q_X11_workOut_24, q_X11_workOut_25, q_X11_workOut_28, q_X11_workOut_29, q_X11_workOut_30, q_X11_workOut_31, q_X11_workOut_32, q_X11_workOut_33, q_X11_workOut_36, q_X11_workOut_37, q_X11_workOut_40, q_X11_workOut_41, q_X11_workOut_42, q_X11_workOut_43, q_X11_workOut_45, q_X11_workOut_46, q_X11_workOut_49, q_X11_workOut_50, q_X11_workOut_53, hM, a1, a3, y_is, y_gf, y_pf, y_f0, y_f1, y_f3, y_nI, y_nK, y_nZ, y_nL, y_nR, y_k1i, y_k1r, y_k1l, y_k1n, y_tl, y_tn, y_s, y_ss, List.getElem?_cons_zero, List.getElem?_cons_succ, List.set_cons_zero, List.set_cons_succ, List.length_cons, List.length_nil, true_and, and_true, y_lIn, y_lKn, y_lZn, y_lLn, y_wIn, y_wZn, y_wLn, lit, le_n, lt_n, eq_n, lit, pk_sub, Nat.add_sub_cancel, t1, t2, t4, y_ne]
  refine ⟨by decide, by decide, ?_⟩
  generalize hg1 : hs g 73 _ = g1
  have m1 : g1.2 73 = ob 9 [.ref 74, .ref 75, .ref 76, .ref 77, .ref 78, .ref 79, .int (f0), .int (f1), .int (f2), .ref 80, .int (nI (T.length + 1)), .ref 81, .int (nI S.length), .ref 82, .long (r), .ref 83, .ref 84, .int (f5), .int (f6), .int (f7), .int (f8), .int (f9), .ref 85, .int (f10)] := by rw [← hg1, y_s]
  have a1' : g1.2 80 = aL 64 F := by rw [← hg1, y_ne (by decide)]; exact a1
  have a3' : g1.2 81 = aI 128 f := by rw [← hg1, y_ne (by decide)]; exact a3
  have hf1 : fr3 g g1 := by rw [← hg1]; exact fr3.rf.hs (Or.inl rfl)
  have fin : ∀ v, two c z y = v → wp 162 b 259 [.ref 73, .long z, .null, .long y, .null, .long v, .null] [] g1 Q := by
    intro v hv
    simp (disch := omega) only [q_X11_workOut_259, q_X11_workOut_260, q_X11_workOut_263, q_X11_workOut_264, q_X11_workOut_267, q_X11_workOut_268, q_X11_workOut_269, q_X11_workOut_271, q_X11_workOut_272, m1, a1', y_is, y_gf, y_pf, y_f0, y_f1, y_f3, y_nI, y_nK, y_nZ, y_nL, y_nR, y_k1i, y_k1r, y_k1l, y_k1n, y_tl, y_tn, y_s, y_ss, List.getElem?_cons_zero, List.getElem?_cons_succ, List.set_cons_zero, List.set_cons_succ, List.length_cons, List.length_nil, true_and, and_true, y_lIn, y_lKn, y_lZn, y_lLn, y_wIn, y_wZn, y_wLn, lit, le_n, lt_n, eq_n, lit, pk_sub, Nat.add_sub_cancel]
    refine hQ _ (by rw [y_ne (by decide)]; exact m1) ⟨⟨_, y_s, ?_⟩, f, by rw [y_ne (by decide)]; exact a3', a4.2⟩ (hf1.hs (Or.inr (Or.inl rfl)))
    rw [hv]
    exact sfL_push t3
  unfold two at fin
  simp only [q_X11_workOut_54]
  have k : ∀ c : Fin 128, (mz_lsf [(38, 150), (42, 236), (43, 220), (45, 228), (60, 172), (61, 204), (62, 188), (124, 128)] 244) (nI c.val) = if c.val = 124 then 128 else if c.val = 38 then 150 else if c.val = 60 then 172 else if c.val = 62 then 188 else if c.val = 61 then 204 else if c.val = 43 then 220 else if c.val = 45 then 228 else if c.val = 42 then 236 else 244 := by decide +kernel
  rw [k ⟨c, w7⟩]
  dsimp only
  by_cases h : c = 124
  · rw [if_pos h]; simp only [if_pos h] at fin
    simp only [q_X11_workOut_128, q_X11_workOut_129, q_X11_workOut_130, q_X11_workOut_131, y_is, y_gf, y_pf, y_f0, y_f1, y_f3, y_nI, y_nK, y_nZ, y_nL, y_nR, y_k1i, y_k1r, y_k1l, y_k1n, y_tl, y_tn, y_s, y_ss, List.getElem?_cons_zero, List.getElem?_cons_succ, List.set_cons_zero, List.set_cons_succ, List.length_cons, List.length_nil, true_and, and_true, lcq]
    by_cases z0 : z = 0
    · rw [bnt z0]
      simp only [q_X11_workOut_134, q_X11_workOut_135, q_X11_workOut_136, q_X11_workOut_137, y_is, y_gf, y_pf, y_f0, y_f1, y_f3, y_nI, y_nK, y_nZ, y_nL, y_nR, y_k1i, y_k1r, y_k1l, y_k1n, y_tl, y_tn, y_s, y_ss, List.getElem?_cons_zero, List.getElem?_cons_succ, List.set_cons_zero, List.set_cons_succ, List.length_cons, List.length_nil, true_and, and_true, lcq]
      refine brs (fun u => ?_) (fun u => ?_)
      · simp only [q_X11_workOut_144, q_X11_workOut_145, q_X11_workOut_147, y_is, y_gf, y_pf, y_f0, y_f1, y_f3, y_nI, y_nK, y_nZ, y_nL, y_nR, y_k1i, y_k1r, y_k1l, y_k1n, y_tl, y_tn, y_s, y_ss, List.getElem?_cons_zero, List.getElem?_cons_succ, List.set_cons_zero, List.set_cons_succ, List.length_cons, List.length_nil, true_and, and_true]
        exact fin 0 (if_pos ⟨z0, u⟩)
      · simp only [q_X11_workOut_140, q_X11_workOut_141, q_X11_workOut_145, q_X11_workOut_147, y_is, y_gf, y_pf, y_f0, y_f1, y_f3, y_nI, y_nK, y_nZ, y_nL, y_nR, y_k1i, y_k1r, y_k1l, y_k1n, y_tl, y_tn, y_s, y_ss, List.getElem?_cons_zero, List.getElem?_cons_succ, List.set_cons_zero, List.set_cons_succ, List.length_cons, List.length_nil, true_and, and_true]
        exact fin 1 (if_neg (fun q => u q.2))
    · rw [bnf z0]
      simp only [q_X11_workOut_140, q_X11_workOut_141, q_X11_workOut_145, q_X11_workOut_147, y_is, y_gf, y_pf, y_f0, y_f1, y_f3, y_nI, y_nK, y_nZ, y_nL, y_nR, y_k1i, y_k1r, y_k1l, y_k1n, y_tl, y_tn, y_s, y_ss, List.getElem?_cons_zero, List.getElem?_cons_succ, List.set_cons_zero, List.set_cons_succ, List.length_cons, List.length_nil, true_and, and_true]
      exact fin 1 (if_neg (fun q => z0 q.1))
  rw [if_neg h]; simp only [if_neg h] at fin
  by_cases h : c = 38
  · rw [if_pos h]; simp only [if_pos h] at fin
    simp only [q_X11_workOut_150, q_X11_workOut_151, q_X11_workOut_152, q_X11_workOut_153, y_is, y_gf, y_pf, y_f0, y_f1, y_f3, y_nI, y_nK, y_nZ, y_nL, y_nR, y_k1i, y_k1r, y_k1l, y_k1n, y_tl, y_tn, y_s, y_ss, List.getElem?_cons_zero, List.getElem?_cons_succ, List.set_cons_zero, List.set_cons_succ, List.length_cons, List.length_nil, true_and, and_true, lcq]
    refine brs (fun z0 => ?_) (fun z0 => ?_)
    · simp only [q_X11_workOut_166, q_X11_workOut_167, q_X11_workOut_169, y_is, y_gf, y_pf, y_f0, y_f1, y_f3, y_nI, y_nK, y_nZ, y_nL, y_nR, y_k1i, y_k1r, y_k1l, y_k1n, y_tl, y_tn, y_s, y_ss, List.getElem?_cons_zero, List.getElem?_cons_succ, List.set_cons_zero, List.set_cons_succ, List.length_cons, List.length_nil, true_and, and_true]
      exact fin 0 (if_pos (Or.inl z0))
    · simp only [q_X11_workOut_156, q_X11_workOut_157, q_X11_workOut_158, q_X11_workOut_159, y_is, y_gf, y_pf, y_f0, y_f1, y_f3, y_nI, y_nK, y_nZ, y_nL, y_nR, y_k1i, y_k1r, y_k1l, y_k1n, y_tl, y_tn, y_s, y_ss, List.getElem?_cons_zero, List.getElem?_cons_succ, List.set_cons_zero, List.set_cons_succ, List.length_cons, List.length_nil, true_and, and_true, lcq]
      refine brs (fun u => ?_) (fun u => ?_)
      · simp only [q_X11_workOut_166, q_X11_workOut_167, q_X11_workOut_169, y_is, y_gf, y_pf, y_f0, y_f1, y_f3, y_nI, y_nK, y_nZ, y_nL, y_nR, y_k1i, y_k1r, y_k1l, y_k1n, y_tl, y_tn, y_s, y_ss, List.getElem?_cons_zero, List.getElem?_cons_succ, List.set_cons_zero, List.set_cons_succ, List.length_cons, List.length_nil, true_and, and_true]
        exact fin 0 (if_pos (Or.inr u))
      · simp only [q_X11_workOut_162, q_X11_workOut_163, q_X11_workOut_167, q_X11_workOut_169, y_is, y_gf, y_pf, y_f0, y_f1, y_f3, y_nI, y_nK, y_nZ, y_nL, y_nR, y_k1i, y_k1r, y_k1l, y_k1n, y_tl, y_tn, y_s, y_ss, List.getElem?_cons_zero, List.getElem?_cons_succ, List.set_cons_zero, List.set_cons_succ, List.length_cons, List.length_nil, true_and, and_true]
        exact fin 1 (if_neg (fun q => q.elim z0 u))
  rw [if_neg h]; simp only [if_neg h] at fin
  by_cases h : c = 60
  · rw [if_pos h]; simp only [if_pos h] at fin
    simp only [q_X11_workOut_172, q_X11_workOut_173, q_X11_workOut_174, q_X11_workOut_175, y_is, y_gf, y_pf, y_f0, y_f1, y_f3, y_nI, y_nK, y_nZ, y_nL, y_nR, y_k1i, y_k1r, y_k1l, y_k1n, y_tl, y_tn, y_s, y_ss, List.getElem?_cons_zero, List.getElem?_cons_succ, List.set_cons_zero, List.set_cons_succ, List.length_cons, List.length_nil, true_and, and_true, lcg]
    refine brs (fun u => ?_) (fun u => ?_)
    · simp only [q_X11_workOut_182, q_X11_workOut_183, q_X11_workOut_185, y_is, y_gf, y_pf, y_f0, y_f1, y_f3, y_nI, y_nK, y_nZ, y_nL, y_nR, y_k1i, y_k1r, y_k1l, y_k1n, y_tl, y_tn, y_s, y_ss, List.getElem?_cons_zero, List.getElem?_cons_succ, List.set_cons_zero, List.set_cons_succ, List.length_cons, List.length_nil, true_and, and_true]
      exact fin 0 (if_neg (Int64.not_lt.mpr u))
    · simp only [q_X11_workOut_178, q_X11_workOut_179, q_X11_workOut_183, q_X11_workOut_185, y_is, y_gf, y_pf, y_f0, y_f1, y_f3, y_nI, y_nK, y_nZ, y_nL, y_nR, y_k1i, y_k1r, y_k1l, y_k1n, y_tl, y_tn, y_s, y_ss, List.getElem?_cons_zero, List.getElem?_cons_succ, List.set_cons_zero, List.set_cons_succ, List.length_cons, List.length_nil, true_and, and_true]
      exact fin 1 (if_pos (Int64.not_le.mp u))
  rw [if_neg h]; simp only [if_neg h] at fin
  by_cases h : c = 62
  · rw [if_pos h]; simp only [if_pos h] at fin
    simp only [q_X11_workOut_188, q_X11_workOut_189, q_X11_workOut_190, q_X11_workOut_191, y_is, y_gf, y_pf, y_f0, y_f1, y_f3, y_nI, y_nK, y_nZ, y_nL, y_nR, y_k1i, y_k1r, y_k1l, y_k1n, y_tl, y_tn, y_s, y_ss, List.getElem?_cons_zero, List.getElem?_cons_succ, List.set_cons_zero, List.set_cons_succ, List.length_cons, List.length_nil, true_and, and_true, lcle]
    refine brs (fun u => ?_) (fun u => ?_)
    · simp only [q_X11_workOut_198, q_X11_workOut_199, q_X11_workOut_201, y_is, y_gf, y_pf, y_f0, y_f1, y_f3, y_nI, y_nK, y_nZ, y_nL, y_nR, y_k1i, y_k1r, y_k1l, y_k1n, y_tl, y_tn, y_s, y_ss, List.getElem?_cons_zero, List.getElem?_cons_succ, List.set_cons_zero, List.set_cons_succ, List.length_cons, List.length_nil, true_and, and_true]
      exact fin 0 (if_neg (Int64.not_lt.mpr u))
    · simp only [q_X11_workOut_194, q_X11_workOut_195, q_X11_workOut_199, q_X11_workOut_201, y_is, y_gf, y_pf, y_f0, y_f1, y_f3, y_nI, y_nK, y_nZ, y_nL, y_nR, y_k1i, y_k1r, y_k1l, y_k1n, y_tl, y_tn, y_s, y_ss, List.getElem?_cons_zero, List.getElem?_cons_succ, List.set_cons_zero, List.set_cons_succ, List.length_cons, List.length_nil, true_and, and_true]
      exact fin 1 (if_pos (Int64.not_le.mp u))
  rw [if_neg h]; simp only [if_neg h] at fin
  by_cases h : c = 61
  · rw [if_pos h]; simp only [if_pos h] at fin
    simp only [q_X11_workOut_204, q_X11_workOut_205, q_X11_workOut_206, q_X11_workOut_207, y_is, y_gf, y_pf, y_f0, y_f1, y_f3, y_nI, y_nK, y_nZ, y_nL, y_nR, y_k1i, y_k1r, y_k1l, y_k1n, y_tl, y_tn, y_s, y_ss, List.getElem?_cons_zero, List.getElem?_cons_succ, List.set_cons_zero, List.set_cons_succ, List.length_cons, List.length_nil, true_and, and_true, lcq]
    by_cases u : z = y
    · rw [bnt u]
      simp only [q_X11_workOut_210, q_X11_workOut_211, q_X11_workOut_215, q_X11_workOut_217, y_is, y_gf, y_pf, y_f0, y_f1, y_f3, y_nI, y_nK, y_nZ, y_nL, y_nR, y_k1i, y_k1r, y_k1l, y_k1n, y_tl, y_tn, y_s, y_ss, List.getElem?_cons_zero, List.getElem?_cons_succ, List.set_cons_zero, List.set_cons_succ, List.length_cons, List.length_nil, true_and, and_true]
      exact fin 1 (if_pos u)
    · rw [bnf u]
      simp only [q_X11_workOut_214, q_X11_workOut_215, q_X11_workOut_217, y_is, y_gf, y_pf, y_f0, y_f1, y_f3, y_nI, y_nK, y_nZ, y_nL, y_nR, y_k1i, y_k1r, y_k1l, y_k1n, y_tl, y_tn, y_s, y_ss, List.getElem?_cons_zero, List.getElem?_cons_succ, List.set_cons_zero, List.set_cons_succ, List.length_cons, List.length_nil, true_and, and_true]
      exact fin 0 (if_neg u)
  rw [if_neg h]; simp only [if_neg h] at fin
  by_cases h : c = 43
  · rw [if_pos h]; simp only [if_pos h] at fin
    simp only [q_X11_workOut_220, q_X11_workOut_221, q_X11_workOut_222, q_X11_workOut_223, q_X11_workOut_225, y_is, y_gf, y_pf, y_f0, y_f1, y_f3, y_nI, y_nK, y_nZ, y_nL, y_nR, y_k1i, y_k1r, y_k1l, y_k1n, y_tl, y_tn, y_s, y_ss, List.getElem?_cons_zero, List.getElem?_cons_succ, List.set_cons_zero, List.set_cons_succ, List.length_cons, List.length_nil, true_and, and_true]
    exact fin _ rfl
  rw [if_neg h]; simp only [if_neg h] at fin
  by_cases h : c = 45
  · rw [if_pos h]; simp only [if_pos h] at fin
    simp only [q_X11_workOut_228, q_X11_workOut_229, q_X11_workOut_230, q_X11_workOut_231, q_X11_workOut_233, y_is, y_gf, y_pf, y_f0, y_f1, y_f3, y_nI, y_nK, y_nZ, y_nL, y_nR, y_k1i, y_k1r, y_k1l, y_k1n, y_tl, y_tn, y_s, y_ss, List.getElem?_cons_zero, List.getElem?_cons_succ, List.set_cons_zero, List.set_cons_succ, List.length_cons, List.length_nil, true_and, and_true]
    exact fin _ rfl
  rw [if_neg h]; simp only [if_neg h] at fin
  by_cases h : c = 42
  · rw [if_pos h]; simp only [if_pos h] at fin
    simp only [q_X11_workOut_236, q_X11_workOut_237, q_X11_workOut_238, q_X11_workOut_239, q_X11_workOut_241, y_is, y_gf, y_pf, y_f0, y_f1, y_f3, y_nI, y_nK, y_nZ, y_nL, y_nR, y_k1i, y_k1r, y_k1l, y_k1n, y_tl, y_tn, y_s, y_ss, List.getElem?_cons_zero, List.getElem?_cons_succ, List.set_cons_zero, List.set_cons_succ, List.length_cons, List.length_nil, true_and, and_true]
    exact fin _ rfl
  rw [if_neg h]; simp only [if_neg h] at fin
  simp only [q_X11_workOut_244, q_X11_workOut_245, q_X11_workOut_246, q_X11_workOut_247, y_is, y_gf, y_pf, y_f0, y_f1, y_f3, y_nI, y_nK, y_nZ, y_nL, y_nR, y_k1i, y_k1r, y_k1l, y_k1n, y_tl, y_tn, y_s, y_ss, List.getElem?_cons_zero, List.getElem?_cons_succ, List.set_cons_zero, List.set_cons_succ, List.length_cons, List.length_nil, true_and, and_true, lcq]
  by_cases u : y = 0
  · rw [bnt u]
    simp only [q_X11_workOut_250, q_X11_workOut_251, q_X11_workOut_257, y_is, y_gf, y_pf, y_f0, y_f1, y_f3, y_nI, y_nK, y_nZ, y_nL, y_nR, y_k1i, y_k1r, y_k1l, y_k1n, y_tl, y_tn, y_s, y_ss, List.getElem?_cons_zero, List.getElem?_cons_succ, List.set_cons_zero, List.set_cons_succ, List.length_cons, List.length_nil, true_and, and_true]
    exact fin 0 (if_pos u)
  · rw [bnf u]
    simp only [q_X11_workOut_254, q_X11_workOut_255, q_X11_workOut_256, q_X11_workOut_257, y_is, y_gf, y_pf, y_f0, y_f1, y_f3, y_nI, y_nK, y_nZ, y_nL, y_nR, y_k1i, y_k1r, y_k1l, y_k1n, y_tl, y_tn, y_s, y_ss, List.getElem?_cons_zero, List.getElem?_cons_succ, List.set_cons_zero, List.set_cons_succ, List.length_cons, List.length_nil, true_and, and_true]
    exact ⟨u, fin _ (if_neg u)⟩
theorem s_workDown {f0 f1 f2 f5 f6 f7 f8 f9 f10 : Int32} (g0 : mzG) {q : Nat} (hq : q ≤ 9) (R : List Nat × List Int64) (hQ : ∀ g', g'.2 73 = ob 9 [.ref 74, .ref 75, .ref 76, .ref 77, .ref 78, .ref 79, .int (f0), .int (f1), .int (f2), .ref 80, .int (nI R.2.length), .ref 81, .int (nI R.1.length), .ref 82, .long (r), .ref 83, .ref 84, .int (f5), .int (f6), .int (f7), .int (f8), .int (f9), .ref 85, .int (f10)] → rs g' R.2 R.1 → fr3 g0 g' → Q none g') : ∀ (S : List Nat) (V : List Int64) (g : mzG), g.2 73 = ob 9 [.ref 74, .ref 75, .ref 76, .ref 77, .ref 78, .ref 79, .int (f0), .int (f1), .int (f2), .ref 80, .int (nI V.length), .ref 81, .int (nI S.length), .ref 82, .long (r), .ref 83, .ref 84, .int (f5), .int (f6), .int (f7), .int (f8), .int (f9), .ref 85, .int (f10)] → rs g V S → (∀ c, c ∈ S → wok c) → S.length < 100 → V.length < 60 → binc S + 1 ≤ V.length → fr3 g0 g → wkd q S V = R → wp 163 b 0 [.ref 73, .int (nI q)] [] g Q := by
  intro S
  induction S with
  | nil =>
    intro V g hM hr hw hl hVl hb hf e
    rw [wkd] at e
    subst e
    rw [q_X11_workDown_0]
    simp (disch := omega) only [q_X11_workDown_1, q_X11_workDown_4, q_X11_workDown_49, hM, y_is, y_gf, y_pf, y_f0, y_f1, y_f3, y_nI, y_nK, y_nZ, y_nL, y_nR, y_k1i, y_k1r, y_k1l, y_k1n, y_tl, y_tn, y_s, y_ss, List.getElem?_cons_zero, List.getElem?_cons_succ, List.set_cons_zero, List.set_cons_succ, List.length_cons, List.length_nil, true_and, and_true, lit, le_n]
    exact br1 (by first | decide | omega | trivial | simp) (hQ g hM hr hf)
  | cons c S ih =>
    intro V g hM hr hw hl hVl hb hf e
    rw [wkd] at e
    have hl' : S.length + 1 < 100 := hl
    obtain ⟨⟨F, a1, a2⟩, f, a3, a4⟩ := id hr
    have t1 : f S.length = nI (sgc c) := by have := a4.1; rw [List.length_map] at this; exact this
    have hc := hw c List.mem_cons_self
    obtain ⟨w1, w2, w3, w4, w5⟩ := wok_sg hc
    rw [q_X11_workDown_0]
    simp (disch := omega) only [q_X11_workDown_1, q_X11_workDown_4, q_X11_workDown_7, q_X11_workDown_8, q_X11_workDown_11, q_X11_workDown_12, q_X11_workDown_15, q_X11_workDown_16, q_X11_workDown_17, q_X11_workDown_18, q_X11_workDown_21, hM, a3, y_is, y_gf, y_pf, y_f0, y_f1, y_f3, y_nI, y_nK, y_nZ, y_nL, y_nR, y_k1i, y_k1r, y_k1l, y_k1n, y_tl, y_tn, y_s, y_ss, List.getElem?_cons_zero, List.getElem?_cons_succ, List.set_cons_zero, List.set_cons_succ, List.length_cons, List.length_nil, true_and, and_true, y_lIn, y_lKn, y_lZn, y_lLn, y_wIn, y_wZn, y_wLn, lit, le_n, lt_n, eq_n, lit, pk_sub, Nat.add_sub_cancel, t1, le_n]
    refine br0 (by first | decide | omega | trivial | simp) (brs (fun z => ?_) (fun z => ?_))
    · rw [if_neg (fun h => by have := w4.mpr h.1; omega)] at e
      subst e
      simp only [q_X11_workDown_49, y_is, y_gf, y_pf, y_f0, y_f1, y_f3, y_nI, y_nK, y_nZ, y_nL, y_nR, y_k1i, y_k1r, y_k1l, y_k1n, y_tl, y_tn, y_s, y_ss, List.getElem?_cons_zero, List.getElem?_cons_succ, List.set_cons_zero, List.set_cons_succ, List.length_cons, List.length_nil, true_and, and_true]
      exact hQ g hM hr hf
    · have hbin : bin c := w4.mp (by omega)
      obtain ⟨w6, w7⟩ := w5 hbin
      rw [w6] at t1
      simp (disch := omega) only [q_X11_workDown_24, q_X11_workDown_25, q_X11_workDown_28, q_X11_workDown_29, q_X11_workDown_32, q_X11_workDown_33, q_X11_workDown_34, q_X11_workDown_35, hM, a3, y_is, y_gf, y_pf, y_f0, y_f1, y_f3, y_nI, y_nK, y_nZ, y_nL, y_nR, y_k1i, y_k1r, y_k1l, y_k1n, y_tl, y_tn, y_s, y_ss, List.getElem?_cons_zero, List.getElem?_cons_succ, List.set_cons_zero, List.set_cons_succ, List.length_cons, List.length_nil, true_and, and_true, y_lIn, y_lKn, y_lZn, y_lLn, y_wIn, y_wZn, y_wLn, lit, le_n, lt_n, eq_n, lit, pk_sub, Nat.add_sub_cancel, t1]
      refine s_mrank w7 ?_
      rw [rkr_bin hbin]
      have hk := rk_le c
      simp (disch := omega) only [q_X11_workDown_38, q_X11_workDown_39, y_is, y_gf, y_pf, y_f0, y_f1, y_f3, y_nI, y_nK, y_nZ, y_nL, y_nR, y_k1i, y_k1r, y_k1l, y_k1n, y_tl, y_tn, y_s, y_ss, List.getElem?_cons_zero, List.getElem?_cons_succ, List.set_cons_zero, List.set_cons_succ, List.length_cons, List.length_nil, true_and, and_true, lt_n]
      refine brs (fun y => ?_) (fun y => ?_)
      · rw [if_neg (fun h => by omega)] at e
        subst e
        simp only [q_X11_workDown_49, y_is, y_gf, y_pf, y_f0, y_f1, y_f3, y_nI, y_nK, y_nZ, y_nL, y_nR, y_k1i, y_k1r, y_k1l, y_k1n, y_tl, y_tn, y_s, y_ss, List.getElem?_cons_zero, List.getElem?_cons_succ, List.set_cons_zero, List.set_cons_succ, List.length_cons, List.length_nil, true_and, and_true]
        exact hQ g hM hr hf
      · rw [if_pos ⟨hbin, by omega⟩] at e
        rw [binc, if_pos hbin] at hb
        match V, hM, hr, hVl, hb, e with
        | [], _, _, _, hb, _ => simp at hb
        | [_], _, _, _, hb, _ => simp at hb
        | y' :: z' :: T, hM, hr, hVl, hb, e =>
          simp only [List.length_cons] at hVl hb
          simp (disch := omega) only [q_X11_workDown_42, q_X11_workDown_43, hM, y_is, y_gf, y_pf, y_f0, y_f1, y_f3, y_nI, y_nK, y_nZ, y_nL, y_nR, y_k1i, y_k1r, y_k1l, y_k1n, y_tl, y_tn, y_s, y_ss, List.getElem?_cons_zero, List.getElem?_cons_succ, List.set_cons_zero, List.set_cons_succ, List.length_cons, List.length_nil, true_and, and_true]
          refine s_workOut hM hr hbin (by omega) (by omega) (fun g2 hM2 hr2 hf2 => ?_)
          simp only [q_X11_workDown_46, y_is, y_gf, y_pf, y_f0, y_f1, y_f3, y_nI, y_nK, y_nZ, y_nL, y_nR, y_k1i, y_k1r, y_k1l, y_k1n, y_tl, y_tn, y_s, y_ss, List.getElem?_cons_zero, List.getElem?_cons_succ, List.set_cons_zero, List.set_cons_succ, List.length_cons, List.length_nil, true_and, and_true]
          exact ih (two c z' y' :: T) g2 hM2 hr2 (fun d hd => hw d (List.mem_cons_of_mem _ hd)) (by omega) (by simp only [List.length_cons]; omega) (by simp only [List.length_cons]; omega) (hf.tr hf2) e
end MRULE2
