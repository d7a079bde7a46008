/-! ===== made at the start: the reference's object ===== -/
section MMADE
variable {g : mzG} {Q : mzQ}
theorem n_model (h0 : g.2 73 = ob 9 [.null, .null, .null, .null, .null, .null, .int 0, .int 0, .int 0, .null, .int 0, .null, .int 0, .null, .long 0, .null, .null, .int 0, .int 0, .int 0, .int 0, .int 0, .null, .int 0]) (hw : g.1 = 74) (hQ : ∀ g', MR g' S0 → g'.1 = 86 → (∀ j, j < 73 ∨ 86 ≤ j → g'.2 j = g.2 j) → Q none g') : wp 130 (12, 1649) 0 [.ref 73] [] g Q := by
  have c2 : Int32.toNatClampNeg 2 = 2 := by decide
  have c3 : Int32.toNatClampNeg 3 = 3 := by decide
  have c6 : Int32.toNatClampNeg 6 = 6 := by decide
  have c11 : Int32.toNatClampNeg 11 = 11 := by decide
  have c27 : Int32.toNatClampNeg 27 = 27 := by decide
  have c64 : Int32.toNatClampNeg 64 = 64 := by decide
  have c81 : Int32.toNatClampNeg 81 = 81 := by decide
  have c128 : Int32.toNatClampNeg 128 = 128 := by decide
  have c141 : Int32.toNatClampNeg 141 = 141 := by decide
  have c200 : Int32.toNatClampNeg 200 = 200 := by decide
  have c282 : Int32.toNatClampNeg 282 = 282 := by decide
  have c704 : Int32.toNatClampNeg 704 = 704 := by decide
  simp (disch := omega) only [q_X11_init_0, q_X11_init_4, q_X11_init_5, q_X11_init_1, q_X11_init_8, hw, c141, y_is, y_gf, y_pf, y_f0, y_f1, y_f3, y_nI, y_nK, y_nZ, y_nL, y_nR, y_k1i, y_k1r, y_k1l, y_k1n, y_tl, y_tn, y_s, y_ss, List.getElem?_cons_zero, List.getElem?_cons_succ, List.set_cons_zero, List.set_cons_succ, List.length_cons, List.length_nil, true_and, and_true]
  refine ⟨by decide, ⟨by decide, by decide, by decide⟩, ⟨by decide, by decide⟩, ?_⟩
  generalize hg : hn g _ = g1
  obtain ⟨n1, t1, r1⟩ := hn_f hw hg
  clear hg
  have o1 : g1.2 73 = ob 9 [.null, .null, .null, .null, .null, .null, .int 0, .int 0, .int 0, .null, .int 0, .null, .int 0, .null, .long 0, .null, .null, .int 0, .int 0, .int 0, .int 0, .int 0, .null, .int 0] := (r1 _ (by decide)).trans h0
  simp (disch := omega) only [q_X11_init_10, q_X11_init_13, q_X11_init_14, q_X11_init_17, o1, n1, hs_1, c282, y_is, y_gf, y_pf, y_f0, y_f1, y_f3, y_nI, y_nK, y_nZ, y_nL, y_nR, y_k1i, y_k1r, y_k1l, y_k1n, y_tl, y_tn, y_s, y_ss, List.getElem?_cons_zero, List.getElem?_cons_succ, List.set_cons_zero, List.set_cons_succ, List.length_cons, List.length_nil, true_and, and_true]
  refine ⟨by decide, ⟨by decide, by decide, by decide⟩, ⟨by decide, by decide⟩, ?_⟩
  generalize hg : hn (hs g1 _ _) _ = g2
  obtain ⟨n2, t2, o2, r2⟩ := hh_f n1 (by decide) hg
  clear hg
  simp (disch := omega) only [q_X11_init_19, q_X11_init_22, q_X11_init_23, q_X11_init_24, o2, n2, hs_1, c2, y_is, y_gf, y_pf, y_f0, y_f1, y_f3, y_nI, y_nK, y_nZ, y_nL, y_nR, y_k1i, y_k1r, y_k1l, y_k1n, y_tl, y_tn, y_s, y_ss, List.getElem?_cons_zero, List.getElem?_cons_succ, List.set_cons_zero, List.set_cons_succ, List.length_cons, List.length_nil, true_and, and_true]
  refine ⟨by decide, ⟨by decide, by decide, by decide⟩, ⟨by decide, by decide⟩, ?_⟩
  generalize hg : hn (hs g2 _ _) _ = g3
  obtain ⟨n3, t3, o3, r3⟩ := hh_f n2 (by decide) hg
  clear hg
  simp (disch := omega) only [q_X11_init_26, q_X11_init_29, q_X11_init_30, q_X11_init_31, o3, n3, hs_1, c3, y_is, y_gf, y_pf, y_f0, y_f1, y_f3, y_nI, y_nK, y_nZ, y_nL, y_nR, y_k1i, y_k1r, y_k1l, y_k1n, y_tl, y_tn, y_s, y_ss, List.getElem?_cons_zero, List.getElem?_cons_succ, List.set_cons_zero, List.set_cons_succ, List.length_cons, List.length_nil, true_and, and_true]
  refine ⟨by decide, ⟨by decide, by decide, by decide⟩, ⟨by decide, by decide⟩, ?_⟩
  generalize hg : hn (hs g3 _ _) _ = g4
  obtain ⟨n4, t4, o4, r4⟩ := hh_f n3 (by decide) hg
  clear hg
  simp (disch := omega) only [q_X11_init_33, q_X11_init_36, q_X11_init_37, q_X11_init_40, o4, n4, hs_1, c704, y_is, y_gf, y_pf, y_f0, y_f1, y_f3, y_nI, y_nK, y_nZ, y_nL, y_nR, y_k1i, y_k1r, y_k1l, y_k1n, y_tl, y_tn, y_s, y_ss, List.getElem?_cons_zero, List.getElem?_cons_succ, List.set_cons_zero, List.set_cons_succ, List.length_cons, List.length_nil, true_and, and_true]
  refine ⟨by decide, ⟨by decide, by decide, by decide⟩, ⟨by decide, by decide⟩, ?_⟩
  generalize hg : hn (hs g4 _ _) _ = g5
  obtain ⟨n5, t5, o5, r5⟩ := hh_f n4 (by decide) hg
  clear hg
  simp (disch := omega) only [q_X11_init_42, q_X11_init_45, q_X11_init_46, q_X11_init_48, o5, n5, hs_1, c11, y_is, y_gf, y_pf, y_f0, y_f1, y_f3, y_nI, y_nK, y_nZ, y_nL, y_nR, y_k1i, y_k1r, y_k1l, y_k1n, y_tl, y_tn, y_s, y_ss, List.getElem?_cons_zero, List.getElem?_cons_succ, List.set_cons_zero, List.set_cons_succ, List.length_cons, List.length_nil, true_and, and_true]
  refine ⟨by decide, ⟨by decide, by decide, by decide⟩, ⟨by decide, by decide⟩, ?_⟩
  generalize hg : hn (hs g5 _ _) _ = g6
  obtain ⟨n6, t6, o6, r6⟩ := hh_f n5 (by decide) hg
  clear hg
  simp (disch := omega) only [q_X11_init_50, q_X11_init_53, q_X11_init_54, q_X11_init_56, o6, n6, hs_1, c64, y_is, y_gf, y_pf, y_f0, y_f1, y_f3, y_nI, y_nK, y_nZ, y_nL, y_nR, y_k1i, y_k1r, y_k1l, y_k1n, y_tl, y_tn, y_s, y_ss, List.getElem?_cons_zero, List.getElem?_cons_succ, List.set_cons_zero, List.set_cons_succ, List.length_cons, List.length_nil, true_and, and_true]
  refine ⟨by decide, ⟨by decide, by decide, by decide⟩, ⟨by decide, by decide⟩, ?_⟩
  generalize hg : hn (hs g6 _ _) _ = g7
  obtain ⟨n7, t7, o7, r7⟩ := hh_f n6 (by decide) hg
  clear hg
  simp (disch := omega) only [q_X11_init_58, q_X11_init_61, q_X11_init_62, q_X11_init_65, o7, n7, hs_1, c128, y_is, y_gf, y_pf, y_f0, y_f1, y_f3, y_nI, y_nK, y_nZ, y_nL, y_nR, y_k1i, y_k1r, y_k1l, y_k1n, y_tl, y_tn, y_s, y_ss, List.getElem?_cons_zero, List.getElem?_cons_succ, List.set_cons_zero, List.set_cons_succ, List.length_cons, List.length_nil, true_and, and_true]
  refine ⟨by decide, ⟨by decide, by decide, by decide⟩, ⟨by decide, by decide⟩, ?_⟩
  generalize hg : hn (hs g7 _ _) _ = g8
  obtain ⟨n8, t8, o8, r8⟩ := hh_f n7 (by decide) hg
  clear hg
  simp (disch := omega) only [q_X11_init_67, q_X11_init_70, q_X11_init_71, q_X11_init_73, o8, n8, hs_1, c6, y_is, y_gf, y_pf, y_f0, y_f1, y_f3, y_nI, y_nK, y_nZ, y_nL, y_nR, y_k1i, y_k1r, y_k1l, y_k1n, y_tl, y_tn, y_s, y_ss, List.getElem?_cons_zero, List.getElem?_cons_succ, List.set_cons_zero, List.set_cons_succ, List.length_cons, List.length_nil, true_and, and_true]
  refine ⟨by decide, ⟨by decide, by decide, by decide⟩, ⟨by decide, by decide⟩, ?_⟩
  generalize hg : hn (hs g8 _ _) _ = g9
  obtain ⟨n9, t9, o9, r9⟩ := hh_f n8 (by decide) hg
  clear hg
  simp (disch := omega) only [q_X11_init_75, q_X11_init_78, q_X11_init_79, q_X11_init_81, o9, n9, hs_1, c81, y_is, y_gf, y_pf, y_f0, y_f1, y_f3, y_nI, y_nK, y_nZ, y_nL, y_nR, y_k1i, y_k1r, y_k1l, y_k1n, y_tl, y_tn, y_s, y_ss, List.getElem?_cons_zero, List.getElem?_cons_succ, List.set_cons_zero, List.set_cons_succ, List.length_cons, List.length_nil, true_and, and_true]
  refine ⟨by decide, ⟨by decide, by decide, by decide⟩, ⟨by decide, by decide⟩, ?_⟩
  generalize hg : hn (hs g9 _ _) _ = g10
  obtain ⟨n10, t10, o10, r10⟩ := hh_f n9 (by decide) hg
  clear hg
  simp (disch := omega) only [q_X11_init_83, q_X11_init_86, q_X11_init_87, q_X11_init_90, o10, n10, hs_1, c200, y_is, y_gf, y_pf, y_f0, y_f1, y_f3, y_nI, y_nK, y_nZ, y_nL, y_nR, y_k1i, y_k1r, y_k1l, y_k1n, y_tl, y_tn, y_s, y_ss, List.getElem?_cons_zero, List.getElem?_cons_succ, List.set_cons_zero, List.set_cons_succ, List.length_cons, List.length_nil, true_and, and_true]
  refine ⟨by decide, ⟨by decide, by decide, by decide⟩, ⟨by decide, by decide⟩, ?_⟩
  generalize hg : hn (hs g10 _ _) _ = g11
  obtain ⟨n11, t11, o11, r11⟩ := hh_f n10 (by decide) hg
  clear hg
  simp (disch := omega) only [q_X11_init_92, q_X11_init_95, q_X11_init_96, q_X11_init_98, o11, n11, hs_1, c27, y_is, y_gf, y_pf, y_f0, y_f1, y_f3, y_nI, y_nK, y_nZ, y_nL, y_nR, y_k1i, y_k1r, y_k1l, y_k1n, y_tl, y_tn, y_s, y_ss, List.getElem?_cons_zero, List.getElem?_cons_succ, List.set_cons_zero, List.set_cons_succ, List.length_cons, List.length_nil, true_and, and_true]
  refine ⟨by decide, ⟨by decide, by decide, by decide⟩, ⟨by decide, by decide⟩, ?_⟩
  generalize hg : hn (hs g11 _ _) _ = g12
  obtain ⟨n12, t12, o12, r12⟩ := hh_f n11 (by decide) hg
  clear hg
  have hz : (hs g12 73 (ob 9 [.ref 74, .ref 75, .ref 76, .ref 77, .ref 78, .ref 79, .int 0, .int 0, .int 0, .ref 80, .int 0, .ref 81, .int 0, .ref 82, .long 0, .ref 83, .ref 84, .int 0, .int 0, .int 0, .int 0, .int 0, .ref 85, .int 0])).2 73 = _ := y_s
  simp (disch := omega) only [q_X11_init_100, q_X11_init_103, q_X11_init_104, q_X11_init_105, q_X11_init_106, o12, hz, y_is, y_gf, y_pf, y_f0, y_f1, y_f3, y_nI, y_nK, y_nZ, y_nL, y_nR, y_k1i, y_k1r, y_k1l, y_k1n, y_tl, y_tn, y_s, y_ss, List.getElem?_cons_zero, List.getElem?_cons_succ, List.set_cons_zero, List.set_cons_succ, List.length_cons, List.length_nil, true_and, and_true, lit, litL]
  refine ⟨by decide, ?_⟩
  generalize hg : hs g12 73 _ = g13
  have n13 : g13.1 = 86 := by rw [← hg, hs_1]; exact n12
  have o13 : g13.2 73 = ob 9 [.ref 74, .ref 75, .ref 76, .ref 77, .ref 78, .ref 79, .int 0, .int 0, .int 0, .ref 80, .int 0, .ref 81, .int 0, .ref 82, .long 0, .ref 83, .ref 84, .int 0, .int 0, .int 0, .int 0, .int 0, .ref 85, .int 0] := by rw [← hg]; exact y_s
  have r13 : ∀ j, j ≠ 73 → g13.2 j = g12.2 j := fun j hj => by rw [← hg]; exact y_ne hj
  clear hg hz
  have p12 : ∀ j, j ≠ 73 → (j < 86 ∨ 86 ≤ j) → g13.2 j = g12.2 j := fun j h1 _ => r13 _ h1
  have p11 : ∀ j, j ≠ 73 → (j < 85 ∨ 86 ≤ j) → g13.2 j = g11.2 j := fun j h1 h2 => (p12 _ h1 (by omega)).trans (r12 _ h1 (by omega))
  have p10 : ∀ j, j ≠ 73 → (j < 84 ∨ 86 ≤ j) → g13.2 j = g10.2 j := fun j h1 h2 => (p11 _ h1 (by omega)).trans (r11 _ h1 (by omega))
  have p9 : ∀ j, j ≠ 73 → (j < 83 ∨ 86 ≤ j) → g13.2 j = g9.2 j := fun j h1 h2 => (p10 _ h1 (by omega)).trans (r10 _ h1 (by omega))
  have p8 : ∀ j, j ≠ 73 → (j < 82 ∨ 86 ≤ j) → g13.2 j = g8.2 j := fun j h1 h2 => (p9 _ h1 (by omega)).trans (r9 _ h1 (by omega))
  have p7 : ∀ j, j ≠ 73 → (j < 81 ∨ 86 ≤ j) → g13.2 j = g7.2 j := fun j h1 h2 => (p8 _ h1 (by omega)).trans (r8 _ h1 (by omega))
  have p6 : ∀ j, j ≠ 73 → (j < 80 ∨ 86 ≤ j) → g13.2 j = g6.2 j := fun j h1 h2 => (p7 _ h1 (by omega)).trans (r7 _ h1 (by omega))
  have p5 : ∀ j, j ≠ 73 → (j < 79 ∨ 86 ≤ j) → g13.2 j = g5.2 j := fun j h1 h2 => (p6 _ h1 (by omega)).trans (r6 _ h1 (by omega))
  have p4 : ∀ j, j ≠ 73 → (j < 78 ∨ 86 ≤ j) → g13.2 j = g4.2 j := fun j h1 h2 => (p5 _ h1 (by omega)).trans (r5 _ h1 (by omega))
  have p3 : ∀ j, j ≠ 73 → (j < 77 ∨ 86 ≤ j) → g13.2 j = g3.2 j := fun j h1 h2 => (p4 _ h1 (by omega)).trans (r4 _ h1 (by omega))
  have p2 : ∀ j, j ≠ 73 → (j < 76 ∨ 86 ≤ j) → g13.2 j = g2.2 j := fun j h1 h2 => (p3 _ h1 (by omega)).trans (r3 _ h1 (by omega))
  have p1 : ∀ j, j ≠ 73 → (j < 75 ∨ 86 ≤ j) → g13.2 j = g1.2 j := fun j h1 h2 => (p2 _ h1 (by omega)).trans (r2 _ h1 (by omega))
  have p0 : ∀ j, j ≠ 73 → (j < 74 ∨ 86 ≤ j) → g13.2 j = g.2 j := fun j h1 h2 => (p1 _ h1 (by omega)).trans (r1 _ (by omega))
  have q74 : g13.2 74 = aI 141 (fun _ => 0) := (p1 _ (by decide) (by decide)).trans t1
  have q75 : g13.2 75 = aI 282 (fun _ => 0) := (p2 _ (by decide) (by decide)).trans t2
  have q76 : g13.2 76 = aZ 2 (fun _ => 0) := (p3 _ (by decide) (by decide)).trans t3
  have q77 : g13.2 77 = aI 3 (fun _ => 0) := (p4 _ (by decide) (by decide)).trans t4
  have q78 : g13.2 78 = aL 704 (fun _ => 0) := (p5 _ (by decide) (by decide)).trans t5
  have q79 : g13.2 79 = aI 11 (fun _ => 0) := (p6 _ (by decide) (by decide)).trans t6
  have q80 : g13.2 80 = aL 64 (fun _ => 0) := (p7 _ (by decide) (by decide)).trans t7
  have q81 : g13.2 81 = aI 128 (fun _ => 0) := (p8 _ (by decide) (by decide)).trans t8
  have q82 : g13.2 82 = aL 6 (fun _ => 0) := (p9 _ (by decide) (by decide)).trans t9
  have q83 : g13.2 83 = aZ 81 (fun _ => 0) := (p10 _ (by decide) (by decide)).trans t10
  have q84 : g13.2 84 = aI 200 (fun _ => 0) := (p11 _ (by decide) (by decide)).trans t11
  have q85 : g13.2 85 = aI 27 (fun _ => 0) := (p12 _ (by decide) (by decide)).trans t12
  have V0 : ms g13 E0 (fun _ => 0) := ⟨_, _, ⟨q78, q79⟩, fun s hs => ⟨fun _ => ⟨0, rfl, by decide, fun i hi => by omega, by show 0 < BB ^ 0; decide, Or.inl rfl⟩, fun q hq => nomatch hq⟩⟩
  obtain ⟨x, hx⟩ : ∃ x : Nat → Int32, x = fun _ => 0 := ⟨_, rfl⟩
  obtain ⟨r, hr⟩ : ∃ r : Int64, r = 0 := ⟨_, rfl⟩
  have hM : g13.2 73 = ob 9 [.ref 74, .ref 75, .ref 76, .ref 77, .ref 78, .ref 79, .int (x 0), .int (x 1), .int (x 2), .ref 80, .int (x 3), .ref 81, .int (x 4), .ref 82, .long (r), .ref 83, .ref 84, .int (x 5), .int (x 6), .int (x 7), .int (x 8), .int (x 9), .ref 85, .int (x 10)] := by rw [hx, hr]; exact o13
  refine s_mset (s := 1) (v := 1) hM V0 (by decide) rfl (by decide) (fun ga m1 m2 m3 => ?_)
  have b1 : mz_is (ga.2 73) 9 = True := by rw [m1, y_is]
  simp (disch := omega) only [q_X11_init_109, q_X11_init_110, q_X11_init_112, m1, y_is, y_gf, y_pf, y_f0, y_f1, y_f3, y_nI, y_nK, y_nZ, y_nL, y_nR, y_k1i, y_k1r, y_k1l, y_k1n, y_tl, y_tn, y_s, y_ss, List.getElem?_cons_zero, List.getElem?_cons_succ, List.set_cons_zero, List.set_cons_succ, List.length_cons, List.length_nil, true_and, and_true, lit]
  have f74 : ga.2 74 = aI 141 (fun _ => 0) := (m3.2 _ (by omega)).trans q74
  refine s_begin (W := Z0) m1 f74 ?_ (fun gb f' l1 l2 l3 => ?_)
  · intro k hk
    unfold wI Z0
    by_cases c : 88 ≤ k ∧ k < 100
    · rw [if_pos c, if_pos c]; show (0 : Int32) = tI 1; decide
    · rw [if_neg c, if_neg c]; rfl
  simp only [q_X11_init_115, y_is, y_gf, y_pf, y_f0, y_f1, y_f3, y_nI, y_nK, y_nZ, y_nL, y_nR, y_k1i, y_k1r, y_k1l, y_k1n, y_tl, y_tn, y_s, y_ss, List.getElem?_cons_zero, List.getElem?_cons_succ, List.set_cons_zero, List.set_cons_succ, List.length_cons, List.length_nil, true_and, and_true]
  have xx : ∀ j, j < 74 ∨ 75 ≤ j → j < 78 ∨ 80 ≤ j → gb.2 j = g13.2 j := fun j h1 h2 => (l3.2 _ (by omega)).trans (m3.2 _ (by omega))
  refine hQ gb ⟨⟨x, r, (l3.2 _ (by omega)).trans m1, by rw [hx]; rfl, by rw [hx]; rfl⟩, ⟨f', l1, l2⟩, ⟨_, _, (xx _ (by omega) (by omega)).trans q75, (xx _ (by omega) (by omega)).trans q76, fun i hi => ⟨rfl, fun X hX => nomatch hX⟩⟩, (xx _ (by omega) (by omega)).trans q77, ⟨_, m2.frm l3 (by omega), rfl, rfl⟩, ⟨⟨_, (xx _ (by omega) (by omega)).trans q80⟩, ⟨_, (xx _ (by omega) (by omega)).trans q81⟩, _, (xx _ (by omega) (by omega)).trans q82⟩, ⟨_, (xx _ (by omega) (by omega)).trans q83⟩, ⟨⟨_, (xx _ (by omega) (by omega)).trans q84, fun i hi => absurd hi (Nat.not_lt_zero _)⟩, by decide⟩, ⟨_, (xx _ (by omega) (by omega)).trans q85⟩⟩ ?_ (fun j hj => ?_)
  · rw [l3.1, m3.1, n13]
  · rw [xx _ (by omega) (by omega), p0 _ (by omega) (by omega)]
end MMADE
