/-! ===== what is made at the start ===== -/
theorem hn_1 {g : mzG} {c : mzC} : (hn g c).1 = g.1 + 1 := rfl
theorem hn_s {g : mzG} {c : mzC} {k : Nat} (h : k = g.1) : (hn g c).2 k = c := by
  subst h
  exact if_pos rfl
theorem hn_n {g : mzG} {c : mzC} {k : Nat} (h : k ≠ g.1) : (hn g c).2 k = g.2 k := if_neg h
/-- new cells from a to the count; what was stays -/
def nw (g g' : mzG) (k n : Nat) : Prop := g'.1 = n ∧ ∀ j, j < k ∨ n ≤ j → g'.2 j = g.2 j
theorem hs_1 {g : mzG} {k : Nat} {c : mzC} : (hs g k c).1 = g.1 := rfl
theorem mr_1 {g : mzG} : (mz_rows g).1 = g.1 + 6 := rfl
section NEW
variable {b : mzB} {g : mzG} {Q : mzQ}
theorem n_nat {k : Nat} (h0 : g.2 k = ob 3 [.null, .int 0]) (hk : k + 1 = g.1) (hl : g.1 < 1000) (hQ : ∀ g', nv g' k 0 → g'.1 = g.1 + 1 → (∀ j, j ≠ k → j ≠ k + 1 → g'.2 j = g.2 j) → Q none g') : wp 22 (1, 16) 0 [.ref k] [] g Q := by
  simp (disch := omega) only [q_X3_init_0, q_X3_init_4, q_X3_init_5, q_X3_init_1, q_X3_init_7, y_is, y_gf, y_pf, y_f0, y_f1, y_f3, y_nI, y_nK, y_nZ, y_nL, y_nR, y_k1i, y_k1r, y_k1l, y_k1n, y_tl, y_tn, y_s, y_ss, List.getElem?_cons_zero, List.getElem?_cons_succ, List.set_cons_zero, List.set_cons_succ, List.length_cons, List.length_nil, true_and, and_true]
  refine ⟨by omega, ⟨by decide, by decide, hl⟩, ⟨by decide, by decide⟩, ?_⟩
  simp (disch := omega) only [q_X3_init_9, q_X3_init_12, h0, hn_n, y_is, y_gf, y_pf, y_f0, y_f1, y_f3, y_nI, y_nK, y_nZ, y_nL, y_nR, y_k1i, y_k1r, y_k1l, y_k1n, y_tl, y_tn, y_s, y_ss, List.getElem?_cons_zero, List.getElem?_cons_succ, List.set_cons_zero, List.set_cons_succ, List.length_cons, List.length_nil, true_and, and_true]
  refine ⟨by decide, hQ _ ?_ ?_ (fun j h1 h2 => ?_)⟩
  · refine ⟨fun _ => 0, 0, ⟨?_, ?_⟩, by omega, ⟨fun i hi => by omega, by decide⟩, Or.inl rfl⟩
    · rw [y_s, hk]; rfl
    · rw [y_ne (by omega), hn_s hk]; rfl
  · rfl
  · rw [y_ne h1, hn_n (by omega)]
def Z0 : Nat → Nat := fun k => if 88 ≤ k ∧ k < 100 then 1 else 0
def W0 : Nat → Nat := layW Z0 9
theorem n_watch {w : Nat} (h0 : g.2 w = ob 7 [.int 0, .null, .int 0, .int 0, .int 0, .int 0, .null, .null, .null, .int 0, .null, .int 0, .null, .int 0]) (hw : w + 1 = g.1) (hl : g.1 + 11 ≤ 1000) (hK : g.2 1000 = aK 5 kz_at) (hQ : ∀ g', wat g' w W0 → g'.1 = g.1 + 11 → (∀ j, j < w ∨ g.1 + 11 ≤ j → g'.2 j = g.2 j) → Q none g') : wp 77 (11, 138) 0 [.ref w] [] g Q := by
  obtain ⟨n, f⟩ := g
  simp only at hw
  subst hw
  have c12 : Int32.toNatClampNeg 12 = 12 := by decide
  have c40 : Int32.toNatClampNeg 40 = 40 := by decide
  have h0 : f w = _ := h0
  simp (disch := omega) only [q_X9_init_0, q_X9_init_4, q_X9_init_5, q_X9_init_6, q_X9_init_1, q_X9_init_8, y_is, y_gf, y_pf, y_f0, y_f1, y_f3, y_nI, y_nK, y_nZ, y_nL, y_nR, y_k1i, y_k1r, y_k1l, y_k1n, y_tl, y_tn, y_s, y_ss, List.getElem?_cons_zero, List.getElem?_cons_succ, List.set_cons_zero, List.set_cons_succ, List.length_cons, List.length_nil, true_and, and_true]
  refine ⟨by omega, by show w + 1 + 6 ≤ 1000; have : w + 1 + 11 ≤ 1000 := hl; omega, ⟨by decide, by decide⟩, ?_⟩
  have hl : w + 1 + 11 ≤ 1000 := hl
  have r0 : (mz_rows (w + 1, f)).2 w = f w := by
    show (if w = w + 1 then _ else if w + 1 < w ∧ w < w + 1 + 6 then _ else f w) = f w
    rw [if_neg (by omega), if_neg (by omega)]
  simp (disch := omega) only [q_X9_init_12, q_X9_init_15, q_X9_init_16, q_X9_init_18, r0, h0, hs_1, mr_1, c12, y_is, y_gf, y_pf, y_f0, y_f1, y_f3, y_nI, y_nK, y_nZ, y_nL, y_nR, y_k1i, y_k1r, y_k1l, y_k1n, y_tl, y_tn, y_s, y_ss, List.getElem?_cons_zero, List.getElem?_cons_succ, List.set_cons_zero, List.set_cons_succ, List.length_cons, List.length_nil, true_and, and_true]
  refine ⟨by decide, ⟨by decide, by decide, by omega⟩, ⟨by decide, by decide⟩, ?_⟩
  simp (disch := first | omega | (simp only [hs_1, mr_1, hn_1]; omega)) only [q_X9_init_20, q_X9_init_23, q_X9_init_24, q_X9_init_26, hs_1, mr_1, hn_1, hn_n, c12, y_is, y_gf, y_pf, y_f0, y_f1, y_f3, y_nI, y_nK, y_nZ, y_nL, y_nR, y_k1i, y_k1r, y_k1l, y_k1n, y_tl, y_tn, y_s, y_ss, List.getElem?_cons_zero, List.getElem?_cons_succ, List.set_cons_zero, List.set_cons_succ, List.length_cons, List.length_nil, true_and, and_true]
  refine ⟨by decide, ⟨by decide, by decide, by omega⟩, ⟨by decide, by decide⟩, ?_⟩
  simp (disch := first | omega | (simp only [hs_1, mr_1, hn_1]; omega)) only [q_X9_init_28, q_X9_init_31, q_X9_init_32, q_X9_init_34, hs_1, mr_1, hn_1, hn_n, c12, y_is, y_gf, y_pf, y_f0, y_f1, y_f3, y_nI, y_nK, y_nZ, y_nL, y_nR, y_k1i, y_k1r, y_k1l, y_k1n, y_tl, y_tn, y_s, y_ss, List.getElem?_cons_zero, List.getElem?_cons_succ, List.set_cons_zero, List.set_cons_succ, List.length_cons, List.length_nil, true_and, and_true]
  refine ⟨by decide, ⟨by decide, by decide, by omega⟩, ⟨by decide, by decide⟩, ?_⟩
  simp (disch := first | omega | (simp only [hs_1, mr_1, hn_1]; omega)) only [q_X9_init_36, q_X9_init_39, q_X9_init_40, q_X9_init_42, hs_1, mr_1, hn_1, hn_n, c12, y_is, y_gf, y_pf, y_f0, y_f1, y_f3, y_nI, y_nK, y_nZ, y_nL, y_nR, y_k1i, y_k1r, y_k1l, y_k1n, y_tl, y_tn, y_s, y_ss, List.getElem?_cons_zero, List.getElem?_cons_succ, List.set_cons_zero, List.set_cons_succ, List.length_cons, List.length_nil, true_and, and_true]
  refine ⟨by decide, ⟨by decide, by decide, by omega⟩, ⟨by decide, by decide⟩, ?_⟩
  simp (disch := first | omega | (simp only [hs_1, mr_1, hn_1]; omega)) only [q_X9_init_44, q_X9_init_47, q_X9_init_48, q_X9_init_50, hs_1, mr_1, hn_1, hn_n, c40, y_is, y_gf, y_pf, y_f0, y_f1, y_f3, y_nI, y_nK, y_nZ, y_nL, y_nR, y_k1i, y_k1r, y_k1l, y_k1n, y_tl, y_tn, y_s, y_ss, List.getElem?_cons_zero, List.getElem?_cons_succ, List.set_cons_zero, List.set_cons_succ, List.length_cons, List.length_nil, true_and, and_true]
  refine ⟨by decide, ⟨by decide, by decide, by omega⟩, ⟨by decide, by decide⟩, ?_⟩
  simp (disch := first | omega | (simp only [hs_1, mr_1, hn_1]; omega)) only [q_X9_init_52, q_X9_init_55, q_X9_init_56, q_X9_init_58, hs_1, mr_1, hn_1, hn_n, y_is, y_gf, y_pf, y_f0, y_f1, y_f3, y_nI, y_nK, y_nZ, y_nL, y_nR, y_k1i, y_k1r, y_k1l, y_k1n, y_tl, y_tn, y_s, y_ss, List.getElem?_cons_zero, List.getElem?_cons_succ, List.set_cons_zero, List.set_cons_succ, List.length_cons, List.length_nil, true_and, and_true]
  refine ⟨by decide, ?_⟩
  generalize hg : hs _ w _ = g1
  have q : ∀ k, g1.2 k = if k = w then ob 7 [.int 0, .ref (w + 1), .int 0, .int 0, .int 0, .int 0, .ref (w + 7), .ref (w + 8), .ref (w + 9), .int 0, .ref (w + 10), .int 0, .ref (w + 11), .int 0] else if k = w + 11 then aI 40 (fun _ => 0) else if k = w + 10 then aI 12 (fun _ => 0) else if k = w + 9 then aI 12 (fun _ => 0) else if k = w + 8 then aI 12 (fun _ => 0) else if k = w + 7 then aI 12 (fun _ => 0) else (mz_rows (w + 1, f)).2 k := by
    intro k
    rw [← hg]
    by_cases c : k = w
    · rw [c, y_s, if_pos rfl]
    rw [y_ne c, if_neg c]
    by_cases c1 : k = w + 11
    · rw [if_pos c1, hn_s (by simp only [hs_1, mr_1, hn_1]; omega)]
    rw [if_neg c1, hn_n (by simp only [hs_1, mr_1, hn_1]; omega), y_ne c]
    by_cases c1 : k = w + 10
    · rw [if_pos c1, hn_s (by simp only [hs_1, mr_1, hn_1]; omega)]
    rw [if_neg c1, hn_n (by simp only [hs_1, mr_1, hn_1]; omega), y_ne c]
    by_cases c1 : k = w + 9
    · rw [if_pos c1, hn_s (by simp only [hs_1, mr_1, hn_1]; omega)]
    rw [if_neg c1, hn_n (by simp only [hs_1, mr_1, hn_1]; omega), y_ne c]
    by_cases c1 : k = w + 8
    · rw [if_pos c1, hn_s (by simp only [hs_1, mr_1, hn_1]; omega)]
    rw [if_neg c1, hn_n (by simp only [hs_1, mr_1, hn_1]; omega), y_ne c]
    by_cases c1 : k = w + 7
    · rw [if_pos c1, hn_s (by simp only [hs_1, mr_1, hn_1]; omega)]
    rw [if_neg c1, hn_n (by simp only [hs_1, mr_1, hn_1]; omega), y_ne c]
  have q1 : g1.1 = w + 1 + 11 := by rw [← hg]; rfl
  clear hg
  have qr : ∀ k, (mz_rows (w + 1, f)).2 k = if k = w + 1 then aR (.array .int) 5 (fun i => if i < 5 then some (w + 1 + 1 + i) else none) else if w + 1 < k ∧ k < w + 1 + 6 then aI 9 (fun _ => 0) else f k := fun _ => rfl
  have hW : wt g1 w (fun _ => 0) (fun _ _ => 0) := by
    refine ⟨?_, ?_, fun i hi => ?_, ?_, ?_, ?_, ?_, ?_⟩
    · rw [q, if_pos rfl]
    · rw [q, if_neg (by omega), if_neg (by omega), if_neg (by omega), if_neg (by omega), if_neg (by omega), if_neg (by omega), qr, if_pos rfl]
    · rw [q, if_neg (by omega), if_neg (by omega), if_neg (by omega), if_neg (by omega), if_neg (by omega), if_neg (by omega), qr, if_neg (by omega), if_pos (by omega)]
    · rw [q, if_neg (by omega), if_neg (by omega), if_neg (by omega), if_neg (by omega), if_neg (by omega), if_pos rfl]
    · rw [q, if_neg (by omega), if_neg (by omega), if_neg (by omega), if_neg (by omega), if_pos rfl]
    · rw [q, if_neg (by omega), if_neg (by omega), if_neg (by omega), if_pos rfl]
    · rw [q, if_neg (by omega), if_neg (by omega), if_pos rfl]
    · rw [q, if_neg (by omega), if_pos rfl]
  have ql : ∀ k, k < w ∨ w + 1 + 11 ≤ k → g1.2 k = f k := fun k hk => by
    rw [q, if_neg (by omega), if_neg (by omega), if_neg (by omega), if_neg (by omega), if_neg (by omega), if_neg (by omega), qr, if_neg (by omega), if_neg (by omega)]
  refine s_layOut (n := nI 9) (by omega) hW ((ql 1000 (by omega)).trans hK) (fun g2 k1 k2 => ?_)
  simp only [q_X9_init_61, y_is, y_gf, y_pf, y_f0, y_f1, y_f3, y_nI, y_nK, y_nZ, y_nL, y_nR, y_k1i, y_k1r, y_k1l, y_k1n, y_tl, y_tn, y_s, y_ss, List.getElem?_cons_zero, List.getElem?_cons_succ, List.set_cons_zero, List.set_cons_succ, List.length_cons, List.length_nil, true_and, and_true]
  refine hQ g2 ⟨_, _, k1, cw_lay ?_⟩ (k2.1.trans q1) (fun j hj => (k2.2 j (by omega)).trans (ql j hj))
  have z : ∀ k, k < 88 ∨ 100 ≤ k → (0 : Int32) = nI (Z0 k) := fun k hk => by unfold Z0; rw [if_neg (by omega)]; rfl
  refine ⟨⟨z _ (by omega), z _ (by omega), z _ (by omega), z _ (by omega), z _ (by omega), z _ (by omega), z _ (by omega), z _ (by omega)⟩, fun i p hi hp => z _ (by omega), fun k hk => ⟨z _ (by omega), z _ (by omega), z _ (by omega), ?_⟩, fun k hk => z _ (by omega)⟩
  unfold Z0
  rw [if_pos (by omega)]
  rfl
end NEW
