/-! ===== Balance: chances ===== -/
def chv (F : Nat × Nat) (x asl z : Nat) : Nat × Nat := if asl ≤ z then (if x = 0 then asl else 0, z) else if x = 0 ∨ x * F.2 ≤ F.1 then (1, 1) else (F.1, x * F.2)
section BALANCE3
variable {b : mzB} {Q : mzQ} {k w : Nat} {v : Nat → Int32} {A : Nat → Nat → Int32}
theorem s_chanceOf {g : mzG} {a c : Int64} {n m asl p N D j : Nat} {f : Nat → Int32} {wo : Nat → Nat} (hap : w + 12 ≤ k) (hj : k + 2 ≤ j) (hF : ft g j N D) (hB : bl g k a c m f) (hW : wt g w v A) (hv : v 0 = nI n) (hn : n ≤ 9) (hp : p < n) (hwo : ∀ i, i < n → A 0 i = nI (wo i) ∧ wo i ≤ 99) (ha1 : 1 ≤ asl) (has : asl ≤ 9) (hQ : ∀ g' f' a' c' l F X, l.Perm (pw wo n) → l.Pairwise (· ≤ ·) → F = bs (0, 1) (asl - (n - l.length)) l → 0 < F.2 → X = chv F (wo p) asl (n - l.length) → bl g' k a' c' l.length f' → ft g' j (X.1 / Nat.gcd X.1 X.2) (X.2 / Nat.gcd X.1 X.2) → (∀ i, i < k ∨ k + 2 ≤ i → i < j ∨ j + 5 ≤ i → g'.2 i = g.2 i) → g'.1 = g.1 → Q none g') : wp 5 b 0 [.ref k, .ref j, .ref w, .int (nI asl), .int (nI p), .null, .null] [] g Q := by
  simp (disch := omega) only [q_X0_chanceOf_0, q_X0_chanceOf_1, q_X0_chanceOf_2, q_X0_chanceOf_3, hB.1, y_is, y_gf, y_pf, y_f0, y_f1, y_f3, y_nI, y_nK, y_nZ, y_nL, y_nR, y_k1i, y_k1r, y_k1l, y_k1n, y_tl, y_tn, y_s, y_ss, List.getElem?_cons_zero, List.getElem?_cons_succ, List.set_cons_zero, List.set_cons_succ, List.length_cons, List.length_nil, true_and, and_true, y_is]
  refine s_solve hap hB hW hv hn hwo has (fun g1 f1 l F hpe hso hFe b1 b2 b3 hB1 hf1 => ?_)
  have hW1 := hW.frm hf1 (by omega)
  have hF1 := hF.frm hf1 (by omega)
  have hln : l.length ≤ n := by rw [hpe.length_eq]; exact pw_len wo n
  obtain ⟨e1, e2⟩ := hwo p hp
  have hgp : 0 < Nat.gcd F.1 F.2 := Nat.gcd_pos_of_pos_right _ b2
  have d1 : F.1 = F.1 / Nat.gcd F.1 F.2 * Nat.gcd F.1 F.2 := (Nat.div_mul_cancel (Nat.gcd_dvd_left _ _)).symm
  have d2 : F.2 = F.2 / Nat.gcd F.1 F.2 * Nat.gcd F.1 F.2 := (Nat.div_mul_cancel (Nat.gcd_dvd_right _ _)).symm
  have c1 : F.1 / Nat.gcd F.1 F.2 ≤ 9 * 99 ^ 9 := Nat.le_trans (Nat.div_le_self _ _) b1
  have c2 : F.2 / Nat.gcd F.1 F.2 ≤ 9 * 99 ^ 8 := Nat.le_trans (Nat.div_le_self _ _) b3
  have c3 : 0 < F.2 / Nat.gcd F.1 F.2 := Nat.div_pos (Nat.le_of_dvd b2 (Nat.gcd_dvd_right _ _)) hgp
  have c4 : wo p * (F.2 / Nat.gcd F.1 F.2) ≤ 99 * (9 * 99 ^ 8) := Nat.mul_le_mul e2 c2
  have fin : ∀ X g2, X = chv F (wo p) asl (n - l.length) → ft g2 j (X.1 / Nat.gcd X.1 X.2) (X.2 / Nat.gcd X.1 X.2) → fr g1 g2 (j + 1) (j + 5) → Q none g2 := fun X g2 hX hF2 hf2 =>
    hQ g2 f1 _ _ l F X hpe hso hFe b2 hX (hB1.frm hf2 (by omega)) hF2 (fun i h1 h2 => (hf2.2 i (by omega)).trans (hf1.2 i h1)) (hf2.1.trans hf1.1)
  simp (disch := omega) only [q_X0_chanceOf_6, q_X0_chanceOf_7, q_X0_chanceOf_10, q_X0_chanceOf_11, q_X0_chanceOf_12, q_X0_chanceOf_14, q_X0_chanceOf_15, q_X0_chanceOf_17, q_X0_chanceOf_18, q_X0_chanceOf_21, q_X0_chanceOf_22, q_X0_chanceOf_25, q_X0_chanceOf_26, q_X0_chanceOf_28, q_X0_chanceOf_30, q_X0_chanceOf_31, hW1.1, hW1.2.1, hW1.2.2.1, hB1.1, hv, y_is, y_gf, y_pf, y_f0, y_f1, y_f3, y_nI, y_nK, y_nZ, y_nL, y_nR, y_k1i, y_k1r, y_k1l, y_k1n, y_tl, y_tn, y_s, y_ss, List.getElem?_cons_zero, List.getElem?_cons_succ, List.set_cons_zero, List.set_cons_succ, List.length_cons, List.length_nil, true_and, and_true, y_lIn, y_lKn, y_lZn, y_lLn, y_wIn, y_wZn, y_wLn, lit, le_n, lt_n, eq_n, lit, y_row, e1, pk_sub]
  refine brs (fun q => ?_) (fun q => ?_)
  · simp (disch := omega) only [q_X0_chanceOf_55, q_X0_chanceOf_57, y_is, y_gf, y_pf, y_f0, y_f1, y_f3, y_nI, y_nK, y_nZ, y_nL, y_nR, y_k1i, y_k1r, y_k1l, y_k1n, y_tl, y_tn, y_s, y_ss, List.getElem?_cons_zero, List.getElem?_cons_succ, List.set_cons_zero, List.set_cons_succ, List.length_cons, List.length_nil, true_and, and_true, lit, eq_n]
    have one : (wo p = 0 ∨ wo p * F.2 ≤ F.1) → wp 5 b 76 [.ref k, .ref j, .ref w, .int (nI asl), .int (nI p), .int (nI (wo p)), .int (nI (n - l.length))] [] g1 Q := by
      intro h
      simp (disch := omega) only [q_X0_chanceOf_76, q_X0_chanceOf_77, q_X0_chanceOf_78, q_X0_chanceOf_79, hF1.1, y_is, y_gf, y_pf, y_f0, y_f1, y_f3, y_nI, y_nK, y_nZ, y_nL, y_nR, y_k1i, y_k1r, y_k1l, y_k1n, y_tl, y_tn, y_s, y_ss, List.getElem?_cons_zero, List.getElem?_cons_succ, List.set_cons_zero, List.set_cons_succ, List.length_cons, List.length_nil, true_and, and_true, litL, y_is]
      refine s_fset hF1 (by decide) (by decide) (by decide) (fun g2 hF2 hf2 => ?_)
      simp (disch := omega) only [q_X0_chanceOf_82, q_X0_chanceOf_101, y_is, y_gf, y_pf, y_f0, y_f1, y_f3, y_nI, y_nK, y_nZ, y_nL, y_nR, y_k1i, y_k1r, y_k1l, y_k1n, y_tl, y_tn, y_s, y_ss, List.getElem?_cons_zero, List.getElem?_cons_succ, List.set_cons_zero, List.set_cons_succ, List.length_cons, List.length_nil, true_and, and_true]
      exact fin (1, 1) g2 (by rw [chv, if_neg (by omega), if_pos h]) hF2 hf2
    have iff1 : wo p * F.2 ≤ F.1 ↔ wo p * (F.2 / Nat.gcd F.1 F.2) ≤ F.1 / Nat.gcd F.1 F.2 := by
      constructor
      · intro h
        refine Nat.le_of_mul_le_mul_right ?_ hgp
        rw [Nat.mul_assoc, ← d2, ← d1]; exact h
      · intro h
        have := Nat.mul_le_mul_right (Nat.gcd F.1 F.2) h
        rw [Nat.mul_assoc, ← d2, ← d1] at this; exact this
    refine brs (fun z => one (Or.inl z)) (fun z => ?_)
    simp (disch := omega) only [q_X0_chanceOf_60, q_X0_chanceOf_61, q_X0_chanceOf_64, q_X0_chanceOf_66, q_X0_chanceOf_67, q_X0_chanceOf_68, q_X0_chanceOf_71, q_X0_chanceOf_72, q_X0_chanceOf_73, hB1.1, y_is, y_gf, y_pf, y_f0, y_f1, y_f3, y_nI, y_nK, y_nZ, y_nL, y_nR, y_k1i, y_k1r, y_k1l, y_k1n, y_tl, y_tn, y_s, y_ss, List.getElem?_cons_zero, List.getElem?_cons_succ, List.set_cons_zero, List.set_cons_succ, List.length_cons, List.length_nil, true_and, and_true, lit, i_l, l_mul, lc_lt]
    refine brs (fun y => ?_) (fun y => one (Or.inr (iff1.mpr (by omega))))
    simp (disch := omega) only [q_X0_chanceOf_85, q_X0_chanceOf_86, q_X0_chanceOf_87, q_X0_chanceOf_90, q_X0_chanceOf_92, q_X0_chanceOf_93, q_X0_chanceOf_94, q_X0_chanceOf_97, q_X0_chanceOf_98, hB1.1, hF1.1, y_is, y_gf, y_pf, y_f0, y_f1, y_f3, y_nI, y_nK, y_nZ, y_nL, y_nR, y_k1i, y_k1r, y_k1l, y_k1n, y_tl, y_tn, y_s, y_ss, List.getElem?_cons_zero, List.getElem?_cons_succ, List.set_cons_zero, List.set_cons_succ, List.length_cons, List.length_nil, true_and, and_true, lit, i_l, l_mul, y_is]
    refine s_fset hF1 (by omega) (by omega) (Nat.mul_pos (by omega) c3) (fun g2 hF2 hf2 => ?_)
    simp (disch := omega) only [q_X0_chanceOf_101, y_is, y_gf, y_pf, y_f0, y_f1, y_f3, y_nI, y_nK, y_nZ, y_nL, y_nR, y_k1i, y_k1r, y_k1l, y_k1n, y_tl, y_tn, y_s, y_ss, List.getElem?_cons_zero, List.getElem?_cons_succ, List.set_cons_zero, List.set_cons_succ, List.length_cons, List.length_nil, true_and, and_true]
    refine fin (F.1, wo p * F.2) g2 ?_ ?_ hf2
    · rw [chv, if_neg (by omega), if_neg]
      intro h
      rcases h with h | h
      · exact z h
      · have := iff1.mp h; omega
    · obtain ⟨l1, l2⟩ := lower_scale (A := F.1 / Nat.gcd F.1 F.2) (D := wo p * (F.2 / Nat.gcd F.1 F.2)) hgp
      rw [Nat.mul_assoc, ← d1, ← d2] at l1 l2
      show ft g2 j (F.1 / Nat.gcd F.1 (wo p * F.2)) (wo p * F.2 / Nat.gcd F.1 (wo p * F.2))
      rw [l1, l2]
      exact hF2
  · simp (disch := omega) only [q_X0_chanceOf_34, q_X0_chanceOf_35, q_X0_chanceOf_37, y_is, y_gf, y_pf, y_f0, y_f1, y_f3, y_nI, y_nK, y_nZ, y_nL, y_nR, y_k1i, y_k1r, y_k1l, y_k1n, y_tl, y_tn, y_s, y_ss, List.getElem?_cons_zero, List.getElem?_cons_succ, List.set_cons_zero, List.set_cons_succ, List.length_cons, List.length_nil, true_and, and_true, lit, eq_n]
    rcases Nat.eq_zero_or_pos (wo p) with z | z
    · rw [bnt z]
      simp (disch := omega) only [q_X0_chanceOf_40, q_X0_chanceOf_41, q_X0_chanceOf_42, q_X0_chanceOf_45, q_X0_chanceOf_46, q_X0_chanceOf_48, q_X0_chanceOf_49, hF1.1, y_is, y_gf, y_pf, y_f0, y_f1, y_f3, y_nI, y_nK, y_nZ, y_nL, y_nR, y_k1i, y_k1r, y_k1l, y_k1n, y_tl, y_tn, y_s, y_ss, List.getElem?_cons_zero, List.getElem?_cons_succ, List.set_cons_zero, List.set_cons_succ, List.length_cons, List.length_nil, true_and, and_true, i_l, y_is]
      refine s_fset hF1 (by omega) (by omega) (by omega) (fun g2 hF2 hf2 => ?_)
      simp (disch := omega) only [q_X0_chanceOf_52, q_X0_chanceOf_101, y_is, y_gf, y_pf, y_f0, y_f1, y_f3, y_nI, y_nK, y_nZ, y_nL, y_nR, y_k1i, y_k1r, y_k1l, y_k1n, y_tl, y_tn, y_s, y_ss, List.getElem?_cons_zero, List.getElem?_cons_succ, List.set_cons_zero, List.set_cons_succ, List.length_cons, List.length_nil, true_and, and_true]
      exact fin (asl, n - l.length) g2 (by rw [chv, if_pos (by omega), if_pos z]) hF2 hf2
    · rw [bnf (by omega)]
      simp (disch := omega) only [q_X0_chanceOf_45, q_X0_chanceOf_46, q_X0_chanceOf_48, q_X0_chanceOf_49, hF1.1, y_is, y_gf, y_pf, y_f0, y_f1, y_f3, y_nI, y_nK, y_nZ, y_nL, y_nR, y_k1i, y_k1r, y_k1l, y_k1n, y_tl, y_tn, y_s, y_ss, List.getElem?_cons_zero, List.getElem?_cons_succ, List.set_cons_zero, List.set_cons_succ, List.length_cons, List.length_nil, true_and, and_true, litL, i_l, y_is]
      refine s_fset hF1 (by omega) (by omega) (by omega) (fun g2 hF2 hf2 => ?_)
      simp (disch := omega) only [q_X0_chanceOf_52, q_X0_chanceOf_101, y_is, y_gf, y_pf, y_f0, y_f1, y_f3, y_nI, y_nK, y_nZ, y_nL, y_nR, y_k1i, y_k1r, y_k1l, y_k1n, y_tl, y_tn, y_s, y_ss, List.getElem?_cons_zero, List.getElem?_cons_succ, List.set_cons_zero, List.set_cons_succ, List.length_cons, List.length_nil, true_and, and_true]
      exact fin (0, n - l.length) g2 (by rw [chv, if_pos (by omega), if_neg (by omega)]) hF2 hf2
end BALANCE3
