/-! ===== the reference: the greatest divisor ===== -/
theorem E0n (t : Nat) : E0 t = none := rfl
/-- but the numbers and the object nothing changed -/
def frn (g g' : mzG) : Prop := g'.1 = g.1 ∧ ∀ k, k ≠ 73 → k ≠ 78 → k ≠ 79 → g'.2 k = g.2 k
theorem frn.of {g g' : mzG} (h : fr g g' 78 80) : frn g g' := ⟨h.1, fun k _ k1 k2 => h.2 k (by omega)⟩
theorem frn.tr {g g' g'' : mzG} (h : frn g g') (h' : frn g' g'') : frn g g'' := ⟨h'.1.trans h.1, fun k a c d => (h'.2 k a c d).trans (h.2 k a c d)⟩
theorem frn.hs {g g' : mzG} {c : mzC} (h : frn g g') : frn g (hs g' 73 c) := ⟨h.1, fun k a c d => by rw [y_ne a]; exact h.2 k a c d⟩
/-- one half taken, where the divisor is odd -/
theorem gcd_half {G H d : Nat} (h : Nat.gcd G H = d) (hd : d % 2 = 1) (hG : G % 2 = 0) : Nat.gcd (G / 2) H = d := by
  have hG2 : G = 2 * (G / 2) := by omega
  apply Nat.dvd_antisymm
  · rw [← h]
    refine Nat.dvd_gcd ?_ (Nat.gcd_dvd_right _ _)
    rw [hG2, Nat.mul_div_cancel_left _ (by decide)]
    exact Nat.dvd_mul_left_of_dvd (Nat.gcd_dvd_left _ _) 2
  · refine Nat.dvd_gcd ?_ (by rw [← h]; exact Nat.gcd_dvd_right _ _)
    have h1 : d ∣ 2 * (G / 2) := by rw [← hG2, ← h]; exact Nat.gcd_dvd_left _ _
    have hc : Nat.Coprime d 2 := by
      have : Nat.gcd d 2 = 1 := by
        rw [Nat.gcd_comm, Nat.gcd_rec, hd]
        decide
      exact this
    exact hc.dvd_of_dvd_mul_left h1
theorem slot_0 {F : Nat → Int64} {z : Int32} {s N : Nat} (h : slot F z s N) : ∃ k, z = nI k ∧ k ≤ 64 ∧ (k = 0 ↔ N = 0) := by
  obtain ⟨k, h1, h2, h3, h4, h5⟩ := h
  refine ⟨k, h1, h2, fun e => ?_, fun e => ?_⟩
  · subst e; simpa using h4
  · rcases h5 with q | q
    · exact q
    · have := bb_pos (k - 1); omega
section MDIV
variable {b : mzB} {Q : mzQ} {x : Nat → Int32} {r : Int64}
theorem s_findDiv {g : mzG} {V0 : Nat → Nat} {p q : Nat} (hM : g.2 73 = ob 9 [.ref 74, .ref 75, .ref 76, .ref 77, .ref 78, .ref 79, .int (x 0), .int (x 1), .int (x 2), .ref 80, .int (x 3), .ref 81, .int (x 4), .ref 82, .long (r), .ref 83, .ref 84, .int (x 5), .int (x 6), .int (x 7), .int (x 8), .int (x 9), .ref 85, .int (x 10)]) (hV : ms g E0 V0) (hp : p < 8) (hq : q < 8) (hA0 : 0 < V0 p) (hB0 : 0 < V0 q) (hA : V0 p < BB ^ 31) (hB : V0 q < BB ^ 31) (hQ : ∀ g' V', g'.2 73 = ob 9 [.ref 74, .ref 75, .ref 76, .ref 77, .ref 78, .ref 79, .int (x 0), .int (x 1), .int (x 2), .ref 80, .int (x 3), .ref 81, .int (x 4), .ref 82, .long (r), .ref 83, .ref 84, .int (x 5), .int (x 6), .int (x 7), .int (x 8), .int (x 9), .ref 85, .int (x 10)] → ms g' E0 V' → V' 8 = Nat.gcd (V0 p) (V0 q) → (∀ s, s < 8 → V' s = V0 s) → fr g g' 78 80 → Q none g') : wp 145 b 0 [.ref 73, .int (nI p), .int (nI q), .null, .null] [] g Q := by
  generalize hpA : V0 p = A at *
  generalize hqB : V0 q = B at *
  have p31 : BB ^ 31 = 2 ^ 930 := by decide +kernel
  have p63 : BB ^ 31 ≤ BB ^ 63 := Nat.pow_le_pow_right (by decide) (by decide)
  -- the twos back
  have last : ∀ (d i t D : Nat) (g' : mzG) (V : Nat → Nat), i + d = t → t < 1000 → D * 2 ^ t = Nat.gcd A B → g'.2 73 = ob 9 [.ref 74, .ref 75, .ref 76, .ref 77, .ref 78, .ref 79, .int (x 0), .int (x 1), .int (x 2), .ref 80, .int (x 3), .ref 81, .int (x 4), .ref 82, .long (r), .ref 83, .ref 84, .int (x 5), .int (x 6), .int (x 7), .int (x 8), .int (x 9), .ref 85, .int (x 10)] → ms g' E0 V → V 8 = D * 2 ^ i → (∀ s, s < 8 → V s = V0 s) → fr g g' 78 80 → wp 145 b 147 [.ref 73, .int (nI p), .int (nI q), .int (nI t), .int (nI i)] [] g' Q := by
    intro d
    induction d with
    | zero =>
      intro i t D g' V hi ht hD hM' hV' h8 hs hf
      have hi : i = t := by omega
      subst hi
      rw [q_X11_findDivisor_147]
      simp (disch := omega) only [q_X11_findDivisor_149, q_X11_findDivisor_150, q_X11_findDivisor_168, y_is, y_gf, y_pf, y_f0, y_f1, y_f3, y_nI, y_nK, y_nZ, y_nL, y_nR, y_k1i, y_k1r, y_k1l, y_k1n, y_tl, y_tn, y_s, y_ss, List.getElem?_cons_zero, List.getElem?_cons_succ, List.set_cons_zero, List.set_cons_succ, List.length_cons, List.length_nil, true_and, and_true, y_lIn, y_lKn, y_lZn, y_lLn, y_wIn, y_wZn, y_wLn, lit, le_n, lt_n, eq_n, lit, litL, le_n, lt_n, eq_n, nI_add, m_neg, pk_sub, pk_mul, i_l, l_i, l_add, l_mul, l_sub, lc_le, lc_ge, lc_lt, lc_gt, lc_eq, l_rem2, l_rem3, i_rem2, i_rem3]
      exact br1 (by omega) (hQ g' V hM' hV' (by rw [h8]; exact hD) hs hf)
    | succ d ih =>
      intro i t D g' V hi ht hD hM' hV' h8 hs hf
      rw [q_X11_findDivisor_147]
      simp (disch := omega) only [q_X11_findDivisor_149, q_X11_findDivisor_150, q_X11_findDivisor_153, q_X11_findDivisor_154, q_X11_findDivisor_156, q_X11_findDivisor_159, hM', y_is, y_gf, y_pf, y_f0, y_f1, y_f3, y_nI, y_nK, y_nZ, y_nL, y_nR, y_k1i, y_k1r, y_k1l, y_k1n, y_tl, y_tn, y_s, y_ss, List.getElem?_cons_zero, List.getElem?_cons_succ, List.set_cons_zero, List.set_cons_succ, List.length_cons, List.length_nil, true_and, and_true, y_lIn, y_lKn, y_lZn, y_lLn, y_wIn, y_wZn, y_wLn, lit, le_n, lt_n, eq_n, lit, litL, le_n, lt_n, eq_n, nI_add, m_neg, pk_sub, pk_mul, i_l, l_i, l_add, l_mul, l_sub, lc_le, lc_ge, lc_lt, lc_gt, lc_eq, l_rem2, l_rem3, i_rem2, i_rem3]
      refine br0 (by omega) (s_mtimes hM' hV' (by decide) (E0n _) (by decide) ?_ (fun g2 hM2 hV2 hf2 => ?_))
      · rw [h8]
        have h1 : Nat.gcd A B ≤ A := Nat.le_of_dvd hA0 (Nat.gcd_dvd_left _ _)
        have h2 : D * 2 ^ i * 2 ≤ D * 2 ^ t := by
          rw [Nat.mul_assoc, ← Nat.pow_succ]
          exact Nat.mul_le_mul_left _ (Nat.pow_le_pow_right (by decide) (by omega))
        omega
      · simp (disch := omega) only [q_X11_findDivisor_162, q_X11_findDivisor_165, y_is, y_gf, y_pf, y_f0, y_f1, y_f3, y_nI, y_nK, y_nZ, y_nL, y_nR, y_k1i, y_k1r, y_k1l, y_k1n, y_tl, y_tn, y_s, y_ss, List.getElem?_cons_zero, List.getElem?_cons_succ, List.set_cons_zero, List.set_cons_succ, List.length_cons, List.length_nil, true_and, and_true, lit, nI_add]
        exact ih (i + 1) t D g2 _ (by omega) ht hD hM2 hV2 (by rw [up_s, h8, Nat.mul_assoc, ← Nat.pow_succ]) (fun s hs' => by rw [up_n (by omega)]; exact hs s hs') (hf.tr hf2)
  -- odd ones
  have main : ∀ (N G H t D : Nat) (x4 : Value) (g' : mzG) (V : Nat → Nat), G + H = N → t < 1000 → 0 < G → G ≤ A ∨ G ≤ B → G < BB ^ 31 → H < BB ^ 31 → Nat.gcd G H = D → D % 2 = 1 → D * 2 ^ t = Nat.gcd A B → g'.2 73 = ob 9 [.ref 74, .ref 75, .ref 76, .ref 77, .ref 78, .ref 79, .int (x 0), .int (x 1), .int (x 2), .ref 80, .int (x 3), .ref 81, .int (x 4), .ref 82, .long (r), .ref 83, .ref 84, .int (x 5), .int (x 6), .int (x 7), .int (x 8), .int (x 9), .ref 85, .int (x 10)] → ms g' E0 V → V 8 = G → V 9 = H → (∀ s, s < 8 → V s = V0 s) → fr g g' 78 80 → wp 145 b 52 [.ref 73, .int (nI p), .int (nI q), .int (nI t), x4] [] g' Q := by
    intro N
    induction N using Nat.strongRecOn with
    | _ N ihN =>
      intro G H t D x4 g' V hN ht hG hGb hGl hHl hD hDo hDt hM' hV' h8 h9 hs hf
      obtain ⟨F, Z, hr, hsl⟩ := id hV'
      obtain ⟨k, k1, k2, k3⟩ := slot_0 ((hsl 9 (by decide)).1 (E0n _))
      rw [h9] at k3
      rw [q_X11_findDivisor_52]
      simp (disch := omega) only [q_X11_findDivisor_53, q_X11_findDivisor_56, q_X11_findDivisor_58, q_X11_findDivisor_59, hM', hr.2, k1, y_is, y_gf, y_pf, y_f0, y_f1, y_f3, y_nI, y_nK, y_nZ, y_nL, y_nR, y_k1i, y_k1r, y_k1l, y_k1n, y_tl, y_tn, y_s, y_ss, List.getElem?_cons_zero, List.getElem?_cons_succ, List.set_cons_zero, List.set_cons_succ, List.length_cons, List.length_nil, true_and, and_true, y_lIn, y_lKn, y_lZn, y_lLn, y_wIn, y_wZn, y_wLn, lit, le_n, lt_n, eq_n, lit, litL, le_n, lt_n, eq_n, nI_add, m_neg, pk_sub, pk_mul, i_l, l_i, l_add, l_mul, l_sub, lc_le, lc_ge, lc_lt, lc_gt, lc_eq, l_rem2, l_rem3, i_rem2, i_rem3]
      refine brs (fun c => ?_) (fun c => ?_)
      · have hH : H = 0 := k3.mp (by omega)
        rw [hH, Nat.gcd_zero_right] at hD
        simp (disch := omega) only [q_X11_findDivisor_144, q_X11_findDivisor_145, y_is, y_gf, y_pf, y_f0, y_f1, y_f3, y_nI, y_nK, y_nZ, y_nL, y_nR, y_k1i, y_k1r, y_k1l, y_k1n, y_tl, y_tn, y_s, y_ss, List.getElem?_cons_zero, List.getElem?_cons_succ, List.set_cons_zero, List.set_cons_succ, List.length_cons, List.length_nil, true_and, and_true, lit]
        exact last t 0 t D g' V (by omega) ht hDt hM' hV' (by rw [h8, hD, Nat.pow_zero, Nat.mul_one]) hs hf
      · have hH : 0 < H := Nat.pos_of_ne_zero (fun e => c (by have := k3.mpr e; omega))
        -- both odd
        have at98 : ∀ (G1 H1 : Nat) (g2 : mzG) (V2 : Nat → Nat), G1 ≤ G → H1 ≤ H → 0 < G1 → 0 < H1 → Nat.gcd G1 H1 = D → g2.2 73 = ob 9 [.ref 74, .ref 75, .ref 76, .ref 77, .ref 78, .ref 79, .int (x 0), .int (x 1), .int (x 2), .ref 80, .int (x 3), .ref 81, .int (x 4), .ref 82, .long (r), .ref 83, .ref 84, .int (x 5), .int (x 6), .int (x 7), .int (x 8), .int (x 9), .ref 85, .int (x 10)] → ms g2 E0 V2 → V2 8 = G1 → V2 9 = H1 → (∀ s, s < 8 → V2 s = V0 s) → fr g g2 78 80 → wp 145 b 98 [.ref 73, .int (nI p), .int (nI q), .int (nI t), x4] [] g2 Q := by
          intro G1 H1 g2 V2 g1 g2' g3 g4 hD1 hM2 hV2 h82 h92 hs2 hf2
          have sub : ∀ (G3 H3 : Nat) (g3' : mzG) (V3 : Nat → Nat), G3 ≤ H3 → G3 + H3 ≤ N → 0 < G3 → G3 ≤ A ∨ G3 ≤ B → G3 < BB ^ 31 → H3 < BB ^ 31 → Nat.gcd G3 H3 = D → g3'.2 73 = ob 9 [.ref 74, .ref 75, .ref 76, .ref 77, .ref 78, .ref 79, .int (x 0), .int (x 1), .int (x 2), .ref 80, .int (x 3), .ref 81, .int (x 4), .ref 82, .long (r), .ref 83, .ref 84, .int (x 5), .int (x 6), .int (x 7), .int (x 8), .int (x 9), .ref 85, .int (x 10)] → ms g3' E0 V3 → V3 8 = G3 → V3 9 = H3 → (∀ s, s < 8 → V3 s = V0 s) → fr g g3' 78 80 → wp 145 b 133 [.ref 73, .int (nI p), .int (nI q), .int (nI t), x4] [] g3' Q := by
            intro G3 H3 g3' V3 q1 q2 q3 q4 q5 q6 q7 q8 q9 q10 q11 q12 q13
            simp (disch := omega) only [q_X11_findDivisor_133, q_X11_findDivisor_134, q_X11_findDivisor_136, q_X11_findDivisor_138, q8, y_is, y_gf, y_pf, y_f0, y_f1, y_f3, y_nI, y_nK, y_nZ, y_nL, y_nR, y_k1i, y_k1r, y_k1l, y_k1n, y_tl, y_tn, y_s, y_ss, List.getElem?_cons_zero, List.getElem?_cons_succ, List.set_cons_zero, List.set_cons_succ, List.length_cons, List.length_nil, true_and, and_true, lit]
            refine s_mtake q8 q9 (by decide) (E0n _) (by decide) (E0n _) (by decide) (by omega) (fun g4 hM4 hV4 hf4 => ?_)
            simp only [q_X11_findDivisor_141, y_is, y_gf, y_pf, y_f0, y_f1, y_f3, y_nI, y_nK, y_nZ, y_nL, y_nR, y_k1i, y_k1r, y_k1l, y_k1n, y_tl, y_tn, y_s, y_ss, List.getElem?_cons_zero, List.getElem?_cons_succ, List.set_cons_zero, List.set_cons_succ, List.length_cons, List.length_nil, true_and, and_true]
            refine ihN (G3 + (H3 - G3)) (by omega) G3 (H3 - G3) t D x4 g4 _ rfl ht q3 q4 q5 (by omega) ?_ hDo hDt hM4 hV4 (by rw [up_n (by decide)]; exact q10) (by rw [up_s, q10, q11]) (fun s hs' => by rw [up_n (by omega)]; exact q12 s hs') (q13.tr hf4)
            rw [← q7]
            have : Nat.gcd G3 (H3 - G3 + G3) = Nat.gcd G3 (H3 - G3) := Nat.gcd_add_self_right _ _
            rw [show H3 - G3 + G3 = H3 by omega] at this
            exact this.symm
          have hGb1 : G1 ≤ A ∨ G1 ≤ B := by omega
          simp (disch := omega) only [q_X11_findDivisor_98, q_X11_findDivisor_99, q_X11_findDivisor_101, q_X11_findDivisor_103, hM2, y_is, y_gf, y_pf, y_f0, y_f1, y_f3, y_nI, y_nK, y_nZ, y_nL, y_nR, y_k1i, y_k1r, y_k1l, y_k1n, y_tl, y_tn, y_s, y_ss, List.getElem?_cons_zero, List.getElem?_cons_succ, List.set_cons_zero, List.set_cons_succ, List.length_cons, List.length_nil, true_and, and_true, lit]
          refine s_mcompare hM2 hV2 (by decide) (E0n _) (by decide) (E0n _) ?_
          rw [h82, h92]
          simp (disch := omega) only [q_X11_findDivisor_106, y_is, y_gf, y_pf, y_f0, y_f1, y_f3, y_nI, y_nK, y_nZ, y_nL, y_nR, y_k1i, y_k1r, y_k1l, y_k1n, y_tl, y_tn, y_s, y_ss, List.getElem?_cons_zero, List.getElem?_cons_succ, List.set_cons_zero, List.set_cons_succ, List.length_cons, List.length_nil, true_and, and_true]
          unfold cmpI
          rcases Nat.lt_trichotomy G1 H1 with z | z | z
          · rw [if_pos z]
            exact br1 (by decide) (sub G1 H1 g2 V2 (by omega) (by omega) g3 hGb1 (by omega) (by omega) hD1 hM2 hV2 h82 h92 hs2 hf2)
          · rw [if_neg (by omega), if_pos z]
            exact br1 (by decide) (sub G1 H1 g2 V2 (by omega) (by omega) g3 hGb1 (by omega) (by omega) hD1 hM2 hV2 h82 h92 hs2 hf2)
          · rw [if_neg (by omega), if_neg (by omega)]
            refine br0 (by decide) ?_
            simp (disch := omega) only [q_X11_findDivisor_109, q_X11_findDivisor_110, q_X11_findDivisor_112, q_X11_findDivisor_114, hM2, y_is, y_gf, y_pf, y_f0, y_f1, y_f3, y_nI, y_nK, y_nZ, y_nL, y_nR, y_k1i, y_k1r, y_k1l, y_k1n, y_tl, y_tn, y_s, y_ss, List.getElem?_cons_zero, List.getElem?_cons_succ, List.set_cons_zero, List.set_cons_succ, List.length_cons, List.length_nil, true_and, and_true, lit]
            refine s_mcopy hM2 hV2 (by decide) (E0n _) (by decide) (E0n _) (by decide) (fun g5 hM5 hV5 hf5 => ?_)
            simp (disch := omega) only [q_X11_findDivisor_117, q_X11_findDivisor_118, q_X11_findDivisor_120, q_X11_findDivisor_122, hM5, y_is, y_gf, y_pf, y_f0, y_f1, y_f3, y_nI, y_nK, y_nZ, y_nL, y_nR, y_k1i, y_k1r, y_k1l, y_k1n, y_tl, y_tn, y_s, y_ss, List.getElem?_cons_zero, List.getElem?_cons_succ, List.set_cons_zero, List.set_cons_succ, List.length_cons, List.length_nil, true_and, and_true, lit]
            refine s_mcopy hM5 hV5 (by decide) (E0n _) (by decide) (E0n _) (by decide) (fun g6 hM6 hV6 hf6 => ?_)
            simp (disch := omega) only [q_X11_findDivisor_125, q_X11_findDivisor_126, q_X11_findDivisor_128, q_X11_findDivisor_130, hM6, y_is, y_gf, y_pf, y_f0, y_f1, y_f3, y_nI, y_nK, y_nZ, y_nL, y_nR, y_k1i, y_k1r, y_k1l, y_k1n, y_tl, y_tn, y_s, y_ss, List.getElem?_cons_zero, List.getElem?_cons_succ, List.set_cons_zero, List.set_cons_succ, List.length_cons, List.length_nil, true_and, and_true, lit]
            refine s_mcopy hM6 hV6 (by decide) (E0n _) (by decide) (E0n _) (by decide) (fun g7 hM7 hV7 hf7 => ?_)
            have hlt : H1 < G1 := z
            exact sub H1 G1 g7 _ (by omega) (by omega) g4 (by omega) (by omega) (by omega) (by rw [Nat.gcd_comm]; exact hD1) hM7 hV7 (by rw [up_n (by decide), up_s, up_n (by decide)]; exact h92) (by rw [up_s, up_n (by decide), up_s]; exact h82) (fun s hs' => by rw [up_n (by omega), up_n (by omega), up_n (by omega)]; exact hs2 s hs') (((hf2.tr hf5).tr hf6).tr hf7)
        -- H made odd
        have at80 : ∀ (H1 : Nat) (G1 : Nat) (g2 : mzG) (V2 : Nat → Nat), G1 ≤ G → H1 ≤ H → 0 < G1 → 0 < H1 → Nat.gcd G1 H1 = D → g2.2 73 = ob 9 [.ref 74, .ref 75, .ref 76, .ref 77, .ref 78, .ref 79, .int (x 0), .int (x 1), .int (x 2), .ref 80, .int (x 3), .ref 81, .int (x 4), .ref 82, .long (r), .ref 83, .ref 84, .int (x 5), .int (x 6), .int (x 7), .int (x 8), .int (x 9), .ref 85, .int (x 10)] → ms g2 E0 V2 → V2 8 = G1 → V2 9 = H1 → (∀ s, s < 8 → V2 s = V0 s) → fr g g2 78 80 → wp 145 b 80 [.ref 73, .int (nI p), .int (nI q), .int (nI t), x4] [] g2 Q := by
          intro H1
          induction H1 using Nat.strongRecOn with
          | _ H1 ihH =>
            intro G1 g2 V2 q1 q2 q3 q4 q5 q6 q7 q8 q9 q10 q11
            rw [q_X11_findDivisor_80]
            simp (disch := omega) only [q_X11_findDivisor_81, q_X11_findDivisor_83, q6, y_is, y_gf, y_pf, y_f0, y_f1, y_f3, y_nI, y_nK, y_nZ, y_nL, y_nR, y_k1i, y_k1r, y_k1l, y_k1n, y_tl, y_tn, y_s, y_ss, List.getElem?_cons_zero, List.getElem?_cons_succ, List.set_cons_zero, List.set_cons_succ, List.length_cons, List.length_nil, true_and, and_true, lit]
            refine s_misEven q6 q7 (by decide) (E0n _) ?_
            rw [q9]
            simp (disch := omega) only [q_X11_findDivisor_86, y_is, y_gf, y_pf, y_f0, y_f1, y_f3, y_nI, y_nK, y_nZ, y_nL, y_nR, y_k1i, y_k1r, y_k1l, y_k1n, y_tl, y_tn, y_s, y_ss, List.getElem?_cons_zero, List.getElem?_cons_succ, List.set_cons_zero, List.set_cons_succ, List.length_cons, List.length_nil, true_and, and_true]
            by_cases z : H1 % 2 = 0
            · rw [if_pos z]
              refine br0 (by decide) ?_
              simp (disch := omega) only [q_X11_findDivisor_89, q_X11_findDivisor_90, q_X11_findDivisor_92, q6, y_is, y_gf, y_pf, y_f0, y_f1, y_f3, y_nI, y_nK, y_nZ, y_nL, y_nR, y_k1i, y_k1r, y_k1l, y_k1n, y_tl, y_tn, y_s, y_ss, List.getElem?_cons_zero, List.getElem?_cons_succ, List.set_cons_zero, List.set_cons_succ, List.length_cons, List.length_nil, true_and, and_true, lit]
              refine s_mhalve q6 q7 (by decide) (E0n _) (fun g3 hM3 hV3 hf3 => ?_)
              simp only [q_X11_findDivisor_95, y_is, y_gf, y_pf, y_f0, y_f1, y_f3, y_nI, y_nK, y_nZ, y_nL, y_nR, y_k1i, y_k1r, y_k1l, y_k1n, y_tl, y_tn, y_s, y_ss, List.getElem?_cons_zero, List.getElem?_cons_succ, List.set_cons_zero, List.set_cons_succ, List.length_cons, List.length_nil, true_and, and_true]
              exact ihH (H1 / 2) (by omega) G1 g3 _ q1 (by omega) q3 (by omega) (by rw [Nat.gcd_comm]; exact gcd_half (by rw [Nat.gcd_comm]; exact q5) hDo z) hM3 hV3 (by rw [up_n (by decide)]; exact q8) (by rw [up_s, q9]) (fun s hs' => by rw [up_n (by omega)]; exact q10 s hs') (q11.tr hf3)
            · rw [if_neg z]
              exact br1 (by decide) (at98 G1 H1 g2 V2 q1 q2 q3 q4 q5 q6 q7 q8 q9 q10 q11)
        have at62 : ∀ (G1 : Nat) (g2 : mzG) (V2 : Nat → Nat), G1 ≤ G → 0 < G1 → Nat.gcd G1 H = D → g2.2 73 = ob 9 [.ref 74, .ref 75, .ref 76, .ref 77, .ref 78, .ref 79, .int (x 0), .int (x 1), .int (x 2), .ref 80, .int (x 3), .ref 81, .int (x 4), .ref 82, .long (r), .ref 83, .ref 84, .int (x 5), .int (x 6), .int (x 7), .int (x 8), .int (x 9), .ref 85, .int (x 10)] → ms g2 E0 V2 → V2 8 = G1 → V2 9 = H → (∀ s, s < 8 → V2 s = V0 s) → fr g g2 78 80 → wp 145 b 62 [.ref 73, .int (nI p), .int (nI q), .int (nI t), x4] [] g2 Q := by
          intro G1
          induction G1 using Nat.strongRecOn with
          | _ G1 ihG =>
            intro g2 V2 q1 q3 q5 q6 q7 q8 q9 q10 q11
            rw [q_X11_findDivisor_62]
            simp (disch := omega) only [q_X11_findDivisor_63, q_X11_findDivisor_65, q6, y_is, y_gf, y_pf, y_f0, y_f1, y_f3, y_nI, y_nK, y_nZ, y_nL, y_nR, y_k1i, y_k1r, y_k1l, y_k1n, y_tl, y_tn, y_s, y_ss, List.getElem?_cons_zero, List.getElem?_cons_succ, List.set_cons_zero, List.set_cons_succ, List.length_cons, List.length_nil, true_and, and_true, lit]
            refine s_misEven q6 q7 (by decide) (E0n _) ?_
            rw [q8]
            simp (disch := omega) only [q_X11_findDivisor_68, y_is, y_gf, y_pf, y_f0, y_f1, y_f3, y_nI, y_nK, y_nZ, y_nL, y_nR, y_k1i, y_k1r, y_k1l, y_k1n, y_tl, y_tn, y_s, y_ss, List.getElem?_cons_zero, List.getElem?_cons_succ, List.set_cons_zero, List.set_cons_succ, List.length_cons, List.length_nil, true_and, and_true]
            by_cases z : G1 % 2 = 0
            · rw [if_pos z]
              refine br0 (by decide) ?_
              simp (disch := omega) only [q_X11_findDivisor_71, q_X11_findDivisor_72, q_X11_findDivisor_74, q6, y_is, y_gf, y_pf, y_f0, y_f1, y_f3, y_nI, y_nK, y_nZ, y_nL, y_nR, y_k1i, y_k1r, y_k1l, y_k1n, y_tl, y_tn, y_s, y_ss, List.getElem?_cons_zero, List.getElem?_cons_succ, List.set_cons_zero, List.set_cons_succ, List.length_cons, List.length_nil, true_and, and_true, lit]
              refine s_mhalve q6 q7 (by decide) (E0n _) (fun g3 hM3 hV3 hf3 => ?_)
              simp only [q_X11_findDivisor_77, y_is, y_gf, y_pf, y_f0, y_f1, y_f3, y_nI, y_nK, y_nZ, y_nL, y_nR, y_k1i, y_k1r, y_k1l, y_k1n, y_tl, y_tn, y_s, y_ss, List.getElem?_cons_zero, List.getElem?_cons_succ, List.set_cons_zero, List.set_cons_succ, List.length_cons, List.length_nil, true_and, and_true]
              exact ihG (G1 / 2) (by omega) g3 _ (by omega) (by omega) (gcd_half q5 hDo z) hM3 hV3 (by rw [up_s, q8]) (by rw [up_n (by decide)]; exact q9) (fun s hs' => by rw [up_n (by omega)]; exact q10 s hs') (q11.tr hf3)
            · rw [if_neg z]
              exact br1 (by decide) (at80 H G1 g2 V2 q1 (Nat.le_refl _) q3 hH q5 q6 q7 q8 q9 q10 q11)
        exact at62 G g' V (Nat.le_refl _) hG hD hM' hV' h8 h9 hs hf
  -- the twos
  have twos : ∀ (G H t : Nat) (g' : mzG) (V : Nat → Nat), 0 < G → 0 < H → A = G * 2 ^ t → B = H * 2 ^ t → g'.2 73 = ob 9 [.ref 74, .ref 75, .ref 76, .ref 77, .ref 78, .ref 79, .int (x 0), .int (x 1), .int (x 2), .ref 80, .int (x 3), .ref 81, .int (x 4), .ref 82, .long (r), .ref 83, .ref 84, .int (x 5), .int (x 6), .int (x 7), .int (x 8), .int (x 9), .ref 85, .int (x 10)] → ms g' E0 V → V 8 = G → V 9 = H → (∀ s, s < 8 → V s = V0 s) → fr g g' 78 80 → wp 145 b 16 [.ref 73, .int (nI p), .int (nI q), .int (nI t), .null] [] g' Q := by
    intro G
    induction G using Nat.strongRecOn with
    | _ G ihG =>
      intro H t g' V hG hH hAe hBe hM' hV' h8 h9 hs hf
      have ht : t < 1000 := by
        have h1 : 2 ^ t ≤ A := by rw [hAe]; exact Nat.le_mul_of_pos_left _ hG
        have h2 : 2 ^ t < 2 ^ 930 := by omega
        have := (Nat.pow_lt_pow_iff_right (show 1 < 2 by decide)).mp h2
        omega
      have hGA : G ≤ A := by rw [hAe]; exact Nat.le_mul_of_pos_right _ (Nat.pow_pos (by decide))
      have hHB : H ≤ B := by rw [hBe]; exact Nat.le_mul_of_pos_right _ (Nat.pow_pos (by decide))
      have go : ¬ (G % 2 = 0 ∧ H % 2 = 0) → wp 145 b 52 [.ref 73, .int (nI p), .int (nI q), .int (nI t), .null] [] g' Q := by
        intro hno
        refine main (G + H) G H t (Nat.gcd G H) _ g' V rfl ht hG (Or.inl hGA) (by omega) (by omega) rfl ?_ ?_ hM' hV' h8 h9 hs hf
        · rcases Nat.mod_two_eq_zero_or_one (Nat.gcd G H) with e | e
          · exfalso
            have hd := Nat.dvd_of_mod_eq_zero e
            exact hno ⟨Nat.mod_eq_zero_of_dvd (Nat.dvd_trans hd (Nat.gcd_dvd_left _ _)), Nat.mod_eq_zero_of_dvd (Nat.dvd_trans hd (Nat.gcd_dvd_right _ _))⟩
          · exact e
        · rw [hAe, hBe, Nat.gcd_mul_right]
      rw [q_X11_findDivisor_16]
      simp (disch := omega) only [q_X11_findDivisor_17, q_X11_findDivisor_19, hM', y_is, y_gf, y_pf, y_f0, y_f1, y_f3, y_nI, y_nK, y_nZ, y_nL, y_nR, y_k1i, y_k1r, y_k1l, y_k1n, y_tl, y_tn, y_s, y_ss, List.getElem?_cons_zero, List.getElem?_cons_succ, List.set_cons_zero, List.set_cons_succ, List.length_cons, List.length_nil, true_and, and_true, lit]
      refine s_misEven hM' hV' (by decide) (E0n _) ?_
      rw [h8]
      simp (disch := omega) only [q_X11_findDivisor_22, y_is, y_gf, y_pf, y_f0, y_f1, y_f3, y_nI, y_nK, y_nZ, y_nL, y_nR, y_k1i, y_k1r, y_k1l, y_k1n, y_tl, y_tn, y_s, y_ss, List.getElem?_cons_zero, List.getElem?_cons_succ, List.set_cons_zero, List.set_cons_succ, List.length_cons, List.length_nil, true_and, and_true]
      by_cases z : G % 2 = 0
      · rw [if_pos z]
        refine br0 (by decide) ?_
        simp (disch := omega) only [q_X11_findDivisor_25, q_X11_findDivisor_26, q_X11_findDivisor_28, hM', y_is, y_gf, y_pf, y_f0, y_f1, y_f3, y_nI, y_nK, y_nZ, y_nL, y_nR, y_k1i, y_k1r, y_k1l, y_k1n, y_tl, y_tn, y_s, y_ss, List.getElem?_cons_zero, List.getElem?_cons_succ, List.set_cons_zero, List.set_cons_succ, List.length_cons, List.length_nil, true_and, and_true, lit]
        refine s_misEven hM' hV' (by decide) (E0n _) ?_
        rw [h9]
        simp (disch := omega) only [q_X11_findDivisor_31, y_is, y_gf, y_pf, y_f0, y_f1, y_f3, y_nI, y_nK, y_nZ, y_nL, y_nR, y_k1i, y_k1r, y_k1l, y_k1n, y_tl, y_tn, y_s, y_ss, List.getElem?_cons_zero, List.getElem?_cons_succ, List.set_cons_zero, List.set_cons_succ, List.length_cons, List.length_nil, true_and, and_true]
        by_cases y : H % 2 = 0
        · rw [if_pos y]
          refine br0 (by decide) ?_
          simp (disch := omega) only [q_X11_findDivisor_34, q_X11_findDivisor_35, q_X11_findDivisor_37, hM', y_is, y_gf, y_pf, y_f0, y_f1, y_f3, y_nI, y_nK, y_nZ, y_nL, y_nR, y_k1i, y_k1r, y_k1l, y_k1n, y_tl, y_tn, y_s, y_ss, List.getElem?_cons_zero, List.getElem?_cons_succ, List.set_cons_zero, List.set_cons_succ, List.length_cons, List.length_nil, true_and, and_true, lit]
          refine s_mhalve hM' hV' (by decide) (E0n _) (fun g3 hM3 hV3 hf3 => ?_)
          simp (disch := omega) only [q_X11_findDivisor_40, q_X11_findDivisor_41, q_X11_findDivisor_43, hM3, y_is, y_gf, y_pf, y_f0, y_f1, y_f3, y_nI, y_nK, y_nZ, y_nL, y_nR, y_k1i, y_k1r, y_k1l, y_k1n, y_tl, y_tn, y_s, y_ss, List.getElem?_cons_zero, List.getElem?_cons_succ, List.set_cons_zero, List.set_cons_succ, List.length_cons, List.length_nil, true_and, and_true, lit]
          refine s_mhalve hM3 hV3 (by decide) (E0n _) (fun g4 hM4 hV4 hf4 => ?_)
          simp (disch := omega) only [q_X11_findDivisor_46, q_X11_findDivisor_49, y_is, y_gf, y_pf, y_f0, y_f1, y_f3, y_nI, y_nK, y_nZ, y_nL, y_nR, y_k1i, y_k1r, y_k1l, y_k1n, y_tl, y_tn, y_s, y_ss, List.getElem?_cons_zero, List.getElem?_cons_succ, List.set_cons_zero, List.set_cons_succ, List.length_cons, List.length_nil, true_and, and_true, lit, nI_add]
          refine ihG (G / 2) (by omega) (H / 2) (t + 1) g4 _ (by omega) (by omega) ?_ ?_ hM4 hV4 (by rw [up_n (by decide), up_s, h8]) (by rw [up_s, up_n (by decide), h9]) (fun s hs' => by rw [up_n (by omega), up_n (by omega)]; exact hs s hs') ((hf.tr hf3).tr hf4)
          · rw [Nat.pow_succ, Nat.mul_comm (2 ^ t), ← Nat.mul_assoc, Nat.div_mul_cancel (Nat.dvd_of_mod_eq_zero z)]; exact hAe
          · rw [Nat.pow_succ, Nat.mul_comm (2 ^ t), ← Nat.mul_assoc, Nat.div_mul_cancel (Nat.dvd_of_mod_eq_zero y)]; exact hBe
        · rw [if_neg y]
          exact br1 (by decide) (go (fun q => y q.2))
      · rw [if_neg z]
        exact br1 (by decide) (go (fun q => z q.1))
  simp (disch := omega) only [q_X11_findDivisor_0, q_X11_findDivisor_1, q_X11_findDivisor_3, q_X11_findDivisor_4, hM, y_is, y_gf, y_pf, y_f0, y_f1, y_f3, y_nI, y_nK, y_nZ, y_nL, y_nR, y_k1i, y_k1r, y_k1l, y_k1n, y_tl, y_tn, y_s, y_ss, List.getElem?_cons_zero, List.getElem?_cons_succ, List.set_cons_zero, List.set_cons_succ, List.length_cons, List.length_nil, true_and, and_true, lit]
  refine s_mcopy hM hV (by decide) (E0n _) (by omega) (E0n _) (by omega) (fun g1 hM1 hV1 hf1 => ?_)
  simp (disch := omega) only [q_X11_findDivisor_7, q_X11_findDivisor_8, q_X11_findDivisor_10, q_X11_findDivisor_11, hM1, y_is, y_gf, y_pf, y_f0, y_f1, y_f3, y_nI, y_nK, y_nZ, y_nL, y_nR, y_k1i, y_k1r, y_k1l, y_k1n, y_tl, y_tn, y_s, y_ss, List.getElem?_cons_zero, List.getElem?_cons_succ, List.set_cons_zero, List.set_cons_succ, List.length_cons, List.length_nil, true_and, and_true, lit]
  refine s_mcopy hM1 hV1 (by decide) (E0n _) (by omega) (E0n _) (by omega) (fun g2 hM2 hV2 hf2 => ?_)
  simp (disch := omega) only [q_X11_findDivisor_14, q_X11_findDivisor_15, y_is, y_gf, y_pf, y_f0, y_f1, y_f3, y_nI, y_nK, y_nZ, y_nL, y_nR, y_k1i, y_k1r, y_k1l, y_k1n, y_tl, y_tn, y_s, y_ss, List.getElem?_cons_zero, List.getElem?_cons_succ, List.set_cons_zero, List.set_cons_succ, List.length_cons, List.length_nil, true_and, and_true, lit]
  exact twos A B 0 g2 _ hA0 hB0 (by simp) (by simp) hM2 hV2 (by rw [up_n (by decide), up_s]; exact hpA) (by rw [up_s, up_n (by omega)]; exact hqB) (fun s hs' => by rw [up_n (by omega), up_n (by omega)]) (hf1.tr hf2)
/-! division, bit by bit -/
theorem dbit {N k j : Nat} (hj : j < 30) : N / BB ^ k % BB / 2 ^ j % 2 = N / 2 ^ (30 * k + j) % 2 := by
  have hB : BB ^ k = 2 ^ (30 * k) := by rw [show BB = 2 ^ 30 from rfl, ← Nat.pow_mul]
  rw [hB, Nat.pow_add, ← Nat.div_div_eq_div_mul]
  generalize N / 2 ^ (30 * k) = X
  have h30 : BB = 2 ^ (j + (30 - j)) := by rw [show j + (30 - j) = 30 by omega]
  have e : X % BB / 2 ^ j = X / 2 ^ j % 2 ^ (30 - j) := by
    rw [h30, Nat.pow_add, Nat.mod_mul_right_div_self]
  rw [e]
  exact Nat.mod_mod_of_dvd _ (by
    have : 2 ^ 1 ∣ 2 ^ (30 - j) := Nat.pow_dvd_pow 2 (by omega)
    simpa using this)
theorem dstep {N G e : Nat} (hG : 0 < G) : let H := N / 2 ^ (e + 1) % G; let c := N / 2 ^ e % 2; (H * 2 + c < G → N / 2 ^ e % G = H * 2 + c ∧ N / 2 ^ e / G = 2 * (N / 2 ^ (e + 1) / G)) ∧ (¬ H * 2 + c < G → N / 2 ^ e % G = H * 2 + c - G ∧ N / 2 ^ e / G = 2 * (N / 2 ^ (e + 1) / G) + 1) := by
  intro H c
  have h1 : N / 2 ^ e = 2 * (N / 2 ^ (e + 1)) + c := by
    rw [Nat.pow_succ, ← Nat.div_div_eq_div_mul]; exact (Nat.div_add_mod _ _).symm
  have h2 : N / 2 ^ (e + 1) = G * (N / 2 ^ (e + 1) / G) + H := (Nat.div_add_mod _ _).symm
  have hH : H < G := Nat.mod_lt _ hG
  have hc : c < 2 := Nat.mod_lt _ (by decide)
  generalize N / 2 ^ (e + 1) / G = q at *
  have h3 : N / 2 ^ e = G * (2 * q) + (H * 2 + c) := by
    have h6 : 2 * (G * q) = G * (2 * q) := by ac_rfl
    rw [h1, h2, Nat.mul_add]
    omega
  constructor
  · intro h
    rw [h3, Nat.mul_add_mod, Nat.mod_eq_of_lt h, Nat.mul_add_div hG, Nat.div_eq_of_lt h]; exact ⟨rfl, rfl⟩
  · intro h
    have h4 : N / 2 ^ e = G * (2 * q + 1) + (H * 2 + c - G) := by rw [h3, Nat.mul_add, Nat.mul_one]; omega
    have h5 : H * 2 + c - G < G := by omega
    rw [h4, Nat.mul_add_mod, Nat.mod_eq_of_lt h5, Nat.mul_add_div hG, Nat.div_eq_of_lt h5]; exact ⟨rfl, rfl⟩
theorem dtwo (X j : Nat) (e : Nat) (he : e < 2) : 2 * (X % 2 ^ j) + e = (2 * X + e) % 2 ^ (j + 1) := by
  have h1 := Nat.div_add_mod X (2 ^ j)
  have h2 := Nat.mod_lt X (show 0 < 2 ^ j from Nat.pow_pos (by decide))
  have h3 : 2 * X + e = 2 ^ (j + 1) * (X / 2 ^ j) + (2 * (X % 2 ^ j) + e) := by
    rw [Nat.pow_succ]
    have : 2 ^ j * 2 * (X / 2 ^ j) = 2 * (2 ^ j * (X / 2 ^ j)) := by ac_rfl
    omega
  have h4 : 2 * (X % 2 ^ j) + e < 2 ^ (j + 1) := by
    rw [Nat.pow_succ]
    generalize X % 2 ^ j = m at *
    generalize 2 ^ j = P at *
    omega
  rw [h3, Nat.mul_add_mod, Nat.mod_eq_of_lt h4]
theorem l_and1 {n : Nat} (h : n < 9223372036854775808) : lN n &&& lN 1 = lN (n % 2) := wb_a1 (by omega)
theorem cmp_lt {A B : Nat} : (cmpI A B < (0 : Int32)) = (A < B) := by
  apply propext
  unfold cmpI
  rcases Nat.lt_trichotomy A B with h | h | h
  · rw [if_pos h]; exact ⟨fun _ => h, fun _ => by decide⟩
  · rw [if_neg (by omega), if_pos h]; exact ⟨fun z => absurd z (by decide), fun z => by omega⟩
  · rw [if_neg (by omega), if_neg (by omega)]; exact ⟨fun z => absurd z (by decide), fun z => by omega⟩
theorem s_mdivide {g : mzG} {V0 : Nat → Nat} {s : Nat} (hM : g.2 73 = ob 9 [.ref 74, .ref 75, .ref 76, .ref 77, .ref 78, .ref 79, .int (x 0), .int (x 1), .int (x 2), .ref 80, .int (x 3), .ref 81, .int (x 4), .ref 82, .long (r), .ref 83, .ref 84, .int (x 5), .int (x 6), .int (x 7), .int (x 8), .int (x 9), .ref 85, .int (x 10)]) (hV : ms g E0 V0) (hs8 : s < 8) (hG0 : 0 < V0 8) (hGb : V0 8 < BB ^ 31) (hNb : V0 s < BB ^ 31) (hQ : ∀ g' V', g'.2 73 = ob 9 [.ref 74, .ref 75, .ref 76, .ref 77, .ref 78, .ref 79, .int (x 0), .int (x 1), .int (x 2), .ref 80, .int (x 3), .ref 81, .int (x 4), .ref 82, .long (r), .ref 83, .ref 84, .int (x 5), .int (x 6), .int (x 7), .int (x 8), .int (x 9), .ref 85, .int (x 10)] → ms g' E0 V' → V' s = V0 s / V0 8 → V' 8 = V0 8 → (∀ t, t < 8 → t ≠ s → V' t = V0 t) → fr g g' 78 80 → Q none g') : wp 146 b 0 [.ref 73, .int (nI s), .null, .null, .null, .null, .null] [] g Q := by
  generalize hGG : V0 8 = G at *
  generalize hNN : V0 s = N at *
  have hBB : BB = 1073741824 := rfl
  have p63 : BB ^ 31 * 4 < BB ^ 63 := by decide +kernel
  simp (disch := omega) only [q_X11_divide_0, q_X11_divide_1, q_X11_divide_3, q_X11_divide_4, hM, y_is, y_gf, y_pf, y_f0, y_f1, y_f3, y_nI, y_nK, y_nZ, y_nL, y_nR, y_k1i, y_k1r, y_k1l, y_k1n, y_tl, y_tn, y_s, y_ss, List.getElem?_cons_zero, List.getElem?_cons_succ, List.set_cons_zero, List.set_cons_succ, List.length_cons, List.length_nil, true_and, and_true, lit]
  refine s_mcopy hM hV (by decide) (E0n _) (by omega) (E0n _) (by omega) (fun g1 hM1 hV1 hf1 => ?_)
  simp (disch := omega) only [q_X11_divide_7, q_X11_divide_8, q_X11_divide_10, q_X11_divide_11, hM1, y_is, y_gf, y_pf, y_f0, y_f1, y_f3, y_nI, y_nK, y_nZ, y_nL, y_nR, y_k1i, y_k1r, y_k1l, y_k1n, y_tl, y_tn, y_s, y_ss, List.getElem?_cons_zero, List.getElem?_cons_succ, List.set_cons_zero, List.set_cons_succ, List.length_cons, List.length_nil, true_and, and_true, lit, litL]
  refine s_mset hM1 hV1 (by decide) (E0n _) (by decide) (fun g2 hM2 hV2 hf2 => ?_)
  have hf12 := hf1.tr hf2
  obtain ⟨F, Z, hr, hsl⟩ := hV2
  generalize hVV : va_up (va_up V0 10 (V0 s)) 9 0 = V at *
  have v10 : V 10 = N := by rw [← hVV, up_n (by decide), up_s]; exact hNN
  have v9 : V 9 = 0 := by rw [← hVV, up_s]
  have v8 : V 8 = G := by rw [← hVV, up_n (by decide), up_n (by decide)]; exact hGG
  have vt : ∀ t, t < 8 → V t = V0 t := fun t ht => by rw [← hVV, up_n (by omega), up_n (by omega)]
  obtain ⟨k, hk, hk64, hd, hN, hm⟩ := (hsl 10 (by decide)).1 (E0n _)
  have hks : Z s = nI k := by
    have h1 := (hsl s (by omega)).1 (E0n _)
    have h2 := (hsl 10 (by decide)).1 (E0n _)
    rw [vt s hs8, hNN] at h1
    rw [v10] at h2
    rw [slot_sz h1 h2]; exact hk
  rw [v10] at hd hN hm
  -- the end
  have fin : ∀ (x3 x4 x5 x6 : Value) (g' : mzG) (f : Nat → Int64) (V' : Nat → Nat), g'.2 73 = ob 9 [.ref 74, .ref 75, .ref 76, .ref 77, .ref 78, .ref 79, .int (x 0), .int (x 1), .int (x 2), .ref 80, .int (x 3), .ref 81, .int (x 4), .ref 82, .long (r), .ref 83, .ref 84, .int (x 5), .int (x 6), .int (x 7), .int (x 8), .int (x 9), .ref 85, .int (x 10)] → ms g' (eS s f (nI k)) V' → V' 8 = G → (∀ t, t < 8 → t ≠ s → V' t = V0 t) → (∀ j, j < k → f j = lN (N / G / BB ^ j % BB)) → fr g g' 78 80 → wp 146 b 158 [.ref 73, .int (nI s), .int (nI k), x3, x4, x5, x6] [] g' Q := by
    intro x3 x4 x5 x6 g' f V' q1 q2 q3 q4 q5 q6
    obtain ⟨F', Z', r', sl'⟩ := q2
    obtain ⟨z1, z2⟩ := (sl' s (by omega)).2 (f, nI k) (by unfold eS; rw [if_pos rfl])
    simp (disch := omega) only [q_X11_divide_158, q_X11_divide_159, q_X11_divide_160, q1, y_is, y_gf, y_pf, y_f0, y_f1, y_f3, y_nI, y_nK, y_nZ, y_nL, y_nR, y_k1i, y_k1r, y_k1l, y_k1n, y_tl, y_tn, y_s, y_ss, List.getElem?_cons_zero, List.getElem?_cons_succ, List.set_cons_zero, List.set_cons_succ, List.length_cons, List.length_nil, true_and, and_true]
    refine s_mtrim (N := N / G) g (by omega) Z' (fun g3 Z3 r1 r2 r3 r4 r5 => ?_) k g' Z' q1 r' (fun _ _ => rfl) z1 hk64 (fun j hj => by rw [z2 j (by omega)]; exact q5 j hj) (Nat.lt_of_le_of_lt (Nat.div_le_self _ _) hN) q6
    simp only [q_X11_divide_163, y_is, y_gf, y_pf, y_f0, y_f1, y_f3, y_nI, y_nK, y_nZ, y_nL, y_nR, y_k1i, y_k1r, y_k1l, y_k1n, y_tl, y_tn, y_s, y_ss, List.getElem?_cons_zero, List.getElem?_cons_succ, List.set_cons_zero, List.set_cons_succ, List.length_cons, List.length_nil, true_and, and_true]
    refine hQ g3 (va_up V' s (N / G)) r1 ⟨F', Z3, r2, fun t ht => ?_⟩ up_s (by rw [up_n (by omega)]; exact q3) (fun t ht hts => by rw [up_n hts]; exact q4 t ht hts) r5
    refine ⟨fun _ => ?_, fun q hq => by simp [E0] at hq⟩
    by_cases e : t = s
    · subst e; rw [up_s]; exact r4
    · rw [up_n e, r3 t e]; exact (sl' t ht).1 (eS_n e)
  -- the bits of a limb
  have inner : ∀ (i : Nat), i < k → ∀ (f : Nat → Int64), (∀ (x4 x5 x6 : Value) (g' : mzG) (V' : Nat → Nat), g'.2 73 = ob 9 [.ref 74, .ref 75, .ref 76, .ref 77, .ref 78, .ref 79, .int (x 0), .int (x 1), .int (x 2), .ref 80, .int (x 3), .ref 81, .int (x 4), .ref 82, .long (r), .ref 83, .ref 84, .int (x 5), .int (x 6), .int (x 7), .int (x 8), .int (x 9), .ref 85, .int (x 10)] → ms g' (eS s (vp_updL f i (lN (N / G / BB ^ i % BB))) (nI k)) V' → V' 8 = G → V' 9 = N / BB ^ i % G → V' 10 = N → (∀ t, t < 8 → t ≠ s → V' t = V0 t) → fr g g' 78 80 → wp 146 b 51 [.ref 73, .int (nI s), .int (nI k), .int (nI i - nI 1), x4, x5, x6] [] g' Q) → ∀ (j : Nat) (g' : mzG) (V' : Nat → Nat), j ≤ 30 → g'.2 73 = ob 9 [.ref 74, .ref 75, .ref 76, .ref 77, .ref 78, .ref 79, .int (x 0), .int (x 1), .int (x 2), .ref 80, .int (x 3), .ref 81, .int (x 4), .ref 82, .long (r), .ref 83, .ref 84, .int (x 5), .int (x 6), .int (x 7), .int (x 8), .int (x 9), .ref 85, .int (x 10)] → ms g' (eS s f (nI k)) V' → V' 8 = G → V' 9 = N / 2 ^ (30 * i + j) % G → V' 10 = N → (∀ t, t < 8 → t ≠ s → V' t = V0 t) → fr g g' 78 80 → wp 146 b 62 [.ref 73, .int (nI s), .int (nI k), .int (nI i), .long (lN (N / 2 ^ (30 * i + j) / G % 2 ^ (30 - j))), .null, .int (nI j - nI 1)] [] g' Q := by
    intro i hik f hnext j
    have hB : BB ^ i = 2 ^ (30 * i) := by rw [show BB = 2 ^ 30 from rfl, ← Nat.pow_mul]
    induction j with
    | zero =>
      intro g' V' hj q1 q2 q3 q4 q5 q6 q7
      obtain ⟨F', Z', r', sl'⟩ := id q2
      obtain ⟨z1, z2⟩ := (sl' s (by omega)).2 (f, nI k) (by unfold eS; rw [if_pos rfl])
      rw [Nat.add_zero, ← hB] at q4 ⊢
      rw [q_X11_divide_62]
      simp (disch := omega) only [q_X11_divide_64, q_X11_divide_139, q_X11_divide_140, q_X11_divide_143, q_X11_divide_145, q_X11_divide_146, q_X11_divide_147, q_X11_divide_148, q_X11_divide_149, q_X11_divide_151, q_X11_divide_152, q_X11_divide_155, q1, r'.1, y_is, y_gf, y_pf, y_f0, y_f1, y_f3, y_nI, y_nK, y_nZ, y_nL, y_nR, y_k1i, y_k1r, y_k1l, y_k1n, y_tl, y_tn, y_s, y_ss, List.getElem?_cons_zero, List.getElem?_cons_succ, List.set_cons_zero, List.set_cons_succ, List.length_cons, List.length_nil, true_and, and_true, y_lIn, y_lKn, y_lZn, y_lLn, y_wIn, y_wZn, y_wLn, lit, le_n, lt_n, eq_n, lit, lt0_pred, pk_mul, nI_add, m_neg]
      refine br1 (by first | decide | omega | trivial | simp) ?_
      have e1 : N / BB ^ i / G % 2 ^ (30 - 0) = N / G / BB ^ i % BB := by
        rw [Nat.div_div_eq_div_mul, Nat.mul_comm, ← Nat.div_div_eq_div_mul]
      rw [e1]
      have hz := ms_open (E := eS s f (nI k)) (F := F') (F' := vp_updL F' (64 * s + i) (lN (N / G / BB ^ i % BB))) (Z := Z') (V := V') (s := s) (f' := vp_updL f i (lN (N / G / BB ^ i % BB))) (g' := hs g' 78 (aL 704 (vp_updL F' (64 * s + i) (lN (N / G / BB ^ i % BB))))) (fun t ht => eS_n ht) sl' ⟨y_s, by rw [y_ne (by decide)]; exact r'.2⟩ (fun q hq => uL_n (by omega)) (fun q hq => by
        by_cases e : q = i
        · subst e; rw [uL_s, uL_s]
        · rw [uL_n (by omega), uL_n e]; exact z2 q hq)
      rw [z1] at hz
      exact hnext _ _ _ _ V' (by rw [y_ne (by decide)]; exact q1) hz q3 q4 q5 q6 (q7.hs (by omega) (by omega))
    | succ j ih =>
      intro g' V' hj q1 q2 q3 q4 q5 q6 q7
      have e8 : eS s f (nI k) 8 = none := eS_n (by omega)
      have e9 : eS s f (nI k) 9 = none := eS_n (by omega)
      have e10 : eS s f (nI k) 10 = none := eS_n (by omega)
      have hst := dstep (N := N) (e := 30 * i + j) hG0
      have hdb := dbit (N := N) (k := i) (j := j) (by omega)
      rw [show 30 * i + (j + 1) = 30 * i + j + 1 by omega] at q4 ⊢
      have hH : N / 2 ^ (30 * i + j + 1) % G < G := Nat.mod_lt _ hG0
      have hc2 : N / 2 ^ (30 * i + j) % 2 < 2 := Nat.mod_lt _ (by decide)
      have hX : ∀ e, e < 2 → 2 * (N / 2 ^ (30 * i + j + 1) / G % 2 ^ (30 - (j + 1))) + e = (2 * (N / 2 ^ (30 * i + j + 1) / G) + e) % 2 ^ (30 - j) := fun e he => by
        have := dtwo (N / 2 ^ (30 * i + j + 1) / G) (30 - (j + 1)) e he
        rw [show 30 - (j + 1) + 1 = 30 - j by omega] at this
        exact this
      have hbl : N / 2 ^ (30 * i + j + 1) / G % 2 ^ (30 - (j + 1)) < 1073741824 := by
        have h1 := Nat.mod_lt (N / 2 ^ (30 * i + j + 1) / G) (show 0 < 2 ^ (30 - (j + 1)) from Nat.pow_pos (by decide))
        have h2 : 2 ^ (30 - (j + 1)) ≤ 2 ^ 30 := Nat.pow_le_pow_right (by decide) (by omega)
        omega
      simp only at hst
      generalize hP1 : N / 2 ^ (30 * i + j + 1) % G = H at *
      generalize hBt : N / 2 ^ (30 * i + j + 1) / G % 2 ^ (30 - (j + 1)) = bt at *
      -- behind the bit
      have at100 : ∀ (g3 : mzG) (V3 : Nat → Nat), g3.2 73 = ob 9 [.ref 74, .ref 75, .ref 76, .ref 77, .ref 78, .ref 79, .int (x 0), .int (x 1), .int (x 2), .ref 80, .int (x 3), .ref 81, .int (x 4), .ref 82, .long (r), .ref 83, .ref 84, .int (x 5), .int (x 6), .int (x 7), .int (x 8), .int (x 9), .ref 85, .int (x 10)] → ms g3 (eS s f (nI k)) V3 → V3 8 = G → V3 9 = H * 2 + N / 2 ^ (30 * i + j) % 2 → V3 10 = N → (∀ t, t < 8 → t ≠ s → V3 t = V0 t) → fr g g3 78 80 → wp 146 b 100 [.ref 73, .int (nI s), .int (nI k), .int (nI i), .long (lN bt), .null, .int (nI j)] [] g3 Q := by
        intro g3 V3 r1 r2 r3 r4 r5 r6 r7
        simp (disch := omega) only [q_X11_divide_100, q_X11_divide_103, q_X11_divide_105, q_X11_divide_106, q_X11_divide_108, q_X11_divide_109, q_X11_divide_111, q_X11_divide_113, r1, y_is, y_gf, y_pf, y_f0, y_f1, y_f3, y_nI, y_nK, y_nZ, y_nL, y_nR, y_k1i, y_k1r, y_k1l, y_k1n, y_tl, y_tn, y_s, y_ss, List.getElem?_cons_zero, List.getElem?_cons_succ, List.set_cons_zero, List.set_cons_succ, List.length_cons, List.length_nil, true_and, and_true, lit, litL, l_mul]
        refine s_mcompare r1 r2 (by decide) e9 (by decide) e8 ?_
        rw [r3, r4]
        simp (disch := omega) only [q_X11_divide_116, y_is, y_gf, y_pf, y_f0, y_f1, y_f3, y_nI, y_nK, y_nZ, y_nL, y_nR, y_k1i, y_k1r, y_k1l, y_k1n, y_tl, y_tn, y_s, y_ss, List.getElem?_cons_zero, List.getElem?_cons_succ, List.set_cons_zero, List.set_cons_succ, List.length_cons, List.length_nil, true_and, and_true, cmp_lt]
        refine brs (fun z => ?_) (fun z => ?_)
        · obtain ⟨s1, s2⟩ := hst.1 z
          simp (disch := omega) only [q_X11_divide_133, q_X11_divide_136, y_is, y_gf, y_pf, y_f0, y_f1, y_f3, y_nI, y_nK, y_nZ, y_nL, y_nR, y_k1i, y_k1r, y_k1l, y_k1n, y_tl, y_tn, y_s, y_ss, List.getElem?_cons_zero, List.getElem?_cons_succ, List.set_cons_zero, List.set_cons_succ, List.length_cons, List.length_nil, true_and, and_true, lit, m_neg]
          have := ih g3 V3 (by omega) r1 r2 r3 (by rw [r4, s1]) r5 r6 r7
          rw [s2, show 2 * (N / 2 ^ (30 * i + j + 1) / G) % 2 ^ (30 - j) = 2 * bt from (hX 0 (by decide)).symm] at this
          exact this
        · obtain ⟨s1, s2⟩ := hst.2 z
          simp (disch := omega) only [q_X11_divide_119, q_X11_divide_120, q_X11_divide_122, q_X11_divide_124, r1, y_is, y_gf, y_pf, y_f0, y_f1, y_f3, y_nI, y_nK, y_nZ, y_nL, y_nR, y_k1i, y_k1r, y_k1l, y_k1n, y_tl, y_tn, y_s, y_ss, List.getElem?_cons_zero, List.getElem?_cons_succ, List.set_cons_zero, List.set_cons_succ, List.length_cons, List.length_nil, true_and, and_true, lit]
          refine s_mtake r1 r2 (by decide) e9 (by decide) e8 (by decide) (by omega) (fun g4 hM4 hV4 hf4 => ?_)
          simp (disch := omega) only [q_X11_divide_127, q_X11_divide_129, q_X11_divide_130, q_X11_divide_131, q_X11_divide_133, q_X11_divide_136, y_is, y_gf, y_pf, y_f0, y_f1, y_f3, y_nI, y_nK, y_nZ, y_nL, y_nR, y_k1i, y_k1r, y_k1l, y_k1n, y_tl, y_tn, y_s, y_ss, List.getElem?_cons_zero, List.getElem?_cons_succ, List.set_cons_zero, List.set_cons_succ, List.length_cons, List.length_nil, true_and, and_true, lit, litL, l_add, m_neg]
          have := ih g4 _ (by omega) hM4 hV4 (by rw [up_n (by decide)]; exact r3) (by rw [up_s, r4, r3, s1]) (by rw [up_n (by decide)]; exact r5) (fun t ht hts => by rw [up_n (by omega)]; exact r6 t ht hts) (r7.tr hf4)
          rw [s2, (hX 1 (by decide)).symm] at this
          exact this
      rw [q_X11_divide_62]
      simp (disch := omega) only [q_X11_divide_64, q_X11_divide_67, q_X11_divide_68, q_X11_divide_70, q_X11_divide_73, q1, y_is, y_gf, y_pf, y_f0, y_f1, y_f3, y_nI, y_nK, y_nZ, y_nL, y_nR, y_k1i, y_k1r, y_k1l, y_k1n, y_tl, y_tn, y_s, y_ss, List.getElem?_cons_zero, List.getElem?_cons_succ, List.set_cons_zero, List.set_cons_succ, List.length_cons, List.length_nil, true_and, and_true, lit, litL, lt0_pred]
      refine br0 (by first | decide | omega | trivial | simp) (s_mtimes q1 q2 (by decide) e9 (by decide) (by rw [q4]; omega) (fun g2' hM2' hV2' hf2' => ?_))
      have hV3 := hV2'
      obtain ⟨F', Z', r', sl'⟩ := hV2'
      obtain ⟨k9, -, -, hd9, -, -⟩ := (sl' 10 (by decide)).1 e10
      rw [up_n (by decide), q5] at hd9
      have hlim : F' (640 + i) = lN (N / BB ^ i % BB) := by
        have h1 := (sl' 10 (by decide)).1 e10
        rw [up_n (by decide), q5] at h1
        obtain ⟨k2, w1, w2, w3, w4, w5⟩ := h1
        have : i < k2 := by
          rcases Nat.lt_or_ge i k2 with z | z
          · exact z
          · exfalso
            have h3 : BB ^ k2 ≤ BB ^ (k - 1) := Nat.pow_le_pow_right (by decide) (by omega)
            rcases hm with e | e
            · omega
            · omega
        exact w3 i this
      have hdl := bb_lt N i
      have hsh : N / BB ^ i % BB / 2 ^ j ≤ N / BB ^ i % BB := Nat.div_le_self _ _
      simp (disch := omega) only [q_X11_divide_76, q_X11_divide_77, q_X11_divide_80, q_X11_divide_83, q_X11_divide_84, q_X11_divide_85, q_X11_divide_86, q_X11_divide_88, q_X11_divide_89, q_X11_divide_90, q_X11_divide_91, q_X11_divide_92, q_X11_divide_93, hM2', r'.1, hlim, y_is, y_gf, y_pf, y_f0, y_f1, y_f3, y_nI, y_nK, y_nZ, y_nL, y_nR, y_k1i, y_k1r, y_k1l, y_k1n, y_tl, y_tn, y_s, y_ss, List.getElem?_cons_zero, List.getElem?_cons_succ, List.set_cons_zero, List.set_cons_succ, List.length_cons, List.length_nil, true_and, and_true, y_lIn, y_lKn, y_lZn, y_lLn, y_wIn, y_wZn, y_wLn, lit, le_n, lt_n, eq_n, lit, litL, pk_sub, Nat.add_sub_cancel, nI_add, l_shr16, l_and1, hdb, lc_eq]
      by_cases c1 : N / 2 ^ (30 * i + j) % 2 = 1
      · rw [bnt c1]
        simp (disch := omega) only [q_X11_divide_96, q_X11_divide_97, hM2', y_is, y_gf, y_pf, y_f0, y_f1, y_f3, y_nI, y_nK, y_nZ, y_nL, y_nR, y_k1i, y_k1r, y_k1l, y_k1n, y_tl, y_tn, y_s, y_ss, List.getElem?_cons_zero, List.getElem?_cons_succ, List.set_cons_zero, List.set_cons_succ, List.length_cons, List.length_nil, true_and, and_true]
        refine s_maddOne hM2' hV3 e9 (by rw [up_s]; omega) (fun g4 hM4 hV4 hf4 => ?_)
        exact at100 g4 _ hM4 hV4 (by rw [up_n (by decide), up_n (by decide)]; exact q3) (by rw [up_s, up_s, q4, c1]) (by rw [up_n (by decide), up_n (by decide)]; exact q5) (fun t ht hts => by rw [up_n (by omega), up_n (by omega)]; exact q6 t ht hts) ((q7.tr hf2').tr hf4)
      · rw [bnf c1]
        have c0 : N / 2 ^ (30 * i + j) % 2 = 0 := by omega
        exact at100 g2' _ hM2' hV3 (by rw [up_n (by decide)]; exact q3) (by rw [up_s, q4, c0, Nat.add_zero]) (by rw [up_n (by decide)]; exact q5) (fun t ht hts => by rw [up_n (by omega)]; exact q6 t ht hts) (q7.tr hf2')
  have outer : ∀ (i : Nat) (x4 x5 x6 : Value) (g' : mzG) (f : Nat → Int64) (V' : Nat → Nat), i ≤ k → g'.2 73 = ob 9 [.ref 74, .ref 75, .ref 76, .ref 77, .ref 78, .ref 79, .int (x 0), .int (x 1), .int (x 2), .ref 80, .int (x 3), .ref 81, .int (x 4), .ref 82, .long (r), .ref 83, .ref 84, .int (x 5), .int (x 6), .int (x 7), .int (x 8), .int (x 9), .ref 85, .int (x 10)] → ms g' (eS s f (nI k)) V' → V' 8 = G → V' 9 = N / BB ^ i % G → V' 10 = N → (∀ t, t < 8 → t ≠ s → V' t = V0 t) → (∀ j, i ≤ j → j < k → f j = lN (N / G / BB ^ j % BB)) → fr g g' 78 80 → wp 146 b 51 [.ref 73, .int (nI s), .int (nI k), .int (nI i - nI 1), x4, x5, x6] [] g' Q := by
    intro i
    induction i with
    | zero =>
      intro x4 x5 x6 g' f V' hi q1 q2 q3 q4 q5 q6 q7 q8
      rw [q_X11_divide_51]
      simp (disch := omega) only [q_X11_divide_52, y_is, y_gf, y_pf, y_f0, y_f1, y_f3, y_nI, y_nK, y_nZ, y_nL, y_nR, y_k1i, y_k1r, y_k1l, y_k1n, y_tl, y_tn, y_s, y_ss, List.getElem?_cons_zero, List.getElem?_cons_succ, List.set_cons_zero, List.set_cons_succ, List.length_cons, List.length_nil, true_and, and_true, lit, lt0_pred]
      exact br1 (by first | decide | omega | trivial | simp) (fin _ _ _ _ g' f V' q1 q2 q3 q6 (fun j hj => q7 j (by omega) hj) q8)
    | succ i ih =>
      intro x4 x5 x6 g' f V' hi q1 q2 q3 q4 q5 q6 q7 q8
      rw [q_X11_divide_51]
      simp (disch := omega) only [q_X11_divide_52, q_X11_divide_55, q_X11_divide_56, q_X11_divide_58, q_X11_divide_60, y_is, y_gf, y_pf, y_f0, y_f1, y_f3, y_nI, y_nK, y_nZ, y_nL, y_nR, y_k1i, y_k1r, y_k1l, y_k1n, y_tl, y_tn, y_s, y_ss, List.getElem?_cons_zero, List.getElem?_cons_succ, List.set_cons_zero, List.set_cons_succ, List.length_cons, List.length_nil, true_and, and_true, lit, litL, lt0_pred, pk_sub, Nat.add_sub_cancel, lt_n]
      refine br0 (by first | decide | omega | trivial | simp) ?_
      have hB : BB ^ (i + 1) = 2 ^ (30 * i + 30) := by rw [show BB = 2 ^ 30 from rfl, ← Nat.pow_mul]; congr 1
      have := inner i (by omega) f (fun x4 x5 x6 g2 V2 r1 r2 r3 r4 r5 r6 r7 => ih x4 x5 x6 g2 _ V2 (by omega) r1 r2 r3 r4 r5 r6 (fun j hj hjk => by
        by_cases e : j = i
        · subst e; rw [uL_s]
        · rw [uL_n e]; exact q7 j (by omega) hjk) r7) 30 g' V' (by omega) q1 q2 q3 (by rw [q4, hB]) q5 q6 q8
      rw [Nat.sub_self, Nat.pow_zero, Nat.mod_one] at this
      exact this
  have zero : ∀ (d i : Nat) (g' : mzG) (F' : Nat → Int64), i + d = k → g'.2 73 = ob 9 [.ref 74, .ref 75, .ref 76, .ref 77, .ref 78, .ref 79, .int (x 0), .int (x 1), .int (x 2), .ref 80, .int (x 3), .ref 81, .int (x 4), .ref 82, .long (r), .ref 83, .ref 84, .int (x 5), .int (x 6), .int (x 7), .int (x 8), .int (x 9), .ref 85, .int (x 10)] → mr g' F' Z → (∀ j, j < 64 * s ∨ 64 * s + 64 ≤ j → F' j = F j) → fr g g' 78 80 → wp 146 b 24 [.ref 73, .int (nI s), .int (nI k), .int (nI i), .null, .null, .null] [] g' Q := by
    intro d
    induction d with
    | zero =>
      intro i g' F' hi q1 q2 q3 q4
      have hi : i = k := by omega
      subst hi
      rw [q_X11_divide_24]
      simp (disch := omega) only [q_X11_divide_25, q_X11_divide_26, q_X11_divide_47, q_X11_divide_48, q_X11_divide_49, y_is, y_gf, y_pf, y_f0, y_f1, y_f3, y_nI, y_nK, y_nZ, y_nL, y_nR, y_k1i, y_k1r, y_k1l, y_k1n, y_tl, y_tn, y_s, y_ss, List.getElem?_cons_zero, List.getElem?_cons_succ, List.set_cons_zero, List.set_cons_succ, List.length_cons, List.length_nil, true_and, and_true, y_lIn, y_lKn, y_lZn, y_lLn, y_wIn, y_wZn, y_wLn, lit, le_n, lt_n, eq_n, lit, litL, le_n, lt_n, eq_n, nI_add, m_neg, pk_sub, pk_mul, i_l, l_i, l_add, l_mul, l_sub, lc_le, lc_ge, lc_lt, lc_gt, lc_eq, l_rem2, l_rem3, i_rem2, i_rem3]
      simp (disch := omega) only [q_X11_divide_50, y_is, y_gf, y_pf, y_f0, y_f1, y_f3, y_nI, y_nK, y_nZ, y_nL, y_nR, y_k1i, y_k1r, y_k1l, y_k1n, y_tl, y_tn, y_s, y_ss, List.getElem?_cons_zero, List.getElem?_cons_succ, List.set_cons_zero, List.set_cons_succ, List.length_cons, List.length_nil, true_and, and_true]
      have hz := ms_open (E := E0) (f' := fun j => F' (64 * s + j)) (fun t ht => E0n t) hsl q2 q3 (fun _ _ => rfl)
      rw [hks] at hz
      refine br1 (by omega) ?_
      have := outer i .null .null .null g' _ V (Nat.le_refl _) q1 hz v8 (by rw [v9, Nat.div_eq_of_lt hN, Nat.zero_mod]) v10 (fun t ht _ => vt t ht) (fun j h1 h2 => by omega) q4
      exact this
    | succ d ih =>
      intro i g' F' hi q1 q2 q3 q4
      rw [q_X11_divide_24]
      simp (disch := omega) only [q_X11_divide_25, q_X11_divide_26, q_X11_divide_29, q_X11_divide_30, q_X11_divide_33, q_X11_divide_35, q_X11_divide_36, q_X11_divide_37, q_X11_divide_38, q_X11_divide_39, q_X11_divide_40, q_X11_divide_41, q_X11_divide_44, q1, q2.1, y_is, y_gf, y_pf, y_f0, y_f1, y_f3, y_nI, y_nK, y_nZ, y_nL, y_nR, y_k1i, y_k1r, y_k1l, y_k1n, y_tl, y_tn, y_s, y_ss, List.getElem?_cons_zero, List.getElem?_cons_succ, List.set_cons_zero, List.set_cons_succ, List.length_cons, List.length_nil, true_and, and_true, y_lIn, y_lKn, y_lZn, y_lLn, y_wIn, y_wZn, y_wLn, lit, le_n, lt_n, eq_n, lit, litL, le_n, lt_n, eq_n, nI_add, m_neg, pk_sub, pk_mul, i_l, l_i, l_add, l_mul, l_sub, lc_le, lc_ge, lc_lt, lc_gt, lc_eq, l_rem2, l_rem3, i_rem2, i_rem3]
      exact br0 (by omega) (ih (i + 1) _ _ (by omega) (by rw [y_ne (by decide)]; exact q1) ⟨y_s, by rw [y_ne (by decide)]; exact q2.2⟩ (fun j hj => by rw [uL_n (by omega)]; exact q3 j hj) (q4.hs (by omega) (by omega)))
  simp (disch := omega) only [q_X11_divide_14, q_X11_divide_15, q_X11_divide_18, q_X11_divide_20, q_X11_divide_21, q_X11_divide_22, q_X11_divide_23, hM2, hr.2, hk, y_is, y_gf, y_pf, y_f0, y_f1, y_f3, y_nI, y_nK, y_nZ, y_nL, y_nR, y_k1i, y_k1r, y_k1l, y_k1n, y_tl, y_tn, y_s, y_ss, List.getElem?_cons_zero, List.getElem?_cons_succ, List.set_cons_zero, List.set_cons_succ, List.length_cons, List.length_nil, true_and, and_true, y_lIn, y_lKn, y_lZn, y_lLn, y_wIn, y_wZn, y_wLn, lit, le_n, lt_n, eq_n, lit]
  exact zero k 0 g2 F (by omega) hM2 hr (fun j hj => rfl) hf12
/-! a fraction is told -/
def sgN (N : Nat) : Int32 := if N = 0 then 0 else 1
theorem s_mtell {g : mzG} {V0 : Nat → Nat} {p q : Nat} (hM : g.2 73 = ob 9 [.ref 74, .ref 75, .ref 76, .ref 77, .ref 78, .ref 79, .int (x 0), .int (x 1), .int (x 2), .ref 80, .int (x 3), .ref 81, .int (x 4), .ref 82, .long (r), .ref 83, .ref 84, .int (x 5), .int (x 6), .int (x 7), .int (x 8), .int (x 9), .ref 85, .int (x 10)]) (hV : ms g E0 V0) (hp : 2 ≤ p) (hp8 : p < 8) (hq : 2 ≤ q) (hq8 : q < 8) (hB0 : 0 < V0 q) (hA : V0 p < BB ^ 31) (hB : V0 q < BB ^ 31) (hQ : ∀ g' V', g'.2 73 = ob 9 [.ref 74, .ref 75, .ref 76, .ref 77, .ref 78, .ref 79, .int (sgN (V0 p)), .int (x 1), .int (x 2), .ref 80, .int (x 3), .ref 81, .int (x 4), .ref 82, .long (r), .ref 83, .ref 84, .int (x 5), .int (x 6), .int (x 7), .int (x 8), .int (x 9), .ref 85, .int (x 10)] → ms g' E0 V' → V' 0 = V0 p / Nat.gcd (V0 p) (V0 q) → V' 1 = V0 q / Nat.gcd (V0 p) (V0 q) → frn g g' → Q none g') : wp 148 b 0 [.ref 73, .int (nI p), .int (nI q), .int 0] [] g Q := by
  obtain ⟨F, Z, hr, hsl⟩ := id hV
  obtain ⟨k, k1, k2, k3⟩ := slot_0 ((hsl p (by omega)).1 (E0n _))
  unfold sgN at hQ
  simp (disch := omega) only [q_X11_tell_0, q_X11_tell_1, q_X11_tell_4, q_X11_tell_5, q_X11_tell_6, hM, hr.2, k1, y_is, y_gf, y_pf, y_f0, y_f1, y_f3, y_nI, y_nK, y_nZ, y_nL, y_nR, y_k1i, y_k1r, y_k1l, y_k1n, y_tl, y_tn, y_s, y_ss, List.getElem?_cons_zero, List.getElem?_cons_succ, List.set_cons_zero, List.set_cons_succ, List.length_cons, List.length_nil, true_and, and_true, y_lIn, y_lKn, y_lZn, y_lLn, y_wIn, y_wZn, y_wLn, lit, le_n, lt_n, eq_n]
  by_cases c : k = 0
  · rw [bnt c]
    have hA0 := k3.mp c
    rw [hA0, Nat.gcd_zero_left, Nat.zero_div, Nat.div_self hB0] at hQ
    simp only [if_true] at hQ
    simp (disch := omega) only [q_X11_tell_9, q_X11_tell_10, q_X11_tell_11, q_X11_tell_12, hM, y_is, y_gf, y_pf, y_f0, y_f1, y_f3, y_nI, y_nK, y_nZ, y_nL, y_nR, y_k1i, y_k1r, y_k1l, y_k1n, y_tl, y_tn, y_s, y_ss, List.getElem?_cons_zero, List.getElem?_cons_succ, List.set_cons_zero, List.set_cons_succ, List.length_cons, List.length_nil, true_and, and_true, lit, litL]
    refine s_mset hM hV (by decide) (E0n _) (by decide) (fun g1 hM1 hV1 hf1 => ?_)
    simp (disch := omega) only [q_X11_tell_15, q_X11_tell_16, q_X11_tell_17, q_X11_tell_18, hM1, y_is, y_gf, y_pf, y_f0, y_f1, y_f3, y_nI, y_nK, y_nZ, y_nL, y_nR, y_k1i, y_k1r, y_k1l, y_k1n, y_tl, y_tn, y_s, y_ss, List.getElem?_cons_zero, List.getElem?_cons_succ, List.set_cons_zero, List.set_cons_succ, List.length_cons, List.length_nil, true_and, and_true, lit, litL]
    refine s_mset hM1 hV1 (by decide) (E0n _) (by decide) (fun g2 hM2 hV2 hf2 => ?_)
    simp (disch := omega) only [q_X11_tell_21, q_X11_tell_22, q_X11_tell_23, q_X11_tell_26, hM2, y_is, y_gf, y_pf, y_f0, y_f1, y_f3, y_nI, y_nK, y_nZ, y_nL, y_nR, y_k1i, y_k1r, y_k1l, y_k1n, y_tl, y_tn, y_s, y_ss, List.getElem?_cons_zero, List.getElem?_cons_succ, List.set_cons_zero, List.set_cons_succ, List.length_cons, List.length_nil, true_and, and_true]
    refine ⟨by decide, hQ _ _ y_s (hV2.frm (fr.rf.hs (lo := 73) (hi := 74) (by omega) (by omega)) (by omega)) (by rw [up_n (by decide), up_s]) (by rw [up_s]) (frn.of (hf1.tr hf2)).hs⟩
  · rw [bnf c]
    have hA0 : 0 < V0 p := Nat.pos_of_ne_zero (fun e => c (k3.mpr e))
    have hg0 : 0 < Nat.gcd (V0 p) (V0 q) := Nat.gcd_pos_of_pos_left _ hA0
    have hgl : Nat.gcd (V0 p) (V0 q) ≤ V0 p := Nat.le_of_dvd hA0 (Nat.gcd_dvd_left _ _)
    simp only [if_neg (show ¬ V0 p = 0 by omega)] at hQ
    simp (disch := omega) only [q_X11_tell_27, q_X11_tell_28, q_X11_tell_29, q_X11_tell_30, hM, y_is, y_gf, y_pf, y_f0, y_f1, y_f3, y_nI, y_nK, y_nZ, y_nL, y_nR, y_k1i, y_k1r, y_k1l, y_k1n, y_tl, y_tn, y_s, y_ss, List.getElem?_cons_zero, List.getElem?_cons_succ, List.set_cons_zero, List.set_cons_succ, List.length_cons, List.length_nil, true_and, and_true]
    refine s_findDiv hM hV hp8 hq8 hA0 hB0 hA hB (fun g1 V1 hM1 hV1 h8 hs1 hf1 => ?_)
    simp (disch := omega) only [q_X11_tell_33, q_X11_tell_34, q_X11_tell_35, q_X11_tell_36, hM1, y_is, y_gf, y_pf, y_f0, y_f1, y_f3, y_nI, y_nK, y_nZ, y_nL, y_nR, y_k1i, y_k1r, y_k1l, y_k1n, y_tl, y_tn, y_s, y_ss, List.getElem?_cons_zero, List.getElem?_cons_succ, List.set_cons_zero, List.set_cons_succ, List.length_cons, List.length_nil, true_and, and_true, lit]
    refine s_mcopy hM1 hV1 (by decide) (E0n _) (by omega) (E0n _) (by omega) (fun g2 hM2 hV2 hf2 => ?_)
    simp (disch := omega) only [q_X11_tell_39, q_X11_tell_40, q_X11_tell_41, hM2, y_is, y_gf, y_pf, y_f0, y_f1, y_f3, y_nI, y_nK, y_nZ, y_nL, y_nR, y_k1i, y_k1r, y_k1l, y_k1n, y_tl, y_tn, y_s, y_ss, List.getElem?_cons_zero, List.getElem?_cons_succ, List.set_cons_zero, List.set_cons_succ, List.length_cons, List.length_nil, true_and, and_true, lit]
    refine s_mdivide (s := 0) hM2 hV2 (by decide) (by rw [up_n (by decide), h8]; exact hg0) (by rw [up_n (by decide), h8]; omega) (by rw [up_s, hs1 p hp8]; exact hA) (fun g3 V3 hM3 hV3 h30 h38 hs3 hf3 => ?_)
    rw [up_s, up_n (by decide), hs1 p hp8, h8] at h30
    rw [up_n (by decide), h8] at h38
    have h3q : V3 q = V0 q := by rw [hs3 q hq8 (by omega), up_n (by omega)]; exact hs1 q hq8
    simp (disch := omega) only [q_X11_tell_44, q_X11_tell_45, q_X11_tell_46, q_X11_tell_47, hM3, y_is, y_gf, y_pf, y_f0, y_f1, y_f3, y_nI, y_nK, y_nZ, y_nL, y_nR, y_k1i, y_k1r, y_k1l, y_k1n, y_tl, y_tn, y_s, y_ss, List.getElem?_cons_zero, List.getElem?_cons_succ, List.set_cons_zero, List.set_cons_succ, List.length_cons, List.length_nil, true_and, and_true, lit]
    refine s_mcopy hM3 hV3 (by decide) (E0n _) (by omega) (E0n _) (by omega) (fun g4 hM4 hV4 hf4 => ?_)
    simp (disch := omega) only [q_X11_tell_50, q_X11_tell_51, q_X11_tell_52, hM4, y_is, y_gf, y_pf, y_f0, y_f1, y_f3, y_nI, y_nK, y_nZ, y_nL, y_nR, y_k1i, y_k1r, y_k1l, y_k1n, y_tl, y_tn, y_s, y_ss, List.getElem?_cons_zero, List.getElem?_cons_succ, List.set_cons_zero, List.set_cons_succ, List.length_cons, List.length_nil, true_and, and_true, lit]
    refine s_mdivide (s := 1) hM4 hV4 (by decide) (by rw [up_n (by decide), h38]; exact hg0) (by rw [up_n (by decide), h38]; omega) (by rw [up_s, h3q]; exact hB) (fun g5 V5 hM5 hV5 h51 h58 hs5 hf5 => ?_)
    rw [up_s, up_n (by decide), h3q, h38] at h51
    have h50 : V5 0 = V0 p / Nat.gcd (V0 p) (V0 q) := by rw [hs5 0 (by decide) (by decide), up_n (by decide)]; exact h30
    simp (disch := omega) only [q_X11_tell_55, q_X11_tell_56, q_X11_tell_57, y_is, y_gf, y_pf, y_f0, y_f1, y_f3, y_nI, y_nK, y_nZ, y_nL, y_nR, y_k1i, y_k1r, y_k1l, y_k1n, y_tl, y_tn, y_s, y_ss, List.getElem?_cons_zero, List.getElem?_cons_succ, List.set_cons_zero, List.set_cons_succ, List.length_cons, List.length_nil, true_and, and_true]
    refine br1 (by decide) ?_
    simp (disch := omega) only [q_X11_tell_64, q_X11_tell_65, q_X11_tell_68, hM5, y_is, y_gf, y_pf, y_f0, y_f1, y_f3, y_nI, y_nK, y_nZ, y_nL, y_nR, y_k1i, y_k1r, y_k1l, y_k1n, y_tl, y_tn, y_s, y_ss, List.getElem?_cons_zero, List.getElem?_cons_succ, List.set_cons_zero, List.set_cons_succ, List.length_cons, List.length_nil, true_and, and_true]
    exact ⟨by decide, hQ _ V5 y_s (hV5.frm (fr.rf.hs (lo := 73) (hi := 74) (by omega) (by omega)) (by omega)) h50 h51 (frn.of ((((hf1.tr hf2).tr hf3).tr hf4).tr hf5)).hs⟩
theorem s_mtellSmall {g : mzG} {V0 : Nat → Nat} {p q : Nat} (hM : g.2 73 = ob 9 [.ref 74, .ref 75, .ref 76, .ref 77, .ref 78, .ref 79, .int (x 0), .int (x 1), .int (x 2), .ref 80, .int (x 3), .ref 81, .int (x 4), .ref 82, .long (r), .ref 83, .ref 84, .int (x 5), .int (x 6), .int (x 7), .int (x 8), .int (x 9), .ref 85, .int (x 10)]) (hV : ms g E0 V0) (hB0 : 0 < q) (hA : p < 9223372036854775808) (hB : q < 9223372036854775808) (hQ : ∀ g' V', g'.2 73 = ob 9 [.ref 74, .ref 75, .ref 76, .ref 77, .ref 78, .ref 79, .int (sgN p), .int (x 1), .int (x 2), .ref 80, .int (x 3), .ref 81, .int (x 4), .ref 82, .long (r), .ref 83, .ref 84, .int (x 5), .int (x 6), .int (x 7), .int (x 8), .int (x 9), .ref 85, .int (x 10)] → ms g' E0 V' → V' 0 = p / Nat.gcd p q → V' 1 = q / Nat.gcd p q → frn g g' → Q (some (.int 1)) g') : wp 176 b 0 [.ref 73, .long (lN p), .null, .long (lN q), .null] [] g Q := by
  have h63 : (9223372036854775808 : Nat) < BB ^ 31 := by decide +kernel
  simp (disch := omega) only [q_X11_tellSmall_0, q_X11_tellSmall_1, q_X11_tellSmall_2, q_X11_tellSmall_3, hM, y_is, y_gf, y_pf, y_f0, y_f1, y_f3, y_nI, y_nK, y_nZ, y_nL, y_nR, y_k1i, y_k1r, y_k1l, y_k1n, y_tl, y_tn, y_s, y_ss, List.getElem?_cons_zero, List.getElem?_cons_succ, List.set_cons_zero, List.set_cons_succ, List.length_cons, List.length_nil, true_and, and_true, lit]
  refine s_mset hM hV (by decide) (E0n _) hA (fun g1 hM1 hV1 hf1 => ?_)
  simp (disch := omega) only [q_X11_tellSmall_6, q_X11_tellSmall_7, q_X11_tellSmall_8, q_X11_tellSmall_9, hM1, y_is, y_gf, y_pf, y_f0, y_f1, y_f3, y_nI, y_nK, y_nZ, y_nL, y_nR, y_k1i, y_k1r, y_k1l, y_k1n, y_tl, y_tn, y_s, y_ss, List.getElem?_cons_zero, List.getElem?_cons_succ, List.set_cons_zero, List.set_cons_succ, List.length_cons, List.length_nil, true_and, and_true, lit]
  refine s_mset hM1 hV1 (by decide) (E0n _) hB (fun g2 hM2 hV2 hf2 => ?_)
  have e2 : va_up (va_up V0 2 p) 3 q 2 = p := by rw [up_n (by decide), up_s]
  have e3 : va_up (va_up V0 2 p) 3 q 3 = q := up_s
  simp (disch := omega) only [q_X11_tellSmall_12, q_X11_tellSmall_13, q_X11_tellSmall_14, q_X11_tellSmall_15, q_X11_tellSmall_16, hM2, y_is, y_gf, y_pf, y_f0, y_f1, y_f3, y_nI, y_nK, y_nZ, y_nL, y_nR, y_k1i, y_k1r, y_k1l, y_k1n, y_tl, y_tn, y_s, y_ss, List.getElem?_cons_zero, List.getElem?_cons_succ, List.set_cons_zero, List.set_cons_succ, List.length_cons, List.length_nil, true_and, and_true, lit]
  refine s_mtell hM2 hV2 (by decide) (by decide) (by decide) (by decide) (by rw [e3]; exact hB0) (by rw [e2]; omega) (by rw [e3]; omega) (fun g3 V3 hM3 hV3 h0 h1 hf3 => ?_)
  rw [e2, e3] at h0 h1
  rw [e2] at hM3
  simp (disch := omega) only [q_X11_tellSmall_19, q_X11_tellSmall_20, y_is, y_gf, y_pf, y_f0, y_f1, y_f3, y_nI, y_nK, y_nZ, y_nL, y_nR, y_k1i, y_k1r, y_k1l, y_k1n, y_tl, y_tn, y_s, y_ss, List.getElem?_cons_zero, List.getElem?_cons_succ, List.set_cons_zero, List.set_cons_succ, List.length_cons, List.length_nil, true_and, and_true]
  exact hQ g3 V3 hM3 hV3 h0 h1 ((frn.of (hf1.tr hf2)).tr hf3)
end MDIV
