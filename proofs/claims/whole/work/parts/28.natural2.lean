/-! ===== Natural: times, add, divide, comparisons ===== -/
theorem l_sh30 {n : Nat} (h : n < 9223372036854775808) : lN n >>> (lN 30 &&& lN 63) = lN (n / BB) := l_shr30 h
theorem l_sl30 {n : Nat} : lN n <<< (lN 30 &&& lN 63) = lN (n * BB) := wb_shl n (k := 30) (by decide)
theorem m_neg {c : Nat} : nI c + (-(nI 1)) = nI c - nI 1 := by rw [Int32.sub_eq_add_neg]
theorem lt0_pred {c : Nat} (hc : c < 2147483648) : (nI c - nI 1 < nI 0) = (c = 0) := by
  apply propext
  constructor
  · intro h
    by_cases q : c = 0
    · exact q
    · rw [pk_sub (by omega)] at h
      exact absurd h (nI_pos (by omega))
  · intro h; subst h; decide
section NATURAL2
variable {b : mzB} {Q : mzQ} {k : Nat}
theorem s_times_loop (g0 : mzG) {m N z : Nat} (hz : z ≤ 16) (hm : m < 2147483648) (hQ : ∀ g' f', nt g' k f' z → (∀ j, j < z → f' j = nI (N * m / BB ^ j % BB)) → fr g0 g' k (k + 2) → wp 26 b 52 [.ref k, .int (nI m), .long (lN ((N % BB ^ z) * m / BB ^ z)), .null, .int (nI z)] [] g' Q) : ∀ (d i : Nat) (g : mzG) (f : Nat → Int32), i + d = z → nt g k f z → (∀ j, j < i → f j = nI (N * m / BB ^ j % BB)) → (∀ j, i ≤ j → j < z → f j = nI (N / BB ^ j % BB)) → fr g0 g k (k + 2) → wp 26 b 5 [.ref k, .int (nI m), .long (lN ((N % BB ^ i) * m / BB ^ i)), .null, .int (nI i)] [] g Q := by
  intro d
  induction d with
  | zero =>
    intro i g f hi hN h1 h2 hf
    rw [q_X3_times_5]
    simp (disch := omega) only [q_X3_times_7, q_X3_times_8, q_X3_times_11, hN.1, y_is, y_gf, y_pf, y_f0, y_f1, y_f3, y_nI, y_nK, y_nZ, y_nL, y_nR, y_k1i, y_k1r, y_k1l, y_k1n, y_tl, y_tn, y_s, y_ss, List.getElem?_cons_zero, List.getElem?_cons_succ, List.set_cons_zero, List.set_cons_succ, List.length_cons, List.length_nil, true_and, and_true, le_n]
    have hi : i = z := by omega
    subst hi
    exact br1 (by omega) (hQ g f hN h1 hf)
  | succ d ih =>
    intro i g f hi hN h1 h2 hf
    rw [q_X3_times_5]
    have hd := bb_lt N i
    have hcar : (N % BB ^ i) * m / BB ^ i ≤ m := by
      rw [Nat.div_le_iff_le_mul_add_pred (bb_pos i)]
      have := Nat.mul_le_mul_right m (Nat.le_of_lt (Nat.mod_lt N (bb_pos i)))
      omega
    have hprod : (N / BB ^ i % BB) * m ≤ 1073741824 * 2147483648 := Nat.mul_le_mul (by omega) (by omega)
    simp (disch := omega) only [q_X3_times_7, q_X3_times_8, q_X3_times_11, q_X3_times_14, q_X3_times_15, q_X3_times_16, q_X3_times_19, q_X3_times_21, q_X3_times_22, q_X3_times_23, q_X3_times_24, q_X3_times_25, q_X3_times_26, q_X3_times_27, q_X3_times_28, q_X3_times_29, q_X3_times_32, q_X3_times_34, q_X3_times_35, q_X3_times_38, q_X3_times_39, q_X3_times_40, q_X3_times_41, q_X3_times_42, q_X3_times_44, q_X3_times_45, q_X3_times_46, q_X3_times_49, hN.1, hN.2, y_is, y_gf, y_pf, y_f0, y_f1, y_f3, y_nI, y_nK, y_nZ, y_nL, y_nR, y_k1i, y_k1r, y_k1l, y_k1n, y_tl, y_tn, y_s, y_ss, List.getElem?_cons_zero, List.getElem?_cons_succ, List.set_cons_zero, List.set_cons_succ, List.length_cons, List.length_nil, true_and, and_true, litL, y_lIn, y_lKn, y_lZn, y_lLn, y_wIn, y_wZn, y_wLn, lit, le_n, lt_n, eq_n, h2 i (Nat.le_refl i) (by omega), i_l, l_mul, l_add, l_low, l_i, l_sh30, nI_add, y_ne]
    refine br0 (by omega) ?_
    rw [bb_times_d, bb_times_c]
    refine ih (i + 1) _ _ (by omega) (hN.lm (f' := upd f i (nI (N * m / BB ^ i % BB)))) (fun j hj => ?_) (fun j hj hj2 => ?_) (hf.hs (by omega) (by omega))
    · by_cases q : j = i
      · subst q; simp [upd]
      · rw [pk_un q]; exact h1 j (by omega)
    · rw [pk_un (by omega)]; exact h2 j (by omega) hj2
theorem s_times {g : mzG} {m N : Nat} (hN : nv g k N) (hm : m < 2147483648) (hb : N * m < BB ^ 16) (hQ : ∀ g', nv g' k (N * m) → fr g g' k (k + 2) → Q none g') : wp 26 b 0 [.ref k, .int (nI m), .null, .null, .null] [] g Q := by
  obtain ⟨f, z, h1, h2, h3, h4⟩ := hN
  simp only [q_X3_times_0, q_X3_times_1, q_X3_times_2, q_X3_times_3, y_is, y_gf, y_pf, y_f0, y_f1, y_f3, y_nI, y_nK, y_nZ, y_nL, y_nR, y_k1i, y_k1r, y_k1l, y_k1n, y_tl, y_tn, y_s, y_ss, List.getElem?_cons_zero, List.getElem?_cons_succ, List.set_cons_zero, List.set_cons_succ, List.length_cons, List.length_nil, true_and, and_true]
  have := s_times_loop (b := b) (Q := Q) g h2 hm (N := N) ?_ z 0 g f (by omega) h1 (fun j hj => by omega) (fun j _ hj => h3.1 j hj) fr.rf
  · rw [show N % BB ^ 0 * m / BB ^ 0 = 0 by simp [Nat.mod_one]] at this
    exact this
  · intro g' f' hN' hd hf
    rw [Nat.mod_eq_of_lt h3.2]
    have hc : N * m / BB ^ z ≤ m := by
      rw [Nat.div_le_iff_le_mul_add_pred (bb_pos z)]
      have := Nat.mul_le_mul_right m (Nat.le_of_lt h3.2)
      omega
    simp (disch := omega) only [q_X3_times_52, q_X3_times_53, q_X3_times_54, hN'.1, y_is, y_gf, y_pf, y_f0, y_f1, y_f3, y_nI, y_nK, y_nZ, y_nL, y_nR, y_k1i, y_k1r, y_k1l, y_k1n, y_tl, y_tn, y_s, y_ss, List.getElem?_cons_zero, List.getElem?_cons_succ, List.set_cons_zero, List.set_cons_succ, List.length_cons, List.length_nil, true_and, and_true]
    refine s_append h2 (by omega) ?_ hN' (fun g2 f2 z2 i1 i2 i3 i4 i5 i6 i7 i8 => ?_)
    · rw [Nat.div_lt_iff_lt_mul (bb_pos z), ← Nat.pow_add, show 16 - z + z = 16 by omega]; exact hb
    · simp (disch := omega) only [q_X3_times_57, q_X3_times_58, i1.1, y_is, y_gf, y_pf, y_f0, y_f1, y_f3, y_nI, y_nK, y_nZ, y_nL, y_nR, y_k1i, y_k1r, y_k1l, y_k1n, y_tl, y_tn, y_s, y_ss, List.getElem?_cons_zero, List.getElem?_cons_succ, List.set_cons_zero, List.set_cons_succ, List.length_cons, List.length_nil, true_and, and_true]
      refine s_trim g (N := N * m) (fun g3 hN3 hf3 => ?_) z2 g2 i3 i1 ⟨fun i hi => ?_, ?_⟩ (hf.tr i8)
      · simp only [q_X3_times_61, y_is, y_gf, y_pf, y_f0, y_f1, y_f3, y_nI, y_nK, y_nZ, y_nL, y_nR, y_k1i, y_k1r, y_k1l, y_k1n, y_tl, y_tn, y_s, y_ss, List.getElem?_cons_zero, List.getElem?_cons_succ, List.set_cons_zero, List.set_cons_succ, List.length_cons, List.length_nil, true_and, and_true]
        exact hQ g3 hN3 hf3
      · by_cases q : i < z
        · rw [i4 i q]; exact hd i q
        · have := i5 (i - z) (by omega)
          rw [show z + (i - z) = i by omega, Nat.div_div_eq_div_mul, ← Nat.pow_add, show z + (i - z) = i by omega] at this
          exact this
      · have := bb_mul_lt (b := 0) i6
        rw [show z + (z2 - z) = z2 by omega] at this
        exact this
theorem s_power {g : mzG} {base N0 : Nat} (hb : base < 2147483648) (hN : nv g k N0) (p : Nat) (hp : p < 1000) (hB : ∀ i, i ≤ p → base ^ i < BB ^ 16) (hQ : ∀ g', nv g' k (base ^ p) → fr g g' k (k + 2) → Q none g') : wp 24 b 0 [.ref k, .int (nI base), .int (nI p), .null] [] g Q := by
  obtain ⟨f, z, h1, -⟩ := id hN
  simp only [q_X3_setPower_0, q_X3_setPower_1, q_X3_setPower_2, h1.1, y_is, y_gf, y_pf, y_f0, y_f1, y_f3, y_nI, y_nK, y_nZ, y_nL, y_nR, y_k1i, y_k1r, y_k1l, y_k1n, y_tl, y_tn, y_s, y_ss, List.getElem?_cons_zero, List.getElem?_cons_succ, List.set_cons_zero, List.set_cons_succ, List.length_cons, List.length_nil, true_and, and_true, litL]
  refine s_set hN (by decide) (fun g1 hN1 hf1 => ?_)
  simp only [q_X3_setPower_5, q_X3_setPower_6, y_is, y_gf, y_pf, y_f0, y_f1, y_f3, y_nI, y_nK, y_nZ, y_nL, y_nR, y_k1i, y_k1r, y_k1l, y_k1n, y_tl, y_tn, y_s, y_ss, List.getElem?_cons_zero, List.getElem?_cons_succ, List.set_cons_zero, List.set_cons_succ, List.length_cons, List.length_nil, true_and, and_true]
  have loop : ∀ d i (g' : mzG), i + d = p → nv g' k (base ^ i) → fr g g' k (k + 2) → wp 24 b 7 [.ref k, .int (nI base), .int (nI p), .int (nI i)] [] g' Q := by
    intro d
    induction d with
    | zero =>
      intro i g' hi hN' hf
      rw [q_X3_setPower_7]
      simp (disch := omega) only [q_X3_setPower_8, q_X3_setPower_9, q_X3_setPower_23, y_is, y_gf, y_pf, y_f0, y_f1, y_f3, y_nI, y_nK, y_nZ, y_nL, y_nR, y_k1i, y_k1r, y_k1l, y_k1n, y_tl, y_tn, y_s, y_ss, List.getElem?_cons_zero, List.getElem?_cons_succ, List.set_cons_zero, List.set_cons_succ, List.length_cons, List.length_nil, true_and, and_true, le_n]
      exact br1 (by omega) (hQ g' (by rw [show p = i by omega]; exact hN') hf)
    | succ d ih =>
      intro i g' hi hN' hf
      obtain ⟨f', z', h1', -⟩ := id hN'
      rw [q_X3_setPower_7]
      simp (disch := omega) only [q_X3_setPower_8, q_X3_setPower_9, q_X3_setPower_12, q_X3_setPower_13, q_X3_setPower_14, h1'.1, y_is, y_gf, y_pf, y_f0, y_f1, y_f3, y_nI, y_nK, y_nZ, y_nL, y_nR, y_k1i, y_k1r, y_k1l, y_k1n, y_tl, y_tn, y_s, y_ss, List.getElem?_cons_zero, List.getElem?_cons_succ, List.set_cons_zero, List.set_cons_succ, List.length_cons, List.length_nil, true_and, and_true, le_n]
      refine br0 (by omega) (s_times hN' hb ?_ (fun g2 hN2 hf2 => ?_))
      · have := hB (i + 1) (by omega)
        rw [Nat.pow_succ] at this; exact this
      · simp (disch := omega) only [q_X3_setPower_17, q_X3_setPower_20, y_is, y_gf, y_pf, y_f0, y_f1, y_f3, y_nI, y_nK, y_nZ, y_nL, y_nR, y_k1i, y_k1r, y_k1l, y_k1n, y_tl, y_tn, y_s, y_ss, List.getElem?_cons_zero, List.getElem?_cons_succ, List.set_cons_zero, List.set_cons_succ, List.length_cons, List.length_nil, true_and, and_true, lit, nI_add]
        exact ih (i + 1) g2 (by omega) (by rw [Nat.pow_succ]; exact hN2) (hf.tr hf2)
  exact loop p 0 g1 (by omega) (by simpa using hN1) hf1
/-! add -/
theorem s_add_loop (g0 : mzG) {j M N z1 z2 most : Nat} {f2 : Nat → Int32} (hap : k + 1 < j ∨ j + 1 < k) (hz1 : z1 ≤ most) (hz2 : z2 ≤ most) (hmo : most ≤ 16) (hM : M < BB ^ z1) (hNz : N < BB ^ z2) (h2r : ∀ i, i < z2 → f2 i = nI (N / BB ^ i % BB)) (hQ : ∀ g' f', nt g' k f' z1 → (∀ i, i < most → f' i = nI ((M + N) / BB ^ i % BB)) → fr g0 g' k (k + 2) → wp 27 b 97 [.ref k, .ref j, .long (lN ((M % BB ^ most + N % BB ^ most) / BB ^ most)), .null, .int (nI most), .int (nI most)] [] g' Q) : ∀ (d i : Nat) (g : mzG) (f : Nat → Int32), i + d = most → nt g k f z1 → nt g j f2 z2 → (∀ q, q < i → f q = nI ((M + N) / BB ^ q % BB)) → (∀ q, i ≤ q → q < z1 → f q = nI (M / BB ^ q % BB)) → fr g0 g k (k + 2) → wp 27 b 18 [.ref k, .ref j, .long (lN ((M % BB ^ i + N % BB ^ i) / BB ^ i)), .null, .int (nI most), .int (nI i)] [] g Q := by
  intro d
  induction d with
  | zero =>
    intro i g f hi hN1 hN2 h1 h2 hf
    rw [q_X3_add_18]
    simp (disch := omega) only [q_X3_add_20, q_X3_add_22, y_is, y_gf, y_pf, y_f0, y_f1, y_f3, y_nI, y_nK, y_nZ, y_nL, y_nR, y_k1i, y_k1r, y_k1l, y_k1n, y_tl, y_tn, y_s, y_ss, List.getElem?_cons_zero, List.getElem?_cons_succ, List.set_cons_zero, List.set_cons_succ, List.length_cons, List.length_nil, true_and, and_true, le_n]
    have hi : i = most := by omega
    subst hi
    exact br1 (by omega) (hQ g f hN1 h1 hf)
  | succ d ih =>
    intro i g f hi hN1 hN2 h1 h2 hf
    rw [q_X3_add_18]
    have hd1 := bb_lt M i
    have hd2 := bb_lt N i
    have hcar : (M % BB ^ i + N % BB ^ i) / BB ^ i ≤ 1 := by
      rw [Nat.div_le_iff_le_mul_add_pred (bb_pos i)]
      have h3 := Nat.mod_lt M (bb_pos i)
      have h4 := Nat.mod_lt N (bb_pos i)
      omega
    simp (disch := omega) only [q_X3_add_20, q_X3_add_22, q_X3_add_25, q_X3_add_26, q_X3_add_28, q_X3_add_29, q_X3_add_32, hN1.1, y_is, y_gf, y_pf, y_f0, y_f1, y_f3, y_nI, y_nK, y_nZ, y_nL, y_nR, y_k1i, y_k1r, y_k1l, y_k1n, y_tl, y_tn, y_s, y_ss, List.getElem?_cons_zero, List.getElem?_cons_succ, List.set_cons_zero, List.set_cons_succ, List.length_cons, List.length_nil, true_and, and_true, le_n]
    refine br0 (by omega) ?_
    -- the first's limb
    have key1 : wp 27 b 47 [.ref k, .ref j, .long (lN ((M % BB ^ i + N % BB ^ i) / BB ^ i)), .null, .int (nI most), .int (nI i)] [.long (lN (M / BB ^ i % BB)), .long (lN ((M % BB ^ i + N % BB ^ i) / BB ^ i))] g Q → (z1 ≤ i → wp 27 b 46 [.ref k, .ref j, .long (lN ((M % BB ^ i + N % BB ^ i) / BB ^ i)), .null, .int (nI most), .int (nI i)] [.long (lN ((M % BB ^ i + N % BB ^ i) / BB ^ i))] g Q) ∧ (¬ z1 ≤ i → wp 27 b 35 [.ref k, .ref j, .long (lN ((M % BB ^ i + N % BB ^ i) / BB ^ i)), .null, .int (nI most), .int (nI i)] [.long (lN ((M % BB ^ i + N % BB ^ i) / BB ^ i))] g Q) := by
      intro kk
      refine brs (fun c => ?_) (fun c => ?_)
      · simp only [q_X3_add_46, y_is, y_gf, y_pf, y_f0, y_f1, y_f3, y_nI, y_nK, y_nZ, y_nL, y_nR, y_k1i, y_k1r, y_k1l, y_k1n, y_tl, y_tn, y_s, y_ss, List.getElem?_cons_zero, List.getElem?_cons_succ, List.set_cons_zero, List.set_cons_succ, List.length_cons, List.length_nil, true_and, and_true, litL]
        rw [bb_low hM c] at kk; exact kk
      · simp (disch := omega) only [q_X3_add_35, q_X3_add_36, q_X3_add_39, q_X3_add_41, q_X3_add_42, q_X3_add_43, hN1.1, hN1.2, y_is, y_gf, y_pf, y_f0, y_f1, y_f3, y_nI, y_nK, y_nZ, y_nL, y_nR, y_k1i, y_k1r, y_k1l, y_k1n, y_tl, y_tn, y_s, y_ss, List.getElem?_cons_zero, List.getElem?_cons_succ, List.set_cons_zero, List.set_cons_succ, List.length_cons, List.length_nil, true_and, and_true, y_lIn, y_lKn, y_lZn, y_lLn, y_wIn, y_wZn, y_wLn, lit, le_n, lt_n, eq_n, h2 i (Nat.le_refl i) (by omega), i_l]
        exact kk
    refine key1 ?_
    simp (disch := omega) only [q_X3_add_47, q_X3_add_48, q_X3_add_49, q_X3_add_50, q_X3_add_52, q_X3_add_53, q_X3_add_56, hN2.1, y_is, y_gf, y_pf, y_f0, y_f1, y_f3, y_nI, y_nK, y_nZ, y_nL, y_nR, y_k1i, y_k1r, y_k1l, y_k1n, y_tl, y_tn, y_s, y_ss, List.getElem?_cons_zero, List.getElem?_cons_succ, List.set_cons_zero, List.set_cons_succ, List.length_cons, List.length_nil, true_and, and_true, le_n, l_add]
    have key2 : wp 27 b 71 [.ref k, .ref j, .long (lN ((M % BB ^ i + N % BB ^ i) / BB ^ i + M / BB ^ i % BB)), .null, .int (nI most), .int (nI i)] [.long (lN (N / BB ^ i % BB)), .long (lN ((M % BB ^ i + N % BB ^ i) / BB ^ i + M / BB ^ i % BB))] g Q → (z2 ≤ i → wp 27 b 70 [.ref k, .ref j, .long (lN ((M % BB ^ i + N % BB ^ i) / BB ^ i + M / BB ^ i % BB)), .null, .int (nI most), .int (nI i)] [.long (lN ((M % BB ^ i + N % BB ^ i) / BB ^ i + M / BB ^ i % BB))] g Q) ∧ (¬ z2 ≤ i → wp 27 b 59 [.ref k, .ref j, .long (lN ((M % BB ^ i + N % BB ^ i) / BB ^ i + M / BB ^ i % BB)), .null, .int (nI most), .int (nI i)] [.long (lN ((M % BB ^ i + N % BB ^ i) / BB ^ i + M / BB ^ i % BB))] g Q) := by
      intro kk
      refine brs (fun c => ?_) (fun c => ?_)
      · simp only [q_X3_add_70, y_is, y_gf, y_pf, y_f0, y_f1, y_f3, y_nI, y_nK, y_nZ, y_nL, y_nR, y_k1i, y_k1r, y_k1l, y_k1n, y_tl, y_tn, y_s, y_ss, List.getElem?_cons_zero, List.getElem?_cons_succ, List.set_cons_zero, List.set_cons_succ, List.length_cons, List.length_nil, true_and, and_true, litL]
        rw [bb_low hNz c] at kk; exact kk
      · simp (disch := omega) only [q_X3_add_59, q_X3_add_60, q_X3_add_63, q_X3_add_65, q_X3_add_66, q_X3_add_67, hN2.1, hN2.2, y_is, y_gf, y_pf, y_f0, y_f1, y_f3, y_nI, y_nK, y_nZ, y_nL, y_nR, y_k1i, y_k1r, y_k1l, y_k1n, y_tl, y_tn, y_s, y_ss, List.getElem?_cons_zero, List.getElem?_cons_succ, List.set_cons_zero, List.set_cons_succ, List.length_cons, List.length_nil, true_and, and_true, y_lIn, y_lKn, y_lZn, y_lLn, y_wIn, y_wZn, y_wLn, lit, le_n, lt_n, eq_n, h2r i (by omega), i_l]
        exact kk
    refine key2 ?_
    simp (disch := omega) only [q_X3_add_71, q_X3_add_72, q_X3_add_73, q_X3_add_74, q_X3_add_77, q_X3_add_79, q_X3_add_80, q_X3_add_83, q_X3_add_84, q_X3_add_85, q_X3_add_86, q_X3_add_87, q_X3_add_89, q_X3_add_90, q_X3_add_91, q_X3_add_94, hN1.1, hN1.2, y_is, y_gf, y_pf, y_f0, y_f1, y_f3, y_nI, y_nK, y_nZ, y_nL, y_nR, y_k1i, y_k1r, y_k1l, y_k1n, y_tl, y_tn, y_s, y_ss, List.getElem?_cons_zero, List.getElem?_cons_succ, List.set_cons_zero, List.set_cons_succ, List.length_cons, List.length_nil, true_and, and_true, litL, y_lIn, y_lKn, y_lZn, y_lLn, y_wIn, y_wZn, y_wLn, lit, le_n, lt_n, eq_n, l_add, l_low, l_i, l_shr30, nI_add]
    rw [bb_add_d, bb_add_c]
    refine ih (i + 1) _ _ (by omega) (hN1.lm (f' := upd f i (nI ((M + N) / BB ^ i % BB)))) (hN2.kept (y_ne (by omega)) (y_ne (by omega))) (fun q hq => ?_) (fun q hq hq2 => ?_) (hf.hs (by omega) (by omega))
    · by_cases e : q = i
      · subst e; simp [upd]
      · rw [pk_un e]; exact h1 q (by omega)
    · rw [pk_un (by omega)]; exact h2 q (by omega) hq2
theorem s_add {g : mzG} {j M N : Nat} (hap : k + 1 < j ∨ j + 1 < k) (hM : nv g k M) (hN : nv g j N) (hB : M + N < BB ^ 16) (hQ : ∀ g', nv g' k (M + N) → fr g g' k (k + 2) → Q none g') : wp 27 b 0 [.ref k, .ref j, .null, .null, .null, .null] [] g Q := by
  obtain ⟨f, z1, h1, h2, h3, h4⟩ := hM
  obtain ⟨f2, z2, i1, i2, i3, i4⟩ := hN
  obtain ⟨most, hmost⟩ : ∃ most, most = if z1 < z2 then z2 else z1 := ⟨_, rfl⟩
  have hmI : (if nI z1 < nI z2 then nI z2 else nI z1) = nI most := by
    rw [hmost]
    by_cases q : z1 < z2
    · rw [if_pos q, if_pos (nI_lt q (by omega))]
    · rw [if_neg q, if_neg (by rw [lt_n (by omega) (by omega)]; exact q)]
  have hm1 : z1 ≤ most ∧ z2 ≤ most ∧ most ≤ 16 := by
    rw [hmost]; split <;> omega
  simp (disch := omega) only [q_X3_add_0, q_X3_add_1, q_X3_add_2, q_X3_add_3, q_X3_add_6, q_X3_add_7, q_X3_add_10, q_X3_add_13, q_X3_add_15, q_X3_add_16, h1.1, i1.1, y_is, y_gf, y_pf, y_f0, y_f1, y_f3, y_nI, y_nK, y_nZ, y_nL, y_nR, y_k1i, y_k1r, y_k1l, y_k1n, y_tl, y_tn, y_s, y_ss, List.getElem?_cons_zero, List.getElem?_cons_succ, List.set_cons_zero, List.set_cons_succ, List.length_cons, List.length_nil, true_and, and_true, hmI, litL]
  have := s_add_loop (b := b) (Q := Q) (f2 := f2) (M := M) (N := N) g hap hm1.1 hm1.2.1 hm1.2.2 h3.2 i3.2 i3.1 ?_ most 0 g f (by omega) h1 i1 (fun q hq => by omega) (fun q _ hq => h3.1 q hq) fr.rf
  · rw [show (M % BB ^ 0 + N % BB ^ 0) / BB ^ 0 = 0 by simp [Nat.mod_one]] at this
    exact this
  · intro g' f' hN' hd hf
    have hMm : M < BB ^ most := Nat.lt_of_lt_of_le h3.2 (Nat.pow_le_pow_right (by decide) hm1.1)
    have hNm : N < BB ^ most := Nat.lt_of_lt_of_le i3.2 (Nat.pow_le_pow_right (by decide) hm1.2.1)
    rw [Nat.mod_eq_of_lt hMm, Nat.mod_eq_of_lt hNm]
    have hc : (M + N) / BB ^ most ≤ 1 := by
      rw [Nat.div_le_iff_le_mul_add_pred (bb_pos most)]; omega
    simp (disch := omega) only [q_X3_add_97, q_X3_add_98, q_X3_add_100, q_X3_add_103, q_X3_add_104, q_X3_add_105, hN'.1, y_is, y_gf, y_pf, y_f0, y_f1, y_f3, y_nI, y_nK, y_nZ, y_nL, y_nR, y_k1i, y_k1r, y_k1l, y_k1n, y_tl, y_tn, y_s, y_ss, List.getElem?_cons_zero, List.getElem?_cons_succ, List.set_cons_zero, List.set_cons_succ, List.length_cons, List.length_nil, true_and, and_true]
    refine ⟨by decide, ?_⟩
    refine s_append hm1.2.2 (by omega) ?_ hN'.sz (fun g2 f2 z2' j1 j2 j3 j4 j5 j6 j7 j8 => ?_)
    · rw [Nat.div_lt_iff_lt_mul (bb_pos most), ← Nat.pow_add, show 16 - most + most = 16 by omega]; exact hB
    · simp only [q_X3_add_108, y_is, y_gf, y_pf, y_f0, y_f1, y_f3, y_nI, y_nK, y_nZ, y_nL, y_nR, y_k1i, y_k1r, y_k1l, y_k1n, y_tl, y_tn, y_s, y_ss, List.getElem?_cons_zero, List.getElem?_cons_succ, List.set_cons_zero, List.set_cons_succ, List.length_cons, List.length_nil, true_and, and_true]
      refine hQ g2 ⟨f2, z2', j1, j3, ⟨fun i hi => ?_, ?_⟩, ?_⟩ ((hf.hs (by omega) (by omega)).tr j8)
      · by_cases q : i < most
        · rw [j4 i q]; exact hd i q
        · have := j5 (i - most) (by omega)
          rw [show most + (i - most) = i by omega, Nat.div_div_eq_div_mul, ← Nat.pow_add, show most + (i - most) = i by omega] at this
          exact this
      · have := bb_mul_lt (b := 0) j6
        rw [show most + (z2' - most) = z2' by omega] at this
        exact this
      · rcases j7 with e | e
        · rw [e]
          by_cases q : most = 0
          · exact Or.inl q
          · right
            by_cases q2 : z1 < z2
            · rw [if_pos q2] at hmost
              rcases i4 with r | r
              · omega
              · rw [hmost]; omega
            · rw [if_neg q2] at hmost
              rcases h4 with r | r
              · omega
              · rw [hmost]; omega
        · right
          by_cases q : z2' = most
          · rw [q, Nat.sub_self] at j6
            rw [Nat.pow_zero] at j6
            have : 0 < BB ^ (z2' - most - 1) := bb_pos _
            omega
          · rw [Nat.le_div_iff_mul_le (bb_pos most), ← Nat.pow_add, show z2' - most - 1 + most = z2' - 1 by omega] at e
            exact e
end NATURAL2
