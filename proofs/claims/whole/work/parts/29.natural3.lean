/-! ===== Natural: divisions, comparisons ===== -/
theorem l_rem2 {a b : Nat} : lN a - lN (a / b) * lN b = lN (a % b) := by
  rw [l_mul, l_sub (Nat.div_mul_le_self a b)]
  have := Nat.div_add_mod' a b
  congr 1; omega
theorem l_rem3 {a b : Nat} : lN a - lN (a / b * b) = lN (a % b) := by rw [← l_mul]; exact l_rem2
theorem i_rem3 {a b : Nat} : nI a - nI (a / b * b) = nI (a % b) := by
  rw [pk_sub (Nat.div_mul_le_self a b)]
  have := Nat.div_add_mod' a b
  congr 1; omega
theorem i_rem2 {a b : Nat} : nI a - nI (a / b) * nI b = nI (a % b) := by rw [pk_mul]; exact i_rem3
section NATURAL3
variable {b : mzB} {Q : mzQ} {k : Nat}
theorem s_divide_loop (g0 : mzG) {m N z : Nat} (hz : z ≤ 16) (hm : m < 2147483648) (hm0 : 0 < m) (hQ : ∀ g' f', nt g' k f' z → (∀ j, j < z → f' j = nI (N / m / BB ^ j % BB)) → fr g0 g' k (k + 2) → ∀ x y, wp 28 b 58 [.ref k, .int (nI m), x, .null, y] [] g' Q) : ∀ (c : Nat) (g : mzG) (f : Nat → Int32), c ≤ z → nt g k f z → (∀ j, c ≤ j → j < z → f j = nI (N / m / BB ^ j % BB)) → (∀ j, j < c → f j = nI (N / BB ^ j % BB)) → fr g0 g k (k + 2) → wp 28 b 16 [.ref k, .int (nI m), .long (lN (N / BB ^ c % m)), .null, .int (nI c - nI 1)] [] g Q := by
  intro c
  induction c with
  | zero =>
    intro g f hc hN h1 h2 hf
    rw [q_X3_divide_16]
    simp (disch := omega) only [q_X3_divide_18, y_is, y_gf, y_pf, y_f0, y_f1, y_f3, y_nI, y_nK, y_nZ, y_nL, y_nR, y_k1i, y_k1r, y_k1l, y_k1n, y_tl, y_tn, y_s, y_ss, List.getElem?_cons_zero, List.getElem?_cons_succ, List.set_cons_zero, List.set_cons_succ, List.length_cons, List.length_nil, true_and, and_true, lit, lt0_pred]
    exact br1 (by first | omega | trivial) (hQ g f hN (fun j hj => h1 j (by omega) hj) hf _ _)
  | succ c ih =>
    intro g f hc hN h1 h2 hf
    rw [q_X3_divide_16]
    have hd := bb_lt N c
    have hr := Nat.mod_lt (N / BB ^ (c + 1)) hm0
    have hx : (N / BB ^ (c + 1) % m) * BB ≤ 2147483648 * 1073741824 := Nat.mul_le_mul (by omega) (by decide)
    simp (disch := omega) only [q_X3_divide_18, q_X3_divide_21, q_X3_divide_22, q_X3_divide_24, q_X3_divide_25, q_X3_divide_26, q_X3_divide_29, q_X3_divide_31, q_X3_divide_32, q_X3_divide_33, q_X3_divide_34, q_X3_divide_35, q_X3_divide_36, q_X3_divide_39, q_X3_divide_41, q_X3_divide_42, q_X3_divide_43, q_X3_divide_44, q_X3_divide_45, q_X3_divide_46, q_X3_divide_47, q_X3_divide_48, q_X3_divide_49, q_X3_divide_50, q_X3_divide_51, q_X3_divide_52, q_X3_divide_55, hN.1, hN.2, y_is, y_gf, y_pf, y_f0, y_f1, y_f3, y_nI, y_nK, y_nZ, y_nL, y_nR, y_k1i, y_k1r, y_k1l, y_k1n, y_tl, y_tn, y_s, y_ss, List.getElem?_cons_zero, List.getElem?_cons_succ, List.set_cons_zero, List.set_cons_succ, List.length_cons, List.length_nil, true_and, and_true, litL, y_lIn, y_lKn, y_lZn, y_lLn, y_wIn, y_wZn, y_wLn, lit, le_n, lt_n, eq_n, lt0_pred, pk_sub, Nat.add_sub_cancel, h2 c (Nat.lt_succ_self c), i_l, l_sl30, l_add, l_eq, l_div, l_rem2, l_i, m_neg]
    refine br0 (by omega) ⟨by omega, by omega, ?_⟩
    rw [bb_div_d _ _ _ hm0, bb_div_r]
    refine ih _ _ (by omega) (hN.lm (f' := upd f c (nI (N / m / BB ^ c % BB)))) (fun j hj hj2 => ?_) (fun j hj => ?_) (hf.hs (by omega) (by omega))
    · by_cases q : j = c
      · subst q; simp [upd]
      · rw [pk_un q]; exact h1 j (by omega) hj2
    · rw [pk_un (by omega)]; exact h2 j (by omega)
theorem s_divide {g : mzG} {m N : Nat} (hN : nv g k N) (hm : m < 2147483648) (hm0 : 0 < m) (hQ : ∀ g', nv g' k (N / m) → fr g g' k (k + 2) → Q none g') : wp 28 b 0 [.ref k, .int (nI m), .null, .null, .null] [] g Q := by
  obtain ⟨f, z, h1, h2, h3, h4⟩ := hN
  simp (disch := omega) only [q_X3_divide_0, q_X3_divide_1, q_X3_divide_2, y_is, y_gf, y_pf, y_f0, y_f1, y_f3, y_nI, y_nK, y_nZ, y_nL, y_nR, y_k1i, y_k1r, y_k1l, y_k1n, y_tl, y_tn, y_s, y_ss, List.getElem?_cons_zero, List.getElem?_cons_succ, List.set_cons_zero, List.set_cons_succ, List.length_cons, List.length_nil, true_and, and_true, lit, le_n]
  refine br1 (by omega) ?_
  simp (disch := omega) only [q_X3_divide_6, q_X3_divide_7, q_X3_divide_8, q_X3_divide_9, q_X3_divide_12, q_X3_divide_13, q_X3_divide_14, h1.1, y_is, y_gf, y_pf, y_f0, y_f1, y_f3, y_nI, y_nK, y_nZ, y_nL, y_nR, y_k1i, y_k1r, y_k1l, y_k1n, y_tl, y_tn, y_s, y_ss, List.getElem?_cons_zero, List.getElem?_cons_succ, List.set_cons_zero, List.set_cons_succ, List.length_cons, List.length_nil, true_and, and_true, lit, litL]
  have := s_divide_loop (b := b) (Q := Q) (N := N) g h2 hm hm0 ?_ z g f (by omega) h1 (fun j hj hj2 => by omega) (fun j hj => h3.1 j hj) fr.rf
  · rw [Nat.div_eq_of_lt h3.2, Nat.zero_mod] at this
    exact this
  · intro g' f' hN' hd hf x y
    simp (disch := omega) only [q_X3_divide_58, q_X3_divide_59, hN'.1, y_is, y_gf, y_pf, y_f0, y_f1, y_f3, y_nI, y_nK, y_nZ, y_nL, y_nR, y_k1i, y_k1r, y_k1l, y_k1n, y_tl, y_tn, y_s, y_ss, List.getElem?_cons_zero, List.getElem?_cons_succ, List.set_cons_zero, List.set_cons_succ, List.length_cons, List.length_nil, true_and, and_true]
    refine s_trim g (N := N / m) (fun g3 hN3 hf3 => ?_) z g' h2 hN' ⟨hd, Nat.lt_of_le_of_lt (Nat.div_le_self _ _) h3.2⟩ hf
    simp only [q_X3_divide_62, y_is, y_gf, y_pf, y_f0, y_f1, y_f3, y_nI, y_nK, y_nZ, y_nL, y_nR, y_k1i, y_k1r, y_k1l, y_k1n, y_tl, y_tn, y_s, y_ss, List.getElem?_cons_zero, List.getElem?_cons_succ, List.set_cons_zero, List.set_cons_succ, List.length_cons, List.length_nil, true_and, and_true]
    exact hQ g3 hN3 hf3
theorem s_isMult {g : mzG} {m N : Nat} (hN : nv g k N) (hm : m < 2147483648) (hm0 : 0 < m) (hQ : Q (some (.int (if N % m = 0 then 1 else 0))) g) : wp 29 b 0 [.ref k, .int (nI m), .null, .null, .null] [] g Q := by
  obtain ⟨f, z, h1, h2, h3, h4⟩ := hN
  simp (disch := omega) only [q_X3_isMultipleOf_0, q_X3_isMultipleOf_1, q_X3_isMultipleOf_2, y_is, y_gf, y_pf, y_f0, y_f1, y_f3, y_nI, y_nK, y_nZ, y_nL, y_nR, y_k1i, y_k1r, y_k1l, y_k1n, y_tl, y_tn, y_s, y_ss, List.getElem?_cons_zero, List.getElem?_cons_succ, List.set_cons_zero, List.set_cons_succ, List.length_cons, List.length_nil, true_and, and_true, lit, le_n]
  refine br1 (by omega) ?_
  simp (disch := omega) only [q_X3_isMultipleOf_7, q_X3_isMultipleOf_8, q_X3_isMultipleOf_9, q_X3_isMultipleOf_10, q_X3_isMultipleOf_13, q_X3_isMultipleOf_14, q_X3_isMultipleOf_15, h1.1, y_is, y_gf, y_pf, y_f0, y_f1, y_f3, y_nI, y_nK, y_nZ, y_nL, y_nR, y_k1i, y_k1r, y_k1l, y_k1n, y_tl, y_tn, y_s, y_ss, List.getElem?_cons_zero, List.getElem?_cons_succ, List.set_cons_zero, List.set_cons_succ, List.length_cons, List.length_nil, true_and, and_true, lit, litL]
  have loop : ∀ c, c ≤ z → wp 29 b 17 [.ref k, .int (nI m), .long (lN (N / BB ^ c % m)), .null, .int (nI c - nI 1)] [] g Q := by
    intro c
    induction c with
    | zero =>
      intro hc
      rw [q_X3_isMultipleOf_17]
      have hr := Nat.mod_lt N hm0
      rw [Nat.pow_zero, Nat.div_one]
      simp (disch := omega) only [q_X3_isMultipleOf_19, q_X3_isMultipleOf_22, q_X3_isMultipleOf_23, q_X3_isMultipleOf_25, q_X3_isMultipleOf_26, q_X3_isMultipleOf_27, q_X3_isMultipleOf_30, q_X3_isMultipleOf_32, q_X3_isMultipleOf_33, q_X3_isMultipleOf_34, q_X3_isMultipleOf_35, q_X3_isMultipleOf_36, q_X3_isMultipleOf_37, q_X3_isMultipleOf_38, q_X3_isMultipleOf_39, q_X3_isMultipleOf_42, q_X3_isMultipleOf_45, q_X3_isMultipleOf_46, q_X3_isMultipleOf_47, q_X3_isMultipleOf_48, q_X3_isMultipleOf_51, q_X3_isMultipleOf_52, q_X3_isMultipleOf_55, q_X3_isMultipleOf_56, y_is, y_gf, y_pf, y_f0, y_f1, y_f3, y_nI, y_nK, y_nZ, y_nL, y_nR, y_k1i, y_k1r, y_k1l, y_k1n, y_tl, y_tn, y_s, y_ss, List.getElem?_cons_zero, List.getElem?_cons_succ, List.set_cons_zero, List.set_cons_succ, List.length_cons, List.length_nil, true_and, and_true, lit, litL, lt0_pred, lc_eq]
      refine br1 trivial ?_
      refine brs (fun c => ?_) (fun c => ?_)
      · rw [if_neg c] at hQ; exact ⟨(by first | exact Or.inl rfl | exact Or.inr rfl | exact Or.inl trivial | exact Or.inr trivial), hQ⟩
      · rw [if_pos (Classical.not_not.mp c)] at hQ; exact ⟨(by first | exact Or.inl rfl | exact Or.inr rfl | exact Or.inl trivial | exact Or.inr trivial), hQ⟩
    | succ c ih =>
      intro hc
      rw [q_X3_isMultipleOf_17]
      have hd := bb_lt N c
      have hr := Nat.mod_lt (N / BB ^ (c + 1)) hm0
      have hx : (N / BB ^ (c + 1) % m) * BB ≤ 2147483648 * 1073741824 := Nat.mul_le_mul (by omega) (by decide)
      simp (disch := omega) only [q_X3_isMultipleOf_19, q_X3_isMultipleOf_22, q_X3_isMultipleOf_23, q_X3_isMultipleOf_25, q_X3_isMultipleOf_26, q_X3_isMultipleOf_27, q_X3_isMultipleOf_30, q_X3_isMultipleOf_32, q_X3_isMultipleOf_33, q_X3_isMultipleOf_34, q_X3_isMultipleOf_35, q_X3_isMultipleOf_36, q_X3_isMultipleOf_37, q_X3_isMultipleOf_38, q_X3_isMultipleOf_39, q_X3_isMultipleOf_42, h1.1, h1.2, y_is, y_gf, y_pf, y_f0, y_f1, y_f3, y_nI, y_nK, y_nZ, y_nL, y_nR, y_k1i, y_k1r, y_k1l, y_k1n, y_tl, y_tn, y_s, y_ss, List.getElem?_cons_zero, List.getElem?_cons_succ, List.set_cons_zero, List.set_cons_succ, List.length_cons, List.length_nil, true_and, and_true, litL, y_lIn, y_lKn, y_lZn, y_lLn, y_wIn, y_wZn, y_wLn, lit, le_n, lt_n, eq_n, lt0_pred, pk_sub, Nat.add_sub_cancel, h3.1 c (by omega), i_l, l_sl30, l_add, l_eq, l_div, l_rem2, m_neg]
      refine br0 (by omega) ⟨by omega, ?_⟩
      rw [bb_div_r]
      exact ih (by omega)
  have := loop z (by omega)
  rw [Nat.div_eq_of_lt h3.2, Nat.zero_mod] at this
  exact this
theorem s_isLess {g : mzG} {j M N : Nat} (hM : nv g k M) (hN : nv g j N) (hQ : Q (some (.int (if M < N then 1 else 0))) g) : wp 30 b 0 [.ref k, .ref j, .null] [] g Q := by
  obtain ⟨f, z, h1, h2, h3, h4⟩ := hM
  obtain ⟨f2, z2, i1, i2, i3, i4⟩ := hN
  simp (disch := omega) only [q_X3_isLess_0, q_X3_isLess_1, q_X3_isLess_4, q_X3_isLess_5, q_X3_isLess_8, h1.1, i1.1, y_is, y_gf, y_pf, y_f0, y_f1, y_f3, y_nI, y_nK, y_nZ, y_nL, y_nR, y_k1i, y_k1r, y_k1l, y_k1n, y_tl, y_tn, y_s, y_ss, List.getElem?_cons_zero, List.getElem?_cons_succ, List.set_cons_zero, List.set_cons_succ, List.length_cons, List.length_nil, true_and, and_true, eq_n]
  have lower : z < z2 → M < N := fun h => by
    rcases i4 with e | e
    · omega
    · exact Nat.lt_of_lt_of_le h3.2 (Nat.le_trans (Nat.pow_le_pow_right (by decide) (by omega)) e)
  have upper : z2 < z → N < M := fun h => by
    rcases h4 with e | e
    · omega
    · exact Nat.lt_of_lt_of_le i3.2 (Nat.le_trans (Nat.pow_le_pow_right (by decide) (by omega)) e)
  refine brs (fun hz => ?_) (fun hz => ?_)
  · subst hz
    simp (disch := omega) only [q_X3_isLess_28, q_X3_isLess_29, q_X3_isLess_32, q_X3_isLess_33, q_X3_isLess_34, h1.1, y_is, y_gf, y_pf, y_f0, y_f1, y_f3, y_nI, y_nK, y_nZ, y_nL, y_nR, y_k1i, y_k1r, y_k1l, y_k1n, y_tl, y_tn, y_s, y_ss, List.getElem?_cons_zero, List.getElem?_cons_succ, List.set_cons_zero, List.set_cons_succ, List.length_cons, List.length_nil, true_and, and_true, lit]
    have loop : ∀ c, c ≤ z → M / BB ^ c = N / BB ^ c → wp 30 b 35 [.ref k, .ref j, .int (nI c - nI 1)] [] g Q := by
      intro c
      induction c with
      | zero =>
        intro hc he
        rw [q_X3_isLess_35]
        rw [Nat.pow_zero, Nat.div_one, Nat.div_one] at he
        simp (disch := omega) only [q_X3_isLess_36, q_X3_isLess_81, q_X3_isLess_82, y_is, y_gf, y_pf, y_f0, y_f1, y_f3, y_nI, y_nK, y_nZ, y_nL, y_nR, y_k1i, y_k1r, y_k1l, y_k1n, y_tl, y_tn, y_s, y_ss, List.getElem?_cons_zero, List.getElem?_cons_succ, List.set_cons_zero, List.set_cons_succ, List.length_cons, List.length_nil, true_and, and_true, lit, lt0_pred]
        refine br1 trivial ⟨(by first | exact Or.inl rfl | exact Or.inr rfl | exact Or.inl trivial | exact Or.inr trivial), ?_⟩
        rw [if_neg (by omega)] at hQ; exact hQ
      | succ c ih =>
        intro hc he
        rw [q_X3_isLess_35]
        have hd := bb_lt M c
        have hd2 := bb_lt N c
        have e1 : M / BB ^ c = M / BB ^ (c + 1) * BB + M / BB ^ c % BB := by rw [← bb_dd]; exact (Nat.div_add_mod' (M / BB ^ c) BB).symm
        have e2 : N / BB ^ c = N / BB ^ (c + 1) * BB + N / BB ^ c % BB := by rw [← bb_dd]; exact (Nat.div_add_mod' (N / BB ^ c) BB).symm
        simp (disch := omega) only [q_X3_isLess_36, q_X3_isLess_39, q_X3_isLess_40, q_X3_isLess_43, q_X3_isLess_44, q_X3_isLess_45, q_X3_isLess_46, q_X3_isLess_49, q_X3_isLess_50, q_X3_isLess_51, h1.1, h1.2, i1.1, i1.2, y_is, y_gf, y_pf, y_f0, y_f1, y_f3, y_nI, y_nK, y_nZ, y_nL, y_nR, y_k1i, y_k1r, y_k1l, y_k1n, y_tl, y_tn, y_s, y_ss, List.getElem?_cons_zero, List.getElem?_cons_succ, List.set_cons_zero, List.set_cons_succ, List.length_cons, List.length_nil, true_and, and_true, y_lIn, y_lKn, y_lZn, y_lLn, y_wIn, y_wZn, y_wLn, lit, le_n, lt_n, eq_n, lt0_pred, pk_sub, Nat.add_sub_cancel, h3.1 c (by omega), i3.1 c (by omega)]
        refine br0 (by omega) (brs (fun hq => ?_) (fun hq => ?_))
        · simp (disch := omega) only [q_X3_isLess_75, q_X3_isLess_78, y_is, y_gf, y_pf, y_f0, y_f1, y_f3, y_nI, y_nK, y_nZ, y_nL, y_nR, y_k1i, y_k1r, y_k1l, y_k1n, y_tl, y_tn, y_s, y_ss, List.getElem?_cons_zero, List.getElem?_cons_succ, List.set_cons_zero, List.set_cons_succ, List.length_cons, List.length_nil, true_and, and_true, lit, m_neg]
          exact ih (by omega) (by rw [e1, e2, he, hq])
        · simp (disch := omega) only [q_X3_isLess_54, q_X3_isLess_55, q_X3_isLess_58, q_X3_isLess_59, q_X3_isLess_60, q_X3_isLess_61, q_X3_isLess_64, q_X3_isLess_65, q_X3_isLess_66, h1.1, h1.2, i1.1, i1.2, y_is, y_gf, y_pf, y_f0, y_f1, y_f3, y_nI, y_nK, y_nZ, y_nL, y_nR, y_k1i, y_k1r, y_k1l, y_k1n, y_tl, y_tn, y_s, y_ss, List.getElem?_cons_zero, List.getElem?_cons_succ, List.set_cons_zero, List.set_cons_succ, List.length_cons, List.length_nil, true_and, and_true, y_lIn, y_lKn, y_lZn, y_lLn, y_wIn, y_wZn, y_wLn, lit, le_n, lt_n, eq_n, lt0_pred, pk_sub, Nat.add_sub_cancel, h3.1 c (by omega), i3.1 c (by omega)]
          refine brs (fun hl => ?_) (fun hl => ?_)
          · simp only [q_X3_isLess_73, q_X3_isLess_74, y_is, y_gf, y_pf, y_f0, y_f1, y_f3, y_nI, y_nK, y_nZ, y_nL, y_nR, y_k1i, y_k1r, y_k1l, y_k1n, y_tl, y_tn, y_s, y_ss, List.getElem?_cons_zero, List.getElem?_cons_succ, List.set_cons_zero, List.set_cons_succ, List.length_cons, List.length_nil, true_and, and_true, lit]
            refine ⟨(by first | exact Or.inl rfl | exact Or.inr rfl | exact Or.inl trivial | exact Or.inr trivial), ?_⟩
            rw [if_neg] at hQ
            · exact hQ
            · intro hlt
              have := Nat.div_le_div_right (c := BB ^ c) (Nat.le_of_lt hlt)
              rw [e1, e2, he] at this
              omega
          · simp only [q_X3_isLess_69, q_X3_isLess_70, q_X3_isLess_73, q_X3_isLess_74, y_is, y_gf, y_pf, y_f0, y_f1, y_f3, y_nI, y_nK, y_nZ, y_nL, y_nR, y_k1i, y_k1r, y_k1l, y_k1n, y_tl, y_tn, y_s, y_ss, List.getElem?_cons_zero, List.getElem?_cons_succ, List.set_cons_zero, List.set_cons_succ, List.length_cons, List.length_nil, true_and, and_true, lit]
            refine ⟨(by first | exact Or.inl rfl | exact Or.inr rfl | exact Or.inl trivial | exact Or.inr trivial), ?_⟩
            rw [if_pos] at hQ
            · exact hQ
            · apply Nat.not_le.mp
              intro hle
              have := Nat.div_le_div_right (c := BB ^ c) hle
              rw [e1, e2, he] at this
              omega
    exact loop z (by omega) (by rw [Nat.div_eq_of_lt h3.2, Nat.div_eq_of_lt i3.2])
  · simp (disch := omega) only [q_X3_isLess_11, q_X3_isLess_12, q_X3_isLess_15, q_X3_isLess_16, q_X3_isLess_19, h1.1, i1.1, y_is, y_gf, y_pf, y_f0, y_f1, y_f3, y_nI, y_nK, y_nZ, y_nL, y_nR, y_k1i, y_k1r, y_k1l, y_k1n, y_tl, y_tn, y_s, y_ss, List.getElem?_cons_zero, List.getElem?_cons_succ, List.set_cons_zero, List.set_cons_succ, List.length_cons, List.length_nil, true_and, and_true, le_n]
    refine brs (fun c => ?_) (fun c => ?_)
    · simp only [q_X3_isLess_26, q_X3_isLess_27, y_is, y_gf, y_pf, y_f0, y_f1, y_f3, y_nI, y_nK, y_nZ, y_nL, y_nR, y_k1i, y_k1r, y_k1l, y_k1n, y_tl, y_tn, y_s, y_ss, List.getElem?_cons_zero, List.getElem?_cons_succ, List.set_cons_zero, List.set_cons_succ, List.length_cons, List.length_nil, true_and, and_true]
      have := upper (by omega)
      rw [if_neg (by omega)] at hQ
      exact ⟨(by first | exact Or.inl rfl | exact Or.inr rfl | exact Or.inl trivial | exact Or.inr trivial), hQ⟩
    · simp only [q_X3_isLess_22, q_X3_isLess_23, q_X3_isLess_26, q_X3_isLess_27, y_is, y_gf, y_pf, y_f0, y_f1, y_f3, y_nI, y_nK, y_nZ, y_nL, y_nR, y_k1i, y_k1r, y_k1l, y_k1n, y_tl, y_tn, y_s, y_ss, List.getElem?_cons_zero, List.getElem?_cons_succ, List.set_cons_zero, List.set_cons_succ, List.length_cons, List.length_nil, true_and, and_true]
      rw [if_pos (lower (by omega))] at hQ
      exact ⟨(by first | exact Or.inl rfl | exact Or.inr rfl | exact Or.inl trivial | exact Or.inr trivial), hQ⟩
end NATURAL3
