/-! ===== the reference: wide numbers compared, added, taken away, halved ===== -/
theorem lsT {a b : Nat} (ha : a < 4611686018427387904) (hb : b < 4611686018427387904) : (lN a - lN b).toInt = (a : Int) - b := by
  rw [Int64.toInt_sub, pk_lT (by omega), pk_lT (by omega)]; exact bm64 (by omega) (by omega)
theorem lsT3 {a b c : Nat} (ha : a < 2147483648) (hb : b < 2147483648) (hc : c < 2147483648) : (lN a - lN b - lN c).toInt = (a : Int) - b - c := by
  rw [Int64.toInt_sub, lsT (by omega) (by omega), pk_lT (by omega)]; exact bm64 (by omega) (by omega)
theorem ls_eq {a b : Nat} (ha : a < 2147483648) (hb : b < 2147483648) : (lg_cmp (lN a - lN b) (lN 0) = nI 0) = (a = b) := by
  rw [show (lg_cmp (lN a - lN b) (lN 0) = nI 0) = (lN a - lN b = lN 0) from lcq]
  apply propext
  rw [← Int64.toInt_inj, lsT (by omega) (by omega), pk_lT (by omega)]
  omega
theorem ls_ge {a b : Nat} (ha : a < 2147483648) (hb : b < 2147483648) : (nI 0 ≤ lg_cmp (lN a - lN b) (lN 0)) = (b ≤ a) := by
  rw [show (nI 0 ≤ lg_cmp (lN a - lN b) (lN 0)) = (lN 0 ≤ lN a - lN b) from lcg]
  apply propext
  rw [Int64.le_iff_toInt_le, lsT (by omega) (by omega), pk_lT (by omega)]
  omega
theorem ls3_ge {a b c : Nat} (ha : a < 2147483648) (hb : b < 2147483648) (hc : c < 2147483648) : (nI 0 ≤ lg_cmp (lN a - lN b - lN c) (lN 0)) = (b + c ≤ a) := by
  rw [show (nI 0 ≤ lg_cmp (lN a - lN b - lN c) (lN 0)) = (lN 0 ≤ lN a - lN b - lN c) from lcg]
  apply propext
  rw [Int64.le_iff_toInt_le, lsT3 ha hb hc, pk_lT (by omega)]
  omega
theorem ls3_0 {a b c : Nat} (ha : a < 2147483648) (hb : b < 2147483648) (hc : c < 2147483648) (h : b + c ≤ a) : lN a - lN b - lN c + lN 0 * lN 1073741824 = lN (a - b - c) := by
  rw [l_mul, Nat.zero_mul]
  apply Int64.toInt_inj.mp
  rw [Int64.toInt_add, lsT3 ha hb hc, pk_lT (by omega), pk_lT (by omega)]
  rw [bm64 (by omega) (by omega)]; omega
theorem ls3_1 {a b c : Nat} (ha : a < 2147483648) (hb : b < 1073741824) (hc : c ≤ 1) : lN a - lN b - lN c + lN 1 * lN 1073741824 = lN (a + 1073741824 - b - c) := by
  rw [l_mul, Nat.one_mul]
  apply Int64.toInt_inj.mp
  rw [Int64.toInt_add, lsT3 ha (by omega) (by omega), pk_lT (by omega), pk_lT (by omega)]
  rw [bm64 (by omega) (by omega)]; omega
def cmpI (A B : Nat) : Int32 := if A < B then -1 else if A = B then 0 else 1
/-- where a digit differs, and those above do not -/
theorem bb_less {A B i : Nat} (h : A / BB ^ (i + 1) = B / BB ^ (i + 1)) (hl : A / BB ^ i % BB < B / BB ^ i % BB) : A < B := by
  have hA : A / BB ^ i = BB * (A / BB ^ (i + 1)) + A / BB ^ i % BB := by rw [← bb_dd]; exact (Nat.div_add_mod _ _).symm
  have hB : B / BB ^ i = BB * (B / BB ^ (i + 1)) + B / BB ^ i % BB := by rw [← bb_dd]; exact (Nat.div_add_mod _ _).symm
  rw [h] at hA
  have : A / BB ^ i < B / BB ^ i := by omega
  rcases Nat.lt_or_ge A B with q | q
  · exact q
  · have := Nat.div_le_div_right (c := BB ^ i) q
    omega
theorem bb_up {A B i : Nat} (h : A / BB ^ (i + 1) = B / BB ^ (i + 1)) (hl : A / BB ^ i % BB = B / BB ^ i % BB) : A / BB ^ i = B / BB ^ i := by
  have hA : A / BB ^ i = BB * (A / BB ^ (i + 1)) + A / BB ^ i % BB := by rw [← bb_dd]; exact (Nat.div_add_mod _ _).symm
  have hB : B / BB ^ i = BB * (B / BB ^ (i + 1)) + B / BB ^ i % BB := by rw [← bb_dd]; exact (Nat.div_add_mod _ _).symm
  rw [h] at hA
  omega
/-- digits that are owed -/
def owe (N M i : Nat) : Nat := if N % BB ^ i < M % BB ^ i then 1 else 0
theorem owe_le (N M i : Nat) : owe N M i ≤ 1 := by unfold owe; split <;> omega
theorem owe_s (N M i : Nat) : owe N M (i + 1) = if N / BB ^ i % BB < M / BB ^ i % BB + owe N M i then 1 else 0 := by
  unfold owe
  have ha := Nat.mod_lt N (bb_pos i)
  have hb := Nat.mod_lt M (bb_pos i)
  rw [bb_succ N, bb_succ M]
  generalize N % BB ^ i = a at *
  generalize M % BB ^ i = c at *
  generalize N / BB ^ i % BB = n
  generalize M / BB ^ i % BB = m
  generalize BB ^ i = P at *
  rcases Nat.lt_trichotomy n m with q | q | q
  · have h1 : P * (n + 1) ≤ P * m := Nat.mul_le_mul_left _ q
    rw [Nat.mul_add] at h1
    rw [if_pos (by omega), if_pos (by omega)]
  · subst q
    by_cases z : a < c
    · rw [if_pos (by omega), if_pos z, if_pos (by omega)]
    · rw [if_neg (by omega), if_neg z, if_neg (by omega)]
  · have h1 : P * (m + 1) ≤ P * n := Nat.mul_le_mul_left _ q
    rw [Nat.mul_add] at h1
    rw [if_neg (by omega)]
    split <;> rw [if_neg (by omega)]
theorem owe_d {N M i : Nat} (h : M ≤ N) : (N - M) / BB ^ i % BB = if N / BB ^ i % BB < M / BB ^ i % BB + owe N M i then N / BB ^ i % BB + BB - M / BB ^ i % BB - owe N M i else N / BB ^ i % BB - M / BB ^ i % BB - owe N M i := by
  have ha := Nat.mod_lt N (bb_pos i)
  have hb := Nat.mod_lt M (bb_pos i)
  have hn := bb_lt N i
  have hm := bb_lt M i
  have eN : N = BB ^ i * (BB * (N / BB ^ (i + 1)) + N / BB ^ i % BB) + N % BB ^ i := by
    rw [show BB * (N / BB ^ (i + 1)) + N / BB ^ i % BB = N / BB ^ i by rw [← bb_dd]; exact Nat.div_add_mod _ _]
    exact (Nat.div_add_mod _ _).symm
  have eM : M = BB ^ i * (BB * (M / BB ^ (i + 1)) + M / BB ^ i % BB) + M % BB ^ i := by
    rw [show BB * (M / BB ^ (i + 1)) + M / BB ^ i % BB = M / BB ^ i by rw [← bb_dd]; exact Nat.div_add_mod _ _]
    exact (Nat.div_add_mod _ _).symm
  have hP := bb_pos i
  have hBB : BB = 1073741824 := rfl
  unfold owe
  generalize N % BB ^ i = a at *
  generalize M % BB ^ i = c at *
  generalize N / BB ^ i % BB = n at *
  generalize M / BB ^ i % BB = m at *
  generalize N / BB ^ (i + 1) = N' at *
  generalize M / BB ^ (i + 1) = M' at *
  generalize BB ^ i = P at *
  -- the quotient is q, with the rest below P
  have key : ∀ o u : Nat, (a < c → o = 1) → (¬ a < c → o = 0) → (n < m + o → u + m + o = n + BB) → (¬ n < m + o → u + m + o = n) → (N - M) / P % BB = u := by
    intro o u h1 h2 h3 h4
    have hu : u < BB := by
      by_cases z : n < m + o
      · have := h3 z; show u < 1073741824; omega
      · have := h4 z; show u < 1073741824; omega
    -- N - M = P * (BB * w + u) + rest
    obtain ⟨e, he⟩ : ∃ e : Nat, e = if n < m + o then 1 else 0 := ⟨_, rfl⟩
    have hw : M' + e ≤ N' := by
      rcases Nat.lt_or_ge N' (M' + e) with q | q
      · exfalso
        have s1 : BB * (N' + 1) ≤ BB * (M' + e) := Nat.mul_le_mul_left _ q
        rw [Nat.mul_add, Nat.mul_add] at s1
        have s2 : BB * N' + n < BB * M' + m + o := by
          by_cases z : n < m + o
          · rw [if_pos z] at he; subst he; omega
          · rw [if_neg z] at he; subst he; omega
        have s3 : P * (BB * N' + n + 1) ≤ P * (BB * M' + m + o) := Nat.mul_le_mul_left _ s2
        rw [Nat.mul_add P (BB * N' + n), Nat.mul_add P (BB * M' + m) o] at s3
        by_cases z : a < c
        · rw [h1 z] at s3; omega
        · rw [h2 z] at s3; omega
      · exact q
    have hval : N - M = P * (BB * (N' - M' - e) + u) + (a + o * P - c) := by
      have hx : BB * N' + n = BB * M' + m + o + (BB * (N' - M' - e) + u) := by
        obtain ⟨d, rfl⟩ : ∃ d, N' = M' + e + d := ⟨N' - M' - e, by omega⟩
        rw [show M' + e + d - M' - e = d by omega, Nat.mul_add, Nat.mul_add]
        by_cases z : n < m + o
        · rw [if_pos z] at he; subst he
          have := h3 z
          omega
        · rw [if_neg z] at he; subst he
          have := h4 z
          omega
      rw [hx] at eN
      rw [Nat.mul_add, Nat.mul_add P (BB * M' + m) o, ← Nat.mul_comm o P] at eN
      have hc : c ≤ a + o * P := by
        by_cases z : a < c
        · rw [h1 z]; omega
        · omega
      omega
    rw [hval, Nat.mul_add_div hP, Nat.div_eq_of_lt (by
      by_cases z : a < c
      · rw [h1 z]; omega
      · rw [h2 z]; omega), Nat.add_zero, Nat.mul_add_mod, Nat.mod_eq_of_lt hu]
  by_cases z : a < c
  · rw [if_pos z]
    by_cases y : n < m + 1
    · rw [if_pos y]; exact key 1 _ (fun _ => rfl) (fun q => absurd z q) (fun _ => by omega) (fun q => absurd y q)
    · rw [if_neg y]; exact key 1 _ (fun _ => rfl) (fun q => absurd z q) (fun q => absurd q y) (fun _ => by omega)
  · rw [if_neg z]
    by_cases y : n < m + 0
    · rw [if_pos y]; exact key 0 _ (fun q => absurd q z) (fun _ => rfl) (fun _ => by omega) (fun q => absurd y q)
    · rw [if_neg y]; exact key 0 _ (fun q => absurd q z) (fun _ => rfl) (fun q => absurd q y) (fun _ => by omega)
theorem slot_b {F : Nat → Int64} {k s N e : Nat} (h1 : k = 0 ∨ BB ^ (k - 1) ≤ N) (h : N < BB ^ e) : k ≤ e := by
  rcases h1 with q | q
  · omega
  · have : BB ^ (k - 1) < BB ^ e := Nat.lt_of_le_of_lt q h
    have := (Nat.pow_lt_pow_iff_right (show 1 < BB by decide)).mp this
    omega
section MNUM2
variable {b : mzB} {Q : mzQ} {x : Nat → Int32} {r : Int64}
theorem s_mcompare {g : mzG} {E : mE} {V : Nat → Nat} {s t : Nat} (hM : g.2 73 = ob 9 [.ref 74, .ref 75, .ref 76, .ref 77, .ref 78, .ref 79, .int (x 0), .int (x 1), .int (x 2), .ref 80, .int (x 3), .ref 81, .int (x 4), .ref 82, .long (r), .ref 83, .ref 84, .int (x 5), .int (x 6), .int (x 7), .int (x 8), .int (x 9), .ref 85, .int (x 10)]) (hV : ms g E V) (hs11 : s < 11) (hE : E s = none) (ht11 : t < 11) (hEt : E t = none) (hQ : Q (some (.int (cmpI (V s) (V t)))) g) : wp 140 b 0 [.ref 73, .int (nI s), .int (nI t), .null, .null, .null] [] g Q := by
  obtain ⟨F, Z, hr, hsl⟩ := hV
  obtain ⟨k, hk, hk64, hd, hN, hm⟩ := (hsl s hs11).1 hE
  obtain ⟨k', hk', hk64', hd', hN', hm'⟩ := (hsl t ht11).1 hEt
  unfold cmpI at hQ
  generalize V s = A at *
  generalize V t = B at *
  simp (disch := omega) only [q_X11_compare_0, q_X11_compare_1, q_X11_compare_4, q_X11_compare_5, q_X11_compare_6, q_X11_compare_7, q_X11_compare_10, q_X11_compare_11, q_X11_compare_12, hM, hr.2, hk, hk', y_is, y_gf, y_pf, y_f0, y_f1, y_f3, y_nI, y_nK, y_nZ, y_nL, y_nR, y_k1i, y_k1r, y_k1l, y_k1n, y_tl, y_tn, y_s, y_ss, List.getElem?_cons_zero, List.getElem?_cons_succ, List.set_cons_zero, List.set_cons_succ, List.length_cons, List.length_nil, true_and, and_true, y_lIn, y_lKn, y_lZn, y_lLn, y_wIn, y_wZn, y_wLn, lit, le_n, lt_n, eq_n]
  refine brs (fun c => ?_) (fun c => ?_)
  · subst c
    simp (disch := omega) only [q_X11_compare_36, q_X11_compare_37, q_X11_compare_40, q_X11_compare_41, q_X11_compare_42, q_X11_compare_43, q_X11_compare_44, hM, hr.2, hk, y_is, y_gf, y_pf, y_f0, y_f1, y_f3, y_nI, y_nK, y_nZ, y_nL, y_nR, y_k1i, y_k1r, y_k1l, y_k1n, y_tl, y_tn, y_s, y_ss, List.getElem?_cons_zero, List.getElem?_cons_succ, List.set_cons_zero, List.set_cons_succ, List.length_cons, List.length_nil, true_and, and_true, y_lIn, y_lKn, y_lZn, y_lLn, y_wIn, y_wZn, y_wLn, lit, le_n, lt_n, eq_n, lit]
    have loop : ∀ (i : Nat) (x4 x5 : Value), i ≤ k → A / BB ^ i = B / BB ^ i → wp 140 b 45 [.ref 73, .int (nI s), .int (nI t), .int (nI i - nI 1), x4, x5] [] g Q := by
      intro i
      induction i with
      | zero =>
        intro x4 x5 hi he
        rw [Nat.pow_zero, Nat.div_one, Nat.div_one] at he
        rw [if_neg (by omega), if_pos he] at hQ
        rw [q_X11_compare_45]
        simp (disch := omega) only [q_X11_compare_46, q_X11_compare_100, q_X11_compare_101, y_is, y_gf, y_pf, y_f0, y_f1, y_f3, y_nI, y_nK, y_nZ, y_nL, y_nR, y_k1i, y_k1r, y_k1l, y_k1n, y_tl, y_tn, y_s, y_ss, List.getElem?_cons_zero, List.getElem?_cons_succ, List.set_cons_zero, List.set_cons_succ, List.length_cons, List.length_nil, true_and, and_true, lit, lt0_pred]
        exact br1 (by first | decide | omega | trivial | simp) hQ
      | succ i ih =>
        intro x4 x5 hi he
        have d1 := hd i (by omega)
        have d2 := hd' i (by omega)
        have b1 := bb_lt A i
        have b2 := bb_lt B i
        rw [q_X11_compare_45]
        simp (disch := omega) only [q_X11_compare_46, q_X11_compare_49, q_X11_compare_50, q_X11_compare_53, q_X11_compare_55, q_X11_compare_56, q_X11_compare_57, q_X11_compare_58, q_X11_compare_59, q_X11_compare_60, q_X11_compare_61, q_X11_compare_64, q_X11_compare_66, q_X11_compare_67, q_X11_compare_68, q_X11_compare_69, q_X11_compare_70, q_X11_compare_71, q_X11_compare_72, q_X11_compare_74, q_X11_compare_76, q_X11_compare_77, q_X11_compare_78, hM, hr.1, d1, d2, y_is, y_gf, y_pf, y_f0, y_f1, y_f3, y_nI, y_nK, y_nZ, y_nL, y_nR, y_k1i, y_k1r, y_k1l, y_k1n, y_tl, y_tn, y_s, y_ss, List.getElem?_cons_zero, List.getElem?_cons_succ, List.set_cons_zero, List.set_cons_succ, List.length_cons, List.length_nil, true_and, and_true, y_lIn, y_lKn, y_lZn, y_lLn, y_wIn, y_wZn, y_wLn, lit, le_n, lt_n, eq_n, lit, litL, lt0_pred, pk_sub, Nat.add_sub_cancel, pk_mul, nI_add, ls_eq]
        refine br0 (by first | decide | omega | trivial | simp) (brs (fun z => ?_) (fun z => ?_))
        · simp (disch := omega) only [q_X11_compare_94, q_X11_compare_97, y_is, y_gf, y_pf, y_f0, y_f1, y_f3, y_nI, y_nK, y_nZ, y_nL, y_nR, y_k1i, y_k1r, y_k1l, y_k1n, y_tl, y_tn, y_s, y_ss, List.getElem?_cons_zero, List.getElem?_cons_succ, List.set_cons_zero, List.set_cons_succ, List.length_cons, List.length_nil, true_and, and_true, lit, m_neg]
          exact ih _ _ (by omega) (bb_up he z)
        · simp (disch := omega) only [q_X11_compare_81, q_X11_compare_83, q_X11_compare_84, q_X11_compare_85, y_is, y_gf, y_pf, y_f0, y_f1, y_f3, y_nI, y_nK, y_nZ, y_nL, y_nR, y_k1i, y_k1r, y_k1l, y_k1n, y_tl, y_tn, y_s, y_ss, List.getElem?_cons_zero, List.getElem?_cons_succ, List.set_cons_zero, List.set_cons_succ, List.length_cons, List.length_nil, true_and, and_true, lit, litL, ls_ge]
          refine brs (fun y => ?_) (fun y => ?_)
          · have := bb_less he.symm (show B / BB ^ i % BB < A / BB ^ i % BB by omega)
            rw [if_neg (by omega), if_neg (by omega)] at hQ
            simp only [q_X11_compare_92, q_X11_compare_93, y_is, y_gf, y_pf, y_f0, y_f1, y_f3, y_nI, y_nK, y_nZ, y_nL, y_nR, y_k1i, y_k1r, y_k1l, y_k1n, y_tl, y_tn, y_s, y_ss, List.getElem?_cons_zero, List.getElem?_cons_succ, List.set_cons_zero, List.set_cons_succ, List.length_cons, List.length_nil, true_and, and_true]
            exact hQ
          · have := bb_less he (show A / BB ^ i % BB < B / BB ^ i % BB by omega)
            rw [if_pos this] at hQ
            simp only [q_X11_compare_88, q_X11_compare_89, q_X11_compare_93, y_is, y_gf, y_pf, y_f0, y_f1, y_f3, y_nI, y_nK, y_nZ, y_nL, y_nR, y_k1i, y_k1r, y_k1l, y_k1n, y_tl, y_tn, y_s, y_ss, List.getElem?_cons_zero, List.getElem?_cons_succ, List.set_cons_zero, List.set_cons_succ, List.length_cons, List.length_nil, true_and, and_true]
            exact hQ
    exact loop k _ _ (Nat.le_refl _) (by rw [Nat.div_eq_of_lt hN, Nat.div_eq_of_lt hN'])
  · simp (disch := omega) only [q_X11_compare_15, q_X11_compare_16, q_X11_compare_19, q_X11_compare_20, q_X11_compare_21, q_X11_compare_22, q_X11_compare_25, q_X11_compare_26, q_X11_compare_27, hM, hr.2, hk, hk', y_is, y_gf, y_pf, y_f0, y_f1, y_f3, y_nI, y_nK, y_nZ, y_nL, y_nR, y_k1i, y_k1r, y_k1l, y_k1n, y_tl, y_tn, y_s, y_ss, List.getElem?_cons_zero, List.getElem?_cons_succ, List.set_cons_zero, List.set_cons_succ, List.length_cons, List.length_nil, true_and, and_true, y_lIn, y_lKn, y_lZn, y_lLn, y_wIn, y_wZn, y_wLn, lit, le_n, lt_n, eq_n]
    have lt_of : ∀ {p q X Y : Nat}, p < q → X < BB ^ p → (q = 0 ∨ BB ^ (q - 1) ≤ Y) → X < Y := by
      intro p q X Y h1 h2 h3
      rcases h3 with e | e
      · omega
      · have : BB ^ p ≤ BB ^ (q - 1) := Nat.pow_le_pow_right (by decide) (by omega)
        omega
    refine brs (fun z => ?_) (fun z => ?_)
    · have := lt_of (show k' < k by omega) hN' hm
      rw [if_neg (by omega), if_neg (by omega)] at hQ
      simp only [q_X11_compare_34, q_X11_compare_35, y_is, y_gf, y_pf, y_f0, y_f1, y_f3, y_nI, y_nK, y_nZ, y_nL, y_nR, y_k1i, y_k1r, y_k1l, y_k1n, y_tl, y_tn, y_s, y_ss, List.getElem?_cons_zero, List.getElem?_cons_succ, List.set_cons_zero, List.set_cons_succ, List.length_cons, List.length_nil, true_and, and_true]
      exact hQ
    · have := lt_of (show k < k' by omega) hN hm'
      rw [if_pos this] at hQ
      simp only [q_X11_compare_30, q_X11_compare_31, q_X11_compare_35, y_is, y_gf, y_pf, y_f0, y_f1, y_f3, y_nI, y_nK, y_nZ, y_nL, y_nR, y_k1i, y_k1r, y_k1l, y_k1n, y_tl, y_tn, y_s, y_ss, List.getElem?_cons_zero, List.getElem?_cons_succ, List.set_cons_zero, List.set_cons_succ, List.length_cons, List.length_nil, true_and, and_true]
      exact hQ
theorem s_misEven {g : mzG} {E : mE} {V : Nat → Nat} {s : Nat} (hM : g.2 73 = ob 9 [.ref 74, .ref 75, .ref 76, .ref 77, .ref 78, .ref 79, .int (x 0), .int (x 1), .int (x 2), .ref 80, .int (x 3), .ref 81, .int (x 4), .ref 82, .long (r), .ref 83, .ref 84, .int (x 5), .int (x 6), .int (x 7), .int (x 8), .int (x 9), .ref 85, .int (x 10)]) (hV : ms g E V) (hs11 : s < 11) (hE : E s = none) (hQ : Q (some (.int (if V s % 2 = 0 then 1 else 0))) g) : wp 144 b 0 [.ref 73, .int (nI s)] [] g Q := by
  obtain ⟨F, Z, hr, hsl⟩ := hV
  obtain ⟨k, hk, hk64, hd, hN, hm⟩ := (hsl s hs11).1 hE
  generalize V s = N at *
  simp (disch := omega) only [q_X11_isEven_0, q_X11_isEven_1, q_X11_isEven_4, q_X11_isEven_5, q_X11_isEven_6, hM, hr.2, hk, y_is, y_gf, y_pf, y_f0, y_f1, y_f3, y_nI, y_nK, y_nZ, y_nL, y_nR, y_k1i, y_k1r, y_k1l, y_k1n, y_tl, y_tn, y_s, y_ss, List.getElem?_cons_zero, List.getElem?_cons_succ, List.set_cons_zero, List.set_cons_succ, List.length_cons, List.length_nil, true_and, and_true, y_lIn, y_lKn, y_lZn, y_lLn, y_wIn, y_wZn, y_wLn, lit, le_n, lt_n, eq_n]
  refine brs (fun c => ?_) (fun c => ?_)
  · subst c
    have : N = 0 := by simpa using hN
    subst this
    simp only [q_X11_isEven_27, q_X11_isEven_28, q_X11_isEven_32, y_is, y_gf, y_pf, y_f0, y_f1, y_f3, y_nI, y_nK, y_nZ, y_nL, y_nR, y_k1i, y_k1r, y_k1l, y_k1n, y_tl, y_tn, y_s, y_ss, List.getElem?_cons_zero, List.getElem?_cons_succ, List.set_cons_zero, List.set_cons_succ, List.length_cons, List.length_nil, true_and, and_true]
    exact ⟨by decide, hQ⟩
  · have d0 := hd 0 (by omega)
    rw [Nat.pow_zero, Nat.div_one, Nat.add_zero] at d0
    have hb : N % BB < 1073741824 := Nat.mod_lt N (show 0 < BB by decide)
    have e2 : N % BB % 2 = N % 2 := Nat.mod_mod_of_dvd N (by decide)
    have h2 := Nat.mod_lt N (show 0 < 2 by decide)
    simp (disch := omega) only [q_X11_isEven_9, q_X11_isEven_10, q_X11_isEven_13, q_X11_isEven_15, q_X11_isEven_16, q_X11_isEven_17, q_X11_isEven_18, q_X11_isEven_21, q_X11_isEven_22, q_X11_isEven_23, q_X11_isEven_24, hM, hr.1, d0, y_is, y_gf, y_pf, y_f0, y_f1, y_f3, y_nI, y_nK, y_nZ, y_nL, y_nR, y_k1i, y_k1r, y_k1l, y_k1n, y_tl, y_tn, y_s, y_ss, List.getElem?_cons_zero, List.getElem?_cons_succ, List.set_cons_zero, List.set_cons_succ, List.length_cons, List.length_nil, true_and, and_true, y_lIn, y_lKn, y_lZn, y_lLn, y_wIn, y_wZn, y_wLn, lit, le_n, lt_n, eq_n, lit, litL, pk_mul, l_eq, l_div, l_rem, l_rem2, lc_eq, e2]
    refine ⟨by omega, ?_⟩
    by_cases z : N % 2 = 0
    · rw [bnt z]
      rw [if_pos z] at hQ
      simp only [q_X11_isEven_27, q_X11_isEven_28, q_X11_isEven_32, y_is, y_gf, y_pf, y_f0, y_f1, y_f3, y_nI, y_nK, y_nZ, y_nL, y_nR, y_k1i, y_k1r, y_k1l, y_k1n, y_tl, y_tn, y_s, y_ss, List.getElem?_cons_zero, List.getElem?_cons_succ, List.set_cons_zero, List.set_cons_succ, List.length_cons, List.length_nil, true_and, and_true]
      exact ⟨by decide, hQ⟩
    · rw [bnf z]
      rw [if_neg z] at hQ
      simp only [q_X11_isEven_31, q_X11_isEven_32, y_is, y_gf, y_pf, y_f0, y_f1, y_f3, y_nI, y_nK, y_nZ, y_nL, y_nR, y_k1i, y_k1r, y_k1l, y_k1n, y_tl, y_tn, y_s, y_ss, List.getElem?_cons_zero, List.getElem?_cons_succ, List.set_cons_zero, List.set_cons_succ, List.length_cons, List.length_nil, true_and, and_true]
      exact ⟨by decide, hQ⟩
theorem s_mdivBy {g : mzG} {E : mE} {V : Nat → Nat} {s d : Nat} (hM : g.2 73 = ob 9 [.ref 74, .ref 75, .ref 76, .ref 77, .ref 78, .ref 79, .int (x 0), .int (x 1), .int (x 2), .ref 80, .int (x 3), .ref 81, .int (x 4), .ref 82, .long (r), .ref 83, .ref 84, .int (x 5), .int (x 6), .int (x 7), .int (x 8), .int (x 9), .ref 85, .int (x 10)]) (hV : ms g E V) (hs11 : s < 11) (hE : E s = none) (hd0 : 0 < d) (hd31 : d < 2147483648) (hQ : ∀ g', g'.2 73 = ob 9 [.ref 74, .ref 75, .ref 76, .ref 77, .ref 78, .ref 79, .int (x 0), .int (x 1), .int (x 2), .ref 80, .int (x 3), .ref 81, .int (x 4), .ref 82, .long (r), .ref 83, .ref 84, .int (x 5), .int (x 6), .int (x 7), .int (x 8), .int (x 9), .ref 85, .int (x 10)] → ms g' E (va_up V s (V s / d)) → fr g g' 78 80 → Q none g') : wp 208 b 0 [.ref 73, .int (nI s), .int (nI d), .null, .null, .null, .null, .null] [] g Q := by
  obtain ⟨F, Z, hr, hsl⟩ := hV
  obtain ⟨k, hk, hk64, hd, hN, hm⟩ := (hsl s hs11).1 hE
  generalize hNN : V s = N at *
  have loop : ∀ (i : Nat) (g' : mzG) (F' : Nat → Int64) (x6 x7 : Value), i ≤ k → g'.2 73 = ob 9 [.ref 74, .ref 75, .ref 76, .ref 77, .ref 78, .ref 79, .int (x 0), .int (x 1), .int (x 2), .ref 80, .int (x 3), .ref 81, .int (x 4), .ref 82, .long (r), .ref 83, .ref 84, .int (x 5), .int (x 6), .int (x 7), .int (x 8), .int (x 9), .ref 85, .int (x 10)] → mr g' F' Z → (∀ j, j < 64 * s ∨ 64 * s + 64 ≤ j → F' j = F j) → (∀ j, j < i → F' (64 * s + j) = lN (N / BB ^ j % BB)) → (∀ j, i ≤ j → j < k → F' (64 * s + j) = lN (N / d / BB ^ j % BB)) → fr g g' 78 80 → wp 208 b 12 [.ref 73, .int (nI s), .int (nI d), .long (lN (N / BB ^ i % d)), .null, .int (nI i - nI 1), x6, x7] [] g' Q := by
    intro i
    induction i with
    | zero =>
      intro g' F' x6 x7 hi hM' hr' ho h1 h2 hf
      rw [q_X11_divideBy_12]
      simp (disch := omega) only [q_X11_divideBy_14, q_X11_divideBy_66, q_X11_divideBy_67, q_X11_divideBy_68, hM', y_is, y_gf, y_pf, y_f0, y_f1, y_f3, y_nI, y_nK, y_nZ, y_nL, y_nR, y_k1i, y_k1r, y_k1l, y_k1n, y_tl, y_tn, y_s, y_ss, List.getElem?_cons_zero, List.getElem?_cons_succ, List.set_cons_zero, List.set_cons_succ, List.length_cons, List.length_nil, true_and, and_true, lit, lt0_pred]
      refine br1 (by first | decide | omega | trivial | simp) (s_mtrim g hs11 Z (fun g3 Z3 r1 r2 r3 r4 r5 => ?_) k g' Z hM' hr' (fun _ _ => rfl) hk hk64 (fun j hj => h2 j (by omega) hj) (Nat.lt_of_le_of_lt (Nat.div_le_self _ _) hN) hf)
      simp only [q_X11_divideBy_71, y_is, y_gf, y_pf, y_f0, y_f1, y_f3, y_nI, y_nK, y_nZ, y_nL, y_nR, y_k1i, y_k1r, y_k1l, y_k1n, y_tl, y_tn, y_s, y_ss, List.getElem?_cons_zero, List.getElem?_cons_succ, List.set_cons_zero, List.set_cons_succ, List.length_cons, List.length_nil, true_and, and_true]
      exact hQ g3 r1 (ms_mk hE hsl r2 ho r3 r4) r5
    | succ i ih =>
      intro g' F' x6 x7 hi hM' hr' ho h1 h2 hf
      have e1 := h1 i (by omega)
      have hb := bb_lt N i
      have hrl := Nat.mod_lt (N / BB ^ (i + 1)) hd0
      have t1 := bb_div_r N d i
      have t2 := bb_div_d N d i hd0
      generalize hR : N / BB ^ (i + 1) % d = R at hrl t1 t2 ⊢
      generalize hD : N / BB ^ i % BB = D at hb e1 t1 t2
      have hRB : R * BB ≤ 2147483648 * 1073741824 := Nat.mul_le_mul (by omega) (Nat.le_refl _)
      have hlt : R * BB + D < 9223372036854775808 := by omega
      rw [q_X11_divideBy_12]
      simp (disch := omega) only [q_X11_divideBy_14, q_X11_divideBy_17, q_X11_divideBy_18, q_X11_divideBy_21, q_X11_divideBy_22, q_X11_divideBy_23, q_X11_divideBy_26, q_X11_divideBy_28, q_X11_divideBy_29, q_X11_divideBy_30, q_X11_divideBy_32, q_X11_divideBy_33, q_X11_divideBy_34, q_X11_divideBy_35, q_X11_divideBy_37, q_X11_divideBy_38, q_X11_divideBy_41, q_X11_divideBy_43, q_X11_divideBy_44, q_X11_divideBy_45, q_X11_divideBy_47, q_X11_divideBy_48, q_X11_divideBy_50, q_X11_divideBy_51, q_X11_divideBy_52, q_X11_divideBy_53, q_X11_divideBy_54, q_X11_divideBy_56, q_X11_divideBy_57, q_X11_divideBy_58, q_X11_divideBy_59, q_X11_divideBy_60, q_X11_divideBy_63, hM', hr'.1, e1, y_is, y_gf, y_pf, y_f0, y_f1, y_f3, y_nI, y_nK, y_nZ, y_nL, y_nR, y_k1i, y_k1r, y_k1l, y_k1n, y_tl, y_tn, y_s, y_ss, List.getElem?_cons_zero, List.getElem?_cons_succ, List.set_cons_zero, List.set_cons_succ, List.length_cons, List.length_nil, true_and, and_true, y_lIn, y_lKn, y_lZn, y_lLn, y_wIn, y_wZn, y_wLn, lit, le_n, lt_n, eq_n, lit, litL, lt0_pred, pk_sub, Nat.add_sub_cancel, pk_mul, nI_add, l_mul, l_add, l_eq, i_l, l_div, l_rem, l_rem2, l_rem3, y_ne, m_neg]
      rw [show R * 1073741824 = R * BB from rfl, t1, t2]
      refine br0 (by first | decide | omega | trivial | simp) ⟨by omega, by omega, ih _ _ _ _ (by omega) (by rw [y_ne (by decide)]; exact hM') ⟨y_s, by rw [y_ne (by decide)]; exact hr'.2⟩ (fun j hj => by rw [uL_n (by omega)]; exact ho j hj) (fun j hj => ?_) (fun j hj hj2 => ?_) (hf.hs (by omega) (by omega))⟩
      · rw [uL_n (by omega)]; exact h1 j (by omega)
      · by_cases q : j = i
        · subst q; rw [uL_s]
        · rw [uL_n (by omega)]; exact h2 j (by omega) hj2
  simp (disch := omega) only [q_X11_divideBy_0, q_X11_divideBy_1, q_X11_divideBy_2, q_X11_divideBy_3, q_X11_divideBy_6, q_X11_divideBy_7, q_X11_divideBy_8, q_X11_divideBy_9, q_X11_divideBy_10, hM, hr.2, hk, y_is, y_gf, y_pf, y_f0, y_f1, y_f3, y_nI, y_nK, y_nZ, y_nL, y_nR, y_k1i, y_k1r, y_k1l, y_k1n, y_tl, y_tn, y_s, y_ss, List.getElem?_cons_zero, List.getElem?_cons_succ, List.set_cons_zero, List.set_cons_succ, List.length_cons, List.length_nil, true_and, and_true, y_lIn, y_lKn, y_lZn, y_lLn, y_wIn, y_wZn, y_wLn, lit, le_n, lt_n, eq_n, lit, litL]
  have k0 := loop k g F .null .null (Nat.le_refl _) hM hr (fun j hj => rfl) hd (fun j hj hj2 => by omega) fr.rf
  rw [Nat.div_eq_of_lt hN, Nat.zero_mod] at k0
  exact k0
theorem s_mhalve {g : mzG} {E : mE} {V : Nat → Nat} {s : Nat} (hM : g.2 73 = ob 9 [.ref 74, .ref 75, .ref 76, .ref 77, .ref 78, .ref 79, .int (x 0), .int (x 1), .int (x 2), .ref 80, .int (x 3), .ref 81, .int (x 4), .ref 82, .long (r), .ref 83, .ref 84, .int (x 5), .int (x 6), .int (x 7), .int (x 8), .int (x 9), .ref 85, .int (x 10)]) (hV : ms g E V) (hs11 : s < 11) (hE : E s = none) (hQ : ∀ g', g'.2 73 = ob 9 [.ref 74, .ref 75, .ref 76, .ref 77, .ref 78, .ref 79, .int (x 0), .int (x 1), .int (x 2), .ref 80, .int (x 3), .ref 81, .int (x 4), .ref 82, .long (r), .ref 83, .ref 84, .int (x 5), .int (x 6), .int (x 7), .int (x 8), .int (x 9), .ref 85, .int (x 10)] → ms g' E (va_up V s (V s / 2)) → fr g g' 78 80 → Q none g') : wp 143 b 0 [.ref 73, .int (nI s), .null, .null, .null, .null, .null] [] g Q := by
  obtain ⟨F, Z, hr, hsl⟩ := hV
  obtain ⟨k, hk, hk64, hd, hN, hm⟩ := (hsl s hs11).1 hE
  generalize hNN : V s = N at *
  have loop : ∀ (i : Nat) (g' : mzG) (F' : Nat → Int64) (x6 x7 : Value), i ≤ k → g'.2 73 = ob 9 [.ref 74, .ref 75, .ref 76, .ref 77, .ref 78, .ref 79, .int (x 0), .int (x 1), .int (x 2), .ref 80, .int (x 3), .ref 81, .int (x 4), .ref 82, .long (r), .ref 83, .ref 84, .int (x 5), .int (x 6), .int (x 7), .int (x 8), .int (x 9), .ref 85, .int (x 10)] → mr g' F' Z → (∀ j, j < 64 * s ∨ 64 * s + 64 ≤ j → F' j = F j) → (∀ j, j < i → F' (64 * s + j) = lN (N / BB ^ j % BB)) → (∀ j, i ≤ j → j < k → F' (64 * s + j) = lN (N / 2 / BB ^ j % BB)) → fr g g' 78 80 → wp 143 b 12 [.ref 73, .int (nI s), .long (lN (N / BB ^ i % 2)), .null, .int (nI i - nI 1), x6, x7] [] g' Q := by
    intro i
    induction i with
    | zero =>
      intro g' F' x6 x7 hi hM' hr' ho h1 h2 hf
      rw [q_X11_halve_12]
      simp (disch := omega) only [q_X11_halve_14, q_X11_halve_68, q_X11_halve_69, q_X11_halve_70, hM', y_is, y_gf, y_pf, y_f0, y_f1, y_f3, y_nI, y_nK, y_nZ, y_nL, y_nR, y_k1i, y_k1r, y_k1l, y_k1n, y_tl, y_tn, y_s, y_ss, List.getElem?_cons_zero, List.getElem?_cons_succ, List.set_cons_zero, List.set_cons_succ, List.length_cons, List.length_nil, true_and, and_true, lit, lt0_pred]
      refine br1 (by first | decide | omega | trivial | simp) (s_mtrim g hs11 Z (fun g3 Z3 r1 r2 r3 r4 r5 => ?_) k g' Z hM' hr' (fun _ _ => rfl) hk hk64 (fun j hj => h2 j (by omega) hj) (Nat.lt_of_le_of_lt (Nat.div_le_self _ _) hN) hf)
      simp only [q_X11_halve_73, y_is, y_gf, y_pf, y_f0, y_f1, y_f3, y_nI, y_nK, y_nZ, y_nL, y_nR, y_k1i, y_k1r, y_k1l, y_k1n, y_tl, y_tn, y_s, y_ss, List.getElem?_cons_zero, List.getElem?_cons_succ, List.set_cons_zero, List.set_cons_succ, List.length_cons, List.length_nil, true_and, and_true]
      exact hQ g3 r1 (ms_mk hE hsl r2 ho r3 r4) r5
    | succ i ih =>
      intro g' F' x6 x7 hi hM' hr' ho h1 h2 hf
      have e1 := h1 i (by omega)
      have hb := bb_lt N i
      have hrl := Nat.mod_lt (N / BB ^ (i + 1)) (show 0 < 2 by decide)
      have t1 := bb_div_r N 2 i
      have t2 := bb_div_d N 2 i (by decide)
      generalize hR : N / BB ^ (i + 1) % 2 = R at hrl t1 t2 ⊢
      generalize hD : N / BB ^ i % BB = D at hb e1 t1 t2
      rw [Nat.add_comm] at t1 t2
      have hRB : R * BB ≤ 2 * 1073741824 := Nat.mul_le_mul (by omega) (Nat.le_refl _)
      have hlt : D + R * BB < 9223372036854775808 := by omega
      rw [q_X11_halve_12]
      simp (disch := omega) only [q_X11_halve_14, q_X11_halve_17, q_X11_halve_18, q_X11_halve_21, q_X11_halve_23, q_X11_halve_24, q_X11_halve_25, q_X11_halve_27, q_X11_halve_28, q_X11_halve_29, q_X11_halve_30, q_X11_halve_33, q_X11_halve_34, q_X11_halve_35, q_X11_halve_37, q_X11_halve_38, q_X11_halve_41, q_X11_halve_43, q_X11_halve_44, q_X11_halve_45, q_X11_halve_47, q_X11_halve_48, q_X11_halve_50, q_X11_halve_53, q_X11_halve_54, q_X11_halve_55, q_X11_halve_57, q_X11_halve_60, q_X11_halve_61, q_X11_halve_62, q_X11_halve_65, hM', hr'.1, e1, y_is, y_gf, y_pf, y_f0, y_f1, y_f3, y_nI, y_nK, y_nZ, y_nL, y_nR, y_k1i, y_k1r, y_k1l, y_k1n, y_tl, y_tn, y_s, y_ss, List.getElem?_cons_zero, List.getElem?_cons_succ, List.set_cons_zero, List.set_cons_succ, List.length_cons, List.length_nil, true_and, and_true, y_lIn, y_lKn, y_lZn, y_lLn, y_wIn, y_wZn, y_wLn, lit, le_n, lt_n, eq_n, lit, litL, lt0_pred, pk_sub, Nat.add_sub_cancel, pk_mul, nI_add, l_mul, l_add, l_eq, i_l, l_div, l_rem, l_rem2, l_rem3, y_ne, m_neg]
      rw [show R * 1073741824 = R * BB from rfl, t1, t2]
      refine br0 (by first | decide | omega | trivial | simp) ⟨by omega, by omega, ih _ _ _ _ (by omega) (by rw [y_ne (by decide)]; exact hM') ⟨y_s, by rw [y_ne (by decide)]; exact hr'.2⟩ (fun j hj => by rw [uL_n (by omega)]; exact ho j hj) (fun j hj => ?_) (fun j hj hj2 => ?_) (hf.hs (by omega) (by omega))⟩
      · rw [uL_n (by omega)]; exact h1 j (by omega)
      · by_cases q : j = i
        · subst q; rw [uL_s]
        · rw [uL_n (by omega)]; exact h2 j (by omega) hj2
  simp (disch := omega) only [q_X11_halve_0, q_X11_halve_1, q_X11_halve_2, q_X11_halve_3, q_X11_halve_6, q_X11_halve_7, q_X11_halve_8, q_X11_halve_9, q_X11_halve_10, hM, hr.2, hk, y_is, y_gf, y_pf, y_f0, y_f1, y_f3, y_nI, y_nK, y_nZ, y_nL, y_nR, y_k1i, y_k1r, y_k1l, y_k1n, y_tl, y_tn, y_s, y_ss, List.getElem?_cons_zero, List.getElem?_cons_succ, List.set_cons_zero, List.set_cons_succ, List.length_cons, List.length_nil, true_and, and_true, y_lIn, y_lKn, y_lZn, y_lLn, y_wIn, y_wZn, y_wLn, lit, le_n, lt_n, eq_n, lit, litL]
  have k0 := loop k g F .null .null (Nat.le_refl _) hM hr (fun j hj => rfl) hd (fun j hj hj2 => by omega) fr.rf
  rw [Nat.div_eq_of_lt hN, Nat.zero_mod] at k0
  exact k0
theorem s_madd {g : mzG} {E : mE} {V : Nat → Nat} {s t : Nat} (hM : g.2 73 = ob 9 [.ref 74, .ref 75, .ref 76, .ref 77, .ref 78, .ref 79, .int (x 0), .int (x 1), .int (x 2), .ref 80, .int (x 3), .ref 81, .int (x 4), .ref 82, .long (r), .ref 83, .ref 84, .int (x 5), .int (x 6), .int (x 7), .int (x 8), .int (x 9), .ref 85, .int (x 10)]) (hV : ms g E V) (hs11 : s < 11) (hE : E s = none) (ht11 : t < 11) (hEt : E t = none) (hst : s ≠ t) (hb : V s + V t < BB ^ 63) (hQ : ∀ g', g'.2 73 = ob 9 [.ref 74, .ref 75, .ref 76, .ref 77, .ref 78, .ref 79, .int (x 0), .int (x 1), .int (x 2), .ref 80, .int (x 3), .ref 81, .int (x 4), .ref 82, .long (r), .ref 83, .ref 84, .int (x 5), .int (x 6), .int (x 7), .int (x 8), .int (x 9), .ref 85, .int (x 10)] → ms g' E (va_up V s (V s + V t)) → fr g g' 78 80 → Q none g') : wp 141 b 0 [.ref 73, .int (nI s), .int (nI t), .null, .null, .null, .null, .null, .null] [] g Q := by
  obtain ⟨F, Z, hr, hsl⟩ := hV
  obtain ⟨k, hk, hk64, hd, hN, hm⟩ := (hsl s hs11).1 hE
  obtain ⟨k', hk', hk64', hd', hN', hm'⟩ := (hsl t ht11).1 hEt
  generalize hNN : V s = M at *
  generalize hMM : V t = N at *
  have l1 : k ≤ 63 := slot_b (F := F) (s := 0) hm (by omega)
  have l2 : k' ≤ 63 := slot_b (F := F) (s := 0) hm' (by omega)
  obtain ⟨mx, hmx⟩ : ∃ mx, mx = if k ≤ k' then k' else k := ⟨_, rfl⟩
  have hmx1 : k ≤ mx ∧ k' ≤ mx ∧ mx ≤ 63 := by rw [hmx]; split <;> omega
  have fin : ∀ (g' : mzG) (F' : Nat → Int64) (x7 x8 : Value), g'.2 73 = ob 9 [.ref 74, .ref 75, .ref 76, .ref 77, .ref 78, .ref 79, .int (x 0), .int (x 1), .int (x 2), .ref 80, .int (x 3), .ref 81, .int (x 4), .ref 82, .long (r), .ref 83, .ref 84, .int (x 5), .int (x 6), .int (x 7), .int (x 8), .int (x 9), .ref 85, .int (x 10)] → mr g' F' Z → (∀ j, j < 64 * s ∨ 64 * s + 64 ≤ j → F' j = F j) → dgs F' s mx (M + N) → fr g g' 78 80 → wp 141 b 134 [.ref 73, .int (nI s), .int (nI t), .long (lN ((M % BB ^ mx + N % BB ^ mx) / BB ^ mx)), .null, .int (nI mx), .int (nI mx), x7, x8] [] g' Q := by
    intro g' F' x7 x8 hM' hr' ho hdd hf
    have p1 : BB ^ k ≤ BB ^ mx := Nat.pow_le_pow_right (by decide) hmx1.1
    have p2 : BB ^ k' ≤ BB ^ mx := Nat.pow_le_pow_right (by decide) hmx1.2.1
    rw [Nat.mod_eq_of_lt (by omega), Nat.mod_eq_of_lt (by omega)]
    have hc : (M + N) / BB ^ mx < 2 := by rw [Nat.div_lt_iff_lt_mul (bb_pos mx)]; omega
    simp (disch := omega) only [q_X11_add_134, q_X11_add_135, q_X11_add_138, q_X11_add_140, q_X11_add_141, q_X11_add_142, q_X11_add_144, q_X11_add_145, q_X11_add_146, q_X11_add_147, q_X11_add_148, q_X11_add_151, q_X11_add_152, q_X11_add_154, q_X11_add_155, q_X11_add_156, q_X11_add_157, q_X11_add_158, q_X11_add_159, hM', hr'.1, hr'.2, y_is, y_gf, y_pf, y_f0, y_f1, y_f3, y_nI, y_nK, y_nZ, y_nL, y_nR, y_k1i, y_k1r, y_k1l, y_k1n, y_tl, y_tn, y_s, y_ss, List.getElem?_cons_zero, List.getElem?_cons_succ, List.set_cons_zero, List.set_cons_succ, List.length_cons, List.length_nil, true_and, and_true, y_lIn, y_lKn, y_lZn, y_lLn, y_wIn, y_wZn, y_wLn, lit, le_n, lt_n, eq_n, lit, pk_mul, nI_add, y_ne]
    refine s_mtrim (N := M + N) g hs11 Z (fun g3 Z3 r1 r2 r3 r4 r5 => ?_) (mx + 1) _ (upd Z s (nI (mx + 1))) (by rw [y_ne (by decide), y_ne (by decide)]; exact hM') ⟨by rw [y_ne (by decide), y_s], y_s⟩ (fun q hq => u_n hq) u_s (by omega) (fun i hi => ?_) ?_ ((hf.hs (by omega) (by omega)).hs (by omega) (by omega))
    · simp only [q_X11_add_162, y_is, y_gf, y_pf, y_f0, y_f1, y_f3, y_nI, y_nK, y_nZ, y_nL, y_nR, y_k1i, y_k1r, y_k1l, y_k1n, y_tl, y_tn, y_s, y_ss, List.getElem?_cons_zero, List.getElem?_cons_succ, List.set_cons_zero, List.set_cons_succ, List.length_cons, List.length_nil, true_and, and_true]
      exact hQ g3 r1 (ms_mk hE hsl r2 (fun j hj => by rw [uL_n (by omega)]; exact ho j hj) r3 r4) r5
    · by_cases q : i = mx
      · subst q; rw [uL_s, Nat.mod_eq_of_lt (Nat.lt_trans hc (by decide))]
      · rw [uL_n (by omega)]; exact hdd i (by omega)
    · rw [bb_s]
      have := (Nat.div_lt_iff_lt_mul (bb_pos mx)).mp hc
      have h2 : BB ^ mx * 2 ≤ BB ^ mx * BB := Nat.mul_le_mul_left _ (by decide)
      omega
  have loop : ∀ (d i : Nat) (g' : mzG) (F' : Nat → Int64) (x7 x8 : Value), i + d = mx → g'.2 73 = ob 9 [.ref 74, .ref 75, .ref 76, .ref 77, .ref 78, .ref 79, .int (x 0), .int (x 1), .int (x 2), .ref 80, .int (x 3), .ref 81, .int (x 4), .ref 82, .long (r), .ref 83, .ref 84, .int (x 5), .int (x 6), .int (x 7), .int (x 8), .int (x 9), .ref 85, .int (x 10)] → mr g' F' Z → (∀ j, j < 64 * s ∨ 64 * s + 64 ≤ j → F' j = F j) → dgs F' s i (M + N) → (∀ j, i ≤ j → j < k → F' (64 * s + j) = lN (M / BB ^ j % BB)) → fr g g' 78 80 → wp 141 b 37 [.ref 73, .int (nI s), .int (nI t), .long (lN ((M % BB ^ i + N % BB ^ i) / BB ^ i)), .null, .int (nI mx), .int (nI i), x7, x8] [] g' Q := by
    intro d
    induction d with
    | zero =>
      intro i g' F' x7 x8 hi hM' hr' ho hdd h2 hf
      have hi : i = mx := by omega
      subst hi
      rw [q_X11_add_37]
      simp (disch := omega) only [q_X11_add_39, q_X11_add_41, y_is, y_gf, y_pf, y_f0, y_f1, y_f3, y_nI, y_nK, y_nZ, y_nL, y_nR, y_k1i, y_k1r, y_k1l, y_k1n, y_tl, y_tn, y_s, y_ss, List.getElem?_cons_zero, List.getElem?_cons_succ, List.set_cons_zero, List.set_cons_succ, List.length_cons, List.length_nil, true_and, and_true, y_lIn, y_lKn, y_lZn, y_lLn, y_wIn, y_wZn, y_wLn, lit, le_n, lt_n, eq_n, lit, litL, le_n, lt_n, eq_n, nI_add, m_neg, pk_sub, pk_mul, i_l, l_i, l_add, l_mul, l_sub, lc_le, lc_ge, lc_lt, lc_gt, lc_eq, l_rem2, l_rem3, i_rem2, i_rem3]
      exact br1 (by omega) (fin g' F' x7 x8 hM' hr' ho hdd hf)
    | succ d ih =>
      intro i g' F' x7 x8 hi hM' hr' ho hdd h2 hf
      have b1 := bb_lt M i
      have b2 := bb_lt N i
      have hcar : (M % BB ^ i + N % BB ^ i) / BB ^ i ≤ 1 := by
        have h3 := Nat.mod_lt M (bb_pos i)
        have h4 := Nat.mod_lt N (bb_pos i)
        have : (M % BB ^ i + N % BB ^ i) / BB ^ i < 2 := by rw [Nat.div_lt_iff_lt_mul (bb_pos i)]; omega
        omega
      have t1 := bb_add_d M N i
      have t2 := bb_add_c M N i
      have back : wp 141 b 98 [.ref 73, .int (nI s), .int (nI t), .long (lN ((M % BB ^ i + N % BB ^ i) / BB ^ i)), .null, .int (nI mx), .int (nI i), x7, x8] [.long (lN (N / BB ^ i % BB)), .long (lN (M / BB ^ i % BB))] g' Q := by
        have ih' := fun g' F' x7 x8 => ih (i + 1) g' F' x7 x8 (by omega)
        rw [← t2] at ih'
        generalize hC : (M % BB ^ i + N % BB ^ i) / BB ^ i = C at *
        have e1 : C + M / BB ^ i % BB + N / BB ^ i % BB = M / BB ^ i % BB + N / BB ^ i % BB + C := by omega
        rw [e1] at t1 ih'
        simp (disch := omega) only [q_X11_add_98, q_X11_add_99, q_X11_add_100, q_X11_add_101, q_X11_add_103, q_X11_add_104, q_X11_add_107, q_X11_add_109, q_X11_add_110, q_X11_add_111, q_X11_add_113, q_X11_add_114, q_X11_add_116, q_X11_add_119, q_X11_add_120, q_X11_add_121, q_X11_add_123, q_X11_add_126, q_X11_add_127, q_X11_add_128, q_X11_add_131, hM', hr'.1, y_is, y_gf, y_pf, y_f0, y_f1, y_f3, y_nI, y_nK, y_nZ, y_nL, y_nR, y_k1i, y_k1r, y_k1l, y_k1n, y_tl, y_tn, y_s, y_ss, List.getElem?_cons_zero, List.getElem?_cons_succ, List.set_cons_zero, List.set_cons_succ, List.length_cons, List.length_nil, true_and, and_true, y_lIn, y_lKn, y_lZn, y_lLn, y_wIn, y_wZn, y_wLn, lit, le_n, lt_n, eq_n, lit, litL, pk_mul, nI_add, l_add, l_eq, l_divB, l_remB, l_remC, y_ne]
        rw [t1]
        refine ⟨by omega, by omega, ih' _ _ _ _ (by rw [y_ne (by decide)]; exact hM') ⟨y_s, by rw [y_ne (by decide)]; exact hr'.2⟩ (fun j hj => by rw [uL_n (by omega)]; exact ho j hj) (fun j hj => ?_) (fun j hj hj2 => ?_) (hf.hs (by omega) (by omega))⟩
        · by_cases q : j = i
          · subst q; rw [uL_s]
          · rw [uL_n (by omega)]; exact hdd j (by omega)
        · rw [uL_n (by omega)]; exact h2 j (by omega) hj2
      have mid : wp 141 b 71 [.ref 73, .int (nI s), .int (nI t), .long (lN ((M % BB ^ i + N % BB ^ i) / BB ^ i)), .null, .int (nI mx), .int (nI i), x7, x8] [.long (lN (M / BB ^ i % BB))] g' Q := by
        simp (disch := omega) only [q_X11_add_71, q_X11_add_73, q_X11_add_74, q_X11_add_77, q_X11_add_78, q_X11_add_79, hM', hr'.2, hk', y_is, y_gf, y_pf, y_f0, y_f1, y_f3, y_nI, y_nK, y_nZ, y_nL, y_nR, y_k1i, y_k1r, y_k1l, y_k1n, y_tl, y_tn, y_s, y_ss, List.getElem?_cons_zero, List.getElem?_cons_succ, List.set_cons_zero, List.set_cons_succ, List.length_cons, List.length_nil, true_and, and_true, y_lIn, y_lKn, y_lZn, y_lLn, y_wIn, y_wZn, y_wLn, lit, le_n, lt_n, eq_n]
        refine brs (fun z => ?_) (fun z => ?_)
        · rw [bb_low hN' z] at back
          simp only [q_X11_add_97, y_is, y_gf, y_pf, y_f0, y_f1, y_f3, y_nI, y_nK, y_nZ, y_nL, y_nR, y_k1i, y_k1r, y_k1l, y_k1n, y_tl, y_tn, y_s, y_ss, List.getElem?_cons_zero, List.getElem?_cons_succ, List.set_cons_zero, List.set_cons_succ, List.length_cons, List.length_nil, true_and, and_true]
          exact back
        · have e2 : F' (64 * t + i) = lN (N / BB ^ i % BB) := by rw [ho _ (by omega)]; exact hd' i (by omega)
          simp (disch := omega) only [q_X11_add_82, q_X11_add_83, q_X11_add_86, q_X11_add_88, q_X11_add_89, q_X11_add_90, q_X11_add_92, q_X11_add_93, q_X11_add_94, hM', hr'.1, e2, y_is, y_gf, y_pf, y_f0, y_f1, y_f3, y_nI, y_nK, y_nZ, y_nL, y_nR, y_k1i, y_k1r, y_k1l, y_k1n, y_tl, y_tn, y_s, y_ss, List.getElem?_cons_zero, List.getElem?_cons_succ, List.set_cons_zero, List.set_cons_succ, List.length_cons, List.length_nil, true_and, and_true, y_lIn, y_lKn, y_lZn, y_lLn, y_wIn, y_wZn, y_wLn, lit, le_n, lt_n, eq_n, lit, pk_mul, nI_add]
          exact back
      rw [q_X11_add_37]
      simp (disch := omega) only [q_X11_add_39, q_X11_add_41, q_X11_add_44, q_X11_add_46, q_X11_add_47, q_X11_add_50, q_X11_add_51, q_X11_add_52, hM', hr'.2, hk, y_is, y_gf, y_pf, y_f0, y_f1, y_f3, y_nI, y_nK, y_nZ, y_nL, y_nR, y_k1i, y_k1r, y_k1l, y_k1n, y_tl, y_tn, y_s, y_ss, List.getElem?_cons_zero, List.getElem?_cons_succ, List.set_cons_zero, List.set_cons_succ, List.length_cons, List.length_nil, true_and, and_true, y_lIn, y_lKn, y_lZn, y_lLn, y_wIn, y_wZn, y_wLn, lit, le_n, lt_n, eq_n]
      refine br0 (by omega) (brs (fun z => ?_) (fun z => ?_))
      · rw [bb_low hN z] at mid
        simp only [q_X11_add_70, y_is, y_gf, y_pf, y_f0, y_f1, y_f3, y_nI, y_nK, y_nZ, y_nL, y_nR, y_k1i, y_k1r, y_k1l, y_k1n, y_tl, y_tn, y_s, y_ss, List.getElem?_cons_zero, List.getElem?_cons_succ, List.set_cons_zero, List.set_cons_succ, List.length_cons, List.length_nil, true_and, and_true]
        exact mid
      · have e2 := h2 i (by omega) (by omega)
        simp (disch := omega) only [q_X11_add_55, q_X11_add_56, q_X11_add_59, q_X11_add_61, q_X11_add_62, q_X11_add_63, q_X11_add_65, q_X11_add_66, q_X11_add_67, hM', hr'.1, e2, y_is, y_gf, y_pf, y_f0, y_f1, y_f3, y_nI, y_nK, y_nZ, y_nL, y_nR, y_k1i, y_k1r, y_k1l, y_k1n, y_tl, y_tn, y_s, y_ss, List.getElem?_cons_zero, List.getElem?_cons_succ, List.set_cons_zero, List.set_cons_succ, List.length_cons, List.length_nil, true_and, and_true, y_lIn, y_lKn, y_lZn, y_lLn, y_wIn, y_wZn, y_wLn, lit, le_n, lt_n, eq_n, lit, pk_mul, nI_add]
        exact mid
  have k0 := loop mx 0 g F .null .null (by omega) hM hr (fun j hj => rfl) (fun i hi => by omega) (fun j _ hj => hd j hj) fr.rf
  rw [show (M % BB ^ 0 + N % BB ^ 0) / BB ^ 0 = 0 by simp [Nat.mod_one]] at k0
  simp (disch := omega) only [q_X11_add_0, q_X11_add_1, q_X11_add_2, q_X11_add_3, q_X11_add_6, q_X11_add_7, q_X11_add_8, q_X11_add_9, q_X11_add_12, q_X11_add_13, q_X11_add_14, hM, hr.2, hk, hk', y_is, y_gf, y_pf, y_f0, y_f1, y_f3, y_nI, y_nK, y_nZ, y_nL, y_nR, y_k1i, y_k1r, y_k1l, y_k1n, y_tl, y_tn, y_s, y_ss, List.getElem?_cons_zero, List.getElem?_cons_succ, List.set_cons_zero, List.set_cons_succ, List.length_cons, List.length_nil, true_and, and_true, y_lIn, y_lKn, y_lZn, y_lLn, y_wIn, y_wZn, y_wLn, lit, le_n, lt_n, eq_n, litL]
  refine brs (fun z => ?_) (fun z => ?_)
  · rw [if_pos z] at hmx
    subst hmx
    simp (disch := omega) only [q_X11_add_26, q_X11_add_27, q_X11_add_30, q_X11_add_31, q_X11_add_32, q_X11_add_34, q_X11_add_35, hM, hr.2, hk', y_is, y_gf, y_pf, y_f0, y_f1, y_f3, y_nI, y_nK, y_nZ, y_nL, y_nR, y_k1i, y_k1r, y_k1l, y_k1n, y_tl, y_tn, y_s, y_ss, List.getElem?_cons_zero, List.getElem?_cons_succ, List.set_cons_zero, List.set_cons_succ, List.length_cons, List.length_nil, true_and, and_true, y_lIn, y_lKn, y_lZn, y_lLn, y_wIn, y_wZn, y_wLn, lit, le_n, lt_n, eq_n, lit]
    exact k0
  · rw [if_neg z] at hmx
    subst hmx
    simp (disch := omega) only [q_X11_add_17, q_X11_add_18, q_X11_add_21, q_X11_add_22, q_X11_add_23, q_X11_add_32, q_X11_add_34, q_X11_add_35, hM, hr.2, hk, y_is, y_gf, y_pf, y_f0, y_f1, y_f3, y_nI, y_nK, y_nZ, y_nL, y_nR, y_k1i, y_k1r, y_k1l, y_k1n, y_tl, y_tn, y_s, y_ss, List.getElem?_cons_zero, List.getElem?_cons_succ, List.set_cons_zero, List.set_cons_succ, List.length_cons, List.length_nil, true_and, and_true, y_lIn, y_lKn, y_lZn, y_lLn, y_wIn, y_wZn, y_wLn, lit, le_n, lt_n, eq_n, lit]
    exact k0
theorem s_mtake {g : mzG} {E : mE} {V : Nat → Nat} {s t : Nat} (hM : g.2 73 = ob 9 [.ref 74, .ref 75, .ref 76, .ref 77, .ref 78, .ref 79, .int (x 0), .int (x 1), .int (x 2), .ref 80, .int (x 3), .ref 81, .int (x 4), .ref 82, .long (r), .ref 83, .ref 84, .int (x 5), .int (x 6), .int (x 7), .int (x 8), .int (x 9), .ref 85, .int (x 10)]) (hV : ms g E V) (hs11 : s < 11) (hE : E s = none) (ht11 : t < 11) (hEt : E t = none) (hst : s ≠ t) (hle : V t ≤ V s) (hQ : ∀ g', g'.2 73 = ob 9 [.ref 74, .ref 75, .ref 76, .ref 77, .ref 78, .ref 79, .int (x 0), .int (x 1), .int (x 2), .ref 80, .int (x 3), .ref 81, .int (x 4), .ref 82, .long (r), .ref 83, .ref 84, .int (x 5), .int (x 6), .int (x 7), .int (x 8), .int (x 9), .ref 85, .int (x 10)] → ms g' E (va_up V s (V s - V t)) → fr g g' 78 80 → Q none g') : wp 142 b 0 [.ref 73, .int (nI s), .int (nI t), .null, .null, .null, .null, .null] [] g Q := by
  obtain ⟨F, Z, hr, hsl⟩ := hV
  obtain ⟨k, hk, hk64, hd, hN, hm⟩ := (hsl s hs11).1 hE
  obtain ⟨k', hk', hk64', hd', hN', hm'⟩ := (hsl t ht11).1 hEt
  generalize hNN : V s = N at *
  generalize hMM : V t = M at *
  have loop : ∀ (d i : Nat) (g' : mzG) (F' : Nat → Int64) (x6 x7 : Value), i + d = k → g'.2 73 = ob 9 [.ref 74, .ref 75, .ref 76, .ref 77, .ref 78, .ref 79, .int (x 0), .int (x 1), .int (x 2), .ref 80, .int (x 3), .ref 81, .int (x 4), .ref 82, .long (r), .ref 83, .ref 84, .int (x 5), .int (x 6), .int (x 7), .int (x 8), .int (x 9), .ref 85, .int (x 10)] → mr g' F' Z → (∀ j, j < 64 * s ∨ 64 * s + 64 ≤ j → F' j = F j) → dgs F' s i (N - M) → (∀ j, i ≤ j → j < k → F' (64 * s + j) = lN (N / BB ^ j % BB)) → fr g g' 78 80 → wp 142 b 5 [.ref 73, .int (nI s), .int (nI t), .long (lN (owe N M i)), .null, .int (nI i), x6, x7] [] g' Q := by
    intro d
    induction d with
    | zero =>
      intro i g' F' x6 x7 hi hM' hr' ho hdd h2 hf
      have hi : i = k := by omega
      subst hi
      rw [q_X11_take_5]
      simp (disch := omega) only [q_X11_take_7, q_X11_take_8, q_X11_take_11, q_X11_take_12, q_X11_take_13, q_X11_take_99, q_X11_take_100, q_X11_take_101, hM', hr'.2, hk, y_is, y_gf, y_pf, y_f0, y_f1, y_f3, y_nI, y_nK, y_nZ, y_nL, y_nR, y_k1i, y_k1r, y_k1l, y_k1n, y_tl, y_tn, y_s, y_ss, List.getElem?_cons_zero, List.getElem?_cons_succ, List.set_cons_zero, List.set_cons_succ, List.length_cons, List.length_nil, true_and, and_true, y_lIn, y_lKn, y_lZn, y_lLn, y_wIn, y_wZn, y_wLn, lit, le_n, lt_n, eq_n, lit, litL, le_n, lt_n, eq_n, nI_add, m_neg, pk_sub, pk_mul, i_l, l_i, l_add, l_mul, l_sub, lc_le, lc_ge, lc_lt, lc_gt, lc_eq, l_rem2, l_rem3, i_rem2, i_rem3]
      refine br1 (by omega) (s_mtrim g hs11 Z (fun g3 Z3 r1 r2 r3 r4 r5 => ?_) i g' Z hM' hr' (fun _ _ => rfl) hk hk64 hdd (by omega) hf)
      simp only [q_X11_take_104, y_is, y_gf, y_pf, y_f0, y_f1, y_f3, y_nI, y_nK, y_nZ, y_nL, y_nR, y_k1i, y_k1r, y_k1l, y_k1n, y_tl, y_tn, y_s, y_ss, List.getElem?_cons_zero, List.getElem?_cons_succ, List.set_cons_zero, List.set_cons_succ, List.length_cons, List.length_nil, true_and, and_true]
      exact hQ g3 r1 (ms_mk hE hsl r2 ho r3 r4) r5
    | succ d ih =>
      intro i g' F' x6 x7 hi hM' hr' ho hdd h2 hf
      have b1 := bb_lt N i
      have b2 := bb_lt M i
      have ol := owe_le N M i
      have e1 := h2 i (by omega) (by omega)
      have os := owe_s N M i
      have od := owe_d (i := i) hle
      have ih' := fun g' F' x6 x7 => ih (i + 1) g' F' x6 x7 (by omega)
      have back : wp 142 b 55 [.ref 73, .int (nI s), .int (nI t), .long (lN (owe N M i)), .null, .int (nI i), x6, x7] [.long (lN (M / BB ^ i % BB)), .long (lN (N / BB ^ i % BB))] g' Q := by
        generalize owe N M i = O at *
        simp (disch := omega) only [q_X11_take_55, q_X11_take_56, q_X11_take_57, q_X11_take_58, q_X11_take_60, q_X11_take_62, q_X11_take_63, q_X11_take_64, y_is, y_gf, y_pf, y_f0, y_f1, y_f3, y_nI, y_nK, y_nZ, y_nL, y_nR, y_k1i, y_k1r, y_k1l, y_k1n, y_tl, y_tn, y_s, y_ss, List.getElem?_cons_zero, List.getElem?_cons_succ, List.set_cons_zero, List.set_cons_succ, List.length_cons, List.length_nil, true_and, and_true, lit, litL, ls3_ge]
        have put : ∀ (o u : Nat) (x7 : Value), o = owe N M (i + 1) → (N - M) / BB ^ i % BB = u → lN (N / BB ^ i % BB) - lN (M / BB ^ i % BB) - lN O + lN o * lN 1073741824 = lN u → wp 142 b 72 [.ref 73, .int (nI s), .int (nI t), .long (lN O), .null, .int (nI i), .long (lN (N / BB ^ i % BB) - lN (M / BB ^ i % BB) - lN O), x7] [.long (lN o)] g' Q := by
          intro o u x7 q1 q2 q3
          simp (disch := omega) only [q_X11_take_72, q_X11_take_73, q_X11_take_74, q_X11_take_77, q_X11_take_79, q_X11_take_80, q_X11_take_81, q_X11_take_83, q_X11_take_84, q_X11_take_86, q_X11_take_87, q_X11_take_90, q_X11_take_91, q_X11_take_92, q_X11_take_93, q_X11_take_96, hM', hr'.1, y_is, y_gf, y_pf, y_f0, y_f1, y_f3, y_nI, y_nK, y_nZ, y_nL, y_nR, y_k1i, y_k1r, y_k1l, y_k1n, y_tl, y_tn, y_s, y_ss, List.getElem?_cons_zero, List.getElem?_cons_succ, List.set_cons_zero, List.set_cons_succ, List.length_cons, List.length_nil, true_and, and_true, y_lIn, y_lKn, y_lZn, y_lLn, y_wIn, y_wZn, y_wLn, lit, le_n, lt_n, eq_n, lit, litL, pk_mul, nI_add]
          rw [q3, q1]
          refine ih' _ _ _ _ (by rw [y_ne (by decide)]; exact hM') ⟨y_s, by rw [y_ne (by decide)]; exact hr'.2⟩ (fun j hj => by rw [uL_n (by omega)]; exact ho j hj) (fun j hj => ?_) (fun j hj hj2 => ?_) (hf.hs (by omega) (by omega))
          · by_cases q : j = i
            · subst q; rw [uL_s, q2]
            · rw [uL_n (by omega)]; exact hdd j (by omega)
          · rw [uL_n (by omega)]; exact h2 j (by omega) hj2
        refine brs (fun z => ?_) (fun z => ?_)
        · rw [if_neg (by omega)] at os od
          simp only [q_X11_take_71, y_is, y_gf, y_pf, y_f0, y_f1, y_f3, y_nI, y_nK, y_nZ, y_nL, y_nR, y_k1i, y_k1r, y_k1l, y_k1n, y_tl, y_tn, y_s, y_ss, List.getElem?_cons_zero, List.getElem?_cons_succ, List.set_cons_zero, List.set_cons_succ, List.length_cons, List.length_nil, true_and, and_true, litL]
          exact put 0 _ _ os.symm od (ls3_0 (by omega) (by omega) (by omega) z)
        · rw [if_pos (by omega)] at os od
          simp only [q_X11_take_67, q_X11_take_68, y_is, y_gf, y_pf, y_f0, y_f1, y_f3, y_nI, y_nK, y_nZ, y_nL, y_nR, y_k1i, y_k1r, y_k1l, y_k1n, y_tl, y_tn, y_s, y_ss, List.getElem?_cons_zero, List.getElem?_cons_succ, List.set_cons_zero, List.set_cons_succ, List.length_cons, List.length_nil, true_and, and_true, litL]
          exact put 1 _ _ os.symm od (ls3_1 (by omega) (by omega) ol)
      rw [q_X11_take_5]
      simp (disch := omega) only [q_X11_take_7, q_X11_take_8, q_X11_take_11, q_X11_take_12, q_X11_take_13, q_X11_take_16, q_X11_take_17, q_X11_take_20, q_X11_take_22, q_X11_take_23, q_X11_take_24, q_X11_take_26, q_X11_take_27, q_X11_take_28, q_X11_take_30, q_X11_take_31, q_X11_take_34, q_X11_take_35, q_X11_take_36, hM', hr'.1, hr'.2, hk, hk', e1, y_is, y_gf, y_pf, y_f0, y_f1, y_f3, y_nI, y_nK, y_nZ, y_nL, y_nR, y_k1i, y_k1r, y_k1l, y_k1n, y_tl, y_tn, y_s, y_ss, List.getElem?_cons_zero, List.getElem?_cons_succ, List.set_cons_zero, List.set_cons_succ, List.length_cons, List.length_nil, true_and, and_true, y_lIn, y_lKn, y_lZn, y_lLn, y_wIn, y_wZn, y_wLn, lit, le_n, lt_n, eq_n, lit, pk_mul, nI_add]
      refine br0 (by omega) (brs (fun z => ?_) (fun z => ?_))
      · rw [bb_low hN' z] at back
        simp only [q_X11_take_54, y_is, y_gf, y_pf, y_f0, y_f1, y_f3, y_nI, y_nK, y_nZ, y_nL, y_nR, y_k1i, y_k1r, y_k1l, y_k1n, y_tl, y_tn, y_s, y_ss, List.getElem?_cons_zero, List.getElem?_cons_succ, List.set_cons_zero, List.set_cons_succ, List.length_cons, List.length_nil, true_and, and_true]
        exact back
      · have e2 : F' (64 * t + i) = lN (M / BB ^ i % BB) := by rw [ho _ (by omega)]; exact hd' i (by omega)
        simp (disch := omega) only [q_X11_take_39, q_X11_take_40, q_X11_take_43, q_X11_take_45, q_X11_take_46, q_X11_take_47, q_X11_take_49, q_X11_take_50, q_X11_take_51, hM', hr'.1, e2, y_is, y_gf, y_pf, y_f0, y_f1, y_f3, y_nI, y_nK, y_nZ, y_nL, y_nR, y_k1i, y_k1r, y_k1l, y_k1n, y_tl, y_tn, y_s, y_ss, List.getElem?_cons_zero, List.getElem?_cons_succ, List.set_cons_zero, List.set_cons_succ, List.length_cons, List.length_nil, true_and, and_true, y_lIn, y_lKn, y_lZn, y_lLn, y_wIn, y_wZn, y_wLn, lit, le_n, lt_n, eq_n, lit, pk_mul, nI_add]
        exact back
  simp (disch := omega) only [q_X11_take_0, q_X11_take_1, q_X11_take_2, q_X11_take_3, y_is, y_gf, y_pf, y_f0, y_f1, y_f3, y_nI, y_nK, y_nZ, y_nL, y_nR, y_k1i, y_k1r, y_k1l, y_k1n, y_tl, y_tn, y_s, y_ss, List.getElem?_cons_zero, List.getElem?_cons_succ, List.set_cons_zero, List.set_cons_succ, List.length_cons, List.length_nil, true_and, and_true, lit, litL]
  have k0 := loop k 0 g F .null .null (by omega) hM hr (fun j hj => rfl) (fun i hi => by omega) (fun j _ hj => hd j hj) fr.rf
  rw [show owe N M 0 = 0 by unfold owe; simp [Nat.mod_one]] at k0
  exact k0
end MNUM2
