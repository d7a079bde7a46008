/-! ===== whether a by b is less than c by d ===== -/
theorem less_q {a b c d : Nat} (hb : 0 < b) (hd : 0 < d) (h : a / b ≠ c / d) : (a * d < c * b) ↔ a / b < c / d := by
  have e1 := Nat.div_add_mod a b
  have e2 := Nat.div_add_mod c d
  have m1 := Nat.mod_lt a hb
  have m2 := Nat.mod_lt c hd
  constructor
  · intro hl
    rcases Nat.lt_or_ge (a / b) (c / d) with z | z
    · exact z
    · exfalso
      have z' : c / d + 1 ≤ a / b := by omega
      have h1 : c < d * (c / d + 1) := by rw [Nat.mul_add]; omega
      have h2 : d * (c / d + 1) ≤ d * (a / b) := Nat.mul_le_mul_left _ z'
      have h3 : c * b ≤ d * (a / b) * b := Nat.mul_le_mul_right _ (by omega)
      have h4 : d * (a / b) * b ≤ a * d := by
        rw [show d * (a / b) * b = b * (a / b) * d by ac_rfl]
        exact Nat.mul_le_mul_right _ (by omega)
      omega
  · intro z
    have h1 : a < b * (a / b + 1) := by rw [Nat.mul_add]; omega
    have h2 : b * (a / b + 1) ≤ b * (c / d) := Nat.mul_le_mul_left _ z
    have h3 : a * d < b * (c / d) * d := Nat.mul_lt_mul_of_pos_right (by omega) hd
    have h4 : b * (c / d) * d ≤ c * b := by
      rw [show b * (c / d) * d = d * (c / d) * b by ac_rfl]
      exact Nat.mul_le_mul_right _ (by omega)
    omega
theorem less_r {a b c d : Nat} (h : a / b = c / d) : (a * d < c * b) ↔ (a % b) * d < (c % d) * b := by
  have e1 := Nat.div_add_mod a b
  have e2 := Nat.div_add_mod c d
  have h1 : a * d = b * (a / b) * d + (a % b) * d := by rw [← Nat.add_mul, e1]
  have h2 : c * b = d * (c / d) * b + (c % d) * b := by rw [← Nat.add_mul, e2]
  have h3 : b * (a / b) * d = d * (c / d) * b := by rw [h]; ac_rfl
  omega
section LESS
variable {bb : mzB} {Q : mzQ} {g : mzG}
theorem s_less_step {v0 v2 v4 v6 : Int64} {a b c d i : Nat} {x y : Value} {x' y' : Value} (ha : a < 9223372036854775808) (hb : b < 9223372036854775808) (hc : c < 9223372036854775808) (hd : d < 9223372036854775808) (hb0 : 0 < b) (hd0 : 0 < d) (hi : i < 200) (hend : Q (some (.int (if a * d < c * b then 1 else 0))) g) (hnext : 0 < a % b → 0 < c % d → ((a * d < c * b) ↔ d * (a % b) < b * (c % d)) → wp 7 bb 17 [.long v0, .null, .long v2, .null, .long v4, .null, .long v6, .null, .long (lN d), .null, .long (lN (c % d)), .null, .long (lN b), .null, .long (lN (a % b)), .null, .int (nI (i + 1)), .long (lN (a % b)), .null, .long (lN (c % d)), .null] [] g Q) : wp 7 bb 17 [.long v0, .null, .long v2, .null, .long v4, .null, .long v6, .null, .long (lN a), .null, .long (lN b), .null, .long (lN c), .null, .long (lN d), .null, .int (nI i), x, x', y, y'] [] g Q := by
  have q1 : a / b ≤ a := Nat.div_le_self _ _
  have q2 : c / d ≤ c := Nat.div_le_self _ _
  have m1 := Nat.mod_lt a hb0
  have m2 := Nat.mod_lt c hd0
  rw [q_X0_isLess_17]
  simp (disch := omega) only [q_X0_isLess_19, q_X0_isLess_22, q_X0_isLess_25, q_X0_isLess_27, q_X0_isLess_28, q_X0_isLess_29, q_X0_isLess_32, q_X0_isLess_34, q_X0_isLess_35, q_X0_isLess_36, q_X0_isLess_39, q_X0_isLess_41, q_X0_isLess_43, q_X0_isLess_44, q_X0_isLess_46, q_X0_isLess_48, q_X0_isLess_49, q_X0_isLess_50, y_is, y_gf, y_pf, y_f0, y_f1, y_f3, y_nI, y_nK, y_nZ, y_nL, y_nR, y_k1i, y_k1r, y_k1l, y_k1n, y_tl, y_tn, y_s, y_ss, List.getElem?_cons_zero, List.getElem?_cons_succ, List.set_cons_zero, List.set_cons_succ, List.length_cons, List.length_nil, true_and, and_true, lit, litL, le_n, lc_le, l_eq, l_div, lc_eq]
  refine br0 (by omega) (br0 (by omega) (br0 (by omega) ⟨by omega, by omega, ?_⟩))
  by_cases h : a / b = c / d
  · refine br1 h ?_
    simp (disch := omega) only [q_X0_isLess_73, q_X0_isLess_75, q_X0_isLess_77, q_X0_isLess_78, q_X0_isLess_80, q_X0_isLess_82, q_X0_isLess_84, q_X0_isLess_85, q_X0_isLess_87, q_X0_isLess_89, q_X0_isLess_90, q_X0_isLess_91, y_is, y_gf, y_pf, y_f0, y_f1, y_f3, y_nI, y_nK, y_nZ, y_nL, y_nR, y_k1i, y_k1r, y_k1l, y_k1n, y_tl, y_tn, y_s, y_ss, List.getElem?_cons_zero, List.getElem?_cons_succ, List.set_cons_zero, List.set_cons_succ, List.length_cons, List.length_nil, true_and, and_true, lit, litL, l_eq, l_div, l_rem2, l_rem3, lc_eq]
    refine ⟨by omega, by omega, ?_⟩
    have e := less_r h
    have last : (a % b = 0 ∨ c % d = 0) → wp 7 bb 101 [.long v0, .null, .long v2, .null, .long v4, .null, .long v6, .null, .long (lN a), .null, .long (lN b), .null, .long (lN c), .null, .long (lN d), .null, .int (nI i), .long (lN (a % b)), .null, .long (lN (c % d)), .null] [] g Q := by
      intro hz
      simp (disch := omega) only [q_X0_isLess_101, q_X0_isLess_103, q_X0_isLess_104, q_X0_isLess_105, y_is, y_gf, y_pf, y_f0, y_f1, y_f3, y_nI, y_nK, y_nZ, y_nL, y_nR, y_k1i, y_k1r, y_k1l, y_k1n, y_tl, y_tn, y_s, y_ss, List.getElem?_cons_zero, List.getElem?_cons_succ, List.set_cons_zero, List.set_cons_succ, List.length_cons, List.length_nil, true_and, and_true, lit, litL, lc_le]
      rcases Nat.eq_zero_or_pos (c % d) with z | z
      · refine br1 (by omega) ?_
        simp (disch := omega) only [q_X0_isLess_112, q_X0_isLess_113, y_is, y_gf, y_pf, y_f0, y_f1, y_f3, y_nI, y_nK, y_nZ, y_nL, y_nR, y_k1i, y_k1r, y_k1l, y_k1n, y_tl, y_tn, y_s, y_ss, List.getElem?_cons_zero, List.getElem?_cons_succ, List.set_cons_zero, List.set_cons_succ, List.length_cons, List.length_nil, true_and, and_true]
        rw [if_neg (by rw [e, z, Nat.zero_mul]; omega)] at hend
        exact ⟨by decide, hend⟩
      · refine br0 (by omega) ?_
        simp (disch := omega) only [q_X0_isLess_108, q_X0_isLess_109, q_X0_isLess_112, q_X0_isLess_113, y_is, y_gf, y_pf, y_f0, y_f1, y_f3, y_nI, y_nK, y_nZ, y_nL, y_nR, y_k1i, y_k1r, y_k1l, y_k1n, y_tl, y_tn, y_s, y_ss, List.getElem?_cons_zero, List.getElem?_cons_succ, List.set_cons_zero, List.set_cons_succ, List.length_cons, List.length_nil, true_and, and_true]
        have hz : a % b = 0 := by omega
        have : 0 < (c % d) * b := Nat.mul_pos z hb0
        rw [if_pos (by rw [e, hz, Nat.zero_mul]; exact this)] at hend
        exact ⟨by decide, hend⟩
    refine brs (fun z => last (Or.inl z)) (fun z => ?_)
    simp (disch := omega) only [q_X0_isLess_94, q_X0_isLess_96, q_X0_isLess_97, q_X0_isLess_98, y_is, y_gf, y_pf, y_f0, y_f1, y_f3, y_nI, y_nK, y_nZ, y_nL, y_nR, y_k1i, y_k1r, y_k1l, y_k1n, y_tl, y_tn, y_s, y_ss, List.getElem?_cons_zero, List.getElem?_cons_succ, List.set_cons_zero, List.set_cons_succ, List.length_cons, List.length_nil, true_and, and_true, lit, litL, lc_eq]
    by_cases y : c % d = 0
    · rw [bnt y]
      exact last (Or.inr y)
    · rw [bnf y]
      simp (disch := omega) only [q_X0_isLess_114, q_X0_isLess_116, q_X0_isLess_118, q_X0_isLess_120, q_X0_isLess_122, q_X0_isLess_124, q_X0_isLess_126, q_X0_isLess_128, q_X0_isLess_130, q_X0_isLess_133, y_is, y_gf, y_pf, y_f0, y_f1, y_f3, y_nI, y_nK, y_nZ, y_nL, y_nR, y_k1i, y_k1r, y_k1l, y_k1n, y_tl, y_tn, y_s, y_ss, List.getElem?_cons_zero, List.getElem?_cons_succ, List.set_cons_zero, List.set_cons_succ, List.length_cons, List.length_nil, true_and, and_true, lit, nI_add]
      exact hnext (by omega) (by omega) (by rw [e, Nat.mul_comm (a % b), Nat.mul_comm (c % d)])
  · refine br0 h ?_
    simp (disch := omega) only [q_X0_isLess_53, q_X0_isLess_55, q_X0_isLess_57, q_X0_isLess_58, q_X0_isLess_60, q_X0_isLess_62, q_X0_isLess_63, q_X0_isLess_64, y_is, y_gf, y_pf, y_f0, y_f1, y_f3, y_nI, y_nK, y_nZ, y_nL, y_nR, y_k1i, y_k1r, y_k1l, y_k1n, y_tl, y_tn, y_s, y_ss, List.getElem?_cons_zero, List.getElem?_cons_succ, List.set_cons_zero, List.set_cons_succ, List.length_cons, List.length_nil, true_and, and_true, lit, litL, l_eq, l_div, lc_ge]
    refine ⟨by omega, by omega, ?_⟩
    have e := less_q hb0 hd0 h
    refine brs (fun z => ?_) (fun z => ?_)
    · simp (disch := omega) only [q_X0_isLess_71, q_X0_isLess_72, y_is, y_gf, y_pf, y_f0, y_f1, y_f3, y_nI, y_nK, y_nZ, y_nL, y_nR, y_k1i, y_k1r, y_k1l, y_k1n, y_tl, y_tn, y_s, y_ss, List.getElem?_cons_zero, List.getElem?_cons_succ, List.set_cons_zero, List.set_cons_succ, List.length_cons, List.length_nil, true_and, and_true]
      rw [if_neg (by rw [e]; omega)] at hend
      exact ⟨by decide, hend⟩
    · simp (disch := omega) only [q_X0_isLess_67, q_X0_isLess_68, q_X0_isLess_71, q_X0_isLess_72, y_is, y_gf, y_pf, y_f0, y_f1, y_f3, y_nI, y_nK, y_nZ, y_nL, y_nR, y_k1i, y_k1r, y_k1l, y_k1n, y_tl, y_tn, y_s, y_ss, List.getElem?_cons_zero, List.getElem?_cons_succ, List.set_cons_zero, List.set_cons_succ, List.length_cons, List.length_nil, true_and, and_true]
      rw [if_pos (by rw [e]; omega)] at hend
      exact ⟨by decide, hend⟩
theorem s_less_loop {v0 v2 v4 v6 : Int64} {P : Prop} [Decidable P] (hend : Q (some (.int (if P then 1 else 0))) g) : ∀ (j a b c d i : Nat) (x y x' y' : Value), a < 9223372036854775808 → c < 9223372036854775808 → b < a → d < c → 0 < b → 0 < d → a * b < 2 ^ j → c * d < 2 ^ j → i + j ≤ 199 → (P ↔ a * d < c * b) → wp 7 bb 17 [.long v0, .null, .long v2, .null, .long v4, .null, .long v6, .null, .long (lN a), .null, .long (lN b), .null, .long (lN c), .null, .long (lN d), .null, .int (nI i), x, x', y, y'] [] g Q := by
  intro j
  induction j with
  | zero =>
    intro a b c d i x y x' y' ha hc hba hdc hb hd hu
    have := Nat.mul_pos (show 0 < a by omega) hb
    simp at hu; omega
  | succ j ih =>
    intro a b c d i x y x' y' ha hc hba hdc hb hd hu hv hi hP
    refine s_less_step ha (by omega) hc (by omega) hb hd (by omega) ?_ (fun h1 h2 h3 => ?_)
    · by_cases z : P
      · rw [if_pos z] at hend; rw [if_pos (hP.mp z)]; exact hend
      · rw [if_neg z] at hend; rw [if_neg (fun w => z (hP.mpr w))]; exact hend
    · have m1 := Nat.mod_lt a hb
      have m2 := Nat.mod_lt c hd
      have k1 : ∀ a b : Nat, b < a → 0 < b → 2 * (b * (a % b)) ≤ a * b := by
        intro a b h h0
        have e1 := Nat.div_add_mod a b
        have e2 : 0 < a / b := Nat.div_pos (by omega) h0
        have e3 : b * 1 ≤ b * (a / b) := Nat.mul_le_mul_left _ e2
        have e4 := Nat.mod_lt a h0
        have e5 : 2 * (a % b) ≤ a := by omega
        have e6 := Nat.mul_le_mul_left b e5
        rw [show b * (2 * (a % b)) = 2 * (b * (a % b)) by ac_rfl, Nat.mul_comm b a] at e6
        exact e6
      have u1 := k1 a b hba hb
      have u2 := k1 c d hdc hd
      rw [Nat.pow_succ] at hu hv
      exact ih d (c % d) b (a % b) (i + 1) _ _ _ _ (by omega) (by omega) m2 m1 h2 h1 (by omega) (by omega) (by omega) (hP.trans h3)
theorem s_less {a b c d : Nat} (hab : a < b) (hcd : c < d) (hb : b < 9223372036854775808) (hd : d < 9223372036854775808) (hQ : Q (some (.int (if a * d < c * b then 1 else 0))) g) : wp 7 bb 0 [.long (lN a), .null, .long (lN b), .null, .long (lN c), .null, .long (lN d), .null, .null, .null, .null, .null, .null, .null, .null, .null, .null, .null, .null, .null, .null] [] g Q := by
  simp (disch := omega) only [q_X0_isLess_0, q_X0_isLess_1, q_X0_isLess_3, q_X0_isLess_4, q_X0_isLess_6, q_X0_isLess_8, q_X0_isLess_10, q_X0_isLess_12, q_X0_isLess_14, q_X0_isLess_15, y_is, y_gf, y_pf, y_f0, y_f1, y_f3, y_nI, y_nK, y_nZ, y_nL, y_nR, y_k1i, y_k1r, y_k1l, y_k1n, y_tl, y_tn, y_s, y_ss, List.getElem?_cons_zero, List.getElem?_cons_succ, List.set_cons_zero, List.set_cons_succ, List.length_cons, List.length_nil, true_and, and_true, lit]
  refine s_less_step (by omega) hb (by omega) hd (by omega) (by omega) (by omega) hQ (fun h1 h2 h3 => ?_)
  have e1 : a % b = a := Nat.mod_eq_of_lt hab
  have e2 : c % d = c := Nat.mod_eq_of_lt hcd
  rw [e1] at h1 h3 ⊢
  rw [e2] at h2 h3 ⊢
  have b63 : ∀ x y : Nat, x < 9223372036854775808 → y < 9223372036854775808 → x * y < 2 ^ 126 := by
    intro x y hx hy
    refine Nat.lt_of_le_of_lt (Nat.mul_le_mul (Nat.le_of_lt_succ (show x < 9223372036854775807 + 1 from hx)) (Nat.le_of_lt_succ (show y < 9223372036854775807 + 1 from hy))) (by decide)
  exact s_less_loop hQ 126 d c b a (0 + 1) _ _ _ _ hd hb hcd hab h2 h1 (b63 _ _ hd (by omega)) (b63 _ _ hb (by omega)) (by omega) h3
end LESS
