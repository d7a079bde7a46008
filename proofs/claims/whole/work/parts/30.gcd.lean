/-! ===== divisors ===== -/
/-- a number of no divisors but itself -/
def pm (q : Nat) : Prop := 2 ≤ q ∧ ∀ d, 2 ≤ d → d ∣ q → d = q
theorem pm_ex : ∀ n, 2 ≤ n → ∃ q, pm q ∧ q ∣ n := by
  intro n
  induction n using Nat.strongRecOn with
  | _ n ih =>
    intro hn
    by_cases h : ∀ d, 2 ≤ d → d ∣ n → d = n
    · exact ⟨n, ⟨hn, h⟩, Nat.dvd_refl n⟩
    · have ⟨d, hd⟩ := Classical.not_forall.mp h
      have h2 : 2 ≤ d ∧ d ∣ n ∧ d ≠ n := by
        refine ⟨?_, ?_, ?_⟩
        · exact Classical.byContradiction fun q => hd (fun a => absurd a q)
        · exact Classical.byContradiction fun q => hd (fun _ a => absurd a q)
        · exact fun q => hd (fun _ _ => q)
      have hle := Nat.le_of_dvd (by omega) h2.2.1
      obtain ⟨q, hq, hqd⟩ := ih d (by omega) h2.1
      exact ⟨q, hq, Nat.dvd_trans hqd h2.2.1⟩
theorem pm_cop {q a : Nat} (hq : pm q) (h : ¬ q ∣ a) : Nat.gcd q a = 1 := by
  have h1 := Nat.gcd_dvd_left q a
  have h2 := Nat.gcd_dvd_right q a
  have h0 : 0 < Nat.gcd q a := Nat.gcd_pos_of_pos_left _ (by have := hq.1; omega)
  by_cases e : 2 ≤ Nat.gcd q a
  · rw [hq.2 _ e h1] at h2; exact absurd h2 h
  · omega
theorem pm_mul {q a c : Nat} (hq : pm q) (h : q ∣ a * c) : q ∣ a ∨ q ∣ c := by
  by_cases e : q ∣ a
  · exact Or.inl e
  · exact Or.inr (Nat.Coprime.dvd_of_dvd_mul_left (pm_cop hq e) h)
theorem pm_pow {q a : Nat} (hq : pm q) : ∀ n, q ∣ a ^ n → q ∣ a
  | 0, h => by
    rw [Nat.pow_zero] at h
    have := Nat.le_of_dvd (by decide) h
    have := hq.1
    omega
  | n + 1, h => by
    rw [Nat.pow_succ] at h
    rcases pm_mul hq h with h | h
    · exact pm_pow hq n h
    · exact h
theorem cop_of {A D : Nat} (hD : 0 < D) (h : ∀ q, pm q → q ∣ D → ¬ q ∣ A) : Nat.gcd A D = 1 := by
  have h0 : 0 < Nat.gcd A D := Nat.gcd_pos_of_pos_right _ hD
  by_cases e : 2 ≤ Nat.gcd A D
  · obtain ⟨q, hq, hd⟩ := pm_ex _ e
    exact absurd (Nat.dvd_trans hd (Nat.gcd_dvd_left A D)) (h q hq (Nat.dvd_trans hd (Nat.gcd_dvd_right A D)))
  · omega
theorem low_of {A D A' D' h : Nat} (h1 : A = A' * h) (h2 : D = D' * h) (hh : 0 < h) (hc : Nat.gcd A' D' = 1) : A / Nat.gcd A D = A' ∧ D / Nat.gcd A D = D' := by
  have e : Nat.gcd A D = h := by rw [h1, h2, Nat.gcd_mul_right, hc, Nat.one_mul]
  rw [e, h1, h2]
  exact ⟨Nat.mul_div_cancel _ hh, Nat.mul_div_cancel _ hh⟩
/-- how far Euclid goes in k steps -/
def fb : Nat → Nat
  | 0 => 1
  | 1 => 2
  | k + 2 => fb (k + 1) + fb k
theorem fb91 : 9223372036854775808 ≤ fb 91 := by decide +kernel
section GCD
variable {b : mzB} {g : mzG} {Q : mzQ}
theorem s_gcd_loop {h0 h2 : Int64} : ∀ (k a c i : Nat) (x y : Value), i + k ≤ 99 → c < a → a < 9223372036854775808 → c < fb k → Q (some (.long (lN (Nat.gcd a c)))) g → wp 21 b 9 [.long h0, .null, .long h2, .null, .long (lN a), .null, .long (lN c), .null, .int (nI i), x, y] [] g Q := by
  intro k
  induction k using Nat.strongRecOn with
  | _ k ih =>
    intro a c i x y hi hca ha hk hQ
    rw [q_X2_commonDivisor_9]
    by_cases hc : c = 0
    · subst hc
      simp (disch := omega) only [q_X2_commonDivisor_11, q_X2_commonDivisor_13, q_X2_commonDivisor_16, q_X2_commonDivisor_18, q_X2_commonDivisor_19, q_X2_commonDivisor_20, q_X2_commonDivisor_44, q_X2_commonDivisor_46, y_is, y_gf, y_pf, y_f0, y_f1, y_f3, y_nI, y_nK, y_nZ, y_nL, y_nR, y_k1i, y_k1r, y_k1l, y_k1n, y_tl, y_tn, y_s, y_ss, List.getElem?_cons_zero, List.getElem?_cons_succ, List.set_cons_zero, List.set_cons_succ, List.length_cons, List.length_nil, true_and, and_true, lit, litL, le_n, lc_eq]
      refine br0 (by omega) (br1 (by first | omega | trivial) ?_)
      rw [Nat.gcd_zero_right] at hQ; exact hQ
    · have hm := Nat.mod_lt a (show 0 < c by omega)
      simp (disch := omega) only [q_X2_commonDivisor_11, q_X2_commonDivisor_13, q_X2_commonDivisor_16, q_X2_commonDivisor_18, q_X2_commonDivisor_19, q_X2_commonDivisor_20, q_X2_commonDivisor_23, q_X2_commonDivisor_25, q_X2_commonDivisor_27, q_X2_commonDivisor_28, q_X2_commonDivisor_30, q_X2_commonDivisor_32, q_X2_commonDivisor_34, q_X2_commonDivisor_36, q_X2_commonDivisor_38, q_X2_commonDivisor_41, y_is, y_gf, y_pf, y_f0, y_f1, y_f3, y_nI, y_nK, y_nZ, y_nL, y_nR, y_k1i, y_k1r, y_k1l, y_k1n, y_tl, y_tn, y_s, y_ss, List.getElem?_cons_zero, List.getElem?_cons_succ, List.set_cons_zero, List.set_cons_succ, List.length_cons, List.length_nil, true_and, and_true, lit, litL, le_n, lc_eq, l_eq, l_div, l_rem2, nI_add]
      refine br0 (by omega) (br0 (by omega) ⟨by omega, ?_⟩)
      have hg : Nat.gcd a c = Nat.gcd c (a % c) := by rw [Nat.gcd_comm a c, Nat.gcd_rec c a, Nat.gcd_comm]
      rw [hg] at hQ
      match k, hk, ih, hi with
      | 0, hk, _, _ => exact absurd hk (by simp [fb]; omega)
      | 1, hk, ih, hi =>
        have hc1 : c = 1 := by simp [fb] at hk; omega
        subst hc1
        refine ih 0 (by omega) _ _ _ _ _ (by omega) hm (by omega) (by simp [fb, Nat.mod_one]) hQ
      | k + 2, hk, ih, hi =>
        by_cases hr : a % c < fb (k + 1)
        · exact ih (k + 1) (by omega) _ _ _ _ _ (by omega) hm (by omega) hr hQ
        · -- two steps at once
          have hr0 : 0 < a % c := by
            have : 0 < fb (k + 1) := by
              have : ∀ j, 0 < fb j := fun j => by
                induction j using Nat.strongRecOn with
                | _ j ih => match j, ih with
                  | 0, _ => decide
                  | 1, _ => decide
                  | j + 2, ih => have := ih (j + 1) (by omega); simp only [fb]; omega
              exact this _
            omega
          have hm2 := Nat.mod_lt c hr0
          rw [q_X2_commonDivisor_9]
          simp (disch := omega) only [q_X2_commonDivisor_11, q_X2_commonDivisor_13, q_X2_commonDivisor_16, q_X2_commonDivisor_18, q_X2_commonDivisor_19, q_X2_commonDivisor_20, q_X2_commonDivisor_23, q_X2_commonDivisor_25, q_X2_commonDivisor_27, q_X2_commonDivisor_28, q_X2_commonDivisor_30, q_X2_commonDivisor_32, q_X2_commonDivisor_34, q_X2_commonDivisor_36, q_X2_commonDivisor_38, q_X2_commonDivisor_41, y_is, y_gf, y_pf, y_f0, y_f1, y_f3, y_nI, y_nK, y_nZ, y_nL, y_nR, y_k1i, y_k1r, y_k1l, y_k1n, y_tl, y_tn, y_s, y_ss, List.getElem?_cons_zero, List.getElem?_cons_succ, List.set_cons_zero, List.set_cons_succ, List.length_cons, List.length_nil, true_and, and_true, lit, litL, le_n, lc_eq, l_eq, l_div, l_rem2, nI_add]
          refine br0 (by omega) (br0 (by omega) ⟨by omega, ?_⟩)
          have hg2 : Nat.gcd c (a % c) = Nat.gcd (a % c) (c % (a % c)) := by rw [Nat.gcd_comm c (a % c), Nat.gcd_rec (a % c) c, Nat.gcd_comm]
          rw [hg2] at hQ
          refine ih k (by omega) _ _ _ _ _ (by omega) hm2 (by omega) ?_ hQ
          have h3 : c % (a % c) ≤ c - a % c := by
            have := Nat.mod_eq_sub_mod (Nat.le_of_lt hm)
            rw [this]; exact Nat.mod_le _ _
          have : fb (k + 2) = fb (k + 1) + fb k := rfl
          omega
theorem s_gcd {a c : Nat} (ha : a < 9223372036854775808) (hc : c < 9223372036854775808) (hQ : Q (some (.long (lN (Nat.gcd a c)))) g) : wp 21 b 0 [.long (lN a), .null, .long (lN c), .null, .null, .null, .null, .null, .null, .null, .null] [] g Q := by
  simp only [q_X2_commonDivisor_0, q_X2_commonDivisor_1, q_X2_commonDivisor_3, q_X2_commonDivisor_4, q_X2_commonDivisor_6, q_X2_commonDivisor_7, y_is, y_gf, y_pf, y_f0, y_f1, y_f3, y_nI, y_nK, y_nZ, y_nL, y_nR, y_k1i, y_k1r, y_k1l, y_k1n, y_tl, y_tn, y_s, y_ss, List.getElem?_cons_zero, List.getElem?_cons_succ, List.set_cons_zero, List.set_cons_succ, List.length_cons, List.length_nil, true_and, and_true]
  by_cases h0 : c = 0
  · subst h0
    rw [q_X2_commonDivisor_9]
    simp (disch := omega) only [q_X2_commonDivisor_11, q_X2_commonDivisor_13, q_X2_commonDivisor_16, q_X2_commonDivisor_18, q_X2_commonDivisor_19, q_X2_commonDivisor_20, q_X2_commonDivisor_44, q_X2_commonDivisor_46, y_is, y_gf, y_pf, y_f0, y_f1, y_f3, y_nI, y_nK, y_nZ, y_nL, y_nR, y_k1i, y_k1r, y_k1l, y_k1n, y_tl, y_tn, y_s, y_ss, List.getElem?_cons_zero, List.getElem?_cons_succ, List.set_cons_zero, List.set_cons_succ, List.length_cons, List.length_nil, true_and, and_true, lit, litL, le_n, lc_eq]
    refine br0 (by omega) (br1 (by first | omega | trivial) ?_)
    rw [Nat.gcd_zero_right] at hQ; exact hQ
  · have hm := Nat.mod_lt a (show 0 < c by omega)
    rw [q_X2_commonDivisor_9]
    simp (disch := omega) only [q_X2_commonDivisor_11, q_X2_commonDivisor_13, q_X2_commonDivisor_16, q_X2_commonDivisor_18, q_X2_commonDivisor_19, q_X2_commonDivisor_20, q_X2_commonDivisor_23, q_X2_commonDivisor_25, q_X2_commonDivisor_27, q_X2_commonDivisor_28, q_X2_commonDivisor_30, q_X2_commonDivisor_32, q_X2_commonDivisor_34, q_X2_commonDivisor_36, q_X2_commonDivisor_38, q_X2_commonDivisor_41, y_is, y_gf, y_pf, y_f0, y_f1, y_f3, y_nI, y_nK, y_nZ, y_nL, y_nR, y_k1i, y_k1r, y_k1l, y_k1n, y_tl, y_tn, y_s, y_ss, List.getElem?_cons_zero, List.getElem?_cons_succ, List.set_cons_zero, List.set_cons_succ, List.length_cons, List.length_nil, true_and, and_true, lit, litL, le_n, lc_eq, l_eq, l_div, l_rem2, nI_add]
    refine br0 (by omega) (br0 (by omega) ⟨by omega, ?_⟩)
    have hg : Nat.gcd a c = Nat.gcd c (a % c) := by rw [Nat.gcd_comm a c, Nat.gcd_rec c a, Nat.gcd_comm]
    rw [hg] at hQ
    exact s_gcd_loop 91 c (a % c) (0 + 1) _ _ (by omega) hm hc (by have := fb91; omega) hQ
end GCD
