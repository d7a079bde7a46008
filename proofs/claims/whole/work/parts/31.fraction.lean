/-! ===== Fraction ===== -/
/-- the Fraction at k is N by D -/
def ft (g : mzG) (k N D : Nat) : Prop := g.2 k = ob 2 [.ref (k + 1), .ref (k + 3)] ∧ nv g (k + 1) N ∧ nv g (k + 3) D
theorem ft.kept {g g' : mzG} {k N D : Nat} (h : ft g k N D) (hk : ∀ j, k ≤ j → j < k + 5 → g'.2 j = g.2 j) : ft g' k N D := ⟨(hk k (by omega) (by omega)).trans h.1, h.2.1.kept (hk _ (by omega) (by omega)) (hk _ (by omega) (by omega)), h.2.2.kept (hk _ (by omega) (by omega)) (hk _ (by omega) (by omega))⟩
theorem ft.frm {g g' : mzG} {k N D lo hi : Nat} (h : ft g k N D) (hf : fr g g' lo hi) (ha : k + 5 ≤ lo ∨ hi ≤ k) : ft g' k N D := h.kept (fun j h1 h2 => hf.2 j (by omega))
theorem ft.up {g g' : mzG} {k N D M : Nat} (h : ft g k N D) (hM : nv g' (k + 1) M) (hf : fr g g' (k + 1) (k + 3)) : ft g' k M D := ⟨(hf.2 k (by omega)).trans h.1, hM, h.2.2.fr hf (by omega)⟩
theorem ft.dn {g g' : mzG} {k N D M : Nat} (h : ft g k N D) (hM : nv g' (k + 3) M) (hf : fr g g' (k + 3) (k + 5)) : ft g' k N M := ⟨(hf.2 k (by omega)).trans h.1, h.2.1.fr hf (by omega), hM⟩
theorem nv.is {g : mzG} {k N : Nat} (h : nv g k N) : mz_is (g.2 k) 3 = True := by
  obtain ⟨f, z, h1, -⟩ := h
  rw [h1.1]; exact y_is
section FRACTION
variable {b : mzB} {Q : mzQ} {k : Nat}
theorem s_fset {g : mzG} {N0 D0 a c : Nat} (hF : ft g k N0 D0) (ha : a < 9223372036854775808) (hc : c < 9223372036854775808) (hc0 : 0 < c) (hQ : ∀ g', ft g' k (a / Nat.gcd a c) (c / Nat.gcd a c) → fr g g' (k + 1) (k + 5) → Q none g') : wp 18 b 0 [.ref k, .long (lN a), .null, .long (lN c), .null, .null, .null] [] g Q := by
  simp only [q_X2_set_0, q_X2_set_1, q_X2_set_2, hF.1, y_is, y_gf, y_pf, y_f0, y_f1, y_f3, y_nI, y_nK, y_nZ, y_nL, y_nR, y_k1i, y_k1r, y_k1l, y_k1n, y_tl, y_tn, y_s, y_ss, List.getElem?_cons_zero, List.getElem?_cons_succ, List.set_cons_zero, List.set_cons_succ, List.length_cons, List.length_nil, true_and, and_true]
  refine s_gcd ha hc ?_
  have hgp : 0 < Nat.gcd a c := Nat.gcd_pos_of_pos_right _ hc0
  have hgl : Nat.gcd a c ≤ c := Nat.le_of_dvd hc0 (Nat.gcd_dvd_right a c)
  simp (disch := omega) only [q_X2_set_5, q_X2_set_7, q_X2_set_9, q_X2_set_10, q_X2_set_11, y_is, y_gf, y_pf, y_f0, y_f1, y_f3, y_nI, y_nK, y_nZ, y_nL, y_nR, y_k1i, y_k1r, y_k1l, y_k1n, y_tl, y_tn, y_s, y_ss, List.getElem?_cons_zero, List.getElem?_cons_succ, List.set_cons_zero, List.set_cons_succ, List.length_cons, List.length_nil, true_and, and_true, lit, litL, lc_ge]
  refine br1 (by omega) ?_
  simp (disch := omega) only [q_X2_set_15, q_X2_set_16, q_X2_set_19, q_X2_set_20, q_X2_set_22, q_X2_set_23, hF.1, y_is, y_gf, y_pf, y_f0, y_f1, y_f3, y_nI, y_nK, y_nZ, y_nL, y_nR, y_k1i, y_k1r, y_k1l, y_k1n, y_tl, y_tn, y_s, y_ss, List.getElem?_cons_zero, List.getElem?_cons_succ, List.set_cons_zero, List.set_cons_succ, List.length_cons, List.length_nil, true_and, and_true, l_eq, l_div, litL, hF.2.1.is]
  refine ⟨by omega, s_set hF.2.1 (Nat.lt_of_le_of_lt (Nat.div_le_self _ _) ha) (fun g1 hN1 hf1 => ?_)⟩
  have hF1 := hF.up hN1 hf1
  simp (disch := omega) only [q_X2_set_26, q_X2_set_27, q_X2_set_30, q_X2_set_31, q_X2_set_33, q_X2_set_34, hF1.1, y_is, y_gf, y_pf, y_f0, y_f1, y_f3, y_nI, y_nK, y_nZ, y_nL, y_nR, y_k1i, y_k1r, y_k1l, y_k1n, y_tl, y_tn, y_s, y_ss, List.getElem?_cons_zero, List.getElem?_cons_succ, List.set_cons_zero, List.set_cons_succ, List.length_cons, List.length_nil, true_and, and_true, l_eq, l_div, litL, hF1.2.2.is]
  refine ⟨by omega, s_set hF1.2.2 (Nat.lt_of_le_of_lt (Nat.div_le_self _ _) hc) (fun g2 hN2 hf2 => ?_)⟩
  simp only [q_X2_set_37, y_is, y_gf, y_pf, y_f0, y_f1, y_f3, y_nI, y_nK, y_nZ, y_nL, y_nR, y_k1i, y_k1r, y_k1l, y_k1n, y_tl, y_tn, y_s, y_ss, List.getElem?_cons_zero, List.getElem?_cons_succ, List.set_cons_zero, List.set_cons_succ, List.length_cons, List.length_nil, true_and, and_true]
  exact hQ g2 (hF1.dn hN2 hf2) ((hf1.wide (by omega) (by omega)).tr (hf2.wide (by omega) (by omega)))
/-- p is taken out of both as often as it goes -/
theorem s_cancel_loop (g0 : mzG) {p A D : Nat} (hp : 2 ≤ p) (hp2 : p < 2147483648) (hQ : ∀ g' A' D' e, ft g' k A' D' → A = A' * p ^ e → D = D' * p ^ e → ¬ (p ∣ A' ∧ p ∣ D') → fr g0 g' (k + 1) (k + 5) → Q none g') : ∀ (d i : Nat) (g : mzG) (A1 D1 e : Nat), i + d = 480 → A1 < 2 ^ d → 0 < A1 → ft g k A1 D1 → A = A1 * p ^ e → D = D1 * p ^ e → fr g0 g (k + 1) (k + 5) → wp 20 b 2 [.ref k, .int (nI p), .int (nI i)] [] g Q := by
  intro d
  induction d with
  | zero =>
    intro i g A1 D1 e hi hA h0
    simp at hA; omega
  | succ d ih =>
    intro i g A1 D1 e hi hA h0 hF hA1 hD1 hf
    rw [q_X2_cancel_2]
    simp (disch := omega) only [q_X2_cancel_3, q_X2_cancel_6, q_X2_cancel_9, q_X2_cancel_10, q_X2_cancel_13, q_X2_cancel_14, hF.1, y_is, y_gf, y_pf, y_f0, y_f1, y_f3, y_nI, y_nK, y_nZ, y_nL, y_nR, y_k1i, y_k1r, y_k1l, y_k1n, y_tl, y_tn, y_s, y_ss, List.getElem?_cons_zero, List.getElem?_cons_succ, List.set_cons_zero, List.set_cons_succ, List.length_cons, List.length_nil, true_and, and_true, lit, le_n, hF.2.1.is]
    refine br0 (by omega) (s_isMult hF.2.1 hp2 (by omega) ?_)
    by_cases h1 : A1 % p = 0
    · rw [if_pos h1]
      simp only [q_X2_cancel_17, q_X2_cancel_20, q_X2_cancel_21, q_X2_cancel_24, q_X2_cancel_25, hF.1, y_is, y_gf, y_pf, y_f0, y_f1, y_f3, y_nI, y_nK, y_nZ, y_nL, y_nR, y_k1i, y_k1r, y_k1l, y_k1n, y_tl, y_tn, y_s, y_ss, List.getElem?_cons_zero, List.getElem?_cons_succ, List.set_cons_zero, List.set_cons_succ, List.length_cons, List.length_nil, true_and, and_true, hF.2.2.is]
      refine br0 (by decide) (s_isMult hF.2.2 hp2 (by omega) ?_)
      by_cases h2 : D1 % p = 0
      · rw [if_pos h2]
        simp only [q_X2_cancel_28, y_is, y_gf, y_pf, y_f0, y_f1, y_f3, y_nI, y_nK, y_nZ, y_nL, y_nR, y_k1i, y_k1r, y_k1l, y_k1n, y_tl, y_tn, y_s, y_ss, List.getElem?_cons_zero, List.getElem?_cons_succ, List.set_cons_zero, List.set_cons_succ, List.length_cons, List.length_nil, true_and, and_true]
        refine br1 (by decide) ?_
        simp only [q_X2_cancel_32, q_X2_cancel_33, q_X2_cancel_36, q_X2_cancel_37, hF.1, y_is, y_gf, y_pf, y_f0, y_f1, y_f3, y_nI, y_nK, y_nZ, y_nL, y_nR, y_k1i, y_k1r, y_k1l, y_k1n, y_tl, y_tn, y_s, y_ss, List.getElem?_cons_zero, List.getElem?_cons_succ, List.set_cons_zero, List.set_cons_succ, List.length_cons, List.length_nil, true_and, and_true, hF.2.1.is]
        refine s_divide hF.2.1 hp2 (by omega) (fun g1 hN1 hf1 => ?_)
        have hF1 := hF.up hN1 hf1
        simp only [q_X2_cancel_40, q_X2_cancel_41, q_X2_cancel_44, q_X2_cancel_45, hF1.1, y_is, y_gf, y_pf, y_f0, y_f1, y_f3, y_nI, y_nK, y_nZ, y_nL, y_nR, y_k1i, y_k1r, y_k1l, y_k1n, y_tl, y_tn, y_s, y_ss, List.getElem?_cons_zero, List.getElem?_cons_succ, List.set_cons_zero, List.set_cons_succ, List.length_cons, List.length_nil, true_and, and_true, hF1.2.2.is]
        refine s_divide hF1.2.2 hp2 (by omega) (fun g2 hN2 hf2 => ?_)
        have hF2 := hF1.dn hN2 hf2
        simp (disch := omega) only [q_X2_cancel_48, q_X2_cancel_51, y_is, y_gf, y_pf, y_f0, y_f1, y_f3, y_nI, y_nK, y_nZ, y_nL, y_nR, y_k1i, y_k1r, y_k1l, y_k1n, y_tl, y_tn, y_s, y_ss, List.getElem?_cons_zero, List.getElem?_cons_succ, List.set_cons_zero, List.set_cons_succ, List.length_cons, List.length_nil, true_and, and_true, lit, nI_add]
        have e1 : A1 = A1 / p * p := (Nat.div_mul_cancel (Nat.dvd_of_mod_eq_zero h1)).symm
        have e2 : D1 = D1 / p * p := (Nat.div_mul_cancel (Nat.dvd_of_mod_eq_zero h2)).symm
        refine ih (i + 1) g2 (A1 / p) (D1 / p) (e + 1) (by omega) ?_ ?_ hF2 ?_ ?_ (hf.tr ((hf1.wide (by omega) (by omega)).tr (hf2.wide (by omega) (by omega))))
        · rw [Nat.div_lt_iff_lt_mul (by omega)]
          rw [Nat.pow_succ] at hA
          exact Nat.lt_of_lt_of_le hA (Nat.mul_le_mul_left _ hp)
        · exact Nat.div_pos (Nat.le_of_dvd h0 (Nat.dvd_of_mod_eq_zero h1)) (by omega)
        · rw [hA1, Nat.pow_succ, Nat.mul_comm (p ^ e), ← Nat.mul_assoc, ← e1]
        · rw [hD1, Nat.pow_succ, Nat.mul_comm (p ^ e), ← Nat.mul_assoc, ← e2]
      · rw [if_neg h2]
        simp only [q_X2_cancel_28, q_X2_cancel_31, y_is, y_gf, y_pf, y_f0, y_f1, y_f3, y_nI, y_nK, y_nZ, y_nL, y_nR, y_k1i, y_k1r, y_k1l, y_k1n, y_tl, y_tn, y_s, y_ss, List.getElem?_cons_zero, List.getElem?_cons_succ, List.set_cons_zero, List.set_cons_succ, List.length_cons, List.length_nil, true_and, and_true]
        exact br0 (by decide) (hQ g A1 D1 e hF hA1 hD1 (fun q => h2 (Nat.mod_eq_zero_of_dvd q.2)) hf)
    · rw [if_neg h1]
      simp only [q_X2_cancel_17, q_X2_cancel_31, y_is, y_gf, y_pf, y_f0, y_f1, y_f3, y_nI, y_nK, y_nZ, y_nL, y_nR, y_k1i, y_k1r, y_k1l, y_k1n, y_tl, y_tn, y_s, y_ss, List.getElem?_cons_zero, List.getElem?_cons_succ, List.set_cons_zero, List.set_cons_succ, List.length_cons, List.length_nil, true_and, and_true]
      exact br1 (by decide) (hQ g A1 D1 e hF hA1 hD1 (fun q => h1 (Nat.mod_eq_zero_of_dvd q.1)) hf)
/-- p is taken out of the rest -/
theorem s_strip_loop {g : mzG} {p R : Nat} {x2 x3 : Int32} {j : Nat} (hp : 2 ≤ p) (hp2 : p < 1000000) (hQ : ∀ r e, 0 < r → ¬ p ∣ r → R = r * p ^ e → wp 19 b 82 [.ref k, .ref j, .int x2, .int x3, .int (nI r), .int (nI p)] [] g Q) : ∀ (r e : Nat), 0 < r → r < 1000000 → R = r * p ^ e → wp 19 b 58 [.ref k, .ref j, .int x2, .int x3, .int (nI r), .int (nI p)] [] g Q := by
  intro r
  induction r using Nat.strongRecOn with
  | _ r ih =>
    intro e h0 hr hR
    rw [q_X2_setOverPower_58]
    simp (disch := omega) only [q_X2_setOverPower_60, q_X2_setOverPower_61, y_is, y_gf, y_pf, y_f0, y_f1, y_f3, y_nI, y_nK, y_nZ, y_nL, y_nR, y_k1i, y_k1r, y_k1l, y_k1n, y_tl, y_tn, y_s, y_ss, List.getElem?_cons_zero, List.getElem?_cons_succ, List.set_cons_zero, List.set_cons_succ, List.length_cons, List.length_nil, true_and, and_true, lit, le_n]
    refine brs (fun c => ?_) (fun c => ?_)
    · have hr1 : r = 1 := by omega
      subst hr1
      exact hQ 1 e (by omega) (fun q => by have := Nat.le_of_dvd (by decide) q; omega) hR
    · simp (disch := omega) only [q_X2_setOverPower_64, q_X2_setOverPower_66, q_X2_setOverPower_68, q_X2_setOverPower_69, y_is, y_gf, y_pf, y_f0, y_f1, y_f3, y_nI, y_nK, y_nZ, y_nL, y_nR, y_k1i, y_k1r, y_k1l, y_k1n, y_tl, y_tn, y_s, y_ss, List.getElem?_cons_zero, List.getElem?_cons_succ, List.set_cons_zero, List.set_cons_succ, List.length_cons, List.length_nil, true_and, and_true, lit, eq_n, pk_div, i_rem2]
      refine ⟨by omega, ?_⟩
      have hm := Nat.mod_lt r (show 0 < p by omega)
      simp (disch := omega) only [eq_n]
      refine brs (fun q => ?_) (fun q => ?_)
      · exact hQ r e h0 (fun z => q (Nat.mod_eq_zero_of_dvd z)) hR
      · have q : r % p = 0 := Classical.not_not.mp q
        simp (disch := omega) only [q_X2_setOverPower_72, q_X2_setOverPower_74, q_X2_setOverPower_76, q_X2_setOverPower_77, q_X2_setOverPower_79, y_is, y_gf, y_pf, y_f0, y_f1, y_f3, y_nI, y_nK, y_nZ, y_nL, y_nR, y_k1i, y_k1r, y_k1l, y_k1n, y_tl, y_tn, y_s, y_ss, List.getElem?_cons_zero, List.getElem?_cons_succ, List.set_cons_zero, List.set_cons_succ, List.length_cons, List.length_nil, true_and, and_true, lit, eq_n, pk_div]
        refine ⟨by omega, ?_⟩
        have hlt : r / p < r := Nat.div_lt_self h0 hp
        have e1 : r = r / p * p := (Nat.div_mul_cancel (Nat.dvd_of_mod_eq_zero q)).symm
        refine ih (r / p) hlt (e + 1) (Nat.div_pos (Nat.le_of_dvd h0 (Nat.dvd_of_mod_eq_zero q)) (by omega)) (by omega) ?_
        rw [hR, Nat.pow_succ, Nat.mul_comm (p ^ e), ← Nat.mul_assoc, ← e1]
theorem s_over_loop (g0 : mzG) {A D bs j : Nat} {x2 x3 : Int32} (hA0 : 0 < A) (hA : A < 2 ^ 480) (hD0 : 0 < D) (hbs : bs < 900) (hQ : ∀ g', ft g' k (A / Nat.gcd A D) (D / Nat.gcd A D) → fr g0 g' (k + 1) (k + 5) → Q none g') : ∀ (d p : Nat) (g : mzG) (A1 D1 h r : Nat), p + d = bs + 1 → 2 ≤ p → 0 < r → r ≤ bs → ft g k A1 D1 → A = A1 * h → D = D1 * h → 0 < h → (∀ q, 2 ≤ q → q < p → ¬ q ∣ r) → (∀ q, pm q → q ∣ D1 → q ∣ r ∨ ¬ q ∣ A1) → fr g0 g (k + 1) (k + 5) → wp 19 b 37 [.ref k, .ref j, .int x2, .int x3, .int (nI r), .int (nI p)] [] g Q := by
  -- the end
  have fin : ∀ (p : Nat) (g : mzG) (A1 D1 h r : Nat), r < p → 0 < r → ft g k A1 D1 → A = A1 * h → D = D1 * h → 0 < h → (∀ q, 2 ≤ q → q < p → ¬ q ∣ r) → (∀ q, pm q → q ∣ D1 → q ∣ r ∨ ¬ q ∣ A1) → fr g0 g (k + 1) (k + 5) → Q none g := by
    intro p g A1 D1 h r hrp hr hF e1 e2 hh i2 i1 hf
    have hr1 : r = 1 := by
      by_cases q : 2 ≤ r
      · exact absurd (Nat.dvd_refl r) (i2 r q hrp)
      · omega
    have hD1 : 0 < D1 := by
      rcases Nat.eq_zero_or_pos D1 with q | q
      · rw [q, Nat.zero_mul] at e2; omega
      · exact q
    have hc : Nat.gcd A1 D1 = 1 := cop_of hD1 (fun q hq hd => by
      rcases i1 q hq hd with z | z
      · rw [hr1] at z
        have := Nat.le_of_dvd (by decide) z
        have := hq.1
        omega
      · exact z)
    obtain ⟨l1, l2⟩ := low_of e1 e2 hh hc
    exact hQ g (by rw [l1, l2]; exact hF) hf
  intro d
  induction d with
  | zero =>
    intro p g A1 D1 h r hp h2 hr hrb hF e1 e2 hh i2 i1 hf
    rw [q_X2_setOverPower_37]
    simp (disch := omega) only [q_X2_setOverPower_39, q_X2_setOverPower_41, q_X2_setOverPower_88, y_is, y_gf, y_pf, y_f0, y_f1, y_f3, y_nI, y_nK, y_nZ, y_nL, y_nR, y_k1i, y_k1r, y_k1l, y_k1n, y_tl, y_tn, y_s, y_ss, List.getElem?_cons_zero, List.getElem?_cons_succ, List.set_cons_zero, List.set_cons_succ, List.length_cons, List.length_nil, true_and, and_true, lt_n]
    exact br1 (by omega) (fin p g A1 D1 h r (by omega) hr hF e1 e2 hh i2 i1 hf)
  | succ d ih =>
    intro p g A1 D1 h r hp h2 hr hrb hF e1 e2 hh i2 i1 hf
    rw [q_X2_setOverPower_37]
    simp (disch := omega) only [q_X2_setOverPower_39, q_X2_setOverPower_41, q_X2_setOverPower_88, y_is, y_gf, y_pf, y_f0, y_f1, y_f3, y_nI, y_nK, y_nZ, y_nL, y_nR, y_k1i, y_k1r, y_k1l, y_k1n, y_tl, y_tn, y_s, y_ss, List.getElem?_cons_zero, List.getElem?_cons_succ, List.set_cons_zero, List.set_cons_succ, List.length_cons, List.length_nil, true_and, and_true, lt_n]
    refine brs (fun c => fin p g A1 D1 h r (by omega) hr hF e1 e2 hh i2 i1 hf) (fun c => ?_)
    have hm := Nat.mod_lt r (show 0 < p by omega)
    simp (disch := omega) only [q_X2_setOverPower_44, q_X2_setOverPower_46, q_X2_setOverPower_48, q_X2_setOverPower_49, y_is, y_gf, y_pf, y_f0, y_f1, y_f3, y_nI, y_nK, y_nZ, y_nL, y_nR, y_k1i, y_k1r, y_k1l, y_k1n, y_tl, y_tn, y_s, y_ss, List.getElem?_cons_zero, List.getElem?_cons_succ, List.set_cons_zero, List.set_cons_succ, List.length_cons, List.length_nil, true_and, and_true, lit, eq_n, pk_div, i_rem2]
    refine ⟨by omega, ?_⟩
    refine brs (fun q => ?_) (fun q => ?_)
    · -- p does not divide the rest
      refine s_strip_loop (R := r) h2 (by omega) (fun r' e hr' hnd hR => ?_) r 0 hr (by omega) (by simp)
      have he : e = 0 := by
        rcases Nat.eq_zero_or_pos e with z | z
        · exact z
        · exfalso
          apply q
          rw [hR, show e = (e - 1) + 1 by omega, Nat.pow_succ, ← Nat.mul_assoc]
          exact Nat.mul_mod_left _ _
      subst he
      rw [Nat.pow_zero, Nat.mul_one] at hR
      subst hR
      simp (disch := omega) only [q_X2_setOverPower_82, q_X2_setOverPower_85, y_is, y_gf, y_pf, y_f0, y_f1, y_f3, y_nI, y_nK, y_nZ, y_nL, y_nR, y_k1i, y_k1r, y_k1l, y_k1n, y_tl, y_tn, y_s, y_ss, List.getElem?_cons_zero, List.getElem?_cons_succ, List.set_cons_zero, List.set_cons_succ, List.length_cons, List.length_nil, true_and, and_true, lit, nI_add]
      refine ih (p + 1) g A1 D1 h r (by omega) (by omega) hr hrb hF e1 e2 hh (fun z z1 z2 => ?_) i1 hf
      by_cases ez : z = p
      · rw [ez]; exact fun w => q (Nat.mod_eq_zero_of_dvd w)
      · exact i2 z z1 (by omega)
    · -- it does
      have q : r % p = 0 := Classical.not_not.mp q
      have hpd : p ∣ r := Nat.dvd_of_mod_eq_zero q
      have hpm : pm p := ⟨h2, fun z z1 z2 => by
        have := Nat.le_of_dvd (by omega) z2
        by_cases ez : z = p
        · exact ez
        · exact absurd (Nat.dvd_trans z2 hpd) (i2 z z1 (by omega))⟩
      have hA1 : 0 < A1 := by
        rcases Nat.eq_zero_or_pos A1 with z | z
        · rw [z, Nat.zero_mul] at e1; omega
        · exact z
      have hA1l : A1 < 2 ^ 480 := by
        refine Nat.lt_of_le_of_lt ?_ hA
        rw [e1]; exact Nat.le_mul_of_pos_right _ hh
      simp (disch := omega) only [q_X2_setOverPower_52, q_X2_setOverPower_53, q_X2_setOverPower_55, hF.1, y_is, y_gf, y_pf, y_f0, y_f1, y_f3, y_nI, y_nK, y_nZ, y_nL, y_nR, y_k1i, y_k1r, y_k1l, y_k1n, y_tl, y_tn, y_s, y_ss, List.getElem?_cons_zero, List.getElem?_cons_succ, List.set_cons_zero, List.set_cons_succ, List.length_cons, List.length_nil, true_and, and_true]
      simp only [q_X2_cancel_0, q_X2_cancel_1, y_is, y_gf, y_pf, y_f0, y_f1, y_f3, y_nI, y_nK, y_nZ, y_nL, y_nR, y_k1i, y_k1r, y_k1l, y_k1n, y_tl, y_tn, y_s, y_ss, List.getElem?_cons_zero, List.getElem?_cons_succ, List.set_cons_zero, List.set_cons_succ, List.length_cons, List.length_nil, true_and, and_true]
      refine s_cancel_loop g (A := A1) (D := D1) h2 (by omega) (fun g' A' D' e hF' a1 a2 hnb hf' => ?_) 480 0 g A1 D1 0 (by omega) hA1l hA1 hF (by simp) (by simp) fr.rf
      refine s_strip_loop (R := r) h2 (by omega) (fun r' e' hr' hnd hR => ?_) r 0 hr (by omega) (by simp)
      simp (disch := omega) only [q_X2_setOverPower_82, q_X2_setOverPower_85, y_is, y_gf, y_pf, y_f0, y_f1, y_f3, y_nI, y_nK, y_nZ, y_nL, y_nR, y_k1i, y_k1r, y_k1l, y_k1n, y_tl, y_tn, y_s, y_ss, List.getElem?_cons_zero, List.getElem?_cons_succ, List.set_cons_zero, List.set_cons_succ, List.length_cons, List.length_nil, true_and, and_true, lit, nI_add]
      have hpe : 0 < p ^ e := Nat.pow_pos (by omega)
      have hpe' : 0 < p ^ e' := Nat.pow_pos (by omega)
      have hr'r : r' ∣ r := ⟨p ^ e', hR⟩
      refine ih (p + 1) g' A' D' (p ^ e * h) r' (by omega) (by omega) hr' (by have := Nat.le_of_dvd hr hr'r; omega) hF' ?_ ?_ (Nat.mul_pos hpe hh) (fun z z1 z2 => ?_) (fun z hz hzd => ?_) (hf.tr hf')
      · rw [e1, a1, Nat.mul_assoc]
      · rw [e2, a2, Nat.mul_assoc]
      · by_cases ez : z = p
        · rw [ez]; exact hnd
        · exact fun w => i2 z z1 (by omega) (Nat.dvd_trans w hr'r)
      · by_cases ez : z = p
        · right; rw [ez] at hzd ⊢; exact fun w => hnb ⟨w, hzd⟩
        · have hzD : z ∣ D1 := by rw [a2]; exact Nat.dvd_mul_right_of_dvd hzd _
          rcases i1 z hz hzD with w | w
          · left
            rw [hR] at w
            rcases pm_mul hz w with y | y
            · exact y
            · exact absurd (hpm.2 z hz.1 (pm_pow hz e' y)) ez
          · right
            exact fun y => w (by rw [a1]; exact Nat.dvd_mul_right_of_dvd y _)
theorem s_over {g : mzG} {N0 D0 A bs pw j : Nat} (hap : j + 1 < k ∨ k + 5 ≤ j) (hF : ft g k N0 D0) (hA : nv g j A) (hbs0 : 0 < bs) (hbs : bs < 900) (hpw : pw < 1000) (hB : ∀ i, i ≤ pw → bs ^ i < BB ^ 16) (hQ : ∀ g', ft g' k (A / Nat.gcd A (bs ^ pw)) (bs ^ pw / Nat.gcd A (bs ^ pw)) → fr g g' (k + 1) (k + 5) → Q none g') : wp 19 b 0 [.ref k, .ref j, .int (nI bs), .int (nI pw), .null, .null] [] g Q := by
  obtain ⟨f, z, h1, h2, h3, h4⟩ := id hA
  have hDp : 0 < bs ^ pw := Nat.pow_pos hbs0
  simp (disch := omega) only [q_X2_setOverPower_0, q_X2_setOverPower_1, q_X2_setOverPower_4, h1.1, y_is, y_gf, y_pf, y_f0, y_f1, y_f3, y_nI, y_nK, y_nZ, y_nL, y_nR, y_k1i, y_k1r, y_k1l, y_k1n, y_tl, y_tn, y_s, y_ss, List.getElem?_cons_zero, List.getElem?_cons_succ, List.set_cons_zero, List.set_cons_succ, List.length_cons, List.length_nil, true_and, and_true, lit, eq_n]
  by_cases hz : z = 0
  · rw [bnt hz]
    have hA0 : A = 0 := by
      have := h3.2; rw [hz] at this; simpa using this
    simp (disch := omega) only [q_X2_setOverPower_7, q_X2_setOverPower_8, q_X2_setOverPower_9, q_X2_setOverPower_10, hF.1, y_is, y_gf, y_pf, y_f0, y_f1, y_f3, y_nI, y_nK, y_nZ, y_nL, y_nR, y_k1i, y_k1r, y_k1l, y_k1n, y_tl, y_tn, y_s, y_ss, List.getElem?_cons_zero, List.getElem?_cons_succ, List.set_cons_zero, List.set_cons_succ, List.length_cons, List.length_nil, true_and, and_true, litL]
    refine s_fset hF (by decide) (by decide) (by decide) (fun g1 hF1 hf1 => ?_)
    simp only [q_X2_setOverPower_13, y_is, y_gf, y_pf, y_f0, y_f1, y_f3, y_nI, y_nK, y_nZ, y_nL, y_nR, y_k1i, y_k1r, y_k1l, y_k1n, y_tl, y_tn, y_s, y_ss, List.getElem?_cons_zero, List.getElem?_cons_succ, List.set_cons_zero, List.set_cons_succ, List.length_cons, List.length_nil, true_and, and_true]
    refine hQ g1 ?_ hf1
    rw [hA0, Nat.gcd_zero_left, Nat.zero_div, Nat.div_self hDp]
    exact hF1
  · rw [bnf hz]
    have hA0 : 0 < A := by
      rcases h4 with e | e
      · omega
      · exact Nat.lt_of_lt_of_le (bb_pos _) e
    have hAl : A < 2 ^ 480 := by
      have : BB ^ z ≤ BB ^ 16 := Nat.pow_le_pow_right (by decide) h2
      have e : BB ^ 16 = 2 ^ 480 := by decide +kernel
      have := h3.2
      omega
    simp (disch := omega) only [q_X2_setOverPower_14, q_X2_setOverPower_15, q_X2_setOverPower_18, q_X2_setOverPower_19, hF.1, y_is, y_gf, y_pf, y_f0, y_f1, y_f3, y_nI, y_nK, y_nZ, y_nL, y_nR, y_k1i, y_k1r, y_k1l, y_k1n, y_tl, y_tn, y_s, y_ss, List.getElem?_cons_zero, List.getElem?_cons_succ, List.set_cons_zero, List.set_cons_succ, List.length_cons, List.length_nil, true_and, and_true, hF.2.1.is]
    refine s_ncopy (by omega) hF.2.1 hA (fun g1 hN1 hf1 => ?_)
    have hF1 := hF.up hN1 hf1
    simp (disch := omega) only [q_X2_setOverPower_22, q_X2_setOverPower_23, q_X2_setOverPower_26, q_X2_setOverPower_27, q_X2_setOverPower_28, hF1.1, y_is, y_gf, y_pf, y_f0, y_f1, y_f3, y_nI, y_nK, y_nZ, y_nL, y_nR, y_k1i, y_k1r, y_k1l, y_k1n, y_tl, y_tn, y_s, y_ss, List.getElem?_cons_zero, List.getElem?_cons_succ, List.set_cons_zero, List.set_cons_succ, List.length_cons, List.length_nil, true_and, and_true, hF1.2.2.is]
    refine s_power (by omega) hF1.2.2 pw hpw hB (fun g2 hN2 hf2 => ?_)
    have hF2 := hF1.dn hN2 hf2
    simp (disch := omega) only [q_X2_setOverPower_31, q_X2_setOverPower_32, q_X2_setOverPower_34, q_X2_setOverPower_35, y_is, y_gf, y_pf, y_f0, y_f1, y_f3, y_nI, y_nK, y_nZ, y_nL, y_nR, y_k1i, y_k1r, y_k1l, y_k1n, y_tl, y_tn, y_s, y_ss, List.getElem?_cons_zero, List.getElem?_cons_succ, List.set_cons_zero, List.set_cons_succ, List.length_cons, List.length_nil, true_and, and_true]
    refine s_over_loop g hA0 hAl hDp hbs hQ (bs - 1) 2 g2 A (bs ^ pw) 1 bs (by omega) (by omega) hbs0 (by omega) hF2 (by simp) (by simp) (by decide) (fun q h1 h2 => by omega) (fun q hq hd => Or.inl (pm_pow hq pw hd)) ((hf1.wide (by omega) (by omega)).tr (hf2.wide (by omega) (by omega)))
end FRACTION
