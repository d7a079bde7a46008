/-! ===== Balance: the cheapest ===== -/
theorem sorted_one : ∀ (l1 l2 : List Nat), l1.Perm l2 → l1.Pairwise (· ≤ ·) → l2.Pairwise (· ≤ ·) → l1 = l2
  | [], l2, h, _, _ => by rw [List.nil_perm.mp h]
  | x :: t1, [], h, _, _ => by have := h.length_eq; simp at this
  | x :: t1, y :: t2, h, h1, h2 => by
    rw [List.pairwise_cons] at h1 h2
    have a1 : x ∈ y :: t2 := h.mem_iff.mp List.mem_cons_self
    have a2 : y ∈ x :: t1 := h.mem_iff.mpr List.mem_cons_self
    have e : x = y := by
      rcases List.mem_cons.mp a1 with z | z
      · exact z
      · rcases List.mem_cons.mp a2 with q | q
        · exact q.symm
        · have := h1.1 y q
          have := h2.1 x z
          omega
    subst e
    rw [sorted_one t1 t2 h.cons_inv h1.2 h2.2]
/-- the first of the least of fractions from 1 on -/
def lef (N D : Nat → Nat) : Nat → Nat
  | 0 => 1
  | i + 1 => if i = 0 ∨ N (i + 1) * D (lef N D i) < N (lef N D i) * D (i + 1) then i + 1 else lef N D i
theorem lef_b (N D : Nat → Nat) : ∀ i, 1 ≤ lef N D i ∧ lef N D i ≤ i + 1
  | 0 => by simp [lef]
  | i + 1 => by
    rw [lef]
    have := lef_b N D i
    split
    · omega
    · omega
/-- fractions by whole parts and rests -/
theorem less_parts {N D N' D' : Nat} (hD : 0 < D) (hD' : 0 < D') : (N * D' < N' * D) ↔ (N / D < N' / D' ∨ (N / D = N' / D' ∧ (N % D) * D' < (N' % D') * D)) := by
  by_cases h : N / D = N' / D'
  · rw [less_r h]
    constructor
    · intro z; exact Or.inr ⟨h, z⟩
    · intro z
      rcases z with z | z
      · omega
      · exact z.2
  · rw [less_q hD hD' h]
    constructor
    · intro z; exact Or.inl z
    · intro z
      rcases z with z | z
      · exact z
      · exact absurd z.1 h
def duN (l : List Nat) (n pay a : Nat) : Nat := (bs (0, 1) (a - (n - l.length)) l).1 + pay * (n - a) * (bs (0, 1) (a - (n - l.length)) l).2
def duD (l : List Nat) (n a : Nat) : Nat := (bs (0, 1) (a - (n - l.length)) l).2
/-- of lower terms -/
def loN (l : List Nat) (n pay a : Nat) : Nat := (bs (0, 1) (a - (n - l.length)) l).1 / Nat.gcd (bs (0, 1) (a - (n - l.length)) l).1 (bs (0, 1) (a - (n - l.length)) l).2 + pay * (n - a) * ((bs (0, 1) (a - (n - l.length)) l).2 / Nat.gcd (bs (0, 1) (a - (n - l.length)) l).1 (bs (0, 1) (a - (n - l.length)) l).2)
def loD (l : List Nat) (n a : Nat) : Nat := (bs (0, 1) (a - (n - l.length)) l).2 / Nat.gcd (bs (0, 1) (a - (n - l.length)) l).1 (bs (0, 1) (a - (n - l.length)) l).2
section CHEAPEST
variable {b : mzB} {Q : mzQ} {k w : Nat} {v : Nat → Int32} {A : Nat → Nat → Int32}
theorem s_cheap_loop (g0 : mzG) {n pay : Nat} {wo : Nat → Nat} {l : List Nat} (hap : w + 12 ≤ k) (hv : v 0 = nI n) (hn : n ≤ 9) (hpay : pay ≤ 99) (hwo : ∀ i, i < n → A 0 i = nI (wo i) ∧ wo i ≤ 99) (hl : l.Perm (pw wo n)) (hso : l.Pairwise (· ≤ ·)) (hQ : ∀ g' a' c' m' f', bl g' k a' c' m' f' → fr g0 g' k (k + 2) → Q (some (.int (nI (lef (loN l n pay) (loD l n) n)))) g') : ∀ (d i : Nat) (g : mzG) (a c : Int64) (m : Nat) (f : Nat → Int32) (u r q : Nat) (x11 x12 x13 x14 x15 : Value), i + d = n → bl g k a c m f → wt g w v A → fr g0 g k (k + 2) → u < 9223372036854775808 → r < q → q < 9223372036854775808 → (0 < i → u = loN l n pay (lef (loN l n pay) (loD l n) i) / loD l n (lef (loN l n pay) (loD l n) i) ∧ r = loN l n pay (lef (loN l n pay) (loD l n) i) % loD l n (lef (loN l n pay) (loD l n) i) ∧ q = loD l n (lef (loN l n pay) (loD l n) i)) → wp 6 b 14 [.ref k, .ref w, .int (nI pay), .int (nI (lef (loN l n pay) (loD l n) i)), .long (lN u), .null, .long (lN r), .null, .long (lN q), .null, .int (nI (i + 1)), x11, x12, x13, x14, x15] [] g Q := by
  intro d
  induction d with
  | zero =>
    intro i g a c m f u r q x11 x12 x13 x14 x15 hi hB hW hf hu hr hq hL
    have hi : i = n := by omega
    subst hi
    rw [q_X0_cheapest_14]
    simp (disch := omega) only [q_X0_cheapest_16, q_X0_cheapest_17, q_X0_cheapest_20, q_X0_cheapest_147, q_X0_cheapest_148, hW.1, hv, y_is, y_gf, y_pf, y_f0, y_f1, y_f3, y_nI, y_nK, y_nZ, y_nL, y_nR, y_k1i, y_k1r, y_k1l, y_k1n, y_tl, y_tn, y_s, y_ss, List.getElem?_cons_zero, List.getElem?_cons_succ, List.set_cons_zero, List.set_cons_succ, List.length_cons, List.length_nil, true_and, and_true, lt_n]
    exact br1 (by omega) (hQ g a c m f hB hf)
  | succ d ih =>
    intro i g a c m f u r q x11 x12 x13 x14 x15 hi hB hW hf hu hr hq hL
    rw [q_X0_cheapest_14]
    simp (disch := omega) only [q_X0_cheapest_16, q_X0_cheapest_17, q_X0_cheapest_20, q_X0_cheapest_23, q_X0_cheapest_24, q_X0_cheapest_25, q_X0_cheapest_27, hW.1, hB.1, hv, y_is, y_gf, y_pf, y_f0, y_f1, y_f3, y_nI, y_nK, y_nZ, y_nL, y_nR, y_k1i, y_k1r, y_k1l, y_k1n, y_tl, y_tn, y_s, y_ss, List.getElem?_cons_zero, List.getElem?_cons_succ, List.set_cons_zero, List.set_cons_succ, List.length_cons, List.length_nil, true_and, and_true, lt_n, y_is]
    refine br0 (by omega) (s_solve hap hB hW hv hn hwo (by omega) (fun g1 f1 l1 F hpe hso1 hFe b1 b2 b3 hB1 hf1 => ?_))
    have hll : l1 = l := sorted_one l1 l (hpe.trans hl.symm) hso1 hso
    subst hll
    have hW1 := hW.frm hf1 (by omega)
    have hgp : 0 < Nat.gcd F.1 F.2 := Nat.gcd_pos_of_pos_right _ b2
    have eD : F.2 / Nat.gcd F.1 F.2 = loD l1 n (i + 1) := by rw [loD, ← hFe]
    have eN : F.1 / Nat.gcd F.1 F.2 + pay * (n - (i + 1)) * loD l1 n (i + 1) = loN l1 n pay (i + 1) := by rw [loN, ← hFe, ← eD]
    have c1 : F.1 / Nat.gcd F.1 F.2 ≤ 9 * 99 ^ 9 := Nat.le_trans (Nat.div_le_self _ _) b1
    have c2 : loD l1 n (i + 1) ≤ 9 * 99 ^ 8 := by rw [← eD]; exact Nat.le_trans (Nat.div_le_self _ _) b3
    have c3 : 0 < loD l1 n (i + 1) := by rw [← eD]; exact Nat.div_pos (Nat.le_of_dvd b2 (Nat.gcd_dvd_right _ _)) hgp
    rw [eD] at hB1
    generalize F.1 / Nat.gcd F.1 F.2 = N0 at eN hB1 c1
    generalize hDD : loD l1 n (i + 1) = D0 at eN hB1 c2 c3
    have c4 : pay * (n - (i + 1)) ≤ 99 * 9 := Nat.mul_le_mul hpay (by omega)
    have c5 : N0 / D0 ≤ N0 := Nat.div_le_self _ _
    have c6 := Nat.mod_lt N0 c3
    have eU : loN l1 n pay (i + 1) / D0 = N0 / D0 + pay * (n - (i + 1)) := by rw [← eN, Nat.add_mul_div_right _ _ c3]
    have eR : loN l1 n pay (i + 1) % D0 = N0 % D0 := by rw [← eN, Nat.add_mul_mod_self_right]
    have take : ∀ x15, (i = 0 ∨ loN l1 n pay (i + 1) * loD l1 n (lef (loN l1 n pay) (loD l1 n) i) < loN l1 n pay (lef (loN l1 n pay) (loD l1 n) i) * loD l1 n (i + 1)) → wp 6 b 124 [.ref k, .ref w, .int (nI pay), .int (nI (lef (loN l1 n pay) (loD l1 n) i)), .long (lN u), .null, .long (lN r), .null, .long (lN q), .null, .int (nI (i + 1)), .long (lN (N0 / D0 + pay * (n - (i + 1)))), .null, .long (lN (N0 % D0)), .null, .int x15] [] g1 Q := by
      intro x15 h
      have e : lef (loN l1 n pay) (loD l1 n) (i + 1) = i + 1 := by rw [lef, if_pos h]
      simp (disch := omega) only [q_X0_cheapest_124, q_X0_cheapest_126, q_X0_cheapest_127, q_X0_cheapest_129, q_X0_cheapest_131, q_X0_cheapest_133, q_X0_cheapest_135, q_X0_cheapest_136, q_X0_cheapest_139, q_X0_cheapest_141, q_X0_cheapest_144, hB1.1, y_is, y_gf, y_pf, y_f0, y_f1, y_f3, y_nI, y_nK, y_nZ, y_nL, y_nR, y_k1i, y_k1r, y_k1l, y_k1n, y_tl, y_tn, y_s, y_ss, List.getElem?_cons_zero, List.getElem?_cons_succ, List.set_cons_zero, List.set_cons_succ, List.length_cons, List.length_nil, true_and, and_true, lit, nI_add]
      have := ih (i + 1) g1 _ _ _ _ (N0 / D0 + pay * (n - (i + 1))) (N0 % D0) D0 (.long (lN (N0 / D0 + pay * (n - (i + 1))))) .null (.long (lN (N0 % D0))) .null (.int x15) (by omega) hB1 hW1 (hf.tr hf1) (by omega) c6 (by omega) (fun _ => by rw [e, hDD]; exact ⟨eU.symm, eR.symm, rfl⟩)
      rw [e] at this
      exact this
    have leave : ∀ x15, ¬ (i = 0 ∨ loN l1 n pay (i + 1) * loD l1 n (lef (loN l1 n pay) (loD l1 n) i) < loN l1 n pay (lef (loN l1 n pay) (loD l1 n) i) * loD l1 n (i + 1)) → wp 6 b 141 [.ref k, .ref w, .int (nI pay), .int (nI (lef (loN l1 n pay) (loD l1 n) i)), .long (lN u), .null, .long (lN r), .null, .long (lN q), .null, .int (nI (i + 1)), .long (lN (N0 / D0 + pay * (n - (i + 1)))), .null, .long (lN (N0 % D0)), .null, .int x15] [] g1 Q := by
      intro x15 h
      have e : lef (loN l1 n pay) (loD l1 n) (i + 1) = lef (loN l1 n pay) (loD l1 n) i := by rw [lef, if_neg h]
      simp (disch := omega) only [q_X0_cheapest_141, q_X0_cheapest_144, y_is, y_gf, y_pf, y_f0, y_f1, y_f3, y_nI, y_nK, y_nZ, y_nL, y_nR, y_k1i, y_k1r, y_k1l, y_k1n, y_tl, y_tn, y_s, y_ss, List.getElem?_cons_zero, List.getElem?_cons_succ, List.set_cons_zero, List.set_cons_succ, List.length_cons, List.length_nil, true_and, and_true, lit, nI_add]
      have := ih (i + 1) g1 _ _ _ _ u r q (.long (lN (N0 / D0 + pay * (n - (i + 1))))) .null (.long (lN (N0 % D0))) .null (.int x15) (by omega) hB1 hW1 (hf.tr hf1) hu hr hq (fun _ => by rw [e]; exact hL (by omega))
      rw [e] at this
      exact this
    have dec : 0 < i → ((loN l1 n pay (i + 1) * loD l1 n (lef (loN l1 n pay) (loD l1 n) i) < loN l1 n pay (lef (loN l1 n pay) (loD l1 n) i) * loD l1 n (i + 1)) ↔ (N0 / D0 + pay * (n - (i + 1)) < u ∨ (N0 / D0 + pay * (n - (i + 1)) = u ∧ (N0 % D0) * q < r * D0))) := by
      intro h
      obtain ⟨z1, z2, z3⟩ := hL h
      rw [less_parts (by rw [hDD]; exact c3) (by rw [← z3]; omega), hDD, eU, eR, ← z1, ← z2, ← z3]
    -- from 111 on
    have at1 : ∀ (y : Prop) [Decidable y], (y ↔ (N0 / D0 + pay * (n - (i + 1)) < u ∨ (N0 / D0 + pay * (n - (i + 1)) = u ∧ (N0 % D0) * q < r * D0))) → ∀ x15, wp 6 b 111 [.ref k, .ref w, .int (nI pay), .int (nI (lef (loN l1 n pay) (loD l1 n) i)), .long (lN u), .null, .long (lN r), .null, .long (lN q), .null, .int (nI (i + 1)), .long (lN (N0 / D0 + pay * (n - (i + 1)))), .null, .long (lN (N0 % D0)), .null, x15] [.int (nI (if y then 1 else 0))] g1 Q := by
      intro y _ hy x15
      simp (disch := omega) only [q_X0_cheapest_111, q_X0_cheapest_113, q_X0_cheapest_115, q_X0_cheapest_116, y_is, y_gf, y_pf, y_f0, y_f1, y_f3, y_nI, y_nK, y_nZ, y_nL, y_nR, y_k1i, y_k1r, y_k1l, y_k1n, y_tl, y_tn, y_s, y_ss, List.getElem?_cons_zero, List.getElem?_cons_succ, List.set_cons_zero, List.set_cons_succ, List.length_cons, List.length_nil, true_and, and_true, lit, eq_n]
      refine brs (fun z => take _ (Or.inl (by omega))) (fun z => ?_)
      have hi0 : 0 < i := by omega
      by_cases hyy : y
      · rw [if_pos hyy]
        simp (disch := omega) only [q_X0_cheapest_119, q_X0_cheapest_121, y_is, y_gf, y_pf, y_f0, y_f1, y_f3, y_nI, y_nK, y_nZ, y_nL, y_nR, y_k1i, y_k1r, y_k1l, y_k1n, y_tl, y_tn, y_s, y_ss, List.getElem?_cons_zero, List.getElem?_cons_succ, List.set_cons_zero, List.set_cons_succ, List.length_cons, List.length_nil, true_and, and_true, lit, eq_n]
        exact br0 (by decide) (take _ (Or.inr ((dec hi0).mpr (hy.mp hyy))))
      · rw [if_neg hyy]
        simp (disch := omega) only [q_X0_cheapest_119, q_X0_cheapest_121, y_is, y_gf, y_pf, y_f0, y_f1, y_f3, y_nI, y_nK, y_nZ, y_nL, y_nR, y_k1i, y_k1r, y_k1l, y_k1n, y_tl, y_tn, y_s, y_ss, List.getElem?_cons_zero, List.getElem?_cons_succ, List.set_cons_zero, List.set_cons_succ, List.length_cons, List.length_nil, true_and, and_true, lit, eq_n]
        refine br1 (by decide) (leave _ (fun h => ?_))
        rcases h with h | h
        · omega
        · exact hyy (hy.mpr ((dec hi0).mp h))
    simp (disch := omega) only [q_X0_cheapest_30, q_X0_cheapest_31, q_X0_cheapest_34, q_X0_cheapest_35, q_X0_cheapest_36, hB1.1, y_is, y_gf, y_pf, y_f0, y_f1, y_f3, y_nI, y_nK, y_nZ, y_nL, y_nR, y_k1i, y_k1r, y_k1l, y_k1n, y_tl, y_tn, y_s, y_ss, List.getElem?_cons_zero, List.getElem?_cons_succ, List.set_cons_zero, List.set_cons_succ, List.length_cons, List.length_nil, true_and, and_true, lit, litL, lc_ge]
    refine br1 (by omega) ?_
    simp (disch := omega) only [q_X0_cheapest_41, q_X0_cheapest_42, q_X0_cheapest_45, q_X0_cheapest_46, q_X0_cheapest_49, q_X0_cheapest_50, q_X0_cheapest_51, q_X0_cheapest_52, q_X0_cheapest_55, q_X0_cheapest_57, q_X0_cheapest_58, q_X0_cheapest_59, q_X0_cheapest_60, q_X0_cheapest_61, q_X0_cheapest_63, q_X0_cheapest_64, q_X0_cheapest_67, q_X0_cheapest_68, q_X0_cheapest_71, q_X0_cheapest_72, q_X0_cheapest_74, q_X0_cheapest_76, q_X0_cheapest_78, q_X0_cheapest_79, hW1.1, hB1.1, hv, y_is, y_gf, y_pf, y_f0, y_f1, y_f3, y_nI, y_nK, y_nZ, y_nL, y_nR, y_k1i, y_k1r, y_k1l, y_k1n, y_tl, y_tn, y_s, y_ss, List.getElem?_cons_zero, List.getElem?_cons_succ, List.set_cons_zero, List.set_cons_succ, List.length_cons, List.length_nil, true_and, and_true, lit, litL, l_eq, l_div, l_rem2, l_rem3, pk_sub, pk_mul, i_l, l_add, lc_lt]
    refine ⟨by omega, by omega, brs (fun z => ?_) (fun z => ?_)⟩
    · simp (disch := omega) only [q_X0_cheapest_106, q_X0_cheapest_107, y_is, y_gf, y_pf, y_f0, y_f1, y_f3, y_nI, y_nK, y_nZ, y_nL, y_nR, y_k1i, y_k1r, y_k1l, y_k1n, y_tl, y_tn, y_s, y_ss, List.getElem?_cons_zero, List.getElem?_cons_succ, List.set_cons_zero, List.set_cons_succ, List.length_cons, List.length_nil, true_and, and_true]
      exact at1 True (by simp; exact Or.inl z) _
    · simp (disch := omega) only [q_X0_cheapest_82, q_X0_cheapest_84, q_X0_cheapest_86, q_X0_cheapest_87, y_is, y_gf, y_pf, y_f0, y_f1, y_f3, y_nI, y_nK, y_nZ, y_nL, y_nR, y_k1i, y_k1r, y_k1l, y_k1n, y_tl, y_tn, y_s, y_ss, List.getElem?_cons_zero, List.getElem?_cons_succ, List.set_cons_zero, List.set_cons_succ, List.length_cons, List.length_nil, true_and, and_true, lit, lc_eq]
      by_cases y : N0 / D0 + pay * (n - (i + 1)) = u
      · rw [bnt y]
        simp (disch := omega) only [q_X0_cheapest_90, q_X0_cheapest_92, q_X0_cheapest_93, q_X0_cheapest_96, q_X0_cheapest_98, q_X0_cheapest_100, hB1.1, y_is, y_gf, y_pf, y_f0, y_f1, y_f3, y_nI, y_nK, y_nZ, y_nL, y_nR, y_k1i, y_k1r, y_k1l, y_k1n, y_tl, y_tn, y_s, y_ss, List.getElem?_cons_zero, List.getElem?_cons_succ, List.set_cons_zero, List.set_cons_succ, List.length_cons, List.length_nil, true_and, and_true]
        refine s_less c6 hr (by omega) hq ?_
        by_cases y2 : (N0 % D0) * q < r * D0
        · rw [if_pos y2]
          simp (disch := omega) only [q_X0_cheapest_103, y_is, y_gf, y_pf, y_f0, y_f1, y_f3, y_nI, y_nK, y_nZ, y_nL, y_nR, y_k1i, y_k1r, y_k1l, y_k1n, y_tl, y_tn, y_s, y_ss, List.getElem?_cons_zero, List.getElem?_cons_succ, List.set_cons_zero, List.set_cons_succ, List.length_cons, List.length_nil, true_and, and_true, lit, eq_n]
          refine br0 (by decide) ?_
          simp (disch := omega) only [q_X0_cheapest_106, q_X0_cheapest_107, y_is, y_gf, y_pf, y_f0, y_f1, y_f3, y_nI, y_nK, y_nZ, y_nL, y_nR, y_k1i, y_k1r, y_k1l, y_k1n, y_tl, y_tn, y_s, y_ss, List.getElem?_cons_zero, List.getElem?_cons_succ, List.set_cons_zero, List.set_cons_succ, List.length_cons, List.length_nil, true_and, and_true]
          exact at1 True (by simp; exact Or.inr ⟨y, y2⟩) _
        · rw [if_neg y2]
          simp (disch := omega) only [q_X0_cheapest_103, q_X0_cheapest_110, y_is, y_gf, y_pf, y_f0, y_f1, y_f3, y_nI, y_nK, y_nZ, y_nL, y_nR, y_k1i, y_k1r, y_k1l, y_k1n, y_tl, y_tn, y_s, y_ss, List.getElem?_cons_zero, List.getElem?_cons_succ, List.set_cons_zero, List.set_cons_succ, List.length_cons, List.length_nil, true_and, and_true, lit, eq_n]
          exact br1 (by decide) (at1 False (by simp; omega) _)
      · rw [bnf y]
        simp (disch := omega) only [q_X0_cheapest_110, y_is, y_gf, y_pf, y_f0, y_f1, y_f3, y_nI, y_nK, y_nZ, y_nL, y_nR, y_k1i, y_k1r, y_k1l, y_k1n, y_tl, y_tn, y_s, y_ss, List.getElem?_cons_zero, List.getElem?_cons_succ, List.set_cons_zero, List.set_cons_succ, List.length_cons, List.length_nil, true_and, and_true]
        exact at1 False (by simp; omega) _
theorem s_cheapest {g : mzG} {a c : Int64} {n m pay : Nat} {f : Nat → Int32} {wo : Nat → Nat} {l : List Nat} (hap : w + 12 ≤ k) (hB : bl g k a c m f) (hW : wt g w v A) (hv : v 0 = nI n) (hn : n ≤ 9) (hpay : pay ≤ 99) (hwo : ∀ i, i < n → A 0 i = nI (wo i) ∧ wo i ≤ 99) (hl : l.Perm (pw wo n)) (hso : l.Pairwise (· ≤ ·)) (hQ : ∀ g' a' c' m' f', bl g' k a' c' m' f' → fr g g' k (k + 2) → Q (some (.int (nI (lef (loN l n pay) (loD l n) n)))) g') : wp 6 b 0 [.ref k, .ref w, .int (nI pay), .null, .null, .null, .null, .null, .null, .null, .null, .null, .null, .null, .null, .null] [] g Q := by
  simp (disch := omega) only [q_X0_cheapest_0, q_X0_cheapest_1, q_X0_cheapest_2, q_X0_cheapest_3, q_X0_cheapest_5, q_X0_cheapest_6, q_X0_cheapest_8, q_X0_cheapest_9, q_X0_cheapest_11, q_X0_cheapest_12, y_is, y_gf, y_pf, y_f0, y_f1, y_f3, y_nI, y_nK, y_nZ, y_nL, y_nR, y_k1i, y_k1r, y_k1l, y_k1n, y_tl, y_tn, y_s, y_ss, List.getElem?_cons_zero, List.getElem?_cons_succ, List.set_cons_zero, List.set_cons_succ, List.length_cons, List.length_nil, true_and, and_true, lit, litL]
  exact s_cheap_loop g hap hv hn hpay hwo hl hso hQ n 0 g a c m f 0 0 1 _ _ _ _ _ (by omega) hB hW fr.rf (by decide) (by decide) (by decide) (fun h => by omega)
end CHEAPEST
