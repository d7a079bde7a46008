/-! ===== Sights ===== -/
def trn (n start step hour : Nat) : Nat := (start + hour * step) % n
theorem trn_lt {n start step hour : Nat} (h : 1 ≤ n) : trn n start step hour < n := Nat.mod_lt _ (by omega)
theorem i_rem1 {a d : Nat} (ha : a < 2147483648) (h0 : 0 < d) (hd : d < 2147483648) : nI a - nI a / nI d * nI d = nI (a % d) := pk_rem ha h0 hd
def sgb (n : Nat) (hr po as_ : Nat → Nat) (start step i : Nat) : Bool := (trn n start step (hr i) == po i) == (as_ i == 1)
/-- all from i on agree -/
def agd (n : Nat) (hr po as_ : Nat → Nat) (start step : Nat) : Nat → Nat → Bool
  | 0, _ => true
  | d + 1, i => sgb n hr po as_ start step i && agd n hr po as_ start step d (i + 1)
/-- pairs in their order: how many, the first -/
def rdi (P : Nat → Nat → Bool) (st : Nat) : Nat → Nat × Option Nat → Nat × Option Nat
  | 0, s => s
  | k + 1, s => if P st k then ((rdi P st k s).1 + 1, if (rdi P st k s).1 = 0 then some (10 * st + k) else (rdi P st k s).2) else rdi P st k s
def rdo (P : Nat → Nat → Bool) (n : Nat) : Nat → Nat × Option Nat
  | 0 => (0, none)
  | p + 1 => rdi P p n (rdo P n p)
theorem rdi_le (P : Nat → Nat → Bool) (st : Nat) (s : Nat × Option Nat) : ∀ k, (rdi P st k s).1 ≤ s.1 + k
  | 0 => Nat.le_refl _
  | k + 1 => by
    have := rdi_le P st s k
    rw [rdi]
    split
    · show (rdi P st k s).1 + 1 ≤ _; omega
    · omega
theorem rdo_le (P : Nat → Nat → Bool) (n : Nat) : ∀ p, (rdo P n p).1 ≤ p * n
  | 0 => by simp [rdo]
  | p + 1 => by
    have h1 := rdo_le P n p
    have h2 := rdi_le P p (rdo P n p) n
    rw [rdo, Nat.add_mul]; omega
theorem rdi_keep (P : Nat → Nat → Bool) (st : Nat) (s : Nat × Option Nat) (h : 0 < s.1) : ∀ k, 0 < (rdi P st k s).1 ∧ (rdi P st k s).2 = s.2
  | 0 => ⟨h, rfl⟩
  | k + 1 => by
    have := rdi_keep P st s h k
    rw [rdi]
    split
    · exact ⟨Nat.succ_pos _, by show (if (rdi P st k s).1 = 0 then _ else _) = _; rw [if_neg (by omega)]; exact this.2⟩
    · exact this
theorem rdi_from (P : Nat → Nat → Bool) (st : Nat) (s : Nat × Option Nat) : ∀ d j, 0 < (rdi P st j s).1 → 0 < (rdi P st (j + d) s).1 ∧ (rdi P st (j + d) s).2 = (rdi P st j s).2
  | 0, j, h => ⟨h, rfl⟩
  | d + 1, j, h => by
    have := rdi_from P st s d j h
    rw [show j + (d + 1) = j + d + 1 by omega, rdi]
    split
    · exact ⟨Nat.succ_pos _, by show (if (rdi P st (j + d) s).1 = 0 then _ else _) = _; rw [if_neg (by omega)]; exact this.2⟩
    · exact this
theorem rdo_from (P : Nat → Nat → Bool) (n : Nat) : ∀ d p, 0 < (rdo P n p).1 → 0 < (rdo P n (p + d)).1 ∧ (rdo P n (p + d)).2 = (rdo P n p).2
  | 0, p, h => ⟨h, rfl⟩
  | d + 1, p, h => by
    have := rdo_from P n d p h
    rw [show p + (d + 1) = p + d + 1 by omega, rdo]
    have k := rdi_keep P (p + d) (rdo P n (p + d)) this.1 n
    exact ⟨k.1, k.2.trans this.2⟩
/-- the first hour, from h on, in which two are unlike -/
def unl (n post cs cp start step h : Nat) : Bool := (trn n start step h == post) != (trn n cs cp h == post)
def fud (n post cs cp start step : Nat) : Nat → Nat → Option Nat
  | 0, _ => none
  | d + 1, h => if unl n post cs cp start step h then some h else fud n post cs cp start step d (h + 1)
theorem fud_lt {n post cs cp start step : Nat} : ∀ d h x, fud n post cs cp start step d h = some x → x < h + d
  | 0, h, x, e => by simp [fud] at e
  | d + 1, h, x, e => by
    rw [fud] at e
    split at e
    · have := Option.some.inj e; omega
    · have := fud_lt d (h + 1) x e; omega
/-- alike ones, the latest hour -/
def fh1 (o : Option Nat) (s : Nat × Nat) : Nat × Nat := match o with
  | none => (s.1 + 1, s.2)
  | some h => (s.1, if s.2 < h then h else s.2)
def fhi (F : Nat → Nat → Option Nat) (st : Nat) : Nat → Nat × Nat → Nat × Nat
  | 0, s => s
  | k + 1, s => fh1 (F st k) (fhi F st k s)
def fho (F : Nat → Nat → Option Nat) (n : Nat) : Nat → Nat × Nat
  | 0 => (0, 0)
  | p + 1 => fhi F p n (fho F n p)
theorem fhi_le {F : Nat → Nat → Option Nat} {n : Nat} (hF : ∀ i j x, F i j = some x → x < n) (st : Nat) (s : Nat × Nat) (h2 : s.2 ≤ n) : ∀ k, (fhi F st k s).1 ≤ s.1 + k ∧ (fhi F st k s).2 ≤ n
  | 0 => ⟨Nat.le_refl _, h2⟩
  | k + 1 => by
    have := fhi_le hF st s h2 k
    rw [fhi]
    unfold fh1
    split
    · exact ⟨by show (fhi F st k s).1 + 1 ≤ _; omega, this.2⟩
    · rename_i x e
      have := hF _ _ _ e
      refine ⟨by show (fhi F st k s).1 ≤ _; omega, ?_⟩
      show (if (fhi F st k s).2 < x then x else (fhi F st k s).2) ≤ n
      split <;> omega
theorem fho_le {F : Nat → Nat → Option Nat} {n : Nat} (hF : ∀ i j x, F i j = some x → x < n) : ∀ p, (fho F n p).1 ≤ p * n ∧ (fho F n p).2 ≤ n
  | 0 => by simp [fho]
  | p + 1 => by
    have h1 := fho_le hF p
    have h2 := fhi_le hF p (fho F n p) h1.2 n
    rw [fho, Nat.add_mul]
    exact ⟨by omega, h2.2⟩
section SIGHTS
variable {b : mzB} {Q : mzQ} {g : mzG} {w : Nat} {v : Nat → Int32} {A : Nat → Nat → Int32}
theorem s_turn {n start step hour : Nat} (h1 : 1 ≤ n) (hn : n ≤ 9) (hs : start ≤ 99) (ht : step ≤ 99) (hh : hour ≤ 9999) (hQ : Q (some (.int (nI (trn n start step hour)))) g) : wp 12 b 0 [.int (nI n), .int (nI start), .int (nI step), .int (nI hour)] [] g Q := by
  have hm : hour * step ≤ 9999 * 99 := Nat.mul_le_mul hh ht
  simp (disch := omega) only [q_X1_turn_0, q_X1_turn_1, q_X1_turn_2, y_is, y_gf, y_pf, y_f0, y_f1, y_f3, y_nI, y_nK, y_nZ, y_nL, y_nR, y_k1i, y_k1r, y_k1l, y_k1n, y_tl, y_tn, y_s, y_ss, List.getElem?_cons_zero, List.getElem?_cons_succ, List.set_cons_zero, List.set_cons_succ, List.length_cons, List.length_nil, true_and, and_true, lit, le_n]
  refine br1 (by omega) ?_
  simp (disch := omega) only [q_X1_turn_9, q_X1_turn_10, q_X1_turn_11, q_X1_turn_12, q_X1_turn_13, q_X1_turn_14, q_X1_turn_15, q_X1_turn_16, y_is, y_gf, y_pf, y_f0, y_f1, y_f3, y_nI, y_nK, y_nZ, y_nL, y_nR, y_k1i, y_k1r, y_k1l, y_k1n, y_tl, y_tn, y_s, y_ss, List.getElem?_cons_zero, List.getElem?_cons_succ, List.set_cons_zero, List.set_cons_succ, List.length_cons, List.length_nil, true_and, and_true, lit, pk_mul, nI_add, eq_n, i_rem1]
  exact ⟨by omega, hQ⟩
theorem s_inTurn {n cs cp hour : Nat} (hW : wt g w v A) (hv : v 0 = nI n) (hv2 : v 2 = nI cs) (hv3 : v 3 = nI cp) (h1 : 1 ≤ n) (hn : n ≤ 9) (hs : cs ≤ 99) (ht : cp ≤ 99) (hh : hour ≤ 9999) (hQ : Q (some (.int (nI (trn n cs cp hour)))) g) : wp 11 b 0 [.ref w, .int (nI hour)] [] g Q := by
  simp (disch := omega) only [q_X1_inTurn_0, q_X1_inTurn_1, q_X1_inTurn_4, q_X1_inTurn_5, q_X1_inTurn_8, q_X1_inTurn_9, q_X1_inTurn_12, q_X1_inTurn_13, hW.1, hv, hv2, hv3, y_is, y_gf, y_pf, y_f0, y_f1, y_f3, y_nI, y_nK, y_nZ, y_nL, y_nR, y_k1i, y_k1r, y_k1l, y_k1n, y_tl, y_tn, y_s, y_ss, List.getElem?_cons_zero, List.getElem?_cons_succ, List.set_cons_zero, List.set_cons_succ, List.length_cons, List.length_nil, true_and, and_true]
  refine s_turn h1 hn hs ht hh ?_
  simp only [q_X1_inTurn_16, y_is, y_gf, y_pf, y_f0, y_f1, y_f3, y_nI, y_nK, y_nZ, y_nL, y_nR, y_k1i, y_k1r, y_k1l, y_k1n, y_tl, y_tn, y_s, y_ss, List.getElem?_cons_zero, List.getElem?_cons_succ, List.set_cons_zero, List.set_cons_succ, List.length_cons, List.length_nil, true_and, and_true]
  exact hQ
theorem s_agr_loop {n m start step : Nat} {hr po as_ : Nat → Nat} (hW : wt g w v A) (hv : v 0 = nI n) (hv5 : v 5 = nI m) (h1 : 1 ≤ n) (hn : n ≤ 9) (hm : m ≤ 12) (hs : start ≤ 9) (ht : step ≤ 9) (hhr : ∀ i, i < 12 → A 5 i = nI (hr i) ∧ hr i ≤ 999) (hpo : ∀ i, i < 12 → A 6 i = nI (po i) ∧ po i ≤ 9) (has : ∀ i, i < 12 → A 7 i = nI (as_ i) ∧ as_ i ≤ 1) (R : Bool) (hQ : Q (some (.int (if R then 1 else 0))) g) : ∀ (d i : Nat) (x4 : Value), i + d = m → agd n hr po as_ start step d i = R → wp 57 b 2 [.ref w, .int (nI start), .int (nI step), .int (nI i), x4] [] g Q := by
  have hW' := hW
  obtain ⟨h0, -, -, k5, k6, k7, -⟩ := hW
  intro d
  induction d with
  | zero =>
    intro i x4 hi hR
    rw [agd] at hR
    subst hR
    rw [q_X6_agrees_2]
    simp (disch := omega) only [q_X6_agrees_3, q_X6_agrees_4, q_X6_agrees_7, q_X6_agrees_69, q_X6_agrees_70, h0, hv5, y_is, y_gf, y_pf, y_f0, y_f1, y_f3, y_nI, y_nK, y_nZ, y_nL, y_nR, y_k1i, y_k1r, y_k1l, y_k1n, y_tl, y_tn, y_s, y_ss, List.getElem?_cons_zero, List.getElem?_cons_succ, List.set_cons_zero, List.set_cons_succ, List.length_cons, List.length_nil, true_and, and_true, y_lIn, y_lKn, y_lZn, y_lLn, y_wIn, y_wZn, y_wLn, lit, le_n, lt_n, eq_n, lit, litL, le_n, lt_n, eq_n, nI_add, m_neg, pk_sub, pk_mul, i_l, l_i, l_add, l_mul, l_sub, lc_le, lc_ge, lc_lt, lc_gt, lc_eq, l_rem2, l_rem3, i_rem2, i_rem3]
    exact br1 (by omega) ⟨by decide, hQ⟩
  | succ d ih =>
    intro i x4 hi hR
    rw [agd] at hR
    obtain ⟨e1, e2⟩ := hhr i (by omega)
    obtain ⟨f1, f2⟩ := hpo i (by omega)
    obtain ⟨g1, g2⟩ := has i (by omega)
    rw [q_X6_agrees_2]
    simp (disch := omega) only [q_X6_agrees_3, q_X6_agrees_4, q_X6_agrees_7, q_X6_agrees_10, q_X6_agrees_11, q_X6_agrees_14, q_X6_agrees_15, q_X6_agrees_16, q_X6_agrees_17, q_X6_agrees_20, q_X6_agrees_21, q_X6_agrees_22, h0, hv, hv5, k5, e1, y_is, y_gf, y_pf, y_f0, y_f1, y_f3, y_nI, y_nK, y_nZ, y_nL, y_nR, y_k1i, y_k1r, y_k1l, y_k1n, y_tl, y_tn, y_s, y_ss, List.getElem?_cons_zero, List.getElem?_cons_succ, List.set_cons_zero, List.set_cons_succ, List.length_cons, List.length_nil, true_and, and_true, y_lIn, y_lKn, y_lZn, y_lLn, y_wIn, y_wZn, y_wLn, lit, le_n, lt_n, eq_n, lit, litL, le_n, lt_n, eq_n, nI_add, m_neg, pk_sub, pk_mul, i_l, l_i, l_add, l_mul, l_sub, lc_le, lc_ge, lc_lt, lc_gt, lc_eq, l_rem2, l_rem3, i_rem2, i_rem3]
    refine br0 (by omega) (s_turn h1 hn (by omega) (by omega) (by omega) ?_)
    have hT := trn_lt (start := start) (step := step) (hour := hr i) h1
    unfold sgb at hR
    generalize trn n start step (hr i) = T at hT hR ⊢
    simp (disch := omega) only [q_X6_agrees_25, q_X6_agrees_26, q_X6_agrees_29, q_X6_agrees_30, q_X6_agrees_31, h0, k6, f1, y_is, y_gf, y_pf, y_f0, y_f1, y_f3, y_nI, y_nK, y_nZ, y_nL, y_nR, y_k1i, y_k1r, y_k1l, y_k1n, y_tl, y_tn, y_s, y_ss, List.getElem?_cons_zero, List.getElem?_cons_succ, List.set_cons_zero, List.set_cons_succ, List.length_cons, List.length_nil, true_and, and_true, y_lIn, y_lKn, y_lZn, y_lLn, y_wIn, y_wZn, y_wLn, lit, le_n, lt_n, eq_n]
    have nx : ∀ x4, agd n hr po as_ start step d (i + 1) = R → wp 57 b 63 [.ref w, .int (nI start), .int (nI step), .int (nI i), x4] [] g Q := fun x4 h => by
      simp (disch := omega) only [q_X6_agrees_63, q_X6_agrees_66, y_is, y_gf, y_pf, y_f0, y_f1, y_f3, y_nI, y_nK, y_nZ, y_nL, y_nR, y_k1i, y_k1r, y_k1l, y_k1n, y_tl, y_tn, y_s, y_ss, List.getElem?_cons_zero, List.getElem?_cons_succ, List.set_cons_zero, List.set_cons_succ, List.length_cons, List.length_nil, true_and, and_true, lit, nI_add]
      exact ih (i + 1) x4 (by omega) h
    have en : false = R → ∀ ls, wp 57 b 61 ls [] g Q := fun h ls => by
      subst h
      simp only [q_X6_agrees_61, q_X6_agrees_62, y_is, y_gf, y_pf, y_f0, y_f1, y_f3, y_nI, y_nK, y_nZ, y_nL, y_nR, y_k1i, y_k1r, y_k1l, y_k1n, y_tl, y_tn, y_s, y_ss, List.getElem?_cons_zero, List.getElem?_cons_succ, List.set_cons_zero, List.set_cons_succ, List.length_cons, List.length_nil, true_and, and_true]
      exact ⟨by decide, hQ⟩
    by_cases t : T = po i
    · rw [bnt t]
      simp (disch := omega) only [q_X6_agrees_34, q_X6_agrees_35, q_X6_agrees_39, q_X6_agrees_41, q_X6_agrees_43, q_X6_agrees_44, q_X6_agrees_47, q_X6_agrees_48, q_X6_agrees_49, q_X6_agrees_50, h0, k7, g1, y_is, y_gf, y_pf, y_f0, y_f1, y_f3, y_nI, y_nK, y_nZ, y_nL, y_nR, y_k1i, y_k1r, y_k1l, y_k1n, y_tl, y_tn, y_s, y_ss, List.getElem?_cons_zero, List.getElem?_cons_succ, List.set_cons_zero, List.set_cons_succ, List.length_cons, List.length_nil, true_and, and_true, y_lIn, y_lKn, y_lZn, y_lLn, y_wIn, y_wZn, y_wLn, lit, le_n, lt_n, eq_n]
      by_cases a : as_ i = 1
      · rw [bnt a]
        rw [show ((T == po i) == (as_ i == 1)) = true by simp [t, a], Bool.true_and] at hR
        simp (disch := omega) only [q_X6_agrees_53, q_X6_agrees_54, q_X6_agrees_58, y_is, y_gf, y_pf, y_f0, y_f1, y_f3, y_nI, y_nK, y_nZ, y_nL, y_nR, y_k1i, y_k1r, y_k1l, y_k1n, y_tl, y_tn, y_s, y_ss, List.getElem?_cons_zero, List.getElem?_cons_succ, List.set_cons_zero, List.set_cons_succ, List.length_cons, List.length_nil, true_and, and_true, lit, eq_n]
        exact br1 (by first | decide | omega | trivial | simp) (nx _ hR)
      · rw [bnf a]
        rw [show ((T == po i) == (as_ i == 1)) = false by simp [t, a], Bool.false_and] at hR
        simp (disch := omega) only [q_X6_agrees_57, q_X6_agrees_58, y_is, y_gf, y_pf, y_f0, y_f1, y_f3, y_nI, y_nK, y_nZ, y_nL, y_nR, y_k1i, y_k1r, y_k1l, y_k1n, y_tl, y_tn, y_s, y_ss, List.getElem?_cons_zero, List.getElem?_cons_succ, List.set_cons_zero, List.set_cons_succ, List.length_cons, List.length_nil, true_and, and_true, lit, eq_n]
        exact br0 (by first | decide | omega | trivial | simp) (en hR _)
    · rw [bnf t]
      simp (disch := omega) only [q_X6_agrees_38, q_X6_agrees_39, q_X6_agrees_41, q_X6_agrees_43, q_X6_agrees_44, q_X6_agrees_47, q_X6_agrees_48, q_X6_agrees_49, q_X6_agrees_50, h0, k7, g1, y_is, y_gf, y_pf, y_f0, y_f1, y_f3, y_nI, y_nK, y_nZ, y_nL, y_nR, y_k1i, y_k1r, y_k1l, y_k1n, y_tl, y_tn, y_s, y_ss, List.getElem?_cons_zero, List.getElem?_cons_succ, List.set_cons_zero, List.set_cons_succ, List.length_cons, List.length_nil, true_and, and_true, y_lIn, y_lKn, y_lZn, y_lLn, y_wIn, y_wZn, y_wLn, lit, le_n, lt_n, eq_n]
      by_cases a : as_ i = 1
      · rw [bnt a]
        rw [show ((T == po i) == (as_ i == 1)) = false by simp [t, a], Bool.false_and] at hR
        simp (disch := omega) only [q_X6_agrees_53, q_X6_agrees_54, q_X6_agrees_58, y_is, y_gf, y_pf, y_f0, y_f1, y_f3, y_nI, y_nK, y_nZ, y_nL, y_nR, y_k1i, y_k1r, y_k1l, y_k1n, y_tl, y_tn, y_s, y_ss, List.getElem?_cons_zero, List.getElem?_cons_succ, List.set_cons_zero, List.set_cons_succ, List.length_cons, List.length_nil, true_and, and_true, lit, eq_n]
        exact br0 (by first | decide | omega | trivial | simp) (en hR _)
      · rw [bnf a]
        rw [show ((T == po i) == (as_ i == 1)) = true by rw [beq_false_of_ne t, beq_false_of_ne a]; rfl, Bool.true_and] at hR
        simp (disch := omega) only [q_X6_agrees_57, q_X6_agrees_58, y_is, y_gf, y_pf, y_f0, y_f1, y_f3, y_nI, y_nK, y_nZ, y_nL, y_nR, y_k1i, y_k1r, y_k1l, y_k1n, y_tl, y_tn, y_s, y_ss, List.getElem?_cons_zero, List.getElem?_cons_succ, List.set_cons_zero, List.set_cons_succ, List.length_cons, List.length_nil, true_and, and_true, lit, eq_n]
        exact br1 (by first | decide | omega | trivial | simp) (nx _ hR)
theorem s_agr {n m start step : Nat} {hr po as_ : Nat → Nat} (hW : wt g w v A) (hv : v 0 = nI n) (hv5 : v 5 = nI m) (h1 : 1 ≤ n) (hn : n ≤ 9) (hm : m ≤ 12) (hs : start ≤ 9) (ht : step ≤ 9) (hhr : ∀ i, i < 12 → A 5 i = nI (hr i) ∧ hr i ≤ 999) (hpo : ∀ i, i < 12 → A 6 i = nI (po i) ∧ po i ≤ 9) (has : ∀ i, i < 12 → A 7 i = nI (as_ i) ∧ as_ i ≤ 1) (hQ : Q (some (.int (if agd n hr po as_ start step m 0 then 1 else 0))) g) : wp 57 b 0 [.ref w, .int (nI start), .int (nI step), .null, .null] [] g Q := by
  simp only [q_X6_agrees_0, q_X6_agrees_1, y_is, y_gf, y_pf, y_f0, y_f1, y_f3, y_nI, y_nK, y_nZ, y_nL, y_nR, y_k1i, y_k1r, y_k1l, y_k1n, y_tl, y_tn, y_s, y_ss, List.getElem?_cons_zero, List.getElem?_cons_succ, List.set_cons_zero, List.set_cons_succ, List.length_cons, List.length_nil, true_and, and_true]
  exact s_agr_loop hW hv hv5 h1 hn hm hs ht hhr hpo has _ hQ m 0 _ (by omega) rfl
/-- what 'agrees' does, told by its answer -/
def agC (g : mzG) (w n : Nat) (P : Nat → Nat → Bool) : Prop := ∀ (b : mzB) (Q : mzQ) (i j : Nat), i < n → j < n → Q (some (.int (if P i j then 1 else 0))) g → wp 57 b 0 [.ref w, .int (nI i), .int (nI j), .null, .null] [] g Q
theorem s_agg_in {n : Nat} {P : Nat → Nat → Bool} {st : Nat} {s : Nat × Option Nat} (hW : wt g w v A) (hv : v 0 = nI n) (hn : n ≤ 9) (hP : agC g w n P) (hst : st < n) (hs1 : s.1 ≤ 999) (hQ : wp 55 b 40 [.ref w, .int (nI (rdi P st n s).1), .int (nI st), .int (nI n)] [] g Q) : ∀ d j, j + d = n → wp 55 b 14 [.ref w, .int (nI (rdi P st j s).1), .int (nI st), .int (nI j)] [] g Q := by
  intro d
  induction d with
  | zero =>
    intro j hj
    have hj : j = n := by omega
    subst hj
    rw [q_X6_agreeing_14]
    simp (disch := omega) only [q_X6_agreeing_15, q_X6_agreeing_16, q_X6_agreeing_19, hW.1, hv, y_is, y_gf, y_pf, y_f0, y_f1, y_f3, y_nI, y_nK, y_nZ, y_nL, y_nR, y_k1i, y_k1r, y_k1l, y_k1n, y_tl, y_tn, y_s, y_ss, List.getElem?_cons_zero, List.getElem?_cons_succ, List.set_cons_zero, List.set_cons_succ, List.length_cons, List.length_nil, true_and, and_true, y_lIn, y_lKn, y_lZn, y_lLn, y_wIn, y_wZn, y_wLn, lit, le_n, lt_n, eq_n, lit, litL, le_n, lt_n, eq_n, nI_add, m_neg, pk_sub, pk_mul, i_l, l_i, l_add, l_mul, l_sub, lc_le, lc_ge, lc_lt, lc_gt, lc_eq, l_rem2, l_rem3, i_rem2, i_rem3]
    exact br1 (by omega) hQ
  | succ d ih =>
    intro j hj
    have := ih (j + 1) (by omega)
    rw [rdi] at this
    have hle := rdi_le P st s j
    rw [q_X6_agreeing_14]
    simp (disch := omega) only [q_X6_agreeing_15, q_X6_agreeing_16, q_X6_agreeing_19, q_X6_agreeing_22, q_X6_agreeing_23, q_X6_agreeing_24, q_X6_agreeing_25, hW.1, hv, y_is, y_gf, y_pf, y_f0, y_f1, y_f3, y_nI, y_nK, y_nZ, y_nL, y_nR, y_k1i, y_k1r, y_k1l, y_k1n, y_tl, y_tn, y_s, y_ss, List.getElem?_cons_zero, List.getElem?_cons_succ, List.set_cons_zero, List.set_cons_succ, List.length_cons, List.length_nil, true_and, and_true, y_lIn, y_lKn, y_lZn, y_lLn, y_wIn, y_wZn, y_wLn, lit, le_n, lt_n, eq_n, lit, litL, le_n, lt_n, eq_n, nI_add, m_neg, pk_sub, pk_mul, i_l, l_i, l_add, l_mul, l_sub, lc_le, lc_ge, lc_lt, lc_gt, lc_eq, l_rem2, l_rem3, i_rem2, i_rem3]
    refine br0 (by omega) (hP _ _ st j (by omega) (by omega) ?_)
    cases hp : P st j with
    | true =>
      simp only [hp, if_true] at this ⊢
      simp (disch := omega) only [q_X6_agreeing_28, y_is, y_gf, y_pf, y_f0, y_f1, y_f3, y_nI, y_nK, y_nZ, y_nL, y_nR, y_k1i, y_k1r, y_k1l, y_k1n, y_tl, y_tn, y_s, y_ss, List.getElem?_cons_zero, List.getElem?_cons_succ, List.set_cons_zero, List.set_cons_succ, List.length_cons, List.length_nil, true_and, and_true, lit, eq_n]
      refine br0 (by first | decide | omega | trivial | simp) ?_
      simp (disch := omega) only [q_X6_agreeing_31, q_X6_agreeing_34, q_X6_agreeing_37, y_is, y_gf, y_pf, y_f0, y_f1, y_f3, y_nI, y_nK, y_nZ, y_nL, y_nR, y_k1i, y_k1r, y_k1l, y_k1n, y_tl, y_tn, y_s, y_ss, List.getElem?_cons_zero, List.getElem?_cons_succ, List.set_cons_zero, List.set_cons_succ, List.length_cons, List.length_nil, true_and, and_true, lit, nI_add]
      exact this
    | false =>
      simp only [hp, if_false, Bool.false_eq_true] at this ⊢
      simp (disch := omega) only [q_X6_agreeing_28, y_is, y_gf, y_pf, y_f0, y_f1, y_f3, y_nI, y_nK, y_nZ, y_nL, y_nR, y_k1i, y_k1r, y_k1l, y_k1n, y_tl, y_tn, y_s, y_ss, List.getElem?_cons_zero, List.getElem?_cons_succ, List.set_cons_zero, List.set_cons_succ, List.length_cons, List.length_nil, true_and, and_true, lit, eq_n]
      refine br1 (by first | decide | omega | trivial | simp) ?_
      simp (disch := omega) only [q_X6_agreeing_34, q_X6_agreeing_37, y_is, y_gf, y_pf, y_f0, y_f1, y_f3, y_nI, y_nK, y_nZ, y_nL, y_nR, y_k1i, y_k1r, y_k1l, y_k1n, y_tl, y_tn, y_s, y_ss, List.getElem?_cons_zero, List.getElem?_cons_succ, List.set_cons_zero, List.set_cons_succ, List.length_cons, List.length_nil, true_and, and_true, lit, nI_add]
      exact this
theorem s_agg {n : Nat} {P : Nat → Nat → Bool} (hW : wt g w v A) (hv : v 0 = nI n) (hn : n ≤ 9) (hP : agC g w n P) (hQ : Q (some (.int (nI (rdo P n n).1))) g) : wp 55 b 0 [.ref w, .null, .null, .null] [] g Q := by
  have loop : ∀ d p (x3 : Value), p + d = n → wp 55 b 4 [.ref w, .int (nI (rdo P n p).1), .int (nI p), x3] [] g Q := by
    intro d
    induction d with
    | zero =>
      intro p x3 hp
      have hp : p = n := by omega
      subst hp
      rw [q_X6_agreeing_4]
      simp (disch := omega) only [q_X6_agreeing_5, q_X6_agreeing_6, q_X6_agreeing_9, q_X6_agreeing_46, q_X6_agreeing_47, hW.1, hv, y_is, y_gf, y_pf, y_f0, y_f1, y_f3, y_nI, y_nK, y_nZ, y_nL, y_nR, y_k1i, y_k1r, y_k1l, y_k1n, y_tl, y_tn, y_s, y_ss, List.getElem?_cons_zero, List.getElem?_cons_succ, List.set_cons_zero, List.set_cons_succ, List.length_cons, List.length_nil, true_and, and_true, y_lIn, y_lKn, y_lZn, y_lLn, y_wIn, y_wZn, y_wLn, lit, le_n, lt_n, eq_n, lit, litL, le_n, lt_n, eq_n, nI_add, m_neg, pk_sub, pk_mul, i_l, l_i, l_add, l_mul, l_sub, lc_le, lc_ge, lc_lt, lc_gt, lc_eq, l_rem2, l_rem3, i_rem2, i_rem3]
      exact br1 (by omega) hQ
    | succ d ih =>
      intro p x3 hp
      have hle := rdo_le P n p
      have hpn : p * n ≤ 9 * 9 := Nat.mul_le_mul (by omega) hn
      rw [q_X6_agreeing_4]
      simp (disch := omega) only [q_X6_agreeing_5, q_X6_agreeing_6, q_X6_agreeing_9, q_X6_agreeing_12, q_X6_agreeing_13, hW.1, hv, y_is, y_gf, y_pf, y_f0, y_f1, y_f3, y_nI, y_nK, y_nZ, y_nL, y_nR, y_k1i, y_k1r, y_k1l, y_k1n, y_tl, y_tn, y_s, y_ss, List.getElem?_cons_zero, List.getElem?_cons_succ, List.set_cons_zero, List.set_cons_succ, List.length_cons, List.length_nil, true_and, and_true, y_lIn, y_lKn, y_lZn, y_lLn, y_wIn, y_wZn, y_wLn, lit, le_n, lt_n, eq_n, lit, litL, le_n, lt_n, eq_n, nI_add, m_neg, pk_sub, pk_mul, i_l, l_i, l_add, l_mul, l_sub, lc_le, lc_ge, lc_lt, lc_gt, lc_eq, l_rem2, l_rem3, i_rem2, i_rem3]
      refine br0 (by omega) (s_agg_in (s := rdo P n p) hW hv hn hP (by omega) (by omega) ?_ n 0 (by omega))
      simp (disch := omega) only [q_X6_agreeing_40, q_X6_agreeing_43, y_is, y_gf, y_pf, y_f0, y_f1, y_f3, y_nI, y_nK, y_nZ, y_nL, y_nR, y_k1i, y_k1r, y_k1l, y_k1n, y_tl, y_tn, y_s, y_ss, List.getElem?_cons_zero, List.getElem?_cons_succ, List.set_cons_zero, List.set_cons_succ, List.length_cons, List.length_nil, true_and, and_true, lit, nI_add]
      exact ih (p + 1) _ (by omega)
  simp only [q_X6_agreeing_0, q_X6_agreeing_1, q_X6_agreeing_2, q_X6_agreeing_3, y_is, y_gf, y_pf, y_f0, y_f1, y_f3, y_nI, y_nK, y_nZ, y_nL, y_nR, y_k1i, y_k1r, y_k1l, y_k1n, y_tl, y_tn, y_s, y_ss, List.getElem?_cons_zero, List.getElem?_cons_succ, List.set_cons_zero, List.set_cons_succ, List.length_cons, List.length_nil, true_and, and_true]
  exact loop n 0 _ (by omega)
theorem s_fag_in {n : Nat} {P : Nat → Nat → Bool} {st : Nat} {s : Nat × Option Nat} {R : Option Nat} (hW : wt g w v A) (hv : v 0 = nI n) (hn : n ≤ 9) (hP : agC g w n P) (hst : st < n) (hf : ∀ x, 0 < (rdi P st n s).1 → (rdi P st n s).2 = some x → R = some x) (hR : Q (some (.int (oI R))) g) (hQ : (rdi P st n s).1 = 0 → wp 56 b 42 [.ref w, .int (nI st), .int (nI n)] [] g Q) : ∀ d j, j + d = n → (rdi P st j s).1 = 0 → wp 56 b 12 [.ref w, .int (nI st), .int (nI j)] [] g Q := by
  intro d
  induction d with
  | zero =>
    intro j hj h0
    have hj : j = n := by omega
    subst hj
    rw [q_X6_firstAgreeing_12]
    simp (disch := omega) only [q_X6_firstAgreeing_13, q_X6_firstAgreeing_14, q_X6_firstAgreeing_17, hW.1, hv, y_is, y_gf, y_pf, y_f0, y_f1, y_f3, y_nI, y_nK, y_nZ, y_nL, y_nR, y_k1i, y_k1r, y_k1l, y_k1n, y_tl, y_tn, y_s, y_ss, List.getElem?_cons_zero, List.getElem?_cons_succ, List.set_cons_zero, List.set_cons_succ, List.length_cons, List.length_nil, true_and, and_true, y_lIn, y_lKn, y_lZn, y_lLn, y_wIn, y_wZn, y_wLn, lit, le_n, lt_n, eq_n, lit, litL, le_n, lt_n, eq_n, nI_add, m_neg, pk_sub, pk_mul, i_l, l_i, l_add, l_mul, l_sub, lc_le, lc_ge, lc_lt, lc_gt, lc_eq, l_rem2, l_rem3, i_rem2, i_rem3]
    exact br1 (by omega) (hQ h0)
  | succ d ih =>
    intro j hj h0
    have ih := ih (j + 1) (by omega)
    rw [q_X6_firstAgreeing_12]
    simp (disch := omega) only [q_X6_firstAgreeing_13, q_X6_firstAgreeing_14, q_X6_firstAgreeing_17, q_X6_firstAgreeing_20, q_X6_firstAgreeing_21, q_X6_firstAgreeing_22, q_X6_firstAgreeing_23, hW.1, hv, y_is, y_gf, y_pf, y_f0, y_f1, y_f3, y_nI, y_nK, y_nZ, y_nL, y_nR, y_k1i, y_k1r, y_k1l, y_k1n, y_tl, y_tn, y_s, y_ss, List.getElem?_cons_zero, List.getElem?_cons_succ, List.set_cons_zero, List.set_cons_succ, List.length_cons, List.length_nil, true_and, and_true, y_lIn, y_lKn, y_lZn, y_lLn, y_wIn, y_wZn, y_wLn, lit, le_n, lt_n, eq_n, lit, litL, le_n, lt_n, eq_n, nI_add, m_neg, pk_sub, pk_mul, i_l, l_i, l_add, l_mul, l_sub, lc_le, lc_ge, lc_lt, lc_gt, lc_eq, l_rem2, l_rem3, i_rem2, i_rem3]
    refine br0 (by omega) (hP _ _ st j (by omega) (by omega) ?_)
    cases hp : P st j with
    | true =>
      simp only [hp, if_true]
      simp (disch := omega) only [q_X6_firstAgreeing_26, y_is, y_gf, y_pf, y_f0, y_f1, y_f3, y_nI, y_nK, y_nZ, y_nL, y_nR, y_k1i, y_k1r, y_k1l, y_k1n, y_tl, y_tn, y_s, y_ss, List.getElem?_cons_zero, List.getElem?_cons_succ, List.set_cons_zero, List.set_cons_succ, List.length_cons, List.length_nil, true_and, and_true, lit, eq_n]
      refine br0 (by first | decide | omega | trivial | simp) ?_
      simp (disch := omega) only [q_X6_firstAgreeing_29, q_X6_firstAgreeing_31, q_X6_firstAgreeing_32, q_X6_firstAgreeing_33, q_X6_firstAgreeing_34, q_X6_firstAgreeing_35, y_is, y_gf, y_pf, y_f0, y_f1, y_f3, y_nI, y_nK, y_nZ, y_nL, y_nR, y_k1i, y_k1r, y_k1l, y_k1n, y_tl, y_tn, y_s, y_ss, List.getElem?_cons_zero, List.getElem?_cons_succ, List.set_cons_zero, List.set_cons_succ, List.length_cons, List.length_nil, true_and, and_true, lit, pk_mul, nI_add]
      have e1 : rdi P st (j + 1) s = (1, some (10 * st + j)) := by rw [rdi, if_pos hp, h0, if_pos rfl]
      have k := rdi_from P st s (n - (j + 1)) (j + 1) (by rw [e1]; exact Nat.one_pos)
      rw [show j + 1 + (n - (j + 1)) = n by omega, e1] at k
      have := hf _ k.1 k.2
      rw [this] at hR
      exact hR
    | false =>
      simp only [hp, if_false, Bool.false_eq_true]
      simp (disch := omega) only [q_X6_firstAgreeing_26, y_is, y_gf, y_pf, y_f0, y_f1, y_f3, y_nI, y_nK, y_nZ, y_nL, y_nR, y_k1i, y_k1r, y_k1l, y_k1n, y_tl, y_tn, y_s, y_ss, List.getElem?_cons_zero, List.getElem?_cons_succ, List.set_cons_zero, List.set_cons_succ, List.length_cons, List.length_nil, true_and, and_true, lit, eq_n]
      refine br1 (by first | decide | omega | trivial | simp) ?_
      simp (disch := omega) only [q_X6_firstAgreeing_36, q_X6_firstAgreeing_39, y_is, y_gf, y_pf, y_f0, y_f1, y_f3, y_nI, y_nK, y_nZ, y_nL, y_nR, y_k1i, y_k1r, y_k1l, y_k1n, y_tl, y_tn, y_s, y_ss, List.getElem?_cons_zero, List.getElem?_cons_succ, List.set_cons_zero, List.set_cons_succ, List.length_cons, List.length_nil, true_and, and_true, lit, nI_add]
      exact ih (by rw [rdi, if_neg (by rw [hp]; decide)]; exact h0)
theorem s_fag {n : Nat} {P : Nat → Nat → Bool} (hW : wt g w v A) (hv : v 0 = nI n) (hn : n ≤ 9) (hP : agC g w n P) (hQ : Q (some (.int (oI (rdo P n n).2))) g) : wp 56 b 0 [.ref w, .null, .null] [] g Q := by
  have none0 : ∀ p, (rdo P n p).1 = 0 → (rdo P n p).2 = none := by
    have in0 : ∀ st s k, (rdi P st k s).1 = 0 → s.2 = none → (rdi P st k s).2 = none := by
      intro st s k
      induction k with
      | zero => intro _ h; exact h
      | succ k ih =>
        intro h1 h2
        rw [rdi] at h1 ⊢
        split at h1
        · simp at h1
        · rename_i c
          rw [if_neg c]; exact ih h1 h2
    have le0 : ∀ st s k, s.1 ≤ (rdi P st k s).1 := by
      intro st s k
      induction k with
      | zero => exact Nat.le_refl _
      | succ k ih =>
        rw [rdi]
        split
        · show s.1 ≤ (rdi P st k s).1 + 1; omega
        · exact ih
    intro p
    induction p with
    | zero => intro _; rfl
    | succ p ih =>
      intro h
      rw [rdo] at h ⊢
      have := le0 p (rdo P n p) n
      exact in0 _ _ _ h (ih (by omega))
  have loop : ∀ d p (x2 : Value), p + d = n → (rdo P n p).1 = 0 → wp 56 b 2 [.ref w, .int (nI p), x2] [] g Q := by
    intro d
    induction d with
    | zero =>
      intro p x2 hp h0
      have hp : p = n := by omega
      subst hp
      rw [q_X6_firstAgreeing_2]
      simp (disch := omega) only [q_X6_firstAgreeing_3, q_X6_firstAgreeing_4, q_X6_firstAgreeing_7, q_X6_firstAgreeing_48, q_X6_firstAgreeing_49, hW.1, hv, y_is, y_gf, y_pf, y_f0, y_f1, y_f3, y_nI, y_nK, y_nZ, y_nL, y_nR, y_k1i, y_k1r, y_k1l, y_k1n, y_tl, y_tn, y_s, y_ss, List.getElem?_cons_zero, List.getElem?_cons_succ, List.set_cons_zero, List.set_cons_succ, List.length_cons, List.length_nil, true_and, and_true, y_lIn, y_lKn, y_lZn, y_lLn, y_wIn, y_wZn, y_wLn, lit, le_n, lt_n, eq_n, lit, litL, le_n, lt_n, eq_n, nI_add, m_neg, pk_sub, pk_mul, i_l, l_i, l_add, l_mul, l_sub, lc_le, lc_ge, lc_lt, lc_gt, lc_eq, l_rem2, l_rem3, i_rem2, i_rem3]
      rw [none0 p h0] at hQ
      exact br1 (by omega) hQ
    | succ d ih =>
      intro p x2 hp h0
      rw [q_X6_firstAgreeing_2]
      simp (disch := omega) only [q_X6_firstAgreeing_3, q_X6_firstAgreeing_4, q_X6_firstAgreeing_7, q_X6_firstAgreeing_10, q_X6_firstAgreeing_11, hW.1, hv, y_is, y_gf, y_pf, y_f0, y_f1, y_f3, y_nI, y_nK, y_nZ, y_nL, y_nR, y_k1i, y_k1r, y_k1l, y_k1n, y_tl, y_tn, y_s, y_ss, List.getElem?_cons_zero, List.getElem?_cons_succ, List.set_cons_zero, List.set_cons_succ, List.length_cons, List.length_nil, true_and, and_true, y_lIn, y_lKn, y_lZn, y_lLn, y_wIn, y_wZn, y_wLn, lit, le_n, lt_n, eq_n, lit, litL, le_n, lt_n, eq_n, nI_add, m_neg, pk_sub, pk_mul, i_l, l_i, l_add, l_mul, l_sub, lc_le, lc_ge, lc_lt, lc_gt, lc_eq, l_rem2, l_rem3, i_rem2, i_rem3]
      refine br0 (by omega) (s_fag_in (s := rdo P n p) hW hv hn hP (by omega) (fun x hx hx2 => ?_) hQ (fun z => ?_) n 0 (by omega) h0)
      · have k := rdo_from P n (n - (p + 1)) (p + 1) hx
        rw [show p + 1 + (n - (p + 1)) = n by omega] at k
        rw [k.2]; exact hx2
      · simp (disch := omega) only [q_X6_firstAgreeing_42, q_X6_firstAgreeing_45, y_is, y_gf, y_pf, y_f0, y_f1, y_f3, y_nI, y_nK, y_nZ, y_nL, y_nR, y_k1i, y_k1r, y_k1l, y_k1n, y_tl, y_tn, y_s, y_ss, List.getElem?_cons_zero, List.getElem?_cons_succ, List.set_cons_zero, List.set_cons_succ, List.length_cons, List.length_nil, true_and, and_true, lit, nI_add]
        exact ih (p + 1) _ (by omega) z
  simp only [q_X6_firstAgreeing_0, q_X6_firstAgreeing_1, y_is, y_gf, y_pf, y_f0, y_f1, y_f3, y_nI, y_nK, y_nZ, y_nL, y_nR, y_k1i, y_k1r, y_k1l, y_k1n, y_tl, y_tn, y_s, y_ss, List.getElem?_cons_zero, List.getElem?_cons_succ, List.set_cons_zero, List.set_cons_succ, List.length_cons, List.length_nil, true_and, and_true]
  exact loop n 0 _ (by omega) rfl
theorem s_fun_loop {n post cs cp start step : Nat} (hW : wt g w v A) (hv : v 0 = nI n) (hv2 : v 2 = nI cs) (hv3 : v 3 = nI cp) (h1 : 1 ≤ n) (hn : n ≤ 9) (hcs : cs ≤ 9) (hcp : cp ≤ 9) (hs : start ≤ 9) (ht : step ≤ 9) (hp : post ≤ 9) (R : Option Nat) (hQ : Q (some (.int (oI R))) g) : ∀ (d h : Nat) (x5 : Value), h + d = n → fud n post cs cp start step d h = R → wp 59 b 3 [.ref w, .int (nI post), .int (nI start), .int (nI step), .int (nI h), x5] [] g Q := by
  intro d
  induction d with
  | zero =>
    intro h x5 hh hR
    rw [fud] at hR
    subst hR
    rw [q_X6_firstUnlike_3]
    simp (disch := omega) only [q_X6_firstUnlike_5, q_X6_firstUnlike_6, q_X6_firstUnlike_9, q_X6_firstUnlike_63, q_X6_firstUnlike_64, hW.1, hv, y_is, y_gf, y_pf, y_f0, y_f1, y_f3, y_nI, y_nK, y_nZ, y_nL, y_nR, y_k1i, y_k1r, y_k1l, y_k1n, y_tl, y_tn, y_s, y_ss, List.getElem?_cons_zero, List.getElem?_cons_succ, List.set_cons_zero, List.set_cons_succ, List.length_cons, List.length_nil, true_and, and_true, y_lIn, y_lKn, y_lZn, y_lLn, y_wIn, y_wZn, y_wLn, lit, le_n, lt_n, eq_n, lit, litL, le_n, lt_n, eq_n, nI_add, m_neg, pk_sub, pk_mul, i_l, l_i, l_add, l_mul, l_sub, lc_le, lc_ge, lc_lt, lc_gt, lc_eq, l_rem2, l_rem3, i_rem2, i_rem3]
    exact br1 (by omega) hQ
  | succ d ih =>
    intro h x5 hh hR
    rw [fud] at hR
    rw [q_X6_firstUnlike_3]
    simp (disch := omega) only [q_X6_firstUnlike_5, q_X6_firstUnlike_6, q_X6_firstUnlike_9, q_X6_firstUnlike_12, q_X6_firstUnlike_13, q_X6_firstUnlike_16, q_X6_firstUnlike_17, q_X6_firstUnlike_18, q_X6_firstUnlike_20, hW.1, hv, y_is, y_gf, y_pf, y_f0, y_f1, y_f3, y_nI, y_nK, y_nZ, y_nL, y_nR, y_k1i, y_k1r, y_k1l, y_k1n, y_tl, y_tn, y_s, y_ss, List.getElem?_cons_zero, List.getElem?_cons_succ, List.set_cons_zero, List.set_cons_succ, List.length_cons, List.length_nil, true_and, and_true, y_lIn, y_lKn, y_lZn, y_lLn, y_wIn, y_wZn, y_wLn, lit, le_n, lt_n, eq_n, lit, litL, le_n, lt_n, eq_n, nI_add, m_neg, pk_sub, pk_mul, i_l, l_i, l_add, l_mul, l_sub, lc_le, lc_ge, lc_lt, lc_gt, lc_eq, l_rem2, l_rem3, i_rem2, i_rem3]
    refine br0 (by omega) (s_turn h1 hn (by omega) (by omega) (by omega) ?_)
    have hT := trn_lt (start := start) (step := step) (hour := h) h1
    have hU := trn_lt (start := cs) (step := cp) (hour := h) h1
    have hTu : unl n post cs cp start step h = ((trn n start step h == post) != (trn n cs cp h == post)) := rfl
    rw [hTu] at hR
    have nx : ∀ x5, fud n post cs cp start step d (h + 1) = R → wp 59 b 57 [.ref w, .int (nI post), .int (nI start), .int (nI step), .int (nI h), x5] [] g Q := fun x5 q => by
      simp (disch := omega) only [q_X6_firstUnlike_57, q_X6_firstUnlike_60, y_is, y_gf, y_pf, y_f0, y_f1, y_f3, y_nI, y_nK, y_nZ, y_nL, y_nR, y_k1i, y_k1r, y_k1l, y_k1n, y_tl, y_tn, y_s, y_ss, List.getElem?_cons_zero, List.getElem?_cons_succ, List.set_cons_zero, List.set_cons_succ, List.length_cons, List.length_nil, true_and, and_true, lit, nI_add]
      exact ih (h + 1) x5 (by omega) q
    have en : ∀ x5, some h = R → wp 59 b 54 [.ref w, .int (nI post), .int (nI start), .int (nI step), .int (nI h), x5] [] g Q := fun x5 q => by
      subst q
      simp (disch := omega) only [q_X6_firstUnlike_54, q_X6_firstUnlike_56, y_is, y_gf, y_pf, y_f0, y_f1, y_f3, y_nI, y_nK, y_nZ, y_nL, y_nR, y_k1i, y_k1r, y_k1l, y_k1n, y_tl, y_tn, y_s, y_ss, List.getElem?_cons_zero, List.getElem?_cons_succ, List.set_cons_zero, List.set_cons_succ, List.length_cons, List.length_nil, true_and, and_true]
      exact hQ
    generalize trn n start step h = T at hT hR ⊢
    simp (disch := omega) only [q_X6_firstUnlike_23, q_X6_firstUnlike_24, y_is, y_gf, y_pf, y_f0, y_f1, y_f3, y_nI, y_nK, y_nZ, y_nL, y_nR, y_k1i, y_k1r, y_k1l, y_k1n, y_tl, y_tn, y_s, y_ss, List.getElem?_cons_zero, List.getElem?_cons_succ, List.set_cons_zero, List.set_cons_succ, List.length_cons, List.length_nil, true_and, and_true, eq_n]
    by_cases t : T = post
    · rw [bnt t]
      simp (disch := omega) only [q_X6_firstUnlike_27, q_X6_firstUnlike_28, q_X6_firstUnlike_32, q_X6_firstUnlike_34, q_X6_firstUnlike_36, q_X6_firstUnlike_37, q_X6_firstUnlike_39, y_is, y_gf, y_pf, y_f0, y_f1, y_f3, y_nI, y_nK, y_nZ, y_nL, y_nR, y_k1i, y_k1r, y_k1l, y_k1n, y_tl, y_tn, y_s, y_ss, List.getElem?_cons_zero, List.getElem?_cons_succ, List.set_cons_zero, List.set_cons_succ, List.length_cons, List.length_nil, true_and, and_true]
      refine s_inTurn hW hv hv2 hv3 h1 hn (by omega) (by omega) (by omega) ?_
      generalize trn n cs cp h = U at hU hR ⊢
      simp (disch := omega) only [q_X6_firstUnlike_42, q_X6_firstUnlike_43, y_is, y_gf, y_pf, y_f0, y_f1, y_f3, y_nI, y_nK, y_nZ, y_nL, y_nR, y_k1i, y_k1r, y_k1l, y_k1n, y_tl, y_tn, y_s, y_ss, List.getElem?_cons_zero, List.getElem?_cons_succ, List.set_cons_zero, List.set_cons_succ, List.length_cons, List.length_nil, true_and, and_true, eq_n]
      by_cases u : U = post
      · rw [bnt u]
        rw [show ((T == post) != (U == post)) = false by simp [t, u], if_neg (by decide)] at hR
        simp (disch := omega) only [q_X6_firstUnlike_46, q_X6_firstUnlike_47, q_X6_firstUnlike_51, y_is, y_gf, y_pf, y_f0, y_f1, y_f3, y_nI, y_nK, y_nZ, y_nL, y_nR, y_k1i, y_k1r, y_k1l, y_k1n, y_tl, y_tn, y_s, y_ss, List.getElem?_cons_zero, List.getElem?_cons_succ, List.set_cons_zero, List.set_cons_succ, List.length_cons, List.length_nil, true_and, and_true, lit, eq_n]
        exact br1 (by first | decide | omega | trivial | simp) (nx _ hR)
      · rw [bnf u]
        rw [show ((T == post) != (U == post)) = true by simp [t, u], if_pos rfl] at hR
        simp (disch := omega) only [q_X6_firstUnlike_50, q_X6_firstUnlike_51, y_is, y_gf, y_pf, y_f0, y_f1, y_f3, y_nI, y_nK, y_nZ, y_nL, y_nR, y_k1i, y_k1r, y_k1l, y_k1n, y_tl, y_tn, y_s, y_ss, List.getElem?_cons_zero, List.getElem?_cons_succ, List.set_cons_zero, List.set_cons_succ, List.length_cons, List.length_nil, true_and, and_true, lit, eq_n]
        exact br0 (by first | decide | omega | trivial | simp) (en _ hR)
    · rw [bnf t]
      simp (disch := omega) only [q_X6_firstUnlike_31, q_X6_firstUnlike_32, q_X6_firstUnlike_34, q_X6_firstUnlike_36, q_X6_firstUnlike_37, q_X6_firstUnlike_39, y_is, y_gf, y_pf, y_f0, y_f1, y_f3, y_nI, y_nK, y_nZ, y_nL, y_nR, y_k1i, y_k1r, y_k1l, y_k1n, y_tl, y_tn, y_s, y_ss, List.getElem?_cons_zero, List.getElem?_cons_succ, List.set_cons_zero, List.set_cons_succ, List.length_cons, List.length_nil, true_and, and_true]
      refine s_inTurn hW hv hv2 hv3 h1 hn (by omega) (by omega) (by omega) ?_
      generalize trn n cs cp h = U at hU hR ⊢
      simp (disch := omega) only [q_X6_firstUnlike_42, q_X6_firstUnlike_43, y_is, y_gf, y_pf, y_f0, y_f1, y_f3, y_nI, y_nK, y_nZ, y_nL, y_nR, y_k1i, y_k1r, y_k1l, y_k1n, y_tl, y_tn, y_s, y_ss, List.getElem?_cons_zero, List.getElem?_cons_succ, List.set_cons_zero, List.set_cons_succ, List.length_cons, List.length_nil, true_and, and_true, eq_n]
      by_cases u : U = post
      · rw [bnt u]
        rw [show ((T == post) != (U == post)) = true by simp [t, u], if_pos rfl] at hR
        simp (disch := omega) only [q_X6_firstUnlike_46, q_X6_firstUnlike_47, q_X6_firstUnlike_51, y_is, y_gf, y_pf, y_f0, y_f1, y_f3, y_nI, y_nK, y_nZ, y_nL, y_nR, y_k1i, y_k1r, y_k1l, y_k1n, y_tl, y_tn, y_s, y_ss, List.getElem?_cons_zero, List.getElem?_cons_succ, List.set_cons_zero, List.set_cons_succ, List.length_cons, List.length_nil, true_and, and_true, lit, eq_n]
        exact br0 (by first | decide | omega | trivial | simp) (en _ hR)
      · rw [bnf u]
        rw [show ((T == post) != (U == post)) = false by rw [beq_false_of_ne t, beq_false_of_ne u]; rfl, if_neg (by decide)] at hR
        simp (disch := omega) only [q_X6_firstUnlike_50, q_X6_firstUnlike_51, y_is, y_gf, y_pf, y_f0, y_f1, y_f3, y_nI, y_nK, y_nZ, y_nL, y_nR, y_k1i, y_k1r, y_k1l, y_k1n, y_tl, y_tn, y_s, y_ss, List.getElem?_cons_zero, List.getElem?_cons_succ, List.set_cons_zero, List.set_cons_succ, List.length_cons, List.length_nil, true_and, and_true, lit, eq_n]
        exact br1 (by first | decide | omega | trivial | simp) (nx _ hR)
theorem s_fun {n post cs cp start step : Nat} (hW : wt g w v A) (hv : v 0 = nI n) (hv2 : v 2 = nI cs) (hv3 : v 3 = nI cp) (h1 : 1 ≤ n) (hn : n ≤ 9) (hcs : cs ≤ 9) (hcp : cp ≤ 9) (hs : start ≤ 9) (ht : step ≤ 9) (hp : post ≤ 9) (hQ : Q (some (.int (oI (fud n post cs cp start step n 0)))) g) : wp 59 b 0 [.ref w, .int (nI post), .int (nI start), .int (nI step), .null, .null] [] g Q := by
  simp only [q_X6_firstUnlike_0, q_X6_firstUnlike_1, y_is, y_gf, y_pf, y_f0, y_f1, y_f3, y_nI, y_nK, y_nZ, y_nL, y_nR, y_k1i, y_k1r, y_k1l, y_k1n, y_tl, y_tn, y_s, y_ss, List.getElem?_cons_zero, List.getElem?_cons_succ, List.set_cons_zero, List.set_cons_succ, List.length_cons, List.length_nil, true_and, and_true]
  exact s_fun_loop hW hv hv2 hv3 h1 hn hcs hcp hs ht hp _ hQ n 0 _ (by omega) rfl
theorem s_fho_in {n post cs cp : Nat} {st : Nat} {s : Nat × Nat} (hW : wt g w v A) (hv : v 0 = nI n) (hv2 : v 2 = nI cs) (hv3 : v 3 = nI cp) (h1 : 1 ≤ n) (hn : n ≤ 9) (hcs : cs ≤ 9) (hcp : cp ≤ 9) (hp : post ≤ 9) (hst : st < n) (hs1 : s.1 ≤ 999) (hs2 : s.2 ≤ n) (hQ : ∀ x, wp 58 b 61 [.ref w, .int (nI post), .int (nI (fhi (fun i j => fud n post cs cp i j n 0) st n s).1), .int (nI (fhi (fun i j => fud n post cs cp i j n 0) st n s).2), .int (nI st), .int (nI n), x] [] g Q) : ∀ (d j : Nat) (x6 : Value), j + d = n → wp 58 b 19 [.ref w, .int (nI post), .int (nI (fhi (fun i j => fud n post cs cp i j n 0) st j s).1), .int (nI (fhi (fun i j => fud n post cs cp i j n 0) st j s).2), .int (nI st), .int (nI j), x6] [] g Q := by
  have hF : ∀ i j x, (fun i j => fud n post cs cp i j n 0) i j = some x → x < n := fun i j x e => by
    have := fud_lt n 0 x e; omega
  intro d
  induction d with
  | zero =>
    intro j x6 hj
    have hj : j = n := by omega
    subst hj
    rw [q_X6_firstHourOfOne_19]
    simp (disch := omega) only [q_X6_firstHourOfOne_21, q_X6_firstHourOfOne_22, q_X6_firstHourOfOne_25, hW.1, hv, y_is, y_gf, y_pf, y_f0, y_f1, y_f3, y_nI, y_nK, y_nZ, y_nL, y_nR, y_k1i, y_k1r, y_k1l, y_k1n, y_tl, y_tn, y_s, y_ss, List.getElem?_cons_zero, List.getElem?_cons_succ, List.set_cons_zero, List.set_cons_succ, List.length_cons, List.length_nil, true_and, and_true, y_lIn, y_lKn, y_lZn, y_lLn, y_wIn, y_wZn, y_wLn, lit, le_n, lt_n, eq_n, lit, litL, le_n, lt_n, eq_n, nI_add, m_neg, pk_sub, pk_mul, i_l, l_i, l_add, l_mul, l_sub, lc_le, lc_ge, lc_lt, lc_gt, lc_eq, l_rem2, l_rem3, i_rem2, i_rem3]
    exact br1 (by omega) (hQ _)
  | succ d ih =>
    intro j x6 hj
    have ih := fun x => ih (j + 1) x (by omega)
    simp only [fhi] at ih
    have hle := fhi_le hF st s hs2 j
    rw [q_X6_firstHourOfOne_19]
    simp (disch := omega) only [q_X6_firstHourOfOne_21, q_X6_firstHourOfOne_22, q_X6_firstHourOfOne_25, q_X6_firstHourOfOne_28, q_X6_firstHourOfOne_29, q_X6_firstHourOfOne_30, q_X6_firstHourOfOne_32, q_X6_firstHourOfOne_34, hW.1, hv, y_is, y_gf, y_pf, y_f0, y_f1, y_f3, y_nI, y_nK, y_nZ, y_nL, y_nR, y_k1i, y_k1r, y_k1l, y_k1n, y_tl, y_tn, y_s, y_ss, List.getElem?_cons_zero, List.getElem?_cons_succ, List.set_cons_zero, List.set_cons_succ, List.length_cons, List.length_nil, true_and, and_true, y_lIn, y_lKn, y_lZn, y_lLn, y_wIn, y_wZn, y_wLn, lit, le_n, lt_n, eq_n, lit, litL, le_n, lt_n, eq_n, nI_add, m_neg, pk_sub, pk_mul, i_l, l_i, l_add, l_mul, l_sub, lc_le, lc_ge, lc_lt, lc_gt, lc_eq, l_rem2, l_rem3, i_rem2, i_rem3]
    refine br0 (by omega) (s_fun hW hv hv2 hv3 h1 hn hcs hcp (by omega) (by omega) hp ?_)
    cases hp : fud n post cs cp st j n 0 with
    | none =>
      simp only [hp, fh1] at ih
      simp (disch := omega) only [q_X6_firstHourOfOne_37, q_X6_firstHourOfOne_39, q_X6_firstHourOfOne_41, q_X6_firstHourOfOne_42, y_is, y_gf, y_pf, y_f0, y_f1, y_f3, y_nI, y_nK, y_nZ, y_nL, y_nR, y_k1i, y_k1r, y_k1l, y_k1n, y_tl, y_tn, y_s, y_ss, List.getElem?_cons_zero, List.getElem?_cons_succ, List.set_cons_zero, List.set_cons_succ, List.length_cons, List.length_nil, true_and, and_true, oI]
      refine br0 (fun z => z trivial) ?_
      simp (disch := omega) only [q_X6_firstHourOfOne_45, q_X6_firstHourOfOne_48, q_X6_firstHourOfOne_49, q_X6_firstHourOfOne_51, y_is, y_gf, y_pf, y_f0, y_f1, y_f3, y_nI, y_nK, y_nZ, y_nL, y_nR, y_k1i, y_k1r, y_k1l, y_k1n, y_tl, y_tn, y_s, y_ss, List.getElem?_cons_zero, List.getElem?_cons_succ, List.set_cons_zero, List.set_cons_succ, List.length_cons, List.length_nil, true_and, and_true, lit, nI_add]
      rw [if_neg (fun z => Int32.lt_irrefl (Int32.lt_trans z (neg_lt (by decide) (by omega))))]
      simp (disch := omega) only [q_X6_firstHourOfOne_54, q_X6_firstHourOfOne_55, q_X6_firstHourOfOne_58, y_is, y_gf, y_pf, y_f0, y_f1, y_f3, y_nI, y_nK, y_nZ, y_nL, y_nR, y_k1i, y_k1r, y_k1l, y_k1n, y_tl, y_tn, y_s, y_ss, List.getElem?_cons_zero, List.getElem?_cons_succ, List.set_cons_zero, List.set_cons_succ, List.length_cons, List.length_nil, true_and, and_true, lit, nI_add]
      exact ih _
    | some h =>
      have hh : h < n := hF st j h hp
      simp only [hp, fh1] at ih
      simp (disch := omega) only [q_X6_firstHourOfOne_37, q_X6_firstHourOfOne_39, q_X6_firstHourOfOne_41, q_X6_firstHourOfOne_42, y_is, y_gf, y_pf, y_f0, y_f1, y_f3, y_nI, y_nK, y_nZ, y_nL, y_nR, y_k1i, y_k1r, y_k1l, y_k1n, y_tl, y_tn, y_s, y_ss, List.getElem?_cons_zero, List.getElem?_cons_succ, List.set_cons_zero, List.set_cons_succ, List.length_cons, List.length_nil, true_and, and_true, oI]
      refine br1 (fun z => (m1_ne (by omega)).mp z) ?_
      simp (disch := omega) only [q_X6_firstHourOfOne_48, q_X6_firstHourOfOne_49, q_X6_firstHourOfOne_51, y_is, y_gf, y_pf, y_f0, y_f1, y_f3, y_nI, y_nK, y_nZ, y_nL, y_nR, y_k1i, y_k1r, y_k1l, y_k1n, y_tl, y_tn, y_s, y_ss, List.getElem?_cons_zero, List.getElem?_cons_succ, List.set_cons_zero, List.set_cons_succ, List.length_cons, List.length_nil, true_and, and_true, lt_n]
      by_cases c : (fhi (fun i j => fud n post cs cp i j n 0) st j s).2 < h
      · rw [if_pos c]
        simp only [if_pos c] at ih
        simp (disch := omega) only [q_X6_firstHourOfOne_54, q_X6_firstHourOfOne_55, q_X6_firstHourOfOne_58, y_is, y_gf, y_pf, y_f0, y_f1, y_f3, y_nI, y_nK, y_nZ, y_nL, y_nR, y_k1i, y_k1r, y_k1l, y_k1n, y_tl, y_tn, y_s, y_ss, List.getElem?_cons_zero, List.getElem?_cons_succ, List.set_cons_zero, List.set_cons_succ, List.length_cons, List.length_nil, true_and, and_true, lit, nI_add]
        exact ih _
      · rw [if_neg c]
        simp only [if_neg c] at ih
        simp (disch := omega) only [q_X6_firstHourOfOne_54, q_X6_firstHourOfOne_55, q_X6_firstHourOfOne_58, y_is, y_gf, y_pf, y_f0, y_f1, y_f3, y_nI, y_nK, y_nZ, y_nL, y_nR, y_k1i, y_k1r, y_k1l, y_k1n, y_tl, y_tn, y_s, y_ss, List.getElem?_cons_zero, List.getElem?_cons_succ, List.set_cons_zero, List.set_cons_succ, List.length_cons, List.length_nil, true_and, and_true, lit, nI_add]
        exact ih _
/-- what 'soon' answers -/
def soonA (n post cs cp : Nat) : Option Nat := if (fho (fun i j => fud n post cs cp i j n 0) n n).1 = 1 then some (fho (fun i j => fud n post cs cp i j n 0) n n).2 else none
theorem s_fho {n post cs cp : Nat} (hW : wt g w v A) (hv : v 0 = nI n) (hv2 : v 2 = nI cs) (hv3 : v 3 = nI cp) (h1 : 1 ≤ n) (hn : n ≤ 9) (hcs : cs ≤ 9) (hcp : cp ≤ 9) (hp : post ≤ 9) (hQ : Q (some (.int (oI (soonA n post cs cp)))) g) : wp 58 b 0 [.ref w, .int (nI post), .null, .null, .null, .null, .null] [] g Q := by
  have hF : ∀ i j x, (fun i j => fud n post cs cp i j n 0) i j = some x → x < n := fun i j x e => by
    have := fud_lt n 0 x e; omega
  have loop : ∀ d p (x5 x6 : Value), p + d = n → wp 58 b 7 [.ref w, .int (nI post), .int (nI (fho (fun i j => fud n post cs cp i j n 0) n p).1), .int (nI (fho (fun i j => fud n post cs cp i j n 0) n p).2), .int (nI p), x5, x6] [] g Q := by
    intro d
    induction d with
    | zero =>
      intro p x5 x6 hp
      have hp : p = n := by omega
      subst hp
      have hle := fho_le hF p
      have hpn : p * p ≤ 9 * 9 := Nat.mul_le_mul hn hn
      rw [q_X6_firstHourOfOne_7]
      simp (disch := omega) only [q_X6_firstHourOfOne_9, q_X6_firstHourOfOne_10, q_X6_firstHourOfOne_13, q_X6_firstHourOfOne_67, q_X6_firstHourOfOne_68, q_X6_firstHourOfOne_69, hW.1, hv, y_is, y_gf, y_pf, y_f0, y_f1, y_f3, y_nI, y_nK, y_nZ, y_nL, y_nR, y_k1i, y_k1r, y_k1l, y_k1n, y_tl, y_tn, y_s, y_ss, List.getElem?_cons_zero, List.getElem?_cons_succ, List.set_cons_zero, List.set_cons_succ, List.length_cons, List.length_nil, true_and, and_true, y_lIn, y_lKn, y_lZn, y_lLn, y_wIn, y_wZn, y_wLn, lit, le_n, lt_n, eq_n, lit, litL, le_n, lt_n, eq_n, nI_add, m_neg, pk_sub, pk_mul, i_l, l_i, l_add, l_mul, l_sub, lc_le, lc_ge, lc_lt, lc_gt, lc_eq, l_rem2, l_rem3, i_rem2, i_rem3]
      refine br1 (by omega) ?_
      unfold soonA at hQ
      by_cases c : (fho (fun i j => fud p post cs cp i j p 0) p p).1 = 1
      · rw [if_pos c] at hQ
        rw [bnt c]
        simp only [q_X6_firstHourOfOne_72, q_X6_firstHourOfOne_73, q_X6_firstHourOfOne_77, y_is, y_gf, y_pf, y_f0, y_f1, y_f3, y_nI, y_nK, y_nZ, y_nL, y_nR, y_k1i, y_k1r, y_k1l, y_k1n, y_tl, y_tn, y_s, y_ss, List.getElem?_cons_zero, List.getElem?_cons_succ, List.set_cons_zero, List.set_cons_succ, List.length_cons, List.length_nil, true_and, and_true]
        exact hQ
      · rw [if_neg c] at hQ
        rw [bnf c]
        simp only [q_X6_firstHourOfOne_76, q_X6_firstHourOfOne_77, y_is, y_gf, y_pf, y_f0, y_f1, y_f3, y_nI, y_nK, y_nZ, y_nL, y_nR, y_k1i, y_k1r, y_k1l, y_k1n, y_tl, y_tn, y_s, y_ss, List.getElem?_cons_zero, List.getElem?_cons_succ, List.set_cons_zero, List.set_cons_succ, List.length_cons, List.length_nil, true_and, and_true]
        exact hQ
    | succ d ih =>
      intro p x5 x6 hp
      have hle := fho_le hF p
      have hpn : p * n ≤ 9 * 9 := Nat.mul_le_mul (by omega) hn
      rw [q_X6_firstHourOfOne_7]
      simp (disch := omega) only [q_X6_firstHourOfOne_9, q_X6_firstHourOfOne_10, q_X6_firstHourOfOne_13, q_X6_firstHourOfOne_16, q_X6_firstHourOfOne_17, hW.1, hv, y_is, y_gf, y_pf, y_f0, y_f1, y_f3, y_nI, y_nK, y_nZ, y_nL, y_nR, y_k1i, y_k1r, y_k1l, y_k1n, y_tl, y_tn, y_s, y_ss, List.getElem?_cons_zero, List.getElem?_cons_succ, List.set_cons_zero, List.set_cons_succ, List.length_cons, List.length_nil, true_and, and_true, y_lIn, y_lKn, y_lZn, y_lLn, y_wIn, y_wZn, y_wLn, lit, le_n, lt_n, eq_n, lit, litL, le_n, lt_n, eq_n, nI_add, m_neg, pk_sub, pk_mul, i_l, l_i, l_add, l_mul, l_sub, lc_le, lc_ge, lc_lt, lc_gt, lc_eq, l_rem2, l_rem3, i_rem2, i_rem3]
      refine br0 (by omega) (s_fho_in (s := fho (fun i j => fud n post cs cp i j n 0) n p) hW hv hv2 hv3 h1 hn hcs hcp (by omega) (by omega) (by omega) hle.2 (fun x => ?_) n 0 _ (by omega))
      simp (disch := omega) only [q_X6_firstHourOfOne_61, q_X6_firstHourOfOne_64, y_is, y_gf, y_pf, y_f0, y_f1, y_f3, y_nI, y_nK, y_nZ, y_nL, y_nR, y_k1i, y_k1r, y_k1l, y_k1n, y_tl, y_tn, y_s, y_ss, List.getElem?_cons_zero, List.getElem?_cons_succ, List.set_cons_zero, List.set_cons_succ, List.length_cons, List.length_nil, true_and, and_true, lit, nI_add]
      exact ih (p + 1) _ _ (by omega)
  simp only [q_X6_firstHourOfOne_0, q_X6_firstHourOfOne_1, q_X6_firstHourOfOne_2, q_X6_firstHourOfOne_3, q_X6_firstHourOfOne_4, q_X6_firstHourOfOne_5, y_is, y_gf, y_pf, y_f0, y_f1, y_f3, y_nI, y_nK, y_nZ, y_nL, y_nR, y_k1i, y_k1r, y_k1l, y_k1n, y_tl, y_tn, y_s, y_ss, List.getElem?_cons_zero, List.getElem?_cons_succ, List.set_cons_zero, List.set_cons_succ, List.length_cons, List.length_nil, true_and, and_true]
  exact loop n 0 _ _ (by omega)
end SIGHTS
