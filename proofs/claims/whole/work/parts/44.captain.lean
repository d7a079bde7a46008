/-! ===== Captain: draws and lots ===== -/
def nxd (x : Nat) : Nat := (x * 1103515245 + 12345) % 2147483648
def drw (x : Nat) : Nat → Nat
  | 0 => x
  | k + 1 => nxd (drw x k)
theorem nxd_lt (x : Nat) : nxd x < 2147483648 := Nat.mod_lt _ (by decide)
theorem drw_lt {x : Nat} (h : x < 2147483648) : ∀ k, drw x k < 2147483648
  | 0 => h
  | k + 1 => nxd_lt _
/-- by lot: the first whose sum is above r -/
def lot (sh : Nat → Nat) (r : Nat) : Nat → Nat → Option Nat
  | 0, _ => none
  | d + 1, p => if r < sm sh (p + 1) then some p else lot sh r d (p + 1)
theorem lot_ex {sh : Nat → Nat} {r : Nat} : ∀ d p, r < sm sh (p + d) → sm sh p ≤ r → ∃ q, lot sh r d p = some q ∧ p ≤ q ∧ q < p + d
  | 0, p, h1, h2 => by rw [Nat.add_zero] at h1; omega
  | d + 1, p, h1, h2 => by
    rw [lot]
    by_cases c : r < sm sh (p + 1)
    · rw [if_pos c]; exact ⟨p, rfl, by omega, by omega⟩
    · rw [if_neg c]
      obtain ⟨q, a, b, e⟩ := lot_ex d (p + 1) (by rw [show p + 1 + d = p + (d + 1) by omega]; exact h1) (by omega)
      exact ⟨q, a, by omega, by omega⟩
def lotR (sh : Nat → Nat) (n seed hour : Nat) : Nat := drw seed (hour + 1) / 65536 % sm sh n
theorem sm_b {sh : Nat → Nat} {n c : Nat} (h : ∀ i, i < n → sh i ≤ c) (hn : n ≤ 9) : sm sh n ≤ 9 * c := Nat.le_trans (sm_le h) (Nat.mul_le_mul_right _ hn)
theorem sm_mono (f : Nat → Nat) : ∀ {i n : Nat}, i ≤ n → sm f i ≤ sm f n := by
  intro i n h
  induction n with
  | zero => rw [show i = 0 by omega]; exact Nat.le_refl _
  | succ n ih =>
    by_cases e : i = n + 1
    · rw [e]; exact Nat.le_refl _
    · have := ih (by omega)
      show sm f i ≤ sm f n + f n
      omega
section CAPTAIN
variable {b : mzB} {Q : mzQ} {g : mzG} {w : Nat} {v : Nat → Int32} {A : Nat → Nat → Int32}
theorem s_nextDraw {x : Nat} (hx : x < 2147483648) (hQ : Q (some (.long (lN (nxd x)))) g) : wp 16 b 0 [.long (lN x), .null] [] g Q := by
  simp (disch := omega) only [q_X1_nextDraw_0, q_X1_nextDraw_1, q_X1_nextDraw_4, q_X1_nextDraw_5, q_X1_nextDraw_8, q_X1_nextDraw_9, q_X1_nextDraw_12, q_X1_nextDraw_13, y_is, y_gf, y_pf, y_f0, y_f1, y_f3, y_nI, y_nK, y_nZ, y_nL, y_nR, y_k1i, y_k1r, y_k1l, y_k1n, y_tl, y_tn, y_s, y_ss, List.getElem?_cons_zero, List.getElem?_cons_succ, List.set_cons_zero, List.set_cons_succ, List.length_cons, List.length_nil, true_and, and_true, litL, l_mul, l_add, l_eq, l_rem]
  exact ⟨by omega, hQ⟩
theorem s_drawnAt_loop {seed hour : Nat} (hs : seed < 2147483648) (hh : hour ≤ 9999) (hQ : Q (some (.long (lN (drw seed (hour + 1))))) g) : ∀ d h, h + d = hour + 1 → wp 15 b 9 [.ref w, .int (nI hour), .long (lN (drw seed h)), .null, .int (nI h)] [] g Q := by
  intro d
  induction d with
  | zero =>
    intro h hd
    have hd : h = hour + 1 := by omega
    subst hd
    rw [q_X1_drawnAt_9]
    simp (disch := omega) only [q_X1_drawnAt_11, q_X1_drawnAt_12, q_X1_drawnAt_26, q_X1_drawnAt_27, y_is, y_gf, y_pf, y_f0, y_f1, y_f3, y_nI, y_nK, y_nZ, y_nL, y_nR, y_k1i, y_k1r, y_k1l, y_k1n, y_tl, y_tn, y_s, y_ss, List.getElem?_cons_zero, List.getElem?_cons_succ, List.set_cons_zero, List.set_cons_succ, List.length_cons, List.length_nil, true_and, and_true, y_lIn, y_lKn, y_lZn, y_lLn, y_wIn, y_wZn, y_wLn, lit, le_n, lt_n, eq_n, lit, litL, le_n, lt_n, eq_n, nI_add, m_neg, pk_sub, pk_mul, i_l, l_i, l_add, l_mul, l_sub, lc_le, lc_ge, lc_lt, lc_gt, lc_eq, l_rem2, l_rem3, i_rem2, i_rem3]
    exact br1 (by omega) hQ
  | succ d ih =>
    intro h hd
    rw [q_X1_drawnAt_9]
    simp (disch := omega) only [q_X1_drawnAt_11, q_X1_drawnAt_12, q_X1_drawnAt_15, q_X1_drawnAt_16, y_is, y_gf, y_pf, y_f0, y_f1, y_f3, y_nI, y_nK, y_nZ, y_nL, y_nR, y_k1i, y_k1r, y_k1l, y_k1n, y_tl, y_tn, y_s, y_ss, List.getElem?_cons_zero, List.getElem?_cons_succ, List.set_cons_zero, List.set_cons_succ, List.length_cons, List.length_nil, true_and, and_true, y_lIn, y_lKn, y_lZn, y_lLn, y_wIn, y_wZn, y_wLn, lit, le_n, lt_n, eq_n, lit, litL, le_n, lt_n, eq_n, nI_add, m_neg, pk_sub, pk_mul, i_l, l_i, l_add, l_mul, l_sub, lc_le, lc_ge, lc_lt, lc_gt, lc_eq, l_rem2, l_rem3, i_rem2, i_rem3]
    refine br0 (by omega) (s_nextDraw (drw_lt hs h) ?_)
    simp (disch := omega) only [q_X1_drawnAt_19, q_X1_drawnAt_20, q_X1_drawnAt_23, y_is, y_gf, y_pf, y_f0, y_f1, y_f3, y_nI, y_nK, y_nZ, y_nL, y_nR, y_k1i, y_k1r, y_k1l, y_k1n, y_tl, y_tn, y_s, y_ss, List.getElem?_cons_zero, List.getElem?_cons_succ, List.set_cons_zero, List.set_cons_succ, List.length_cons, List.length_nil, true_and, and_true, lit, nI_add]
    exact ih (h + 1) (by omega)
theorem s_drawnAt {seed hour : Nat} (hW : wt g w v A) (hv : v 4 = nI seed) (hs : seed < 2147483648) (hh : hour ≤ 9999) (hQ : Q (some (.long (lN (drw seed (hour + 1))))) g) : wp 15 b 0 [.ref w, .int (nI hour), .null, .null, .null] [] g Q := by
  simp (disch := omega) only [q_X1_drawnAt_0, q_X1_drawnAt_1, q_X1_drawnAt_4, q_X1_drawnAt_5, q_X1_drawnAt_6, q_X1_drawnAt_7, hW.1, hv, y_is, y_gf, y_pf, y_f0, y_f1, y_f3, y_nI, y_nK, y_nZ, y_nL, y_nR, y_k1i, y_k1r, y_k1l, y_k1n, y_tl, y_tn, y_s, y_ss, List.getElem?_cons_zero, List.getElem?_cons_succ, List.set_cons_zero, List.set_cons_succ, List.length_cons, List.length_nil, true_and, and_true, lit, i_l]
  exact s_drawnAt_loop hs hh hQ (hour + 1) 0 (by omega)
theorem s_byLot0 {n hour : Nat} {sh : Nat → Nat} (hW : wt g w v A) (hv : v 0 = nI n) (hn : n ≤ 9) (hsh : ∀ i, i < n → A 1 i = nI (sh i) ∧ sh i ≤ 99) (h0 : sm sh n = 0) (hQ : Q (some (.int (-3))) g) : wp 13 b 0 [.ref w, .int (nI hour), .null, .null, .null, .null, .null] [] g Q := by
  simp (disch := omega) only [q_X1_byLot_0, q_X1_byLot_1, hW.1, y_is, y_gf, y_pf, y_f0, y_f1, y_f3, y_nI, y_nK, y_nZ, y_nL, y_nR, y_k1i, y_k1r, y_k1l, y_k1n, y_tl, y_tn, y_s, y_ss, List.getElem?_cons_zero, List.getElem?_cons_succ, List.set_cons_zero, List.set_cons_succ, List.length_cons, List.length_nil, true_and, and_true]
  refine s_whole hW hv hn ?_
  rw [sm_l (f := sh) (fun i hi => (hsh i hi).1), h0]
  simp (disch := omega) only [q_X1_byLot_4, q_X1_byLot_5, q_X1_byLot_6, q_X1_byLot_7, y_is, y_gf, y_pf, y_f0, y_f1, y_f3, y_nI, y_nK, y_nZ, y_nL, y_nR, y_k1i, y_k1r, y_k1l, y_k1n, y_tl, y_tn, y_s, y_ss, List.getElem?_cons_zero, List.getElem?_cons_succ, List.set_cons_zero, List.set_cons_succ, List.length_cons, List.length_nil, true_and, and_true, lit, le_n]
  refine br0 (by omega) ?_
  simp only [q_X1_byLot_10, q_X1_byLot_12, y_is, y_gf, y_pf, y_f0, y_f1, y_f3, y_nI, y_nK, y_nZ, y_nL, y_nR, y_k1i, y_k1r, y_k1l, y_k1n, y_tl, y_tn, y_s, y_ss, List.getElem?_cons_zero, List.getElem?_cons_succ, List.set_cons_zero, List.set_cons_succ, List.length_cons, List.length_nil, true_and, and_true]
  exact hQ
theorem s_byLot {n hour seed p : Nat} {sh : Nat → Nat} (hW : wt g w v A) (hv : v 0 = nI n) (hv4 : v 4 = nI seed) (hs : seed < 2147483648) (hh : hour ≤ 9999) (hn : n ≤ 9) (hsh : ∀ i, i < n → A 1 i = nI (sh i) ∧ sh i ≤ 99) (h0 : 0 < sm sh n) (hp : lot sh (lotR sh n seed hour) n 0 = some p) (hQ : Q (some (.int (nI p))) g) : wp 13 b 0 [.ref w, .int (nI hour), .null, .null, .null, .null, .null] [] g Q := by
  have hb := sm_b (fun i hi => (hsh i hi).2) hn
  simp (disch := omega) only [q_X1_byLot_0, q_X1_byLot_1, hW.1, y_is, y_gf, y_pf, y_f0, y_f1, y_f3, y_nI, y_nK, y_nZ, y_nL, y_nR, y_k1i, y_k1r, y_k1l, y_k1n, y_tl, y_tn, y_s, y_ss, List.getElem?_cons_zero, List.getElem?_cons_succ, List.set_cons_zero, List.set_cons_succ, List.length_cons, List.length_nil, true_and, and_true]
  refine s_whole hW hv hn ?_
  rw [sm_l (f := sh) (fun i hi => (hsh i hi).1)]
  simp (disch := omega) only [q_X1_byLot_4, q_X1_byLot_5, q_X1_byLot_6, q_X1_byLot_7, y_is, y_gf, y_pf, y_f0, y_f1, y_f3, y_nI, y_nK, y_nZ, y_nL, y_nR, y_k1i, y_k1r, y_k1l, y_k1n, y_tl, y_tn, y_s, y_ss, List.getElem?_cons_zero, List.getElem?_cons_succ, List.set_cons_zero, List.set_cons_succ, List.length_cons, List.length_nil, true_and, and_true, lit, le_n]
  refine br1 (by omega) ?_
  simp (disch := omega) only [q_X1_byLot_13, q_X1_byLot_14, q_X1_byLot_15, y_is, y_gf, y_pf, y_f0, y_f1, y_f3, y_nI, y_nK, y_nZ, y_nL, y_nR, y_k1i, y_k1r, y_k1l, y_k1n, y_tl, y_tn, y_s, y_ss, List.getElem?_cons_zero, List.getElem?_cons_succ, List.set_cons_zero, List.set_cons_succ, List.length_cons, List.length_nil, true_and, and_true, lit]
  refine s_drawnAt hW hv4 hs hh ?_
  have hd := drw_lt hs (hour + 1)
  have hdd : drw seed (hour + 1) / 65536 ≤ drw seed (hour + 1) := Nat.div_le_self _ _
  simp (disch := omega) only [q_X1_byLot_18, q_X1_byLot_21, q_X1_byLot_22, q_X1_byLot_23, q_X1_byLot_24, q_X1_byLot_25, q_X1_byLot_26, q_X1_byLot_27, q_X1_byLot_29, q_X1_byLot_30, y_is, y_gf, y_pf, y_f0, y_f1, y_f3, y_nI, y_nK, y_nZ, y_nL, y_nR, y_k1i, y_k1r, y_k1l, y_k1n, y_tl, y_tn, y_s, y_ss, List.getElem?_cons_zero, List.getElem?_cons_succ, List.set_cons_zero, List.set_cons_succ, List.length_cons, List.length_nil, true_and, and_true, lit, litL, l_eq, l_div, i_l, l_rem, l_rem2]
  refine ⟨by omega, by omega, ?_⟩
  have hr : lotR sh n seed hour < sm sh n := Nat.mod_lt _ h0
  show wp 13 b 32 [.ref w, .int (nI hour), .int (nI (sm sh n)), .long (lN (lotR sh n seed hour)), .null, .int (nI 0), .int (nI 0)] [] g Q
  generalize lotR sh n seed hour = r at hp hr ⊢
  have loop : ∀ d i, i + d = n → lot sh r d i = some p → wp 13 b 32 [.ref w, .int (nI hour), .int (nI (sm sh n)), .long (lN r), .null, .int (nI (sm sh i)), .int (nI i)] [] g Q := by
    intro d
    induction d with
    | zero => intro i hi hl; simp [lot] at hl
    | succ d ih =>
      intro i hi hl
      rw [lot] at hl
      obtain ⟨e1, e2⟩ := hsh i (by omega)
      have hm : sm sh (i + 1) ≤ sm sh n := sm_mono sh (by omega)
      have hx : sm sh (i + 1) = sm sh i + sh i := rfl
      rw [q_X1_byLot_32]
      simp (disch := omega) only [q_X1_byLot_34, q_X1_byLot_35, q_X1_byLot_38, q_X1_byLot_41, q_X1_byLot_43, q_X1_byLot_44, q_X1_byLot_47, q_X1_byLot_48, q_X1_byLot_49, q_X1_byLot_51, q_X1_byLot_52, q_X1_byLot_53, q_X1_byLot_55, q_X1_byLot_57, q_X1_byLot_58, q_X1_byLot_59, q_X1_byLot_60, hW.1, hW.2.1, hW.2.2.1, hv, y_row, e1, y_is, y_gf, y_pf, y_f0, y_f1, y_f3, y_nI, y_nK, y_nZ, y_nL, y_nR, y_k1i, y_k1r, y_k1l, y_k1n, y_tl, y_tn, y_s, y_ss, List.getElem?_cons_zero, List.getElem?_cons_succ, List.set_cons_zero, List.set_cons_succ, List.length_cons, List.length_nil, true_and, and_true, y_lIn, y_lKn, y_lZn, y_lLn, y_wIn, y_wZn, y_wLn, lit, le_n, lt_n, eq_n, lit, litL, le_n, lt_n, eq_n, nI_add, m_neg, pk_sub, pk_mul, i_l, l_i, l_add, l_mul, l_sub, lc_le, lc_ge, lc_lt, lc_gt, lc_eq, l_rem2, l_rem3, i_rem2, i_rem3]
      refine br0 (by omega) ?_
      rw [← hx]
      refine brs (fun c => ?_) (fun c => ?_)
      · rw [if_neg (by omega)] at hl
        simp (disch := omega) only [q_X1_byLot_66, q_X1_byLot_69, y_is, y_gf, y_pf, y_f0, y_f1, y_f3, y_nI, y_nK, y_nZ, y_nL, y_nR, y_k1i, y_k1r, y_k1l, y_k1n, y_tl, y_tn, y_s, y_ss, List.getElem?_cons_zero, List.getElem?_cons_succ, List.set_cons_zero, List.set_cons_succ, List.length_cons, List.length_nil, true_and, and_true, lit, nI_add]
        exact ih (i + 1) (by omega) hl
      · rw [if_pos (by omega)] at hl
        have := Option.some.inj hl
        subst this
        simp (disch := omega) only [q_X1_byLot_63, q_X1_byLot_65, y_is, y_gf, y_pf, y_f0, y_f1, y_f3, y_nI, y_nK, y_nZ, y_nL, y_nR, y_k1i, y_k1r, y_k1l, y_k1n, y_tl, y_tn, y_s, y_ss, List.getElem?_cons_zero, List.getElem?_cons_succ, List.set_cons_zero, List.set_cons_succ, List.length_cons, List.length_nil, true_and, and_true]
        exact hQ
  exact loop n 0 (by omega) hp
theorem s_lantern {n kind who : Nat} {x0 : Nat} (hW : wt g w v A) (hv : v 0 = nI n) (hv1 : v 1 = nI kind) (hn : n ≤ 9) (hk : kind ≤ 4) (hw : who < n) (hQ : Q (some (.int (nI (if kind = 3 then (who + 1) % n else who)))) g) : wp 10 b 0 [.ref x0, .ref w, .int (nI who)] [] g Q := by
  simp (disch := omega) only [q_X1_lantern_0, q_X1_lantern_1, q_X1_lantern_4, q_X1_lantern_5, hW.1, hv1, y_is, y_gf, y_pf, y_f0, y_f1, y_f3, y_nI, y_nK, y_nZ, y_nL, y_nR, y_k1i, y_k1r, y_k1l, y_k1n, y_tl, y_tn, y_s, y_ss, List.getElem?_cons_zero, List.getElem?_cons_succ, List.set_cons_zero, List.set_cons_succ, List.length_cons, List.length_nil, true_and, and_true, lit, eq_n]
  refine brs (fun c => ?_) (fun c => ?_)
  · rw [if_pos c] at hQ
    simp (disch := omega) only [q_X1_lantern_10, q_X1_lantern_11, q_X1_lantern_12, q_X1_lantern_13, q_X1_lantern_14, q_X1_lantern_17, hW.1, hv, y_is, y_gf, y_pf, y_f0, y_f1, y_f3, y_nI, y_nK, y_nZ, y_nL, y_nR, y_k1i, y_k1r, y_k1l, y_k1n, y_tl, y_tn, y_s, y_ss, List.getElem?_cons_zero, List.getElem?_cons_succ, List.set_cons_zero, List.set_cons_succ, List.length_cons, List.length_nil, true_and, and_true, lit, nI_add, le_n]
    refine brs (fun z => ?_) (fun z => ?_)
    · rw [show (who + 1) % n = 0 by rw [show who + 1 = n by omega]; exact Nat.mod_self n] at hQ
      simp (disch := omega) only [q_X1_lantern_26, q_X1_lantern_27, y_is, y_gf, y_pf, y_f0, y_f1, y_f3, y_nI, y_nK, y_nZ, y_nL, y_nR, y_k1i, y_k1r, y_k1l, y_k1n, y_tl, y_tn, y_s, y_ss, List.getElem?_cons_zero, List.getElem?_cons_succ, List.set_cons_zero, List.set_cons_succ, List.length_cons, List.length_nil, true_and, and_true, lit]
      exact hQ
    · rw [Nat.mod_eq_of_lt (by omega)] at hQ
      simp (disch := omega) only [q_X1_lantern_20, q_X1_lantern_21, q_X1_lantern_22, q_X1_lantern_23, q_X1_lantern_27, y_is, y_gf, y_pf, y_f0, y_f1, y_f3, y_nI, y_nK, y_nZ, y_nL, y_nR, y_k1i, y_k1r, y_k1l, y_k1n, y_tl, y_tn, y_s, y_ss, List.getElem?_cons_zero, List.getElem?_cons_succ, List.set_cons_zero, List.set_cons_succ, List.length_cons, List.length_nil, true_and, and_true, lit, nI_add]
      exact hQ
  · rw [if_neg c] at hQ
    simp (disch := omega) only [q_X1_lantern_8, q_X1_lantern_9, y_is, y_gf, y_pf, y_f0, y_f1, y_f3, y_nI, y_nK, y_nZ, y_nL, y_nR, y_k1i, y_k1r, y_k1l, y_k1n, y_tl, y_tn, y_s, y_ss, List.getElem?_cons_zero, List.getElem?_cons_succ, List.set_cons_zero, List.set_cons_succ, List.length_cons, List.length_nil, true_and, and_true]
    exact hQ
end CAPTAIN
