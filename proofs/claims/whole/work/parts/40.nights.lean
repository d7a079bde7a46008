/-! ===== Nights ===== -/
def wys (idle : Nat) : Nat → Nat
  | 0 => 1
  | s + 1 => wys idle s * (idle + (s + 1))
def slp (ne : Nat → Nat) : Nat → Nat
  | 0 => 0
  | p + 1 => slp ne p + (if 0 < ne p then 1 else 0)
theorem slp_le (ne : Nat → Nat) : ∀ p, slp ne p ≤ p
  | 0 => Nat.le_refl _
  | p + 1 => by
    rw [slp]
    have := slp_le ne p
    split <;> omega
section NIGHTS
variable {b : mzB} {Q : mzQ} {g : mzG} {w : Nat} {v : Nat → Int32} {A : Nat → Nat → Int32}
theorem s_idle_loop {n : Nat} {ne : Nat → Nat} (hW : wt g w v A) (hv : v 0 = nI n) (hn : n ≤ 9) (hne : ∀ i, i < n → A 2 i = nI (ne i)) (hQ : Q (some (.int (nI 12 - nI (sm ne n)))) g) : ∀ d i, i + d = n → wp 33 b 5 [.ref w, .int (nI 12 - nI (sm ne i)), .int (nI i)] [] g Q := by
  intro d
  induction d with
  | zero =>
    intro i hi
    have hi : i = n := by omega
    subst hi
    rw [q_X4_idleHours_5]
    simp (disch := omega) only [q_X4_idleHours_6, q_X4_idleHours_7, q_X4_idleHours_10, q_X4_idleHours_30, q_X4_idleHours_31, hW.1, hv, y_is, y_gf, y_pf, y_f0, y_f1, y_f3, y_nI, y_nK, y_nZ, y_nL, y_nR, y_k1i, y_k1r, y_k1l, y_k1n, y_tl, y_tn, y_s, y_ss, List.getElem?_cons_zero, List.getElem?_cons_succ, List.set_cons_zero, List.set_cons_succ, List.length_cons, List.length_nil, true_and, and_true, le_n]
    exact br1 (by omega) hQ
  | succ d ih =>
    intro i hi
    have e := hne i (by omega)
    rw [q_X4_idleHours_5]
    simp (disch := omega) only [q_X4_idleHours_6, q_X4_idleHours_7, q_X4_idleHours_10, q_X4_idleHours_13, q_X4_idleHours_14, q_X4_idleHours_15, q_X4_idleHours_18, q_X4_idleHours_19, q_X4_idleHours_20, q_X4_idleHours_21, q_X4_idleHours_22, q_X4_idleHours_23, q_X4_idleHours_24, q_X4_idleHours_27, hW.1, hW.2.1, hW.2.2.1, hv, y_is, y_gf, y_pf, y_f0, y_f1, y_f3, y_nI, y_nK, y_nZ, y_nL, y_nR, y_k1i, y_k1r, y_k1l, y_k1n, y_tl, y_tn, y_s, y_ss, List.getElem?_cons_zero, List.getElem?_cons_succ, List.set_cons_zero, List.set_cons_succ, List.length_cons, List.length_nil, true_and, and_true, y_lIn, y_lKn, y_lZn, y_lLn, y_wIn, y_wZn, y_wLn, lit, le_n, lt_n, eq_n, lit, y_row, e, nI_add]
    have := ih (i + 1) (by omega)
    rw [show sm ne (i + 1) = sm ne i + ne i from rfl, ← nI_add, ← Int32.sub_sub] at this
    exact br0 (by omega) this
theorem s_idle {n : Nat} {ne : Nat → Nat} (hW : wt g w v A) (hv : v 0 = nI n) (hn : n ≤ 9) (hne : ∀ i, i < n → A 2 i = nI (ne i)) (hQ : Q (some (.int (nI 12 - nI (sm ne n)))) g) : wp 33 b 0 [.ref w, .null, .null] [] g Q := by
  simp (disch := omega) only [q_X4_idleHours_0, q_X4_idleHours_2, q_X4_idleHours_3, q_X4_idleHours_4, y_is, y_gf, y_pf, y_f0, y_f1, y_f3, y_nI, y_nK, y_nZ, y_nL, y_nR, y_k1i, y_k1r, y_k1l, y_k1n, y_tl, y_tn, y_s, y_ss, List.getElem?_cons_zero, List.getElem?_cons_succ, List.set_cons_zero, List.set_cons_succ, List.length_cons, List.length_nil, true_and, and_true, lit]
  have := s_idle_loop (b := b) hW hv hn hne hQ n 0 (by omega)
  rw [show nI 12 - nI (sm ne 0) = nI 12 from (by decide : nI 12 - nI 0 = nI 12)] at this
  exact this
theorem s_slp_loop {n : Nat} {ne : Nat → Nat} (hW : wt g w v A) (hv : v 0 = nI n) (hn : n ≤ 9) (hne : ∀ i, i < n → A 2 i = nI (ne i) ∧ ne i ≤ 12) (hQ : Q (some (.int (nI (slp ne n)))) g) : ∀ d i, i + d = n → wp 34 b 4 [.ref w, .int (nI (slp ne i)), .int (nI i)] [] g Q := by
  intro d
  induction d with
  | zero =>
    intro i hi
    have hi : i = n := by omega
    subst hi
    rw [q_X4_sleepers_4]
    simp (disch := omega) only [q_X4_sleepers_5, q_X4_sleepers_6, q_X4_sleepers_9, q_X4_sleepers_32, q_X4_sleepers_33, hW.1, hv, y_is, y_gf, y_pf, y_f0, y_f1, y_f3, y_nI, y_nK, y_nZ, y_nL, y_nR, y_k1i, y_k1r, y_k1l, y_k1n, y_tl, y_tn, y_s, y_ss, List.getElem?_cons_zero, List.getElem?_cons_succ, List.set_cons_zero, List.set_cons_succ, List.length_cons, List.length_nil, true_and, and_true, le_n]
    exact br1 (by omega) hQ
  | succ d ih =>
    intro i hi
    obtain ⟨e, e2⟩ := hne i (by omega)
    have := ih (i + 1) (by omega)
    rw [slp] at this
    rw [q_X4_sleepers_4]
    simp (disch := omega) only [q_X4_sleepers_5, q_X4_sleepers_6, q_X4_sleepers_9, q_X4_sleepers_12, q_X4_sleepers_13, q_X4_sleepers_16, q_X4_sleepers_17, q_X4_sleepers_18, q_X4_sleepers_19, q_X4_sleepers_20, hW.1, hW.2.1, hW.2.2.1, hv, y_is, y_gf, y_pf, y_f0, y_f1, y_f3, y_nI, y_nK, y_nZ, y_nL, y_nR, y_k1i, y_k1r, y_k1l, y_k1n, y_tl, y_tn, y_s, y_ss, List.getElem?_cons_zero, List.getElem?_cons_succ, List.set_cons_zero, List.set_cons_succ, List.length_cons, List.length_nil, true_and, and_true, y_lIn, y_lKn, y_lZn, y_lLn, y_wIn, y_wZn, y_wLn, lit, le_n, lt_n, eq_n, lit, y_row, e]
    refine br0 (by omega) (brs (fun z => ?_) (fun z => ?_))
    · rw [if_neg (by omega)] at this
      simp (disch := omega) only [q_X4_sleepers_26, q_X4_sleepers_29, y_is, y_gf, y_pf, y_f0, y_f1, y_f3, y_nI, y_nK, y_nZ, y_nL, y_nR, y_k1i, y_k1r, y_k1l, y_k1n, y_tl, y_tn, y_s, y_ss, List.getElem?_cons_zero, List.getElem?_cons_succ, List.set_cons_zero, List.set_cons_succ, List.length_cons, List.length_nil, true_and, and_true, lit, nI_add]
      exact this
    · rw [if_pos (by omega)] at this
      simp (disch := omega) only [q_X4_sleepers_23, q_X4_sleepers_26, q_X4_sleepers_29, y_is, y_gf, y_pf, y_f0, y_f1, y_f3, y_nI, y_nK, y_nZ, y_nL, y_nR, y_k1i, y_k1r, y_k1l, y_k1n, y_tl, y_tn, y_s, y_ss, List.getElem?_cons_zero, List.getElem?_cons_succ, List.set_cons_zero, List.set_cons_succ, List.length_cons, List.length_nil, true_and, and_true, lit, nI_add]
      exact this
theorem s_slp {n : Nat} {ne : Nat → Nat} (hW : wt g w v A) (hv : v 0 = nI n) (hn : n ≤ 9) (hne : ∀ i, i < n → A 2 i = nI (ne i) ∧ ne i ≤ 12) (hQ : Q (some (.int (nI (slp ne n)))) g) : wp 34 b 0 [.ref w, .null, .null] [] g Q := by
  simp (disch := omega) only [q_X4_sleepers_0, q_X4_sleepers_1, q_X4_sleepers_2, q_X4_sleepers_3, y_is, y_gf, y_pf, y_f0, y_f1, y_f3, y_nI, y_nK, y_nZ, y_nL, y_nR, y_k1i, y_k1r, y_k1l, y_k1n, y_tl, y_tn, y_s, y_ss, List.getElem?_cons_zero, List.getElem?_cons_succ, List.set_cons_zero, List.set_cons_succ, List.length_cons, List.length_nil, true_and, and_true, lit]
  exact s_slp_loop hW hv hn hne hQ n 0 (by omega)
theorem s_ways_loop {s idle : Nat} (hs : s ≤ 20) (hi : idle ≤ 20) (hQ : Q (some (.long (lN (wys idle s)))) g) : ∀ d i, i + d = s → wp 35 b 5 [.int (nI s), .int (nI idle), .long (lN (wys idle i)), .null, .int (nI (i + 1))] [] g Q := by
  intro d
  induction d with
  | zero =>
    intro i hi
    have hi : i = s := by omega
    subst hi
    rw [q_X4_ways_5]
    simp (disch := omega) only [q_X4_ways_7, q_X4_ways_8, q_X4_ways_25, q_X4_ways_26, y_is, y_gf, y_pf, y_f0, y_f1, y_f3, y_nI, y_nK, y_nZ, y_nL, y_nR, y_k1i, y_k1r, y_k1l, y_k1n, y_tl, y_tn, y_s, y_ss, List.getElem?_cons_zero, List.getElem?_cons_succ, List.set_cons_zero, List.set_cons_succ, List.length_cons, List.length_nil, true_and, and_true, lt_n]
    exact br1 (by omega) hQ
  | succ d ih =>
    intro i hi'
    rw [q_X4_ways_5]
    simp (disch := omega) only [q_X4_ways_7, q_X4_ways_8, q_X4_ways_11, q_X4_ways_12, q_X4_ways_13, q_X4_ways_15, q_X4_ways_16, q_X4_ways_17, q_X4_ways_18, q_X4_ways_19, q_X4_ways_22, y_is, y_gf, y_pf, y_f0, y_f1, y_f3, y_nI, y_nK, y_nZ, y_nL, y_nR, y_k1i, y_k1r, y_k1l, y_k1n, y_tl, y_tn, y_s, y_ss, List.getElem?_cons_zero, List.getElem?_cons_succ, List.set_cons_zero, List.set_cons_succ, List.length_cons, List.length_nil, true_and, and_true, lit, lt_n, nI_add, i_l, l_mul]
    exact br0 (by omega) (ih (i + 1) (by omega))
theorem s_ways {s idle : Nat} (hs : s ≤ 20) (hi : idle ≤ 20) (hQ : Q (some (.long (lN (wys idle s)))) g) : wp 35 b 0 [.int (nI s), .int (nI idle), .null, .null, .null] [] g Q := by
  simp (disch := omega) only [q_X4_ways_0, q_X4_ways_1, q_X4_ways_2, q_X4_ways_3, y_is, y_gf, y_pf, y_f0, y_f1, y_f3, y_nI, y_nK, y_nZ, y_nL, y_nR, y_k1i, y_k1r, y_k1l, y_k1n, y_tl, y_tn, y_s, y_ss, List.getElem?_cons_zero, List.getElem?_cons_succ, List.set_cons_zero, List.set_cons_succ, List.length_cons, List.length_nil, true_and, and_true, lit, litL]
  exact s_ways_loop hs hi hQ s 0 (by omega)
end NIGHTS
