/-! ===== THE RULE: compiled ===== -/
/-- how many digits from e on, of d at most -/
def dn (ch : Nat → Nat) : Nat → Nat → Nat
  | 0, _ => 0
  | d + 1, e => if dg (ch e) then dn ch d (e + 1) + 1 else 0
theorem dn_le (ch : Nat → Nat) : ∀ d e, dn ch d e ≤ d
  | 0, _ => Nat.le_refl _
  | d + 1, e => by
    have := dn_le ch d (e + 1)
    rw [dn]
    split <;> omega
theorem dn_pos {ch : Nat → Nat} {d e : Nat} (hd : 0 < d) (h : dg (ch e) = true) : 0 < dn ch d e := by
  cases d with
  | zero => omega
  | succ d => rw [dn, if_pos h]; omega
/-- the value of k digits from a on -/
def dv (ch : Nat → Nat) (a : Nat) : Nat → Nat
  | 0 => 0
  | k + 1 => 10 * dv ch a k + ch (a + k) - 48
theorem dg_b {c : Nat} (h : dg c = true) : 48 ≤ c ∧ c ≤ 57 := by
  unfold dg at h
  simpa using h
theorem dn_all {ch : Nat → Nat} : ∀ {d e k : Nat}, k < dn ch d e → dg (ch (e + k)) = true
  | 0, e, k, h => by simp [dn] at h
  | d + 1, e, k, h => by
    rw [dn] at h
    split at h
    · rename_i c
      cases k with
      | zero => exact c
      | succ k =>
        have := dn_all (ch := ch) (d := d) (e := e + 1) (k := k) (by omega)
        rw [show e + (k + 1) = e + 1 + k by omega]; exact this
    · omega
theorem dv_le {ch : Nat → Nat} {a : Nat} : ∀ {k : Nat}, (∀ j, j < k → dg (ch (a + j)) = true) → dv ch a k + 1 ≤ 10 ^ k
  | 0, _ => by simp [dv]
  | k + 1, h => by
    have h1 := dv_le (ch := ch) (a := a) (k := k) (fun j hj => h j (by omega))
    have h2 := dg_b (h k (by omega))
    rw [dv, Nat.pow_succ]
    omega
/-- spaces passed over -/
def skp (ch : Nat → Nat) : Nat → Nat → Nat
  | 0, a => a
  | d + 1, a => if ch a = 32 then skp ch d (a + 1) else a
theorem skp_b (ch : Nat → Nat) : ∀ d a, a ≤ skp ch d a ∧ skp ch d a ≤ a + d
  | 0, a => by simp [skp]
  | d + 1, a => by
    have := skp_b ch d (a + 1)
    rw [skp]
    split <;> omega
theorem skp_n (ch : Nat → Nat) : ∀ d a, skp ch d a < a + d → ch (skp ch d a) ≠ 32
  | 0, a, h => by simp [skp] at h
  | d + 1, a, h => by
    rw [skp] at h ⊢
    split
    · rename_i c
      rw [if_pos c] at h
      exact skp_n ch d (a + 1) (by omega)
    · assumption
/-- a comparison on top -/
def hd3 : List Nat → Bool
  | [] => false
  | c :: _ => rk c == 3
/-- the state of compiling: steps, waiting signs, open brackets, whether a UNIT is due, whether it looks back; or a flaw -/
abbrev cR : Type := Nat ⊕ (List stp × List Nat × Nat × Bool × Bool)
def cstep (ch : Nat → Nat) (len : Nat) (k : Nat → List stp → List Nat → Nat → Bool → Bool → cR) (a : Nat) (L : List stp) (w : List Nat) (op : Nat) (due lb : Bool) : cR :=
  if len ≤ a then .inr (L, w, op, due, lb) else
  if due then
    if dg (ch a) then (if 6 < dn ch (len - a) a then .inl (10 * a + 2) else k (a + dn ch (len - a) a) (.inl (dv ch a (dn ch (len - a) a)) :: L) w op false lb)
    else if ch a = 40 then (if op = 8 then .inl (10 * a + 3) else k (a + 1) L (40 :: w) (op + 1) true lb)
    else if ch a = 33 then k (a + 1) L (33 :: w) op true lb
    else if ch a = 45 then k (a + 1) L (126 :: w) op true lb
    else if nm (ch a) then k (a + 1) (.inr (ch a) :: L) w op false (lb || ch a == 108)
    else .inl (10 * a + 1)
  else if ch a = 41 ∧ 0 < op then k (a + 1) (rel 1 w L).2 (rel 1 w L).1.tail (op - 1) false lb
  else if rk (ch a) = 0 ∨ rk (ch a) = 6 then .inl (10 * a + 1)
  else if rk (ch a) = 3 then (if hd3 (rel 4 w L).1 then .inl (10 * a + 1) else k (a + 1) (rel 4 w L).2 (ch a :: (rel 4 w L).1) op true lb)
  else k (a + 1) (rel (rk (ch a)) w L).2 (ch a :: (rel (rk (ch a)) w L).1) op true lb
def crun (ch : Nat → Nat) (len : Nat) : Nat → Nat → List stp → List Nat → Nat → Bool → Bool → cR
  | 0, _, L, w, op, due, lb => .inr (L, w, op, due, lb)
  | d + 1, a, L, w, op, due, lb => cstep ch len (crun ch len d) (skp ch (len - a) a) L w op due lb
/-- what compiling comes to: a flaw, or steps -/
def cres (ch : Nat → Nat) (len : Nat) : Nat ⊕ (List stp × Bool) := match crun ch len len 0 [] [] 0 true false with
  | .inl f => .inl f
  | .inr (L, w, op, due, lb) => if due = true ∨ 0 < op then .inl (10 * len + 1) else .inr ((rel 1 w L).2, lb)
def bI (c : Bool) : Int32 := if c then 1 else 0
section RULE2
variable {b : mzB} {Q : mzQ}
theorem s_takeDigits {g : mzG} {r len a : Nat} {f : Nat → Int32} {ch : Nat → Nat} {lb due : Int32} {L : List stp} {w : List Nat} {op : Nat} (hr : 100 ≤ r ∨ r < 30) (hc : g.2 r = aI 40 f) (hch : ∀ i, i < len → f i = nI (ch i) ∧ ch i < 128) (hlen : len ≤ 40) (ha : a < len) (hR : ru g (-1) lb due L w op) (hL : L.length < 40) (h1 : 6 < dn ch (len - a) a → ∀ g', ru g' (nI (10 * a + 2)) lb due L w op → fr g g' 30 34 → Q (some (.int (nI (a + dn ch (len - a) a)))) g') (h2 : ¬ 6 < dn ch (len - a) a → ∀ g', ru g' (-1) lb (nI 0) (.inl (dv ch a (dn ch (len - a) a)) :: L) w op → fr g g' 30 34 → Q (some (.int (nI (a + dn ch (len - a) a)))) g') : wp 41 b 0 [.ref 30, .ref r, .int (nI len), .int (nI a), .null, .null] [] g Q := by
  have hdn := dn_le ch (len - a) a
  have fin : wp 41 b 52 [.ref 30, .ref r, .int (nI len), .int (nI a), .int (nI (a + dn ch (len - a) a)), .int (nI (dv ch a (min (dn ch (len - a) a) 6)))] [] g Q := by
    simp (disch := omega) only [q_X5_takeDigits_52, q_X5_takeDigits_54, q_X5_takeDigits_55, q_X5_takeDigits_56, q_X5_takeDigits_58, y_is, y_gf, y_pf, y_f0, y_f1, y_f3, y_nI, y_nK, y_nZ, y_nL, y_nR, y_k1i, y_k1r, y_k1l, y_k1n, y_tl, y_tn, y_s, y_ss, List.getElem?_cons_zero, List.getElem?_cons_succ, List.set_cons_zero, List.set_cons_succ, List.length_cons, List.length_nil, true_and, and_true, lit, pk_sub, le_n, Nat.add_sub_cancel_left]
    refine brs (fun z => ?_) (fun z => ?_)
    · rw [Nat.min_eq_left z]
      have hv := dv_le (ch := ch) (a := a) (k := dn ch (len - a) a) (fun j hj => dn_all hj)
      have hp : 10 ^ dn ch (len - a) a ≤ 10 ^ 6 := Nat.pow_le_pow_right (by decide) z
      simp (disch := omega) only [q_X5_takeDigits_74, q_X5_takeDigits_75, q_X5_takeDigits_77, hR.1, y_is, y_gf, y_pf, y_f0, y_f1, y_f3, y_nI, y_nK, y_nZ, y_nL, y_nR, y_k1i, y_k1r, y_k1l, y_k1n, y_tl, y_tn, y_s, y_ss, List.getElem?_cons_zero, List.getElem?_cons_succ, List.set_cons_zero, List.set_cons_succ, List.length_cons, List.length_nil, true_and, and_true]
      refine s_emit (x := .inl (dv ch a (dn ch (len - a) a))) hR hL (fun g1 hR1 hf1 => ?_)
      simp (disch := omega) only [q_X5_takeDigits_80, q_X5_takeDigits_81, q_X5_takeDigits_82, q_X5_takeDigits_85, q_X5_takeDigits_87, hR1.1, y_is, y_gf, y_pf, y_f0, y_f1, y_f3, y_nI, y_nK, y_nZ, y_nL, y_nR, y_k1i, y_k1r, y_k1l, y_k1n, y_tl, y_tn, y_s, y_ss, List.getElem?_cons_zero, List.getElem?_cons_succ, List.set_cons_zero, List.set_cons_succ, List.length_cons, List.length_nil, true_and, and_true, y_f2]
      exact ⟨by decide, h2 (by omega) _ hR1.nu (hf1.hs (by omega) (by omega))⟩
    · simp (disch := omega) only [q_X5_takeDigits_61, q_X5_takeDigits_62, q_X5_takeDigits_64, q_X5_takeDigits_65, q_X5_takeDigits_66, q_X5_takeDigits_67, q_X5_takeDigits_68, q_X5_takeDigits_71, q_X5_takeDigits_85, q_X5_takeDigits_87, hR.1, y_is, y_gf, y_pf, y_f0, y_f1, y_f3, y_nI, y_nK, y_nZ, y_nL, y_nR, y_k1i, y_k1r, y_k1l, y_k1n, y_tl, y_tn, y_s, y_ss, List.getElem?_cons_zero, List.getElem?_cons_succ, List.set_cons_zero, List.set_cons_succ, List.length_cons, List.length_nil, true_and, and_true, lit, pk_mul, nI_add]
      exact ⟨by decide, h1 (by omega) _ hR.nu (fr.rf.hs (by omega) (by omega))⟩
  have loop : ∀ d k, a + k + d = len → dn ch (len - a) a = k + dn ch d (a + k) → (∀ j, j < k → dg (ch (a + j)) = true) → wp 41 b 6 [.ref 30, .ref r, .int (nI len), .int (nI a), .int (nI (a + k)), .int (nI (dv ch a (min k 6)))] [] g Q := by
    intro d
    induction d with
    | zero =>
      intro k hk hd hj
      rw [dn, Nat.add_zero] at hd
      rw [hd] at fin
      rw [q_X5_takeDigits_6]
      simp (disch := omega) only [q_X5_takeDigits_8, q_X5_takeDigits_9, y_is, y_gf, y_pf, y_f0, y_f1, y_f3, y_nI, y_nK, y_nZ, y_nL, y_nR, y_k1i, y_k1r, y_k1l, y_k1n, y_tl, y_tn, y_s, y_ss, List.getElem?_cons_zero, List.getElem?_cons_succ, List.set_cons_zero, List.set_cons_succ, List.length_cons, List.length_nil, true_and, and_true, y_lIn, y_lKn, y_lZn, y_lLn, y_wIn, y_wZn, y_wLn, lit, le_n, lt_n, eq_n, lit, litL, le_n, lt_n, eq_n, nI_add, m_neg, pk_sub, pk_mul, i_l, l_i, l_add, l_mul, l_sub, lc_le, lc_ge, lc_lt, lc_gt, lc_eq, l_rem2, l_rem3, i_rem2, i_rem3]
      exact br1 (by omega) fin
    | succ d ih =>
      intro k hk hd hj
      rw [dn] at hd
      obtain ⟨e1, e2⟩ := hch (a + k) (by omega)
      rw [q_X5_takeDigits_6]
      simp (disch := omega) only [q_X5_takeDigits_8, q_X5_takeDigits_9, q_X5_takeDigits_12, q_X5_takeDigits_13, q_X5_takeDigits_15, q_X5_takeDigits_16, hc, e1, y_is, y_gf, y_pf, y_f0, y_f1, y_f3, y_nI, y_nK, y_nZ, y_nL, y_nR, y_k1i, y_k1r, y_k1l, y_k1n, y_tl, y_tn, y_s, y_ss, List.getElem?_cons_zero, List.getElem?_cons_succ, List.set_cons_zero, List.set_cons_succ, List.length_cons, List.length_nil, true_and, and_true, y_lIn, y_lKn, y_lZn, y_lLn, y_wIn, y_wZn, y_wLn, lit, le_n, lt_n, eq_n, lit, litL, le_n, lt_n, eq_n, nI_add, m_neg, pk_sub, pk_mul, i_l, l_i, l_add, l_mul, l_sub, lc_le, lc_ge, lc_lt, lc_gt, lc_eq, l_rem2, l_rem3, i_rem2, i_rem3]
      refine br0 (by omega) (s_isDigit (by omega) ?_)
      cases hD : dg (ch (a + k)) with
      | false =>
        rw [if_neg (by rw [hD]; decide), Nat.add_zero] at hd
        rw [hd] at fin
        simp only [q_X5_takeDigits_19, y_is, y_gf, y_pf, y_f0, y_f1, y_f3, y_nI, y_nK, y_nZ, y_nL, y_nR, y_k1i, y_k1r, y_k1l, y_k1n, y_tl, y_tn, y_s, y_ss, List.getElem?_cons_zero, List.getElem?_cons_succ, List.set_cons_zero, List.set_cons_succ, List.length_cons, List.length_nil, true_and, and_true, Bool.false_eq_true, if_false]
        exact br1 (by first | decide | omega | trivial | simp) fin
      | true =>
        rw [if_pos hD] at hd
        simp only [q_X5_takeDigits_19, y_is, y_gf, y_pf, y_f0, y_f1, y_f3, y_nI, y_nK, y_nZ, y_nL, y_nR, y_k1i, y_k1r, y_k1l, y_k1n, y_tl, y_tn, y_s, y_ss, List.getElem?_cons_zero, List.getElem?_cons_succ, List.set_cons_zero, List.set_cons_succ, List.length_cons, List.length_nil, true_and, and_true, if_true]
        refine br0 (by first | decide | omega | trivial | simp) ?_
        have hb := dg_b hD
        have hj' : ∀ j, j < k + 1 → dg (ch (a + j)) = true := fun j hjj => by
          by_cases e : j = k
          · rw [e]; exact hD
          · exact hj j (by omega)
        have nx := ih (k + 1) (by omega) (by rw [show a + (k + 1) = a + k + 1 by omega]; omega) hj'
        simp (disch := omega) only [q_X5_takeDigits_22, q_X5_takeDigits_24, q_X5_takeDigits_25, q_X5_takeDigits_26, q_X5_takeDigits_28, y_is, y_gf, y_pf, y_f0, y_f1, y_f3, y_nI, y_nK, y_nZ, y_nL, y_nR, y_k1i, y_k1r, y_k1l, y_k1n, y_tl, y_tn, y_s, y_ss, List.getElem?_cons_zero, List.getElem?_cons_succ, List.set_cons_zero, List.set_cons_succ, List.length_cons, List.length_nil, true_and, and_true, lit, pk_sub, le_n, Nat.add_sub_cancel_left]
        refine brs (fun z => ?_) (fun z => ?_)
        · rw [show min (k + 1) 6 = min k 6 by omega] at nx
          simp (disch := omega) only [q_X5_takeDigits_46, q_X5_takeDigits_49, y_is, y_gf, y_pf, y_f0, y_f1, y_f3, y_nI, y_nK, y_nZ, y_nL, y_nR, y_k1i, y_k1r, y_k1l, y_k1n, y_tl, y_tn, y_s, y_ss, List.getElem?_cons_zero, List.getElem?_cons_succ, List.set_cons_zero, List.set_cons_succ, List.length_cons, List.length_nil, true_and, and_true, lit, nI_add]
          exact nx
        · rw [show min (k + 1) 6 = k + 1 by omega, dv] at nx
          rw [show min k 6 = k by omega]
          simp (disch := omega) only [q_X5_takeDigits_31, q_X5_takeDigits_33, q_X5_takeDigits_35, q_X5_takeDigits_36, q_X5_takeDigits_37, q_X5_takeDigits_39, q_X5_takeDigits_40, q_X5_takeDigits_41, q_X5_takeDigits_43, q_X5_takeDigits_44, q_X5_takeDigits_46, q_X5_takeDigits_49, hc, e1, y_is, y_gf, y_pf, y_f0, y_f1, y_f3, y_nI, y_nK, y_nZ, y_nL, y_nR, y_k1i, y_k1r, y_k1l, y_k1n, y_tl, y_tn, y_s, y_ss, List.getElem?_cons_zero, List.getElem?_cons_succ, List.set_cons_zero, List.set_cons_succ, List.length_cons, List.length_nil, true_and, and_true, y_lIn, y_lKn, y_lZn, y_lLn, y_wIn, y_wZn, y_wLn, lit, le_n, lt_n, eq_n, lit, pk_mul, nI_add, pk_sub]
          exact nx
  simp (disch := omega) only [q_X5_takeDigits_0, q_X5_takeDigits_1, q_X5_takeDigits_3, q_X5_takeDigits_4, y_is, y_gf, y_pf, y_f0, y_f1, y_f3, y_nI, y_nK, y_nZ, y_nL, y_nR, y_k1i, y_k1r, y_k1l, y_k1n, y_tl, y_tn, y_s, y_ss, List.getElem?_cons_zero, List.getElem?_cons_succ, List.set_cons_zero, List.set_cons_succ, List.length_cons, List.length_nil, true_and, and_true, lit]
  exact loop (len - a) 0 (by omega) (by simp) (fun j hj => by omega)
/-- what comes of a beginning -/
theorem s_takeBeg {g : mzG} {c a op : Nat} {L : List stp} {w : List Nat} {lb : Bool} (hc : c < 128) (ha : a < 40) (hop : op ≤ 40) (hR : ru g (-1) (bI lb) 1 L w op) (hl : L.length + w.length ≤ 39) (h40 : c = 40 → op ≠ 8 → ∀ g', ru g' (-1) (bI lb) 1 L (40 :: w) (op + 1) → fr g g' 30 34 → Q none g') (h40' : c = 40 → op = 8 → ∀ g', ru g' (nI (10 * a + 3)) (bI lb) 1 L w op → fr g g' 30 34 → Q none g') (h33 : c = 33 → ∀ g', ru g' (-1) (bI lb) 1 L (33 :: w) op → fr g g' 30 34 → Q none g') (h45 : c = 45 → ∀ g', ru g' (-1) (bI lb) 1 L (126 :: w) op → fr g g' 30 34 → Q none g') (hnm : c ≠ 40 → c ≠ 33 → c ≠ 45 → nm c = true → ∀ g', ru g' (-1) (bI (lb || c == 108)) 0 (.inr c :: L) w op → fr g g' 30 34 → Q none g') (hno : c ≠ 40 → c ≠ 33 → c ≠ 45 → nm c = false → ∀ g', ru g' (nI (10 * a + 1)) (bI lb) 1 L w op → fr g g' 30 34 → Q none g') : wp 42 b 0 [.ref 30, .int (nI c), .int (nI a)] [] g Q := by
  simp (disch := omega) only [q_X5_takeBeginning_0, q_X5_takeBeginning_1, q_X5_takeBeginning_3, y_is, y_gf, y_pf, y_f0, y_f1, y_f3, y_nI, y_nK, y_nZ, y_nL, y_nR, y_k1i, y_k1r, y_k1l, y_k1n, y_tl, y_tn, y_s, y_ss, List.getElem?_cons_zero, List.getElem?_cons_succ, List.set_cons_zero, List.set_cons_succ, List.length_cons, List.length_nil, true_and, and_true, lit, eq_n]
  by_cases c40 : c = 40
  · rw [bnt c40]
    simp (disch := omega) only [q_X5_takeBeginning_6, q_X5_takeBeginning_7, q_X5_takeBeginning_10, q_X5_takeBeginning_12, hR.1, y_is, y_gf, y_pf, y_f0, y_f1, y_f3, y_nI, y_nK, y_nZ, y_nL, y_nR, y_k1i, y_k1r, y_k1l, y_k1n, y_tl, y_tn, y_s, y_ss, List.getElem?_cons_zero, List.getElem?_cons_succ, List.set_cons_zero, List.set_cons_succ, List.length_cons, List.length_nil, true_and, and_true, lit, eq_n]
    by_cases o8 : op = 8
    · rw [bnt o8]
      simp (disch := omega) only [q_X5_takeBeginning_15, q_X5_takeBeginning_16, q_X5_takeBeginning_18, q_X5_takeBeginning_19, q_X5_takeBeginning_20, q_X5_takeBeginning_21, q_X5_takeBeginning_22, q_X5_takeBeginning_25, q_X5_takeBeginning_134, hR.1, y_is, y_gf, y_pf, y_f0, y_f1, y_f3, y_nI, y_nK, y_nZ, y_nL, y_nR, y_k1i, y_k1r, y_k1l, y_k1n, y_tl, y_tn, y_s, y_ss, List.getElem?_cons_zero, List.getElem?_cons_succ, List.set_cons_zero, List.set_cons_succ, List.length_cons, List.length_nil, true_and, and_true, lit, pk_mul, nI_add]
      exact ⟨by decide, h40' c40 o8 _ hR.nu (fr.rf.hs (by omega) (by omega))⟩
    · rw [bnf o8]
      simp (disch := omega) only [q_X5_takeBeginning_28, q_X5_takeBeginning_29, q_X5_takeBeginning_31, y_is, y_gf, y_pf, y_f0, y_f1, y_f3, y_nI, y_nK, y_nZ, y_nL, y_nR, y_k1i, y_k1r, y_k1l, y_k1n, y_tl, y_tn, y_s, y_ss, List.getElem?_cons_zero, List.getElem?_cons_succ, List.set_cons_zero, List.set_cons_succ, List.length_cons, List.length_nil, true_and, and_true, lit, eq_n]
      rw [bnt c40]
      simp (disch := omega) only [q_X5_takeBeginning_34, q_X5_takeBeginning_35, q_X5_takeBeginning_36, hR.1, y_is, y_gf, y_pf, y_f0, y_f1, y_f3, y_nI, y_nK, y_nZ, y_nL, y_nR, y_k1i, y_k1r, y_k1l, y_k1n, y_tl, y_tn, y_s, y_ss, List.getElem?_cons_zero, List.getElem?_cons_succ, List.set_cons_zero, List.set_cons_succ, List.length_cons, List.length_nil, true_and, and_true, lit]
      refine s_hold hR (by omega) (fun g1 hR1 hf1 => ?_)
      simp (disch := omega) only [q_X5_takeBeginning_39, q_X5_takeBeginning_40, q_X5_takeBeginning_41, q_X5_takeBeginning_44, q_X5_takeBeginning_45, q_X5_takeBeginning_46, q_X5_takeBeginning_49, q_X5_takeBeginning_134, hR1.1, y_is, y_gf, y_pf, y_f0, y_f1, y_f3, y_nI, y_nK, y_nZ, y_nL, y_nR, y_k1i, y_k1r, y_k1l, y_k1n, y_tl, y_tn, y_s, y_ss, List.getElem?_cons_zero, List.getElem?_cons_succ, List.set_cons_zero, List.set_cons_succ, List.length_cons, List.length_nil, true_and, and_true, lit, nI_add]
      rw [c40] at hR1
      refine ⟨by decide, h40 c40 o8 _ ?_ (hf1.hs (by omega) (by omega))⟩
      have := hR1.nu (fl' := -1) (lb' := bI lb) (due' := 1) (op' := op + 1)
      exact this
  · rw [bnf c40]
    simp (disch := omega) only [q_X5_takeBeginning_28, q_X5_takeBeginning_29, q_X5_takeBeginning_31, y_is, y_gf, y_pf, y_f0, y_f1, y_f3, y_nI, y_nK, y_nZ, y_nL, y_nR, y_k1i, y_k1r, y_k1l, y_k1n, y_tl, y_tn, y_s, y_ss, List.getElem?_cons_zero, List.getElem?_cons_succ, List.set_cons_zero, List.set_cons_succ, List.length_cons, List.length_nil, true_and, and_true, lit, eq_n]
    rw [bnf c40]
    simp (disch := omega) only [q_X5_takeBeginning_52, q_X5_takeBeginning_53, q_X5_takeBeginning_55, y_is, y_gf, y_pf, y_f0, y_f1, y_f3, y_nI, y_nK, y_nZ, y_nL, y_nR, y_k1i, y_k1r, y_k1l, y_k1n, y_tl, y_tn, y_s, y_ss, List.getElem?_cons_zero, List.getElem?_cons_succ, List.set_cons_zero, List.set_cons_succ, List.length_cons, List.length_nil, true_and, and_true, lit, eq_n]
    by_cases c33 : c = 33
    · rw [bnt c33]
      simp (disch := omega) only [q_X5_takeBeginning_58, q_X5_takeBeginning_59, q_X5_takeBeginning_60, hR.1, y_is, y_gf, y_pf, y_f0, y_f1, y_f3, y_nI, y_nK, y_nZ, y_nL, y_nR, y_k1i, y_k1r, y_k1l, y_k1n, y_tl, y_tn, y_s, y_ss, List.getElem?_cons_zero, List.getElem?_cons_succ, List.set_cons_zero, List.set_cons_succ, List.length_cons, List.length_nil, true_and, and_true, lit]
      refine s_hold hR (by omega) (fun g1 hR1 hf1 => ?_)
      simp (disch := omega) only [q_X5_takeBeginning_63, q_X5_takeBeginning_134, y_is, y_gf, y_pf, y_f0, y_f1, y_f3, y_nI, y_nK, y_nZ, y_nL, y_nR, y_k1i, y_k1r, y_k1l, y_k1n, y_tl, y_tn, y_s, y_ss, List.getElem?_cons_zero, List.getElem?_cons_succ, List.set_cons_zero, List.set_cons_succ, List.length_cons, List.length_nil, true_and, and_true]
      rw [c33] at hR1
      exact h33 c33 g1 hR1 hf1
    · rw [bnf c33]
      simp (disch := omega) only [q_X5_takeBeginning_66, q_X5_takeBeginning_67, q_X5_takeBeginning_69, y_is, y_gf, y_pf, y_f0, y_f1, y_f3, y_nI, y_nK, y_nZ, y_nL, y_nR, y_k1i, y_k1r, y_k1l, y_k1n, y_tl, y_tn, y_s, y_ss, List.getElem?_cons_zero, List.getElem?_cons_succ, List.set_cons_zero, List.set_cons_succ, List.length_cons, List.length_nil, true_and, and_true, lit, eq_n]
      by_cases c45 : c = 45
      · rw [bnt c45]
        simp (disch := omega) only [q_X5_takeBeginning_72, q_X5_takeBeginning_73, q_X5_takeBeginning_75, hR.1, y_is, y_gf, y_pf, y_f0, y_f1, y_f3, y_nI, y_nK, y_nZ, y_nL, y_nR, y_k1i, y_k1r, y_k1l, y_k1n, y_tl, y_tn, y_s, y_ss, List.getElem?_cons_zero, List.getElem?_cons_succ, List.set_cons_zero, List.set_cons_succ, List.length_cons, List.length_nil, true_and, and_true, lit]
        refine s_hold (c := 126) hR (by omega) (fun g1 hR1 hf1 => ?_)
        simp (disch := omega) only [q_X5_takeBeginning_78, q_X5_takeBeginning_134, y_is, y_gf, y_pf, y_f0, y_f1, y_f3, y_nI, y_nK, y_nZ, y_nL, y_nR, y_k1i, y_k1r, y_k1l, y_k1n, y_tl, y_tn, y_s, y_ss, List.getElem?_cons_zero, List.getElem?_cons_succ, List.set_cons_zero, List.set_cons_succ, List.length_cons, List.length_nil, true_and, and_true]
        exact h45 c45 g1 hR1 hf1
      · rw [bnf c45]
        simp (disch := omega) only [q_X5_takeBeginning_81, q_X5_takeBeginning_82, y_is, y_gf, y_pf, y_f0, y_f1, y_f3, y_nI, y_nK, y_nZ, y_nL, y_nR, y_k1i, y_k1r, y_k1l, y_k1n, y_tl, y_tn, y_s, y_ss, List.getElem?_cons_zero, List.getElem?_cons_succ, List.set_cons_zero, List.set_cons_succ, List.length_cons, List.length_nil, true_and, and_true, lit]
        refine s_isName hc ?_
        cases hn : nm c with
        | true =>
          simp only [q_X5_takeBeginning_85, y_is, y_gf, y_pf, y_f0, y_f1, y_f3, y_nI, y_nK, y_nZ, y_nL, y_nR, y_k1i, y_k1r, y_k1l, y_k1n, y_tl, y_tn, y_s, y_ss, List.getElem?_cons_zero, List.getElem?_cons_succ, List.set_cons_zero, List.set_cons_succ, List.length_cons, List.length_nil, true_and, and_true, if_true]
          refine br0 (by first | decide | omega | trivial | simp) ?_
          simp (disch := omega) only [q_X5_takeBeginning_88, q_X5_takeBeginning_89, q_X5_takeBeginning_90, q_X5_takeBeginning_91, hR.1, y_is, y_gf, y_pf, y_f0, y_f1, y_f3, y_nI, y_nK, y_nZ, y_nL, y_nR, y_k1i, y_k1r, y_k1l, y_k1n, y_tl, y_tn, y_s, y_ss, List.getElem?_cons_zero, List.getElem?_cons_succ, List.set_cons_zero, List.set_cons_succ, List.length_cons, List.length_nil, true_and, and_true]
          refine s_emit (x := .inr c) hR (by omega) (fun g1 hR1 hf1 => ?_)
          have en : ∀ x, x = bI (lb || c == 108) → wp 42 b 113 [.ref 30, .int (nI c), .int (nI a)] [.int x, .ref 30] g1 Q := by
            intro x hx
            have hx2 : x = 0 ∨ x = 1 := by
              rw [hx]
              cases (lb || c == 108)
              · exact Or.inl rfl
              · exact Or.inr rfl
            simp (disch := omega) only [q_X5_takeBeginning_113, q_X5_takeBeginning_116, q_X5_takeBeginning_117, q_X5_takeBeginning_118, q_X5_takeBeginning_121, q_X5_takeBeginning_134, hR1.1, y_is, y_gf, y_pf, y_f0, y_f1, y_f3, y_nI, y_nK, y_nZ, y_nL, y_nR, y_k1i, y_k1r, y_k1l, y_k1n, y_tl, y_tn, y_s, y_ss, List.getElem?_cons_zero, List.getElem?_cons_succ, List.set_cons_zero, List.set_cons_succ, List.length_cons, List.length_nil, true_and, and_true, y_f2]
            refine ⟨⟨by decide, hx2⟩, by decide, hnm c40 c33 c45 hn _ ?_ (hf1.hs (by omega) (by omega))⟩
            rw [hx]
            exact hR1.nu
          simp (disch := omega) only [q_X5_takeBeginning_94, q_X5_takeBeginning_95, q_X5_takeBeginning_96, q_X5_takeBeginning_99, hR1.1, y_is, y_gf, y_pf, y_f0, y_f1, y_f3, y_nI, y_nK, y_nZ, y_nL, y_nR, y_k1i, y_k1r, y_k1l, y_k1n, y_tl, y_tn, y_s, y_ss, List.getElem?_cons_zero, List.getElem?_cons_succ, List.set_cons_zero, List.set_cons_succ, List.length_cons, List.length_nil, true_and, and_true]
          cases lb with
          | true =>
            refine br1 (by decide) ?_
            simp only [q_X5_takeBeginning_108, q_X5_takeBeginning_109, y_is, y_gf, y_pf, y_f0, y_f1, y_f3, y_nI, y_nK, y_nZ, y_nL, y_nR, y_k1i, y_k1r, y_k1l, y_k1n, y_tl, y_tn, y_s, y_ss, List.getElem?_cons_zero, List.getElem?_cons_succ, List.set_cons_zero, List.set_cons_succ, List.length_cons, List.length_nil, true_and, and_true]
            exact en 1 (by simp [bI])
          | false =>
            refine br0 (by decide) ?_
            simp (disch := omega) only [q_X5_takeBeginning_102, q_X5_takeBeginning_103, q_X5_takeBeginning_105, y_is, y_gf, y_pf, y_f0, y_f1, y_f3, y_nI, y_nK, y_nZ, y_nL, y_nR, y_k1i, y_k1r, y_k1l, y_k1n, y_tl, y_tn, y_s, y_ss, List.getElem?_cons_zero, List.getElem?_cons_succ, List.set_cons_zero, List.set_cons_succ, List.length_cons, List.length_nil, true_and, and_true, lit, eq_n]
            by_cases e : c = 108
            · rw [bnt e]
              simp only [q_X5_takeBeginning_108, q_X5_takeBeginning_109, y_is, y_gf, y_pf, y_f0, y_f1, y_f3, y_nI, y_nK, y_nZ, y_nL, y_nR, y_k1i, y_k1r, y_k1l, y_k1n, y_tl, y_tn, y_s, y_ss, List.getElem?_cons_zero, List.getElem?_cons_succ, List.set_cons_zero, List.set_cons_succ, List.length_cons, List.length_nil, true_and, and_true]
              exact en 1 (by simp [bI, e])
            · rw [bnf e]
              simp only [q_X5_takeBeginning_112, y_is, y_gf, y_pf, y_f0, y_f1, y_f3, y_nI, y_nK, y_nZ, y_nL, y_nR, y_k1i, y_k1r, y_k1l, y_k1n, y_tl, y_tn, y_s, y_ss, List.getElem?_cons_zero, List.getElem?_cons_succ, List.set_cons_zero, List.set_cons_succ, List.length_cons, List.length_nil, true_and, and_true]
              exact en 0 (by simp [bI, e])
        | false =>
          simp only [q_X5_takeBeginning_85, y_is, y_gf, y_pf, y_f0, y_f1, y_f3, y_nI, y_nK, y_nZ, y_nL, y_nR, y_k1i, y_k1r, y_k1l, y_k1n, y_tl, y_tn, y_s, y_ss, List.getElem?_cons_zero, List.getElem?_cons_succ, List.set_cons_zero, List.set_cons_succ, List.length_cons, List.length_nil, true_and, and_true, Bool.false_eq_true, if_false]
          refine br1 (by first | decide | omega | trivial | simp) ?_
          simp (disch := omega) only [q_X5_takeBeginning_124, q_X5_takeBeginning_125, q_X5_takeBeginning_127, q_X5_takeBeginning_128, q_X5_takeBeginning_129, q_X5_takeBeginning_130, q_X5_takeBeginning_131, q_X5_takeBeginning_134, hR.1, y_is, y_gf, y_pf, y_f0, y_f1, y_f3, y_nI, y_nK, y_nZ, y_nL, y_nR, y_k1i, y_k1r, y_k1l, y_k1n, y_tl, y_tn, y_s, y_ss, List.getElem?_cons_zero, List.getElem?_cons_succ, List.set_cons_zero, List.set_cons_succ, List.length_cons, List.length_nil, true_and, and_true, lit, pk_mul, nI_add]
          exact ⟨by decide, hno c40 c33 c45 hn _ hR.nu (fr.rf.hs (by omega) (by omega))⟩
end RULE2
