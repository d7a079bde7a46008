/-! ===== the reference: wide numbers ===== -/
theorem l_divB {n : Nat} (h : n < 9223372036854775808) : lN n / lN 1073741824 = lN (n / BB) := l_div h (by decide) (by decide)
theorem l_remB {n : Nat} : lN n - lN (n / BB) * lN 1073741824 = lN (n % BB) := l_rem2
theorem l_remC {n : Nat} : lN n - lN (n / BB * 1073741824) = lN (n % BB) := l_rem3
def mr (g : mzG) (F : Nat → Int64) (Z : Nat → Int32) : Prop := g.2 78 = aL 704 F ∧ g.2 79 = aI 11 Z
def dgs (F : Nat → Int64) (s k N : Nat) : Prop := ∀ i, i < k → F (64 * s + i) = lN (N / BB ^ i % BB)
def slot (F : Nat → Int64) (z : Int32) (s N : Nat) : Prop := ∃ k, z = nI k ∧ k ≤ 64 ∧ dgs F s k N ∧ N < BB ^ k ∧ (k = 0 ∨ BB ^ (k - 1) ≤ N)
/-- the wide numbers -/
abbrev mE : Type := Nat → Option ((Nat → Int64) × Int32)
def E0 : mE := fun _ => none
/-- a slot with a number, or one that is under work: its cells as they are -/
def slotE (F : Nat → Int64) (z : Int32) (s N : Nat) (e : Option ((Nat → Int64) × Int32)) : Prop := (e = none → slot F z s N) ∧ (∀ q, e = some q → z = q.2 ∧ ∀ i, i < 64 → F (64 * s + i) = q.1 i)
def ms (g : mzG) (E : mE) (V : Nat → Nat) : Prop := ∃ F Z, mr g F Z ∧ ∀ s, s < 11 → slotE F (Z s) s (V s) (E s)
theorem ms.frm {g g' : mzG} {E : mE} {V : Nat → Nat} {lo hi : Nat} (h : ms g E V) (hf : fr g g' lo hi) (ha : 80 ≤ lo ∨ hi ≤ 78) : ms g' E V := by
  obtain ⟨F, Z, h1, h2⟩ := h
  exact ⟨F, Z, ⟨by rw [hf.2 _ (by omega)]; exact h1.1, by rw [hf.2 _ (by omega)]; exact h1.2⟩, h2⟩
theorem slot_keep {F F' : Nat → Int64} {z : Int32} {t N : Nat} (h : slot F z t N) (hF : ∀ i, i < 64 → F' (64 * t + i) = F (64 * t + i)) : slot F' z t N := by
  obtain ⟨k, h1, h2, h3, h4⟩ := h
  exact ⟨k, h1, h2, fun i hi => by rw [hF i (by omega)]; exact h3 i hi, h4⟩
theorem slotE_keep {F F' : Nat → Int64} {z : Int32} {t N : Nat} {e : Option ((Nat → Int64) × Int32)} (h : slotE F z t N e) (hF : ∀ i, i < 64 → F' (64 * t + i) = F (64 * t + i)) : slotE F' z t N e := ⟨fun q => slot_keep (h.1 q) hF, fun q hq => ⟨(h.2 q hq).1, fun i hi => (hF i hi).trans ((h.2 q hq).2 i hi)⟩⟩
theorem ms_mk {g' : mzG} {E : mE} {F F' : Nat → Int64} {Z Z' : Nat → Int32} {V : Nat → Nat} {s N : Nat} (hE : E s = none) (h : ∀ t, t < 11 → slotE F (Z t) t (V t) (E t)) (hr : mr g' F' Z') (ho : ∀ j, j < 64 * s ∨ 64 * s + 64 ≤ j → F' j = F j) (hz : ∀ t, t ≠ s → Z' t = Z t) (hs : slot F' (Z' s) s N) : ms g' E (va_up V s N) := by
  refine ⟨F', Z', hr, fun t ht => ?_⟩
  unfold va_up
  by_cases e : t = s
  · subst e; rw [if_pos rfl, hE]; exact ⟨fun _ => hs, fun q hq => by simp at hq⟩
  · rw [if_neg e, hz t e]
    exact slotE_keep (h t ht) (fun i hi => ho _ (by omega))
theorem up_s {V : Nat → Nat} {s N : Nat} : va_up V s N s = N := by unfold va_up; rw [if_pos rfl]
theorem up_n {V : Nat → Nat} {s t N : Nat} (h : t ≠ s) : va_up V s N t = V t := by unfold va_up; rw [if_neg h]
theorem bb_pow_lt {a b : Nat} (h : BB ^ a ≤ BB ^ b) : a ≤ b := by
  rcases Nat.lt_or_ge b a with q | q
  · have : BB ^ b < BB ^ a := Nat.pow_lt_pow_right (by decide) q
    omega
  · exact q
/-- how many limbs a number has -/
theorem slot_sz {F F' : Nat → Int64} {z z' : Int32} {s s' N : Nat} (h : slot F z s N) (h' : slot F' z' s' N) : z = z' := by
  obtain ⟨k, h1, h2, h3, h4, h5⟩ := h
  obtain ⟨k', h1', h2', h3', h4', h5'⟩ := h'
  have : k = k' := by
    rcases Nat.lt_trichotomy k k' with q | q | q
    · rcases h5' with e | e
      · omega
      · have : BB ^ k ≤ BB ^ (k' - 1) := Nat.pow_le_pow_right (by decide) (by omega)
        omega
    · exact q
    · rcases h5 with e | e
      · omega
      · have : BB ^ k' ≤ BB ^ (k - 1) := Nat.pow_le_pow_right (by decide) (by omega)
        omega
  rw [h1, h1', this]
section MNUM
variable {b : mzB} {Q : mzQ} {x : Nat → Int32} {r : Int64}
theorem s_mtrim (g0 : mzG) {s N : Nat} {F : Nat → Int64} (hs11 : s < 11) (Z0 : Nat → Int32) (hQ : ∀ g' Z', g'.2 73 = ob 9 [.ref 74, .ref 75, .ref 76, .ref 77, .ref 78, .ref 79, .int (x 0), .int (x 1), .int (x 2), .ref 80, .int (x 3), .ref 81, .int (x 4), .ref 82, .long (r), .ref 83, .ref 84, .int (x 5), .int (x 6), .int (x 7), .int (x 8), .int (x 9), .ref 85, .int (x 10)] → mr g' F Z' → (∀ t, t ≠ s → Z' t = Z0 t) → slot F (Z' s) s N → fr g0 g' 78 80 → Q none g') : ∀ (k : Nat) (g : mzG) (Z : Nat → Int32), g.2 73 = ob 9 [.ref 74, .ref 75, .ref 76, .ref 77, .ref 78, .ref 79, .int (x 0), .int (x 1), .int (x 2), .ref 80, .int (x 3), .ref 81, .int (x 4), .ref 82, .long (r), .ref 83, .ref 84, .int (x 5), .int (x 6), .int (x 7), .int (x 8), .int (x 9), .ref 85, .int (x 10)] → mr g F Z → (∀ t, t ≠ s → Z t = Z0 t) → Z s = nI k → k ≤ 64 → dgs F s k N → N < BB ^ k → fr g0 g 78 80 → wp 137 b 0 [.ref 73, .int (nI s)] [] g Q := by
  intro k
  induction k with
  | zero =>
    intro g Z hM hr hz hk hk64 hd hN hf
    rw [q_X11_trim_0]
    simp (disch := omega) only [q_X11_trim_1, q_X11_trim_4, q_X11_trim_5, q_X11_trim_6, q_X11_trim_45, hM, hr.2, hk, y_is, y_gf, y_pf, y_f0, y_f1, y_f3, y_nI, y_nK, y_nZ, y_nL, y_nR, y_k1i, y_k1r, y_k1l, y_k1n, y_tl, y_tn, y_s, y_ss, List.getElem?_cons_zero, List.getElem?_cons_succ, List.set_cons_zero, List.set_cons_succ, List.length_cons, List.length_nil, true_and, and_true, y_lIn, y_lKn, y_lZn, y_lLn, y_wIn, y_wZn, y_wLn, lit, le_n, lt_n, eq_n, lit, litL, le_n, lt_n, eq_n, nI_add, m_neg, pk_sub, pk_mul, i_l, l_i, l_add, l_mul, l_sub, lc_le, lc_ge, lc_lt, lc_gt, lc_eq, l_rem2, l_rem3, i_rem2, i_rem3]
    exact br1 (by first | decide | omega | trivial | simp) (hQ g Z hM hr hz ⟨0, hk, by omega, hd, hN, Or.inl rfl⟩ hf)
  | succ k ih =>
    intro g Z hM hr hz hk hk64 hd hN hf
    have hdk := hd k (by omega)
    have hb := bb_lt N k
    have hsub : 64 * s + (k + 1) - 1 = 64 * s + k := by omega
    rw [q_X11_trim_0]
    simp (disch := omega) only [q_X11_trim_1, q_X11_trim_4, q_X11_trim_5, q_X11_trim_6, q_X11_trim_9, q_X11_trim_10, q_X11_trim_13, q_X11_trim_15, q_X11_trim_16, q_X11_trim_17, q_X11_trim_18, q_X11_trim_21, q_X11_trim_22, q_X11_trim_23, q_X11_trim_24, q_X11_trim_25, q_X11_trim_26, q_X11_trim_27, q_X11_trim_28, q_X11_trim_29, hM, hr.1, hr.2, hk, hsub, hdk, y_is, y_gf, y_pf, y_f0, y_f1, y_f3, y_nI, y_nK, y_nZ, y_nL, y_nR, y_k1i, y_k1r, y_k1l, y_k1n, y_tl, y_tn, y_s, y_ss, List.getElem?_cons_zero, List.getElem?_cons_succ, List.set_cons_zero, List.set_cons_succ, List.length_cons, List.length_nil, true_and, and_true, y_lIn, y_lKn, y_lZn, y_lLn, y_wIn, y_wZn, y_wLn, lit, le_n, lt_n, eq_n, lit, litL, le_n, lt_n, eq_n, nI_add, m_neg, pk_sub, pk_mul, i_l, l_i, l_add, l_mul, l_sub, lc_le, lc_ge, lc_lt, lc_gt, lc_eq, l_rem2, l_rem3, i_rem2, i_rem3]
    refine br0 (by first | decide | omega | trivial | simp) ?_
    by_cases c : N / BB ^ k % BB = 0
    · rw [bnt c]
      simp (disch := omega) only [q_X11_trim_32, q_X11_trim_33, q_X11_trim_36, q_X11_trim_37, q_X11_trim_38, q_X11_trim_39, q_X11_trim_40, q_X11_trim_41, q_X11_trim_42, hM, hr.2, hk, y_is, y_gf, y_pf, y_f0, y_f1, y_f3, y_nI, y_nK, y_nZ, y_nL, y_nR, y_k1i, y_k1r, y_k1l, y_k1n, y_tl, y_tn, y_s, y_ss, List.getElem?_cons_zero, List.getElem?_cons_succ, List.set_cons_zero, List.set_cons_succ, List.length_cons, List.length_nil, true_and, and_true, y_lIn, y_lKn, y_lZn, y_lLn, y_wIn, y_wZn, y_wLn, lit, le_n, lt_n, eq_n, lit, pk_sub, Nat.add_sub_cancel]
      refine ih _ (upd Z s (nI k)) (by rw [y_ne (by decide)]; exact hM) ⟨by rw [y_ne (by decide)]; exact hr.1, y_s⟩ (fun t ht => by rw [u_n ht]; exact hz t ht) u_s (by omega) (fun i hi => hd i (by omega)) ?_ (hf.hs (by omega) (by omega))
      have h1 : N / BB ^ k < BB := by
        rw [Nat.div_lt_iff_lt_mul (bb_pos k), Nat.mul_comm, ← bb_s]; exact hN
      rw [Nat.mod_eq_of_lt h1] at c
      exact (Nat.div_eq_zero_iff.mp c).resolve_left (by have := bb_pos k; omega)
    · rw [bnf c]
      simp only [q_X11_trim_45, y_is, y_gf, y_pf, y_f0, y_f1, y_f3, y_nI, y_nK, y_nZ, y_nL, y_nR, y_k1i, y_k1r, y_k1l, y_k1n, y_tl, y_tn, y_s, y_ss, List.getElem?_cons_zero, List.getElem?_cons_succ, List.set_cons_zero, List.set_cons_succ, List.length_cons, List.length_nil, true_and, and_true]
      refine hQ g Z hM hr hz ⟨k + 1, hk, hk64, hd, hN, Or.inr ?_⟩ hf
      rw [Nat.add_sub_cancel]
      apply Nat.not_lt.mp
      intro hlt
      rw [Nat.div_eq_of_lt hlt] at c
      exact c rfl
theorem s_mset {g : mzG} {E : mE} {V : Nat → Nat} {s v : Nat} (hM : g.2 73 = ob 9 [.ref 74, .ref 75, .ref 76, .ref 77, .ref 78, .ref 79, .int (x 0), .int (x 1), .int (x 2), .ref 80, .int (x 3), .ref 81, .int (x 4), .ref 82, .long (r), .ref 83, .ref 84, .int (x 5), .int (x 6), .int (x 7), .int (x 8), .int (x 9), .ref 85, .int (x 10)]) (hV : ms g E V) (hs11 : s < 11) (hE : E s = none) (hv : v < 9223372036854775808) (hQ : ∀ g', g'.2 73 = ob 9 [.ref 74, .ref 75, .ref 76, .ref 77, .ref 78, .ref 79, .int (x 0), .int (x 1), .int (x 2), .ref 80, .int (x 3), .ref 81, .int (x 4), .ref 82, .long (r), .ref 83, .ref 84, .int (x 5), .int (x 6), .int (x 7), .int (x 8), .int (x 9), .ref 85, .int (x 10)] → ms g' E (va_up V s v) → fr g g' 78 80 → Q none g') : wp 135 b 0 [.ref 73, .int (nI s), .long (lN v), .null, .null, .null] [] g Q := by
  obtain ⟨F, Z, hr, hsl⟩ := hV
  have loop : ∀ (d k : Nat) (g' : mzG) (F' : Nat → Int64) (Z' : Nat → Int32), k + d = 4 → g'.2 73 = ob 9 [.ref 74, .ref 75, .ref 76, .ref 77, .ref 78, .ref 79, .int (x 0), .int (x 1), .int (x 2), .ref 80, .int (x 3), .ref 81, .int (x 4), .ref 82, .long (r), .ref 83, .ref 84, .int (x 5), .int (x 6), .int (x 7), .int (x 8), .int (x 9), .ref 85, .int (x 10)] → mr g' F' Z' → (∀ j, j < 64 * s ∨ 64 * s + 64 ≤ j → F' j = F j) → (∀ t, t ≠ s → Z' t = Z t) → Z' s = nI k → dgs F' s k v → (k = 0 ∨ BB ^ (k - 1) ≤ v) → fr g g' 78 80 → wp 135 b 10 [.ref 73, .int (nI s), .long (lN v), .null, .long (lN (v / BB ^ k)), .null] [] g' Q := by
    intro d
    induction d with
    | zero =>
      intro k g' F' Z' hk hM' hr' ho hz hzs hd hm hf
      exfalso
      have : k = 4 := by omega
      subst this
      rcases hm with e | e
      · omega
      · have : BB ^ 3 ≤ v := e
        have : (9223372036854775808 : Nat) < BB ^ 3 := by decide
        omega
    | succ d ih =>
      intro k g' F' Z' hk hM' hr' ho hz hzs hd hm hf
      have hdl : v / BB ^ k ≤ v := Nat.div_le_self _ _
      rw [q_X11_set_10]
      by_cases c : v / BB ^ k = 0
      · simp (disch := omega) only [q_X11_set_12, q_X11_set_13, q_X11_set_14, q_X11_set_60, c, y_is, y_gf, y_pf, y_f0, y_f1, y_f3, y_nI, y_nK, y_nZ, y_nL, y_nR, y_k1i, y_k1r, y_k1l, y_k1n, y_tl, y_tn, y_s, y_ss, List.getElem?_cons_zero, List.getElem?_cons_succ, List.set_cons_zero, List.set_cons_succ, List.length_cons, List.length_nil, true_and, and_true, lit, litL, lc_le]
        refine br1 (by first | decide | omega | trivial | simp) (hQ g' hM' (ms_mk hE hsl hr' ho hz ⟨k, hzs, by omega, hd, ?_, hm⟩) hf)
        exact (Nat.div_eq_zero_iff.mp c).resolve_left (by have := bb_pos k; omega)
      · simp (disch := omega) only [q_X11_set_12, q_X11_set_13, q_X11_set_14, y_is, y_gf, y_pf, y_f0, y_f1, y_f3, y_nI, y_nK, y_nZ, y_nL, y_nR, y_k1i, y_k1r, y_k1l, y_k1n, y_tl, y_tn, y_s, y_ss, List.getElem?_cons_zero, List.getElem?_cons_succ, List.set_cons_zero, List.set_cons_succ, List.length_cons, List.length_nil, true_and, and_true, lit, litL, lc_le]
        refine br0 (by have := Nat.pos_of_ne_zero c; omega) ?_
        simp (disch := omega) only [q_X11_set_17, q_X11_set_18, q_X11_set_21, q_X11_set_23, q_X11_set_24, q_X11_set_25, q_X11_set_26, q_X11_set_29, q_X11_set_30, q_X11_set_31, q_X11_set_32, q_X11_set_34, q_X11_set_37, q_X11_set_38, q_X11_set_39, q_X11_set_41, q_X11_set_44, q_X11_set_45, q_X11_set_47, q_X11_set_48, q_X11_set_51, q_X11_set_52, q_X11_set_53, q_X11_set_54, q_X11_set_55, q_X11_set_56, q_X11_set_57, hM', hr'.1, hr'.2, hzs, y_is, y_gf, y_pf, y_f0, y_f1, y_f3, y_nI, y_nK, y_nZ, y_nL, y_nR, y_k1i, y_k1r, y_k1l, y_k1n, y_tl, y_tn, y_s, y_ss, List.getElem?_cons_zero, List.getElem?_cons_succ, List.set_cons_zero, List.set_cons_succ, List.length_cons, List.length_nil, true_and, and_true, y_lIn, y_lKn, y_lZn, y_lLn, y_wIn, y_wZn, y_wLn, lit, le_n, lt_n, eq_n, lit, litL, pk_mul, nI_add, l_eq, l_divB, l_remB, l_remC, y_ne, l_mul]
        refine ⟨by omega, by omega, ?_⟩
        have e1 : v / BB ^ k / BB = v / BB ^ (k + 1) := bb_dd v k
        rw [e1]
        refine ih (k + 1) _ _ _ (by omega) (by rw [y_ne (by decide), y_ne (by decide)]; exact hM') ⟨by rw [y_ne (by decide), y_s], y_s⟩ (fun j hj => by rw [uL_n (by omega)]; exact ho j hj) (fun t ht => by rw [u_n ht]; exact hz t ht) u_s (fun i hi => ?_) (Or.inr ?_) ((hf.hs (by omega) (by omega)).hs (by omega) (by omega))
        · by_cases q : i = k
          · subst q; rw [uL_s]
          · rw [uL_n (by omega)]; exact hd i (by omega)
        · rw [Nat.add_sub_cancel]
          apply Nat.not_lt.mp
          intro hlt
          exact c (Nat.div_eq_of_lt hlt)
  simp (disch := omega) only [q_X11_set_0, q_X11_set_1, q_X11_set_3, q_X11_set_4, q_X11_set_7, q_X11_set_8, q_X11_set_9, hM, hr.2, y_is, y_gf, y_pf, y_f0, y_f1, y_f3, y_nI, y_nK, y_nZ, y_nL, y_nR, y_k1i, y_k1r, y_k1l, y_k1n, y_tl, y_tn, y_s, y_ss, List.getElem?_cons_zero, List.getElem?_cons_succ, List.set_cons_zero, List.set_cons_succ, List.length_cons, List.length_nil, true_and, and_true, y_lIn, y_lKn, y_lZn, y_lLn, y_wIn, y_wZn, y_wLn, lit, le_n, lt_n, eq_n, lit]
  have e : v / BB ^ 0 = v := by rw [Nat.pow_zero, Nat.div_one]
  have k0 := loop 4 0 (hs g 79 (aI 11 (upd Z s (nI 0)))) F (upd Z s (nI 0)) (by omega) (by rw [y_ne (by decide)]; exact hM) ⟨by rw [y_ne (by decide)]; exact hr.1, y_s⟩ (fun j hj => rfl) (fun t ht => u_n ht) u_s (fun i hi => by omega) (Or.inl rfl) (fr.rf.hs (by omega) (by omega))
  rw [e] at k0
  exact k0
theorem s_mcopy {g : mzG} {E : mE} {V : Nat → Nat} {s t : Nat} (hM : g.2 73 = ob 9 [.ref 74, .ref 75, .ref 76, .ref 77, .ref 78, .ref 79, .int (x 0), .int (x 1), .int (x 2), .ref 80, .int (x 3), .ref 81, .int (x 4), .ref 82, .long (r), .ref 83, .ref 84, .int (x 5), .int (x 6), .int (x 7), .int (x 8), .int (x 9), .ref 85, .int (x 10)]) (hV : ms g E V) (hs11 : s < 11) (hE : E s = none) (ht11 : t < 11) (hEt : E t = none) (hst : s ≠ t) (hQ : ∀ g', g'.2 73 = ob 9 [.ref 74, .ref 75, .ref 76, .ref 77, .ref 78, .ref 79, .int (x 0), .int (x 1), .int (x 2), .ref 80, .int (x 3), .ref 81, .int (x 4), .ref 82, .long (r), .ref 83, .ref 84, .int (x 5), .int (x 6), .int (x 7), .int (x 8), .int (x 9), .ref 85, .int (x 10)] → ms g' E (va_up V s (V t)) → fr g g' 78 80 → Q none g') : wp 136 b 0 [.ref 73, .int (nI s), .int (nI t), .null] [] g Q := by
  obtain ⟨F, Z, hr, hsl⟩ := hV
  obtain ⟨k, hk, hk64, hd, hN, hm⟩ := (hsl t ht11).1 hEt
  have loop : ∀ (d i : Nat) (g' : mzG) (F' : Nat → Int64), i + d = k → g'.2 73 = ob 9 [.ref 74, .ref 75, .ref 76, .ref 77, .ref 78, .ref 79, .int (x 0), .int (x 1), .int (x 2), .ref 80, .int (x 3), .ref 81, .int (x 4), .ref 82, .long (r), .ref 83, .ref 84, .int (x 5), .int (x 6), .int (x 7), .int (x 8), .int (x 9), .ref 85, .int (x 10)] → mr g' F' Z → (∀ j, j < 64 * s ∨ 64 * s + 64 ≤ j → F' j = F j) → dgs F' s i (V t) → fr g g' 78 80 → wp 136 b 2 [.ref 73, .int (nI s), .int (nI t), .int (nI i)] [] g' Q := by
    intro d
    induction d with
    | zero =>
      intro i g' F' hi hM' hr' ho hd' hf
      have hi : i = k := by omega
      subst hi
      rw [q_X11_copy_2]
      simp (disch := omega) only [q_X11_copy_3, q_X11_copy_4, q_X11_copy_7, q_X11_copy_8, q_X11_copy_9, q_X11_copy_40, q_X11_copy_41, q_X11_copy_44, q_X11_copy_45, q_X11_copy_46, q_X11_copy_49, q_X11_copy_50, q_X11_copy_51, q_X11_copy_52, hM', hr'.2, hk, y_is, y_gf, y_pf, y_f0, y_f1, y_f3, y_nI, y_nK, y_nZ, y_nL, y_nR, y_k1i, y_k1r, y_k1l, y_k1n, y_tl, y_tn, y_s, y_ss, List.getElem?_cons_zero, List.getElem?_cons_succ, List.set_cons_zero, List.set_cons_succ, List.length_cons, List.length_nil, true_and, and_true, y_lIn, y_lKn, y_lZn, y_lLn, y_wIn, y_wZn, y_wLn, lit, le_n, lt_n, eq_n, lit, litL, le_n, lt_n, eq_n, nI_add, m_neg, pk_sub, pk_mul, i_l, l_i, l_add, l_mul, l_sub, lc_le, lc_ge, lc_lt, lc_gt, lc_eq, l_rem2, l_rem3, i_rem2, i_rem3]
      exact br1 (by omega) (hQ _ (by rw [y_ne (by decide)]; exact hM') (ms_mk hE hsl ⟨by rw [y_ne (by decide)]; exact hr'.1, y_s⟩ ho (fun q hq => u_n hq) ⟨i, u_s, hk64, hd', hN, hm⟩) (hf.hs (by omega) (by omega)))
    | succ d ih =>
      intro i g' F' hi hM' hr' ho hd' hf
      have e1 : F' (64 * t + i) = lN (V t / BB ^ i % BB) := by rw [ho _ (by omega)]; exact hd i (by omega)
      rw [q_X11_copy_2]
      simp (disch := omega) only [q_X11_copy_3, q_X11_copy_4, q_X11_copy_7, q_X11_copy_8, q_X11_copy_9, q_X11_copy_12, q_X11_copy_13, q_X11_copy_16, q_X11_copy_18, q_X11_copy_19, q_X11_copy_20, q_X11_copy_21, q_X11_copy_22, q_X11_copy_23, q_X11_copy_26, q_X11_copy_28, q_X11_copy_29, q_X11_copy_30, q_X11_copy_31, q_X11_copy_32, q_X11_copy_33, q_X11_copy_34, q_X11_copy_37, hM', hr'.1, hr'.2, hk, e1, y_is, y_gf, y_pf, y_f0, y_f1, y_f3, y_nI, y_nK, y_nZ, y_nL, y_nR, y_k1i, y_k1r, y_k1l, y_k1n, y_tl, y_tn, y_s, y_ss, List.getElem?_cons_zero, List.getElem?_cons_succ, List.set_cons_zero, List.set_cons_succ, List.length_cons, List.length_nil, true_and, and_true, y_lIn, y_lKn, y_lZn, y_lLn, y_wIn, y_wZn, y_wLn, lit, le_n, lt_n, eq_n, lit, litL, le_n, lt_n, eq_n, nI_add, m_neg, pk_sub, pk_mul, i_l, l_i, l_add, l_mul, l_sub, lc_le, lc_ge, lc_lt, lc_gt, lc_eq, l_rem2, l_rem3, i_rem2, i_rem3]
      refine br0 (by omega) (ih (i + 1) _ _ (by omega) (by rw [y_ne (by decide)]; exact hM') ⟨y_s, by rw [y_ne (by decide)]; exact hr'.2⟩ (fun j hj => by rw [uL_n (by omega)]; exact ho j hj) (fun j hj => ?_) (hf.hs (by omega) (by omega)))
      by_cases q : j = i
      · subst q; rw [uL_s]
      · rw [uL_n (by omega)]; exact hd' j (by omega)
  simp only [q_X11_copy_0, q_X11_copy_1, y_is, y_gf, y_pf, y_f0, y_f1, y_f3, y_nI, y_nK, y_nZ, y_nL, y_nR, y_k1i, y_k1r, y_k1l, y_k1n, y_tl, y_tn, y_s, y_ss, List.getElem?_cons_zero, List.getElem?_cons_succ, List.set_cons_zero, List.set_cons_succ, List.length_cons, List.length_nil, true_and, and_true]
  exact loop k 0 g F (by omega) hM hr (fun j hj => rfl) (fun i hi => by omega) fr.rf
theorem s_mtimes {g : mzG} {E : mE} {V : Nat → Nat} {s m : Nat} (hM : g.2 73 = ob 9 [.ref 74, .ref 75, .ref 76, .ref 77, .ref 78, .ref 79, .int (x 0), .int (x 1), .int (x 2), .ref 80, .int (x 3), .ref 81, .int (x 4), .ref 82, .long (r), .ref 83, .ref 84, .int (x 5), .int (x 6), .int (x 7), .int (x 8), .int (x 9), .ref 85, .int (x 10)]) (hV : ms g E V) (hs11 : s < 11) (hE : E s = none) (hm31 : m ≤ 1073741824) (hb63 : V s * m < BB ^ 63) (hQ : ∀ g', g'.2 73 = ob 9 [.ref 74, .ref 75, .ref 76, .ref 77, .ref 78, .ref 79, .int (x 0), .int (x 1), .int (x 2), .ref 80, .int (x 3), .ref 81, .int (x 4), .ref 82, .long (r), .ref 83, .ref 84, .int (x 5), .int (x 6), .int (x 7), .int (x 8), .int (x 9), .ref 85, .int (x 10)] → ms g' E (va_up V s (V s * m)) → fr g g' 78 80 → Q none g') : wp 138 b 0 [.ref 73, .int (nI s), .long (lN m), .null, .null, .null, .null, .null, .null] [] g Q := by
  obtain ⟨F, Z, hr, hsl⟩ := hV
  obtain ⟨k, hk, hk64, hd, hN, hm⟩ := (hsl s hs11).1 hE
  generalize hNN : V s = N at *
  have fin : ∀ (g' : mzG) (F' : Nat → Int64) (x7 x8 : Value), g'.2 73 = ob 9 [.ref 74, .ref 75, .ref 76, .ref 77, .ref 78, .ref 79, .int (x 0), .int (x 1), .int (x 2), .ref 80, .int (x 3), .ref 81, .int (x 4), .ref 82, .long (r), .ref 83, .ref 84, .int (x 5), .int (x 6), .int (x 7), .int (x 8), .int (x 9), .ref 85, .int (x 10)] → mr g' F' Z → (∀ j, j < 64 * s ∨ 64 * s + 64 ≤ j → F' j = F j) → dgs F' s k (N * m) → fr g g' 78 80 → wp 138 b 68 [.ref 73, .int (nI s), .long (lN m), .null, .long (lN (N * m / BB ^ k)), .null, .int (nI k), x7, x8] [] g' Q := by
    intro g' F' x7 x8 hM' hr' ho hd' hf
    have hc : N * m / BB ^ k ≤ m := by
      rw [Nat.div_le_iff_le_mul_add_pred (bb_pos k)]
      have := Nat.mul_le_mul_right m (Nat.le_of_lt hN)
      omega
    have hc2 : m = 0 ∨ N * m / BB ^ k < m := by
      rcases Nat.eq_zero_or_pos m with q | q
      · exact Or.inl q
      · right
        rw [Nat.div_lt_iff_lt_mul (bb_pos k), Nat.mul_comm m]
        exact Nat.mul_lt_mul_of_pos_right hN q
    have hfull : N * m < BB ^ (k + 1) := by
      rw [bb_s]
      have h1 : N * m < BB ^ k * (N * m / BB ^ k + 1) := by
        have := Nat.div_add_mod (N * m) (BB ^ k)
        have := Nat.mod_lt (N * m) (bb_pos k)
        rw [Nat.mul_add]; omega
      have h2 : N * m / BB ^ k + 1 ≤ BB := by
        rcases hc2 with q | q
        · rw [q, Nat.mul_zero, Nat.zero_div]; decide
        · show _ ≤ 1073741824; omega
      exact Nat.lt_of_lt_of_le h1 (Nat.mul_le_mul_left _ h2)
    have tr : ∀ g2 F2 Z2 k2, g2.2 73 = ob 9 [.ref 74, .ref 75, .ref 76, .ref 77, .ref 78, .ref 79, .int (x 0), .int (x 1), .int (x 2), .ref 80, .int (x 3), .ref 81, .int (x 4), .ref 82, .long (r), .ref 83, .ref 84, .int (x 5), .int (x 6), .int (x 7), .int (x 8), .int (x 9), .ref 85, .int (x 10)] → mr g2 F2 Z2 → (∀ j, j < 64 * s ∨ 64 * s + 64 ≤ j → F2 j = F j) → (∀ t, t ≠ s → Z2 t = Z t) → Z2 s = nI k2 → k2 ≤ 64 → dgs F2 s k2 (N * m) → N * m < BB ^ k2 → fr g g2 78 80 → wp 138 b 103 [.ref 73, .int (nI s), .long (lN m), .null, .long (lN (N * m / BB ^ k)), .null, .int (nI k), x7, x8] [] g2 Q := by
      intro g2 F2 Z2 k2 q1 q2 q3 q4 q5 q6 q7 q8 q9
      simp (disch := omega) only [q_X11_times_103, q_X11_times_104, q_X11_times_105, q1, y_is, y_gf, y_pf, y_f0, y_f1, y_f3, y_nI, y_nK, y_nZ, y_nL, y_nR, y_k1i, y_k1r, y_k1l, y_k1n, y_tl, y_tn, y_s, y_ss, List.getElem?_cons_zero, List.getElem?_cons_succ, List.set_cons_zero, List.set_cons_succ, List.length_cons, List.length_nil, true_and, and_true]
      refine s_mtrim g hs11 Z (fun g3 Z3 r1 r2 r3 r4 r5 => ?_) k2 g2 Z2 q1 q2 q4 q5 q6 q7 q8 q9
      simp only [q_X11_times_108, y_is, y_gf, y_pf, y_f0, y_f1, y_f3, y_nI, y_nK, y_nZ, y_nL, y_nR, y_k1i, y_k1r, y_k1l, y_k1n, y_tl, y_tn, y_s, y_ss, List.getElem?_cons_zero, List.getElem?_cons_succ, List.set_cons_zero, List.set_cons_succ, List.length_cons, List.length_nil, true_and, and_true]
      exact hQ g3 r1 (ms_mk hE hsl r2 q3 r3 r4) r5
    rcases Nat.eq_zero_or_pos (N * m / BB ^ k) with c | c
    · have := tr g' F' Z k hM' hr' ho (fun t _ => rfl) hk hk64 hd' ((Nat.div_eq_zero_iff.mp c).resolve_left (by have := bb_pos k; omega)) hf
      generalize N * m / BB ^ k = C at c this ⊢
      subst c
      simp (disch := omega) only [q_X11_times_68, q_X11_times_70, q_X11_times_71, q_X11_times_72, y_is, y_gf, y_pf, y_f0, y_f1, y_f3, y_nI, y_nK, y_nZ, y_nL, y_nR, y_k1i, y_k1r, y_k1l, y_k1n, y_tl, y_tn, y_s, y_ss, List.getElem?_cons_zero, List.getElem?_cons_succ, List.set_cons_zero, List.set_cons_succ, List.length_cons, List.length_nil, true_and, and_true, lit, litL, lc_le]
      exact br1 (by first | decide | omega | trivial | simp) this
    · have hk63 : k < 64 := by
        rcases Nat.lt_or_ge k 64 with q | q
        · exact q
        · have : k = 64 := by omega
          subst this
          exfalso
          have : N * m / BB ^ 64 = 0 := Nat.div_eq_of_lt (Nat.lt_trans hb63 (Nat.pow_lt_pow_right (by decide) (by decide)))
          omega
      have hCd : N * m / BB ^ k % BB = N * m / BB ^ k := Nat.mod_eq_of_lt (by
        rcases hc2 with q | q
        · rw [q] at c; simp at c
        · show _ < 1073741824; omega)
      have tr := tr
      generalize hC : N * m / BB ^ k = C at c hc tr hCd ⊢
      simp (disch := omega) only [q_X11_times_68, q_X11_times_70, q_X11_times_71, q_X11_times_72, q_X11_times_75, q_X11_times_76, q_X11_times_79, q_X11_times_81, q_X11_times_82, q_X11_times_83, q_X11_times_84, q_X11_times_87, q_X11_times_88, q_X11_times_89, q_X11_times_90, q_X11_times_92, q_X11_times_93, q_X11_times_94, q_X11_times_97, q_X11_times_98, q_X11_times_99, q_X11_times_100, q_X11_times_101, q_X11_times_102, hM', hr'.1, hr'.2, hk, y_is, y_gf, y_pf, y_f0, y_f1, y_f3, y_nI, y_nK, y_nZ, y_nL, y_nR, y_k1i, y_k1r, y_k1l, y_k1n, y_tl, y_tn, y_s, y_ss, List.getElem?_cons_zero, List.getElem?_cons_succ, List.set_cons_zero, List.set_cons_succ, List.length_cons, List.length_nil, true_and, and_true, y_lIn, y_lKn, y_lZn, y_lLn, y_wIn, y_wZn, y_wLn, lit, le_n, lt_n, eq_n, lit, litL, lc_le, pk_mul, nI_add, y_ne]
      refine br0 (by omega) (tr _ _ _ (k + 1) (by rw [y_ne (by decide), y_ne (by decide)]; exact hM') ⟨by rw [y_ne (by decide), y_s], y_s⟩ (fun j hj => by rw [uL_n (by omega)]; exact ho j hj) (fun t ht => u_n ht) u_s (by omega) (fun i hi => ?_) hfull ((hf.hs (by omega) (by omega)).hs (by omega) (by omega)))
      by_cases q : i = k
      · subst q; rw [uL_s, hC, hCd]
      · rw [uL_n (by omega)]; exact hd' i (by omega)
  have loop : ∀ (d i : Nat) (g' : mzG) (F' : Nat → Int64) (x7 x8 : Value), i + d = k → g'.2 73 = ob 9 [.ref 74, .ref 75, .ref 76, .ref 77, .ref 78, .ref 79, .int (x 0), .int (x 1), .int (x 2), .ref 80, .int (x 3), .ref 81, .int (x 4), .ref 82, .long (r), .ref 83, .ref 84, .int (x 5), .int (x 6), .int (x 7), .int (x 8), .int (x 9), .ref 85, .int (x 10)] → mr g' F' Z → (∀ j, j < 64 * s ∨ 64 * s + 64 ≤ j → F' j = F j) → dgs F' s i (N * m) → (∀ j, i ≤ j → j < k → F' (64 * s + j) = lN (N / BB ^ j % BB)) → fr g g' 78 80 → wp 138 b 6 [.ref 73, .int (nI s), .long (lN m), .null, .long (lN ((N % BB ^ i) * m / BB ^ i)), .null, .int (nI i), x7, x8] [] g' Q := by
    intro d
    induction d with
    | zero =>
      intro i g' F' x7 x8 hi hM' hr' ho hd' hd2 hf
      have hi : i = k := by omega
      subst hi
      rw [Nat.mod_eq_of_lt hN]
      rw [q_X11_times_6]
      simp (disch := omega) only [q_X11_times_8, q_X11_times_9, q_X11_times_12, q_X11_times_13, q_X11_times_14, hM', hr'.2, hk, y_is, y_gf, y_pf, y_f0, y_f1, y_f3, y_nI, y_nK, y_nZ, y_nL, y_nR, y_k1i, y_k1r, y_k1l, y_k1n, y_tl, y_tn, y_s, y_ss, List.getElem?_cons_zero, List.getElem?_cons_succ, List.set_cons_zero, List.set_cons_succ, List.length_cons, List.length_nil, true_and, and_true, y_lIn, y_lKn, y_lZn, y_lLn, y_wIn, y_wZn, y_wLn, lit, le_n, lt_n, eq_n, lit, litL, le_n, lt_n, eq_n, nI_add, m_neg, pk_sub, pk_mul, i_l, l_i, l_add, l_mul, l_sub, lc_le, lc_ge, lc_lt, lc_gt, lc_eq, l_rem2, l_rem3, i_rem2, i_rem3]
      exact br1 (by omega) (fin g' F' x7 x8 hM' hr' ho hd' hf)
    | succ d ih =>
      intro i g' F' x7 x8 hi hM' hr' ho hd' hd2 hf
      have e1 := hd2 i (by omega) (by omega)
      have hb := bb_lt N i
      have hcar : (N % BB ^ i) * m / BB ^ i ≤ m := by
        rw [Nat.div_le_iff_le_mul_add_pred (bb_pos i)]
        have := Nat.mul_le_mul_right m (Nat.le_of_lt (Nat.mod_lt N (bb_pos i)))
        omega
      have hprod : (N / BB ^ i % BB) * m ≤ 1073741824 * 1073741824 := Nat.mul_le_mul (by omega) (by omega)
      have t1 := bb_times_d N m i
      have t2 := bb_times_c N m i
      rw [Nat.add_comm] at t1 t2
      rw [q_X11_times_6]
      simp (disch := omega) only [q_X11_times_8, q_X11_times_9, q_X11_times_12, q_X11_times_13, q_X11_times_14, q_X11_times_17, q_X11_times_18, q_X11_times_21, q_X11_times_23, q_X11_times_24, q_X11_times_25, q_X11_times_27, q_X11_times_28, q_X11_times_29, q_X11_times_30, q_X11_times_31, q_X11_times_33, q_X11_times_34, q_X11_times_36, q_X11_times_37, q_X11_times_40, q_X11_times_42, q_X11_times_43, q_X11_times_44, q_X11_times_46, q_X11_times_47, q_X11_times_49, q_X11_times_52, q_X11_times_53, q_X11_times_54, q_X11_times_56, q_X11_times_59, q_X11_times_60, q_X11_times_62, q_X11_times_65, hM', hr'.1, hr'.2, hk, e1, y_is, y_gf, y_pf, y_f0, y_f1, y_f3, y_nI, y_nK, y_nZ, y_nL, y_nR, y_k1i, y_k1r, y_k1l, y_k1n, y_tl, y_tn, y_s, y_ss, List.getElem?_cons_zero, List.getElem?_cons_succ, List.set_cons_zero, List.set_cons_succ, List.length_cons, List.length_nil, true_and, and_true, y_lIn, y_lKn, y_lZn, y_lLn, y_wIn, y_wZn, y_wLn, lit, le_n, lt_n, eq_n, lit, litL, pk_mul, nI_add, l_mul, l_add, l_eq, l_divB, l_remB, l_remC, y_ne]
      rw [t1, t2]
      refine br0 (by omega) ⟨by omega, by omega, ih (i + 1) _ _ _ _ (by omega) (by rw [y_ne (by decide)]; exact hM') ⟨y_s, by rw [y_ne (by decide)]; exact hr'.2⟩ (fun j hj => by rw [uL_n (by omega)]; exact ho j hj) (fun j hj => ?_) (fun j hj hj2 => ?_) (hf.hs (by omega) (by omega))⟩
      · by_cases q : j = i
        · subst q; rw [uL_s]
        · rw [uL_n (by omega)]; exact hd' j (by omega)
      · rw [uL_n (by omega)]; exact hd2 j (by omega) hj2
  simp only [q_X11_times_0, q_X11_times_1, q_X11_times_3, q_X11_times_4, y_is, y_gf, y_pf, y_f0, y_f1, y_f3, y_nI, y_nK, y_nZ, y_nL, y_nR, y_k1i, y_k1r, y_k1l, y_k1n, y_tl, y_tn, y_s, y_ss, List.getElem?_cons_zero, List.getElem?_cons_succ, List.set_cons_zero, List.set_cons_succ, List.length_cons, List.length_nil, true_and, and_true, lit, litL]
  have k0 := loop k 0 g F .null .null (by omega) hM hr (fun j hj => rfl) (fun i hi => by omega) (fun j _ hj => hd j hj) fr.rf
  rw [show N % BB ^ 0 * m / BB ^ 0 = 0 by simp [Nat.mod_one]] at k0
  exact k0
theorem s_mpower {g : mzG} {E : mE} {V : Nat → Nat} {s base n : Nat} (hM : g.2 73 = ob 9 [.ref 74, .ref 75, .ref 76, .ref 77, .ref 78, .ref 79, .int (x 0), .int (x 1), .int (x 2), .ref 80, .int (x 3), .ref 81, .int (x 4), .ref 82, .long (r), .ref 83, .ref 84, .int (x 5), .int (x 6), .int (x 7), .int (x 8), .int (x 9), .ref 85, .int (x 10)]) (hV : ms g E V) (hs11 : s < 11) (hE : E s = none) (hb : base ≤ 1073741824) (hn : n < 1000) (hB : ∀ i, i ≤ n → base ^ i < BB ^ 63) (hQ : ∀ g', g'.2 73 = ob 9 [.ref 74, .ref 75, .ref 76, .ref 77, .ref 78, .ref 79, .int (x 0), .int (x 1), .int (x 2), .ref 80, .int (x 3), .ref 81, .int (x 4), .ref 82, .long (r), .ref 83, .ref 84, .int (x 5), .int (x 6), .int (x 7), .int (x 8), .int (x 9), .ref 85, .int (x 10)] → ms g' E (va_up V s (base ^ n)) → fr g g' 78 80 → Q none g') : wp 182 b 0 [.ref 73, .int (nI s), .long (lN base), .null, .int (nI n), .null] [] g Q := by
  simp only [q_X11_power_0, q_X11_power_1, q_X11_power_2, q_X11_power_3, hM, y_is, y_gf, y_pf, y_f0, y_f1, y_f3, y_nI, y_nK, y_nZ, y_nL, y_nR, y_k1i, y_k1r, y_k1l, y_k1n, y_tl, y_tn, y_s, y_ss, List.getElem?_cons_zero, List.getElem?_cons_succ, List.set_cons_zero, List.set_cons_succ, List.length_cons, List.length_nil, true_and, and_true, litL]
  refine s_mset hM hV hs11 hE (by decide) (fun g1 hM1 hV1 hf1 => ?_)
  simp only [q_X11_power_6, q_X11_power_7, y_is, y_gf, y_pf, y_f0, y_f1, y_f3, y_nI, y_nK, y_nZ, y_nL, y_nR, y_k1i, y_k1r, y_k1l, y_k1n, y_tl, y_tn, y_s, y_ss, List.getElem?_cons_zero, List.getElem?_cons_succ, List.set_cons_zero, List.set_cons_succ, List.length_cons, List.length_nil, true_and, and_true]
  have loop : ∀ d i (g' : mzG), i + d = n → g'.2 73 = ob 9 [.ref 74, .ref 75, .ref 76, .ref 77, .ref 78, .ref 79, .int (x 0), .int (x 1), .int (x 2), .ref 80, .int (x 3), .ref 81, .int (x 4), .ref 82, .long (r), .ref 83, .ref 84, .int (x 5), .int (x 6), .int (x 7), .int (x 8), .int (x 9), .ref 85, .int (x 10)] → ms g' E (va_up V s (base ^ i)) → fr g g' 78 80 → wp 182 b 9 [.ref 73, .int (nI s), .long (lN base), .null, .int (nI n), .int (nI i)] [] g' Q := by
    intro d
    induction d with
    | zero =>
      intro i g' hi hM' hV' hf
      have hi : i = n := by omega
      subst hi
      rw [q_X11_power_9]
      simp (disch := omega) only [q_X11_power_11, q_X11_power_13, q_X11_power_28, y_is, y_gf, y_pf, y_f0, y_f1, y_f3, y_nI, y_nK, y_nZ, y_nL, y_nR, y_k1i, y_k1r, y_k1l, y_k1n, y_tl, y_tn, y_s, y_ss, List.getElem?_cons_zero, List.getElem?_cons_succ, List.set_cons_zero, List.set_cons_succ, List.length_cons, List.length_nil, true_and, and_true, y_lIn, y_lKn, y_lZn, y_lLn, y_wIn, y_wZn, y_wLn, lit, le_n, lt_n, eq_n, lit, litL, le_n, lt_n, eq_n, nI_add, m_neg, pk_sub, pk_mul, i_l, l_i, l_add, l_mul, l_sub, lc_le, lc_ge, lc_lt, lc_gt, lc_eq, l_rem2, l_rem3, i_rem2, i_rem3]
      exact br1 (by omega) (hQ g' hM' hV' hf)
    | succ d ih =>
      intro i g' hi hM' hV' hf
      rw [q_X11_power_9]
      simp (disch := omega) only [q_X11_power_11, q_X11_power_13, q_X11_power_16, q_X11_power_17, q_X11_power_18, q_X11_power_19, hM', y_is, y_gf, y_pf, y_f0, y_f1, y_f3, y_nI, y_nK, y_nZ, y_nL, y_nR, y_k1i, y_k1r, y_k1l, y_k1n, y_tl, y_tn, y_s, y_ss, List.getElem?_cons_zero, List.getElem?_cons_succ, List.set_cons_zero, List.set_cons_succ, List.length_cons, List.length_nil, true_and, and_true, y_lIn, y_lKn, y_lZn, y_lLn, y_wIn, y_wZn, y_wLn, lit, le_n, lt_n, eq_n, lit, litL, le_n, lt_n, eq_n, nI_add, m_neg, pk_sub, pk_mul, i_l, l_i, l_add, l_mul, l_sub, lc_le, lc_ge, lc_lt, lc_gt, lc_eq, l_rem2, l_rem3, i_rem2, i_rem3]
      refine br0 (by omega) (s_mtimes hM' hV' hs11 hE hb ?_ (fun g2 hM2 hV2 hf2 => ?_))
      · rw [up_s, ← Nat.pow_succ]; exact hB (i + 1) (by omega)
      · simp (disch := omega) only [q_X11_power_22, q_X11_power_25, y_is, y_gf, y_pf, y_f0, y_f1, y_f3, y_nI, y_nK, y_nZ, y_nL, y_nR, y_k1i, y_k1r, y_k1l, y_k1n, y_tl, y_tn, y_s, y_ss, List.getElem?_cons_zero, List.getElem?_cons_succ, List.set_cons_zero, List.set_cons_succ, List.length_cons, List.length_nil, true_and, and_true, lit, nI_add]
        rw [up_s, ← Nat.pow_succ, bx_uu] at hV2
        exact ih (i + 1) g2 (by omega) hM2 hV2 (hf.tr hf2)
  exact loop n 0 g1 (by omega) hM1 (by simpa using hV1) hf1
end MNUM
