/-! ===== Watch: the rest ===== -/
theorem wt.row {g : mzG} {w i : Nat} {v : Nat → Int32} {A : Nat → Nat → Int32} {f : Nat → Int32} (h : wt g w v A) (hi : i < 5) : wt (hs g (w + 1 + 1 + i) (aI 9 f)) w v (va_up A i f) := by
  obtain ⟨h0, h1, h2, h5, h6, h7, h8, h9⟩ := h
  have e : ∀ j, j ≠ i → va_up A i f j = A j := fun j hj => by simp [va_up, hj]
  refine ⟨?_, ?_, fun j hj => ?_, ?_, ?_, ?_, ?_, ?_⟩
  · rw [y_ne (by omega)]; exact h0
  · rw [y_ne (by omega)]; exact h1
  · by_cases q : j = i
    · subst q; rw [y_s]; simp [va_up]
    · rw [y_ne (by omega), e j q]; exact h2 j hj
  · rw [y_ne (by omega), e 5 (by omega)]; exact h5
  · rw [y_ne (by omega), e 6 (by omega)]; exact h6
  · rw [y_ne (by omega), e 7 (by omega)]; exact h7
  · rw [y_ne (by omega), e 8 (by omega)]; exact h8
  · rw [y_ne (by omega), e 9 (by omega)]; exact h9
theorem wt.nums {g : mzG} {w : Nat} {v v' : Nat → Int32} {A : Nat → Nat → Int32} (h : wt g w v A) : wt (hs g w (ob 7 [.int (v' 0), .ref (w + 1), .int (v' 1), .int (v' 2), .int (v' 3), .int (v' 4), .ref (w + 7), .ref (w + 8), .ref (w + 9), .int (v' 5), .ref (w + 10), .int (v' 6), .ref (w + 11), .int (v' 7)])) w v' A := by
  obtain ⟨h0, h1, h2, h5, h6, h7, h8, h9⟩ := h
  refine ⟨y_s, ?_, fun j hj => ?_, ?_, ?_, ?_, ?_, ?_⟩
  · rw [y_ne (by omega)]; exact h1
  · rw [y_ne (by omega)]; exact h2 j hj
  all_goals (rw [y_ne (by omega)]; assumption)
theorem wt.s5 {g : mzG} {w : Nat} {v : Nat → Int32} {A : Nat → Nat → Int32} {f : Nat → Int32} (h : wt g w v A) : wt (hs g (w + 7) (aI 12 f)) w v (va_up A 5 f) := by
  obtain ⟨h0, h1, h2, h5, h6, h7, h8, h9⟩ := h
  refine ⟨?_, ?_, fun j hj => ?_, ?_, ?_, ?_, ?_, ?_⟩
  · rw [y_ne (by omega)]; exact h0
  · rw [y_ne (by omega)]; exact h1
  · rw [y_ne (by omega), h2 j hj]; simp [va_up, show j ≠ 5 by omega]
  · rw [y_s]; rfl
  all_goals (rw [y_ne (by omega)]; first | exact h6 | exact h7 | exact h8 | exact h9)
theorem wt.s6 {g : mzG} {w : Nat} {v : Nat → Int32} {A : Nat → Nat → Int32} {f : Nat → Int32} (h : wt g w v A) : wt (hs g (w + 8) (aI 12 f)) w v (va_up A 6 f) := by
  obtain ⟨h0, h1, h2, h5, h6, h7, h8, h9⟩ := h
  refine ⟨?_, ?_, fun j hj => ?_, ?_, ?_, ?_, ?_, ?_⟩
  · rw [y_ne (by omega)]; exact h0
  · rw [y_ne (by omega)]; exact h1
  · rw [y_ne (by omega), h2 j hj]; simp [va_up, show j ≠ 6 by omega]
  · rw [y_ne (by omega)]; exact h5
  · rw [y_s]; rfl
  all_goals (rw [y_ne (by omega)]; first | exact h7 | exact h8 | exact h9)
theorem wt.s7 {g : mzG} {w : Nat} {v : Nat → Int32} {A : Nat → Nat → Int32} {f : Nat → Int32} (h : wt g w v A) : wt (hs g (w + 9) (aI 12 f)) w v (va_up A 7 f) := by
  obtain ⟨h0, h1, h2, h5, h6, h7, h8, h9⟩ := h
  refine ⟨?_, ?_, fun j hj => ?_, ?_, ?_, ?_, ?_, ?_⟩
  · rw [y_ne (by omega)]; exact h0
  · rw [y_ne (by omega)]; exact h1
  · rw [y_ne (by omega), h2 j hj]; simp [va_up, show j ≠ 7 by omega]
  · rw [y_ne (by omega)]; exact h5
  · rw [y_ne (by omega)]; exact h6
  · rw [y_s]; rfl
  all_goals (rw [y_ne (by omega)]; first | exact h8 | exact h9)
theorem wt.s8 {g : mzG} {w : Nat} {v : Nat → Int32} {A : Nat → Nat → Int32} {f : Nat → Int32} (h : wt g w v A) : wt (hs g (w + 10) (aI 12 f)) w v (va_up A 8 f) := by
  obtain ⟨h0, h1, h2, h5, h6, h7, h8, h9⟩ := h
  refine ⟨?_, ?_, fun j hj => ?_, ?_, ?_, ?_, ?_, ?_⟩
  · rw [y_ne (by omega)]; exact h0
  · rw [y_ne (by omega)]; exact h1
  · rw [y_ne (by omega), h2 j hj]; simp [va_up, show j ≠ 8 by omega]
  · rw [y_ne (by omega)]; exact h5
  · rw [y_ne (by omega)]; exact h6
  · rw [y_ne (by omega)]; exact h7
  · rw [y_s]; rfl
  · rw [y_ne (by omega)]; exact h9
theorem wt.s9 {g : mzG} {w : Nat} {v : Nat → Int32} {A : Nat → Nat → Int32} {f : Nat → Int32} (h : wt g w v A) : wt (hs g (w + 11) (aI 40 f)) w v (va_up A 9 f) := by
  obtain ⟨h0, h1, h2, h5, h6, h7, h8, h9⟩ := h
  refine ⟨?_, ?_, fun j hj => ?_, ?_, ?_, ?_, ?_, ?_⟩
  · rw [y_ne (by omega)]; exact h0
  · rw [y_ne (by omega)]; exact h1
  · rw [y_ne (by omega), h2 j hj]; simp [va_up, show j ≠ 9 by omega]
  · rw [y_ne (by omega)]; exact h5
  · rw [y_ne (by omega)]; exact h6
  · rw [y_ne (by omega)]; exact h7
  · rw [y_ne (by omega)]; exact h8
  · rw [y_s]; rfl
/-- the first of the greatest of the first k -/
def hv (f : Nat → Int32) : Nat → Nat
  | 0 => 0
  | k + 1 => if f k ≤ f (hv f k) then hv f k else k
theorem hv_lt (f : Nat → Int32) : ∀ k, hv f k ≤ k - 1
  | 0 => by simp [hv]
  | k + 1 => by
    have := hv_lt f k
    unfold hv
    split <;> omega
/-- the pair: over the others behind p; over all p -/
def hpi (f : Nat → Int32) (p : Nat) (s : Int32 × Int32) : Nat → Int32 × Int32
  | 0 => s
  | k + 1 => if f p + f (p + 1 + k) ≤ (hpi f p s k).2 then hpi f p s k else (nI (10 * p + (p + 1 + k)), f p + f (p + 1 + k))
def hpo (f : Nat → Int32) (n : Nat) (s : Int32 × Int32) : Nat → Int32 × Int32
  | 0 => s
  | p + 1 => hpi f p (hpo f n s p) (n - (p + 1))
/-- numbers mixed in -/
def mx (h : Int64) (f : Nat → Int32) : Nat → Int64
  | 0 => h
  | k + 1 => 31 * mx h f k + (f k).toInt64
section WATCH2
variable {b : mzB} {g : mzG} {Q : mzQ} {w : Nat} {v : Nat → Int32} {A : Nat → Nat → Int32}
theorem s_heaviest_loop {n : Nat} (hW : wt g w v A) (hv0 : v 0 = nI n) (hn : n ≤ 9) (hQ : Q (some (.int (nI (hv (fun p => A 1 p * A 0 p) n)))) g) : ∀ d i, i + d = n → 1 ≤ i → wp 84 b 4 [.ref w, .int (nI (hv (fun p => A 1 p * A 0 p) i)), .int (nI i)] [] g Q := by
  have hW' := hW
  obtain ⟨h0, h1, h2, -⟩ := hW
  intro d
  induction d with
  | zero =>
    intro i hi h1'
    rw [q_X9_heaviest_4]
    simp (disch := omega) only [q_X9_heaviest_5, q_X9_heaviest_6, q_X9_heaviest_9, q_X9_heaviest_33, q_X9_heaviest_34, h0, y_is, y_gf, y_pf, y_f0, y_f1, y_f3, y_nI, y_nK, y_nZ, y_nL, y_nR, y_k1i, y_k1r, y_k1l, y_k1n, y_tl, y_tn, y_s, y_ss, List.getElem?_cons_zero, List.getElem?_cons_succ, List.set_cons_zero, List.set_cons_succ, List.length_cons, List.length_nil, true_and, and_true, hv0, le_n]
    exact br1 (by omega) (by rw [show i = n by omega]; exact hQ)
  | succ d ih =>
    intro i hi h1'
    have hl := hv_lt (fun p => A 1 p * A 0 p) i
    rw [q_X9_heaviest_4]
    simp (disch := omega) only [q_X9_heaviest_5, q_X9_heaviest_6, q_X9_heaviest_9, q_X9_heaviest_12, q_X9_heaviest_13, q_X9_heaviest_14, h0, y_is, y_gf, y_pf, y_f0, y_f1, y_f3, y_nI, y_nK, y_nZ, y_nL, y_nR, y_k1i, y_k1r, y_k1l, y_k1n, y_tl, y_tn, y_s, y_ss, List.getElem?_cons_zero, List.getElem?_cons_succ, List.set_cons_zero, List.set_cons_succ, List.length_cons, List.length_nil, true_and, and_true, hv0, y_lIn, y_lKn, y_lZn, y_lLn, y_wIn, y_wZn, y_wLn, lit, le_n, lt_n, eq_n]
    refine br0 (by omega) (s_weight hW' (by omega) ?_)
    simp (disch := omega) only [q_X9_heaviest_17, q_X9_heaviest_18, q_X9_heaviest_19, h0, y_is, y_gf, y_pf, y_f0, y_f1, y_f3, y_nI, y_nK, y_nZ, y_nL, y_nR, y_k1i, y_k1r, y_k1l, y_k1n, y_tl, y_tn, y_s, y_ss, List.getElem?_cons_zero, List.getElem?_cons_succ, List.set_cons_zero, List.set_cons_succ, List.length_cons, List.length_nil, true_and, and_true]
    refine s_weight hW' (by omega) ?_
    simp (disch := omega) only [q_X9_heaviest_22, q_X9_heaviest_25, q_X9_heaviest_26, q_X9_heaviest_27, q_X9_heaviest_30, h0, y_is, y_gf, y_pf, y_f0, y_f1, y_f3, y_nI, y_nK, y_nZ, y_nL, y_nR, y_k1i, y_k1r, y_k1l, y_k1n, y_tl, y_tn, y_s, y_ss, List.getElem?_cons_zero, List.getElem?_cons_succ, List.set_cons_zero, List.set_cons_succ, List.length_cons, List.length_nil, true_and, and_true, lit, nI_add]
    have := ih (i + 1) (by omega) (by omega)
    rw [show hv (fun p => A 1 p * A 0 p) (i + 1) = if (A 1 i * A 0 i) ≤ (A 1 (hv (fun p => A 1 p * A 0 p) i) * A 0 (hv (fun p => A 1 p * A 0 p) i)) then hv (fun p => A 1 p * A 0 p) i else i from rfl] at this
    refine brs (fun c => ?_) (fun c => ?_)
    · rw [if_pos c] at this; exact this
    · rw [if_neg c] at this; exact this
theorem s_heaviest {n : Nat} (hW : wt g w v A) (hv0 : v 0 = nI n) (h1 : 1 ≤ n) (hn : n ≤ 9) (hQ : Q (some (.int (nI (hv (fun p => A 1 p * A 0 p) n)))) g) : wp 84 b 0 [.ref w, .null, .null] [] g Q := by
  simp only [q_X9_heaviest_0, q_X9_heaviest_1, q_X9_heaviest_2, q_X9_heaviest_3, y_is, y_gf, y_pf, y_f0, y_f1, y_f3, y_nI, y_nK, y_nZ, y_nL, y_nR, y_k1i, y_k1r, y_k1l, y_k1n, y_tl, y_tn, y_s, y_ss, List.getElem?_cons_zero, List.getElem?_cons_succ, List.set_cons_zero, List.set_cons_succ, List.length_cons, List.length_nil, true_and, and_true]
  have := s_heaviest_loop (b := b) hW hv0 hn hQ (n - 1) 1 (by omega) (by omega)
  rw [show hv (fun p => A 1 p * A 0 p) 1 = 0 by simp [hv]] at this
  exact this
theorem s_mixAll_loop {h : Int64} {r n N : Nat} {f : Nat → Int32} {a0 a1 : Value} (hr : g.2 r = aI N f) (hn : n ≤ N) (hN : N ≤ 200) (hQ : Q (some (.long (mx h f n))) g) : ∀ d i, i + d = n → wp 87 b 6 [a0, a1, .ref r, .int (nI n), .long (mx h f i), .null, .int (nI i)] [] g Q := by
  intro d
  induction d with
  | zero =>
    intro i hi
    rw [q_X9_mixAll_6]
    simp (disch := omega) only [q_X9_mixAll_8, q_X9_mixAll_9, q_X9_mixAll_32, q_X9_mixAll_34, y_is, y_gf, y_pf, y_f0, y_f1, y_f3, y_nI, y_nK, y_nZ, y_nL, y_nR, y_k1i, y_k1r, y_k1l, y_k1n, y_tl, y_tn, y_s, y_ss, List.getElem?_cons_zero, List.getElem?_cons_succ, List.set_cons_zero, List.set_cons_succ, List.length_cons, List.length_nil, true_and, and_true, le_n]
    exact br1 (by omega) (by rw [show i = n by omega]; exact hQ)
  | succ d ih =>
    intro i hi
    rw [q_X9_mixAll_6]
    simp (disch := omega) only [q_X9_mixAll_8, q_X9_mixAll_9, q_X9_mixAll_12, q_X9_mixAll_15, q_X9_mixAll_17, q_X9_mixAll_18, q_X9_mixAll_19, q_X9_mixAll_21, q_X9_mixAll_22, q_X9_mixAll_23, q_X9_mixAll_24, q_X9_mixAll_26, q_X9_mixAll_29, hr, y_is, y_gf, y_pf, y_f0, y_f1, y_f3, y_nI, y_nK, y_nZ, y_nL, y_nR, y_k1i, y_k1r, y_k1l, y_k1n, y_tl, y_tn, y_s, y_ss, List.getElem?_cons_zero, List.getElem?_cons_succ, List.set_cons_zero, List.set_cons_succ, List.length_cons, List.length_nil, true_and, and_true, y_lIn, y_lKn, y_lZn, y_lLn, y_wIn, y_wZn, y_wLn, lit, le_n, lt_n, eq_n, nI_add]
    exact br0 (by omega) (ih (i + 1) (by omega))
theorem s_mixAll {h : Int64} {r n N : Nat} {f : Nat → Int32} (hr : g.2 r = aI N f) (hn : n ≤ N) (hN : N ≤ 200) (hQ : Q (some (.long (mx h f n))) g) : wp 87 b 0 [.long h, .null, .ref r, .int (nI n), .null, .null, .null] [] g Q := by
  simp only [q_X9_mixAll_0, q_X9_mixAll_1, q_X9_mixAll_3, q_X9_mixAll_4, y_is, y_gf, y_pf, y_f0, y_f1, y_f3, y_nI, y_nK, y_nZ, y_nL, y_nR, y_k1i, y_k1r, y_k1l, y_k1n, y_tl, y_tn, y_s, y_ss, List.getElem?_cons_zero, List.getElem?_cons_succ, List.set_cons_zero, List.set_cons_succ, List.length_cons, List.length_nil, true_and, and_true]
  exact s_mixAll_loop hr hn hN hQ n 0 (by omega)
/-! laying out -/
theorem s_layOut_in {i : Nat} (hi : i < 5) (hw : w + 12 ≤ 1000) {a1 : Int32} (Q' : mzQ) : ∀ (d p : Nat) (g : mzG) (A : Nat → Nat → Int32), p + d = 9 → wt g w v A → g.2 1000 = aK 5 kz_at → (∀ g', wt g' w v (va_up A i (fun q => if p ≤ q ∧ q < 9 then kz_at i else A i q)) → fr g g' w (w + 12) → wp 78 b 39 [.ref w, .int a1, .int (nI i), .int (nI 9)] [] g' Q') → wp 78 b 14 [.ref w, .int a1, .int (nI i), .int (nI p)] [] g Q' := by
  intro d
  induction d with
  | zero =>
    intro p g A hp hW hK hQ
    rw [q_X9_layOut_14]
    simp (disch := omega) only [q_X9_layOut_15, q_X9_layOut_17, y_is, y_gf, y_pf, y_f0, y_f1, y_f3, y_nI, y_nK, y_nZ, y_nL, y_nR, y_k1i, y_k1r, y_k1l, y_k1n, y_tl, y_tn, y_s, y_ss, List.getElem?_cons_zero, List.getElem?_cons_succ, List.set_cons_zero, List.set_cons_succ, List.length_cons, List.length_nil, true_and, and_true, lit, le_n]
    refine br1 (by omega) ?_
    have := hQ g (by rw [show (fun q => if p ≤ q ∧ q < 9 then kz_at i else A i q) = A i from funext fun q => if_neg (by omega)]; rw [show va_up A i (A i) = A from funext fun j => by unfold va_up; split; rename_i e; rw [e]; rfl]; exact hW) fr.rf
    rw [show p = 9 by omega]
    exact this
  | succ d ih =>
    intro p g A hp hW hK hQ
    obtain ⟨h0, h1, h2, -⟩ := id hW
    rw [q_X9_layOut_14]
    simp (disch := omega) only [q_X9_layOut_15, q_X9_layOut_17, q_X9_layOut_20, q_X9_layOut_21, q_X9_layOut_24, q_X9_layOut_25, q_X9_layOut_26, q_X9_layOut_27, q_X9_layOut_30, q_X9_layOut_31, q_X9_layOut_32, q_X9_layOut_33, q_X9_layOut_36, h0, h1, hK, y_is, y_gf, y_pf, y_f0, y_f1, y_f3, y_nI, y_nK, y_nZ, y_nL, y_nR, y_k1i, y_k1r, y_k1l, y_k1n, y_tl, y_tn, y_s, y_ss, List.getElem?_cons_zero, List.getElem?_cons_succ, List.set_cons_zero, List.set_cons_succ, List.length_cons, List.length_nil, true_and, and_true, y_lIn, y_lKn, y_lZn, y_lLn, y_wIn, y_wZn, y_wLn, lit, le_n, lt_n, eq_n, y_row, h2, nI_add]
    refine br0 (by omega) ?_
    refine ih (p + 1) _ _ (by omega) (hW.row hi) (by rw [y_ne (by omega)]; exact hK) (fun g' hW' hf => hQ g' ?_ ?_)
    · have e : va_up (va_up A i (upd (A i) p (kz_at i))) i (fun q => if p + 1 ≤ q ∧ q < 9 then kz_at i else va_up A i (upd (A i) p (kz_at i)) i q) = va_up A i (fun q => if p ≤ q ∧ q < 9 then kz_at i else A i q) := by
        rw [bx_uu]
        refine congrArg (va_up A i) (funext fun q => ?_)
        by_cases q1 : q = p
        · subst q1; simp [va_up, upd, show q < 9 by omega]
        · by_cases q2 : p + 1 ≤ q ∧ q < 9
          · rw [if_pos q2, if_pos (by omega)]
          · rw [if_neg q2, if_neg (by omega)]; simp [va_up, upd, q1]
      rw [← e]; exact hW'
    · exact ⟨hf.1.trans rfl, fun k hk => by rw [hf.2 k hk, y_ne (by omega)]⟩
/-- the rows at first -/
def lay5 (A : Nat → Nat → Int32) (i : Nat) : Nat → Nat → Int32 := fun r => if r < i then (fun q => if q < 9 then kz_at r else A r q) else A r
theorem s_layOut_out (hw : w + 12 ≤ 1000) {a1 : Int32} (A0 : Nat → Nat → Int32) (g0 : mzG) (hQ : ∀ g', wt g' w v (lay5 A0 5) → fr g0 g' w (w + 12) → wp 78 b 45 [.ref w, .int a1, .int (nI 5), .int (nI 9)] [] g' Q) : ∀ (d i : Nat) (g : mzG) (a3 : Value), i + d = 5 → (i = 5 → a3 = .int (nI 9)) → wt g w v (lay5 A0 i) → fr g0 g w (w + 12) → g.2 1000 = aK 5 kz_at → wp 78 b 7 [.ref w, .int a1, .int (nI i), a3] [] g Q := by
  intro d
  induction d with
  | zero =>
    intro i g a3 hi h3 hW hf hK
    rw [q_X9_layOut_7]
    simp (disch := omega) only [q_X9_layOut_8, q_X9_layOut_9, y_is, y_gf, y_pf, y_f0, y_f1, y_f3, y_nI, y_nK, y_nZ, y_nL, y_nR, y_k1i, y_k1r, y_k1l, y_k1n, y_tl, y_tn, y_s, y_ss, List.getElem?_cons_zero, List.getElem?_cons_succ, List.set_cons_zero, List.set_cons_succ, List.length_cons, List.length_nil, true_and, and_true, lit, le_n]
    refine br1 (by omega) ?_
    have hi5 : i = 5 := by omega
    subst hi5
    rw [h3 rfl]
    exact hQ g hW hf
  | succ d ih =>
    intro i g a3 hi h3 hW hf hK
    rw [q_X9_layOut_7]
    simp (disch := omega) only [q_X9_layOut_8, q_X9_layOut_9, q_X9_layOut_12, q_X9_layOut_13, y_is, y_gf, y_pf, y_f0, y_f1, y_f3, y_nI, y_nK, y_nZ, y_nL, y_nR, y_k1i, y_k1r, y_k1l, y_k1n, y_tl, y_tn, y_s, y_ss, List.getElem?_cons_zero, List.getElem?_cons_succ, List.set_cons_zero, List.set_cons_succ, List.length_cons, List.length_nil, true_and, and_true, lit, le_n]
    refine br0 (by omega) ?_
    refine s_layOut_in (by omega) hw Q 9 0 g _ (by omega) hW hK (fun g' hW' hf' => ?_)
    simp (disch := omega) only [q_X9_layOut_39, q_X9_layOut_42, y_is, y_gf, y_pf, y_f0, y_f1, y_f3, y_nI, y_nK, y_nZ, y_nL, y_nR, y_k1i, y_k1r, y_k1l, y_k1n, y_tl, y_tn, y_s, y_ss, List.getElem?_cons_zero, List.getElem?_cons_succ, List.set_cons_zero, List.set_cons_succ, List.length_cons, List.length_nil, true_and, and_true, lit, nI_add]
    refine ih (i + 1) g' _ (by omega) (fun _ => rfl) ?_ (hf.tr hf') (by rw [hf'.2 1000 (by omega)]; exact hK)
    have e : va_up (lay5 A0 i) i (fun q => if 0 ≤ q ∧ q < 9 then kz_at i else lay5 A0 i i q) = lay5 A0 (i + 1) := by
      funext r q
      unfold va_up lay5
      by_cases h : r = i
      · subst h
        simp
      · by_cases h' : r < i
        · simp [h, h', show r < i + 1 by omega]
        · simp [h, h', show ¬ r < i + 1 by omega]
    rw [← e]; exact hW'
def layv (v : Nat → Int32) (n : Int32) : Nat → Int32 := fun k => if k = 0 then n else if k = 2 ∨ k = 5 ∨ k = 6 then 0 else v k
theorem s_layOut {n : Int32} (hw : w + 12 ≤ 1000) (hW : wt g w v A) (hK : g.2 1000 = aK 5 kz_at) (hQ : ∀ g', wt g' w (layv v n) (lay5 A 5) → fr g g' w (w + 12) → Q none g') : wp 78 b 0 [.ref w, .int n, .null, .null] [] g Q := by
  obtain ⟨h0, -⟩ := id hW
  simp only [q_X9_layOut_0, q_X9_layOut_1, q_X9_layOut_2, q_X9_layOut_5, q_X9_layOut_6, h0, y_is, y_gf, y_pf, y_f0, y_f1, y_f3, y_nI, y_nK, y_nZ, y_nL, y_nR, y_k1i, y_k1r, y_k1l, y_k1n, y_tl, y_tn, y_s, y_ss, List.getElem?_cons_zero, List.getElem?_cons_succ, List.set_cons_zero, List.set_cons_succ, List.length_cons, List.length_nil, true_and, and_true]
  refine ⟨by decide, ?_⟩
  have hW1 := hW.nums (v' := fun k => if k = 0 then n else v k)
  refine s_layOut_out (v := fun k => if k = 0 then n else v k) hw A _ (fun g' hW' hf => ?_) 5 0 _ _ (by omega) (fun h => by omega) ?_ (fr.rf) (by rw [y_ne (by omega)]; exact hK)
  · obtain ⟨h0', -⟩ := id hW'
    simp only [q_X9_layOut_45, q_X9_layOut_46, q_X9_layOut_47, q_X9_layOut_50, q_X9_layOut_51, q_X9_layOut_52, q_X9_layOut_55, q_X9_layOut_56, q_X9_layOut_57, q_X9_layOut_60, h0', y_is, y_gf, y_pf, y_f0, y_f1, y_f3, y_nI, y_nK, y_nZ, y_nL, y_nR, y_k1i, y_k1r, y_k1l, y_k1n, y_tl, y_tn, y_s, y_ss, List.getElem?_cons_zero, List.getElem?_cons_succ, List.set_cons_zero, List.set_cons_succ, List.length_cons, List.length_nil, true_and, and_true]
    refine ⟨by decide, by decide, by decide, hQ _ ?_ ?_⟩
    · exact hW'.nums (v' := layv v n)
    · exact ⟨hf.1, fun k hk => by rw [y_ne (by omega), hf.2 k hk, y_ne (by omega)]⟩
  · have : lay5 A 0 = A := funext fun r => by unfold lay5; rw [if_neg (by omega)]
    rw [this]; exact hW1
end WATCH2
