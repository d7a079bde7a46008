/-! ===== Watch: pair, mix, copies ===== -/
section WATCH3
variable {b : mzB} {g : mzG} {Q : mzQ} {w : Nat} {v : Nat → Int32} {A : Nat → Nat → Int32}
theorem s_pair_in {n p : Nat} {x5 : Value} (hW : wt g w v A) (hv0 : v 0 = nI n) (hn : n ≤ 9) (hp : p < n) (s : Int32 × Int32) (hQ : ∀ x, wp 85 b 65 [.ref w, .int (hpi (fun p => A 1 p * A 0 p) p s (n - (p + 1))).1, .int (hpi (fun p => A 1 p * A 0 p) p s (n - (p + 1))).2, .int (nI p), .int (nI n), x] [] g Q) : ∀ d k (x : Value), p + 1 + k + d = n → wp 85 b 19 [.ref w, .int (hpi (fun p => A 1 p * A 0 p) p s k).1, .int (hpi (fun p => A 1 p * A 0 p) p s k).2, .int (nI p), .int (nI (p + 1 + k)), x] [] g Q := by
  have hW' := hW
  obtain ⟨h0, h1, h2, -⟩ := hW
  intro d
  induction d with
  | zero =>
    intro k x hi
    rw [q_X9_heaviestPair_19]
    simp (disch := omega) only [q_X9_heaviestPair_21, q_X9_heaviestPair_22, q_X9_heaviestPair_25, h0, y_is, y_gf, y_pf, y_f0, y_f1, y_f3, y_nI, y_nK, y_nZ, y_nL, y_nR, y_k1i, y_k1r, y_k1l, y_k1n, y_tl, y_tn, y_s, y_ss, List.getElem?_cons_zero, List.getElem?_cons_succ, List.set_cons_zero, List.set_cons_succ, List.length_cons, List.length_nil, true_and, and_true, hv0, le_n]
    refine br1 (by omega) ?_
    have := hQ x
    rw [show n - (p + 1) = k by omega] at this
    rw [show nI (p + 1 + k) = nI n by rw [show p + 1 + k = n by omega]]
    exact this
  | succ d ih =>
    intro k x hi
    rw [q_X9_heaviestPair_19]
    simp (disch := omega) only [q_X9_heaviestPair_21, q_X9_heaviestPair_22, q_X9_heaviestPair_25, q_X9_heaviestPair_28, q_X9_heaviestPair_29, q_X9_heaviestPair_30, h0, y_is, y_gf, y_pf, y_f0, y_f1, y_f3, y_nI, y_nK, y_nZ, y_nL, y_nR, y_k1i, y_k1r, y_k1l, y_k1n, y_tl, y_tn, y_s, y_ss, List.getElem?_cons_zero, List.getElem?_cons_succ, List.set_cons_zero, List.set_cons_succ, List.length_cons, List.length_nil, true_and, and_true, hv0, y_lIn, y_lKn, y_lZn, y_lLn, y_wIn, y_wZn, y_wLn, lit, le_n, lt_n, eq_n]
    refine br0 (by omega) (s_weight hW' (by omega) ?_)
    simp (disch := omega) only [q_X9_heaviestPair_33, q_X9_heaviestPair_34, q_X9_heaviestPair_36, h0, y_is, y_gf, y_pf, y_f0, y_f1, y_f3, y_nI, y_nK, y_nZ, y_nL, y_nR, y_k1i, y_k1r, y_k1l, y_k1n, y_tl, y_tn, y_s, y_ss, List.getElem?_cons_zero, List.getElem?_cons_succ, List.set_cons_zero, List.set_cons_succ, List.length_cons, List.length_nil, true_and, and_true]
    refine s_weight hW' (by omega) ?_
    simp (disch := omega) only [q_X9_heaviestPair_39, q_X9_heaviestPair_40, q_X9_heaviestPair_42, q_X9_heaviestPair_44, q_X9_heaviestPair_45, q_X9_heaviestPair_48, q_X9_heaviestPair_50, q_X9_heaviestPair_51, q_X9_heaviestPair_53, q_X9_heaviestPair_54, q_X9_heaviestPair_55, q_X9_heaviestPair_57, q_X9_heaviestPair_58, q_X9_heaviestPair_59, q_X9_heaviestPair_62, h0, y_is, y_gf, y_pf, y_f0, y_f1, y_f3, y_nI, y_nK, y_nZ, y_nL, y_nR, y_k1i, y_k1r, y_k1l, y_k1n, y_tl, y_tn, y_s, y_ss, List.getElem?_cons_zero, List.getElem?_cons_succ, List.set_cons_zero, List.set_cons_succ, List.length_cons, List.length_nil, true_and, and_true, lit, nI_add, pk_mul]
    have h1 := fun x => ih (k + 1) x (by omega)
    rw [show hpi (fun p => A 1 p * A 0 p) p s (k + 1) = if A 1 p * A 0 p + A 1 (p + 1 + k) * A 0 (p + 1 + k) ≤ (hpi (fun p => A 1 p * A 0 p) p s k).2 then hpi (fun p => A 1 p * A 0 p) p s k else (nI (10 * p + (p + 1 + k)), A 1 p * A 0 p + A 1 (p + 1 + k) * A 0 (p + 1 + k)) from rfl] at h1
    refine brs (fun c => ?_) (fun c => ?_)
    · rw [if_pos c] at h1; exact h1 _
    · rw [if_neg c] at h1; exact h1 _
theorem s_pair_out {n : Nat} (hW : wt g w v A) (hv0 : v 0 = nI n) (hn : n ≤ 9) (hQ : Q (some (.int (hpo (fun p => A 1 p * A 0 p) n (1, -1) n).1)) g) : ∀ d p (x4 x5 : Value), p + d = n → wp 85 b 6 [.ref w, .int (hpo (fun p => A 1 p * A 0 p) n (1, -1) p).1, .int (hpo (fun p => A 1 p * A 0 p) n (1, -1) p).2, .int (nI p), x4, x5] [] g Q := by
  have hW' := hW
  obtain ⟨h0, h1, h2, -⟩ := hW
  intro d
  induction d with
  | zero =>
    intro p x4 x5 hi
    rw [q_X9_heaviestPair_6]
    simp (disch := omega) only [q_X9_heaviestPair_7, q_X9_heaviestPair_8, q_X9_heaviestPair_11, q_X9_heaviestPair_71, q_X9_heaviestPair_72, h0, y_is, y_gf, y_pf, y_f0, y_f1, y_f3, y_nI, y_nK, y_nZ, y_nL, y_nR, y_k1i, y_k1r, y_k1l, y_k1n, y_tl, y_tn, y_s, y_ss, List.getElem?_cons_zero, List.getElem?_cons_succ, List.set_cons_zero, List.set_cons_succ, List.length_cons, List.length_nil, true_and, and_true, hv0, le_n]
    exact br1 (by omega) (by rw [show p = n by omega]; exact hQ)
  | succ d ih =>
    intro p x4 x5 hi
    rw [q_X9_heaviestPair_6]
    simp (disch := omega) only [q_X9_heaviestPair_7, q_X9_heaviestPair_8, q_X9_heaviestPair_11, q_X9_heaviestPair_14, q_X9_heaviestPair_15, q_X9_heaviestPair_16, q_X9_heaviestPair_17, h0, y_is, y_gf, y_pf, y_f0, y_f1, y_f3, y_nI, y_nK, y_nZ, y_nL, y_nR, y_k1i, y_k1r, y_k1l, y_k1n, y_tl, y_tn, y_s, y_ss, List.getElem?_cons_zero, List.getElem?_cons_succ, List.set_cons_zero, List.set_cons_succ, List.length_cons, List.length_nil, true_and, and_true, hv0, y_lIn, y_lKn, y_lZn, y_lLn, y_wIn, y_wZn, y_wLn, lit, le_n, lt_n, eq_n, nI_add]
    refine br0 (by omega) ?_
    refine s_pair_in (x5 := x5) hW' hv0 hn (by omega) _ (fun x => ?_) (n - (p + 1)) 0 x5 (by omega)
    simp (disch := omega) only [q_X9_heaviestPair_65, q_X9_heaviestPair_68, h0, y_is, y_gf, y_pf, y_f0, y_f1, y_f3, y_nI, y_nK, y_nZ, y_nL, y_nR, y_k1i, y_k1r, y_k1l, y_k1n, y_tl, y_tn, y_s, y_ss, List.getElem?_cons_zero, List.getElem?_cons_succ, List.set_cons_zero, List.set_cons_succ, List.length_cons, List.length_nil, true_and, and_true, lit, nI_add]
    exact ih (p + 1) _ _ (by omega)
theorem s_pair {n : Nat} (hW : wt g w v A) (hv0 : v 0 = nI n) (hn : n ≤ 9) (hQ : Q (some (.int (hpo (fun p => A 1 p * A 0 p) n (1, -1) n).1)) g) : wp 85 b 0 [.ref w, .null, .null, .null, .null, .null] [] g Q := by
  simp only [q_X9_heaviestPair_0, q_X9_heaviestPair_1, q_X9_heaviestPair_2, q_X9_heaviestPair_3, q_X9_heaviestPair_4, q_X9_heaviestPair_5, y_is, y_gf, y_pf, y_f0, y_f1, y_f3, y_nI, y_nK, y_nZ, y_nL, y_nR, y_k1i, y_k1r, y_k1l, y_k1n, y_tl, y_tn, y_s, y_ss, List.getElem?_cons_zero, List.getElem?_cons_succ, List.set_cons_zero, List.set_cons_succ, List.length_cons, List.length_nil, true_and, and_true]
  exact s_pair_out hW hv0 hn hQ n 0 _ _ (by omega)
/-! copies -/
theorem va_cpy0 {f h : Nat → Int32} {n : Nat} : va_cpy f h 0 0 n = fun k => if k < n then f k else h k := by
  funext k
  unfold va_cpy
  by_cases q : k < n
  · rw [if_pos ⟨Nat.zero_le _, by omega⟩, if_pos q]; simp
  · rw [if_neg (by omega), if_neg q]
theorem y_cpn {n0 n1 n : Nat} {f0 f1 : Nat → Int32} {KC : mzC → Prop} (h0 : n ≤ n0) (h1 : n ≤ n1) (hn : n < 2147483648) : mz_cp (aI n0 f0) (aI n1 f1) (nI 0) (nI 0) (nI n) KC = KC (aI n1 (fun k => if k < n then f0 k else f1 k)) := by
  rw [y_cp, cl (i := n) (by omega), cl (i := 0) (by decide), va_cpy0]
  exact x_and ⟨⟨nI_pos (by decide), nI_pos (by decide), nI_pos hn⟩, by omega, by omega⟩
/-- the first i rows out of another's -/
def cp5 (A B : Nat → Nat → Int32) (i : Nat) : Nat → Nat → Int32 := fun r => if r < i then (fun q => if q < 9 then B r q else A r q) else A r
theorem s_copyRows {w2 : Nat} {v2 : Nat → Int32} {B : Nat → Nat → Int32} (hap : w + 12 ≤ w2 ∨ w2 + 12 ≤ w) (hQ : ∀ g', wt g' w v (cp5 A B 5) → fr g g' w (w + 12) → Q none g') : ∀ d i (g' : mzG), i + d = 5 → wt g' w v (cp5 A B i) → wt g' w2 v2 B → fr g g' w (w + 12) → wp 81 b 2 [.ref w, .ref w2, .int (nI i)] [] g' Q := by
  intro d
  induction d with
  | zero =>
    intro i g' hi hW hW2 hf
    rw [q_X9_copyRows_2]
    simp (disch := omega) only [q_X9_copyRows_3, q_X9_copyRows_4, q_X9_copyRows_32, y_is, y_gf, y_pf, y_f0, y_f1, y_f3, y_nI, y_nK, y_nZ, y_nL, y_nR, y_k1i, y_k1r, y_k1l, y_k1n, y_tl, y_tn, y_s, y_ss, List.getElem?_cons_zero, List.getElem?_cons_succ, List.set_cons_zero, List.set_cons_succ, List.length_cons, List.length_nil, true_and, and_true, lit, le_n]
    refine br1 (by omega) (hQ g' ?_ hf)
    rw [show i = 5 by omega] at hW; exact hW
  | succ d ih =>
    intro i g' hi hW hW2 hf
    obtain ⟨h0, h1, h2, -⟩ := id hW
    obtain ⟨k0, k1, k2, -⟩ := id hW2
    rw [q_X9_copyRows_2]
    simp (disch := omega) only [q_X9_copyRows_3, q_X9_copyRows_4, q_X9_copyRows_7, q_X9_copyRows_8, q_X9_copyRows_11, q_X9_copyRows_12, q_X9_copyRows_13, q_X9_copyRows_14, q_X9_copyRows_15, q_X9_copyRows_18, q_X9_copyRows_19, q_X9_copyRows_20, q_X9_copyRows_21, q_X9_copyRows_23, q_X9_copyRows_26, q_X9_copyRows_29, h0, h1, k0, k1, y_is, y_gf, y_pf, y_f0, y_f1, y_f3, y_nI, y_nK, y_nZ, y_nL, y_nR, y_k1i, y_k1r, y_k1l, y_k1n, y_tl, y_tn, y_s, y_ss, List.getElem?_cons_zero, List.getElem?_cons_succ, List.set_cons_zero, List.set_cons_succ, List.length_cons, List.length_nil, true_and, and_true, lit, le_n, y_row, h2, k2, nI_add, y_cpn]
    refine br0 (by omega) ?_
    have e : va_up (cp5 A B i) i (fun k => if k < 9 then B i k else cp5 A B i i k) = cp5 A B (i + 1) := by
      funext r q
      unfold va_up cp5
      by_cases h : r = i
      · subst h; simp
      · by_cases h' : r < i
        · simp [h, h', show r < i + 1 by omega]
        · simp [h, h', show ¬ r < i + 1 by omega]
    refine ih (i + 1) _ (by omega) (by rw [← e]; exact hW.row (by omega)) (hW2.kept (fun k h1 h2 => y_ne (by omega))) (hf.hs (by omega) (by omega))
theorem cp5_0 {A B : Nat → Nat → Int32} : cp5 A B 0 = A := funext fun r => by unfold cp5; rw [if_neg (by omega)]
theorem s_copyRows0 {w2 : Nat} {v2 : Nat → Int32} {B : Nat → Nat → Int32} (hap : w + 12 ≤ w2 ∨ w2 + 12 ≤ w) (hW : wt g w v A) (hW2 : wt g w2 v2 B) (hQ : ∀ g', wt g' w v (cp5 A B 5) → fr g g' w (w + 12) → Q none g') : wp 81 b 0 [.ref w, .ref w2, .null] [] g Q := by
  simp only [q_X9_copyRows_0, q_X9_copyRows_1, y_is, y_gf, y_pf, y_f0, y_f1, y_f3, y_nI, y_nK, y_nZ, y_nL, y_nR, y_k1i, y_k1r, y_k1l, y_k1n, y_tl, y_tn, y_s, y_ss, List.getElem?_cons_zero, List.getElem?_cons_succ, List.set_cons_zero, List.set_cons_succ, List.length_cons, List.length_nil, true_and, and_true]
  exact s_copyRows hap hQ 5 0 g (by omega) (by rw [cp5_0]; exact hW) hW2 fr.rf
theorem s_takeWall {w2 : Nat} {v2 : Nat → Int32} {B : Nat → Nat → Int32} (hap : w + 12 ≤ w2 ∨ w2 + 12 ≤ w) (hw : w + 12 ≤ 1000) (hW : wt g w v A) (hW2 : wt g w2 v2 B) (hK : g.2 1000 = aK 5 kz_at) (hQ : ∀ g', wt g' w (layv v (v2 0)) (cp5 (lay5 A 5) B 5) → fr g g' w (w + 12) → Q none g') : wp 79 b 0 [.ref w, .ref w2] [] g Q := by
  obtain ⟨h0, -⟩ := id hW
  obtain ⟨k0, -⟩ := id hW2
  simp only [q_X9_takeWall_0, q_X9_takeWall_1, q_X9_takeWall_2, q_X9_takeWall_5, h0, k0, y_is, y_gf, y_pf, y_f0, y_f1, y_f3, y_nI, y_nK, y_nZ, y_nL, y_nR, y_k1i, y_k1r, y_k1l, y_k1n, y_tl, y_tn, y_s, y_ss, List.getElem?_cons_zero, List.getElem?_cons_succ, List.set_cons_zero, List.set_cons_succ, List.length_cons, List.length_nil, true_and, and_true]
  refine s_layOut hw hW hK (fun g' hW' hf => ?_)
  obtain ⟨h0', -⟩ := id hW'
  have hW2' : wt g' w2 v2 B := hW2.kept (fun k h1 h2 => hf.2 k (by omega))
  simp only [q_X9_takeWall_8, q_X9_takeWall_9, q_X9_takeWall_10, h0', y_is, y_gf, y_pf, y_f0, y_f1, y_f3, y_nI, y_nK, y_nZ, y_nL, y_nR, y_k1i, y_k1r, y_k1l, y_k1n, y_tl, y_tn, y_s, y_ss, List.getElem?_cons_zero, List.getElem?_cons_succ, List.set_cons_zero, List.set_cons_succ, List.length_cons, List.length_nil, true_and, and_true]
  refine s_copyRows0 hap hW' hW2' (fun g'' hW'' hf' => ?_)
  simp only [q_X9_takeWall_13, y_is, y_gf, y_pf, y_f0, y_f1, y_f3, y_nI, y_nK, y_nZ, y_nL, y_nR, y_k1i, y_k1r, y_k1l, y_k1n, y_tl, y_tn, y_s, y_ss, List.getElem?_cons_zero, List.getElem?_cons_succ, List.set_cons_zero, List.set_cons_succ, List.length_cons, List.length_nil, true_and, and_true]
  exact hQ g'' hW'' (hf.tr hf')
end WATCH3
