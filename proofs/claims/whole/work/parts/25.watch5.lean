/-! ===== Watch: mix ===== -/
def mrow (A : Nat → Nat → Int32) (p : Nat) (h : Int64) : Nat → Int64
  | 0 => h
  | k + 1 => 31 * mrow A p h k + (A k p).toInt64
def mrows (A : Nat → Nat → Int32) (h : Int64) : Nat → Int64
  | 0 => h
  | p + 1 => mrow A p (mrows A h p) 5
def msig (A : Nat → Nat → Int32) (h : Int64) : Nat → Int64
  | 0 => h
  | i + 1 => 31 * (31 * (31 * msig A h i + (A 5 i).toInt64) + (A 6 i).toInt64) + (A 7 i).toInt64
def mix4 (v : Nat → Int32) (h : Int64) : Int64 := 31 * (31 * (31 * (31 * h + (v 1).toInt64) + (v 2).toInt64) + (v 3).toInt64) + (v 4).toInt64
def mixW (v : Nat → Int32) (A : Nat → Nat → Int32) (n sg hr sn : Nat) (h : Int64) : Int64 := mx (mx (msig A (mix4 v (mrows A h n)) sg) (A 8) hr) (A 9) sn
section WATCH5
variable {b : mzB} {g : mzG} {Q : mzQ} {w : Nat} {v : Nat → Int32} {A : Nat → Nat → Int32}
theorem s_mix_in {p : Nat} {h h1 : Int64} (hW : wt g w v A) (hp : p < 9) (hQ : wp 86 b 47 [.ref w, .long h1, .null, .long (mrow A p h 5), .null, .int (nI p), .int (nI 5)] [] g Q) : ∀ d k, k + d = 5 → wp 86 b 17 [.ref w, .long h1, .null, .long (mrow A p h k), .null, .int (nI p), .int (nI k)] [] g Q := by
  obtain ⟨h0, k1, h2, -⟩ := hW
  intro d
  induction d with
  | zero =>
    intro k hk
    rw [q_X9_mix_17]
    simp (disch := omega) only [q_X9_mix_19, q_X9_mix_20, y_is, y_gf, y_pf, y_f0, y_f1, y_f3, y_nI, y_nK, y_nZ, y_nL, y_nR, y_k1i, y_k1r, y_k1l, y_k1n, y_tl, y_tn, y_s, y_ss, List.getElem?_cons_zero, List.getElem?_cons_succ, List.set_cons_zero, List.set_cons_succ, List.length_cons, List.length_nil, true_and, and_true, lit, le_n]
    exact br1 (by omega) (by rw [show k = 5 by omega]; exact hQ)
  | succ d ih =>
    intro k hk
    rw [q_X9_mix_17]
    simp (disch := omega) only [q_X9_mix_19, q_X9_mix_20, q_X9_mix_23, q_X9_mix_26, q_X9_mix_27, q_X9_mix_28, q_X9_mix_29, q_X9_mix_32, q_X9_mix_34, q_X9_mix_35, q_X9_mix_37, q_X9_mix_38, q_X9_mix_39, q_X9_mix_40, q_X9_mix_41, q_X9_mix_44, h0, k1, y_is, y_gf, y_pf, y_f0, y_f1, y_f3, y_nI, y_nK, y_nZ, y_nL, y_nR, y_k1i, y_k1r, y_k1l, y_k1n, y_tl, y_tn, y_s, y_ss, List.getElem?_cons_zero, List.getElem?_cons_succ, List.set_cons_zero, List.set_cons_succ, List.length_cons, List.length_nil, true_and, and_true, y_lIn, y_lKn, y_lZn, y_lLn, y_wIn, y_wZn, y_wLn, lit, le_n, lt_n, eq_n, y_row, h2, nI_add]
    exact br0 (by omega) (ih (k + 1) (by omega))
theorem s_mix_out {n : Nat} {h h1 : Int64} (hW : wt g w v A) (hv0 : v 0 = nI n) (hn : n ≤ 9) (hQ : ∀ x, wp 86 b 53 [.ref w, .long h1, .null, .long (mrows A h n), .null, .int (nI n), x] [] g Q) : ∀ d p (x : Value), p + d = n → wp 86 b 5 [.ref w, .long h1, .null, .long (mrows A h p), .null, .int (nI p), x] [] g Q := by
  have hW' := hW
  obtain ⟨h0, k1, h2, -⟩ := hW
  intro d
  induction d with
  | zero =>
    intro p x hp
    rw [q_X9_mix_5]
    simp (disch := omega) only [q_X9_mix_7, q_X9_mix_8, q_X9_mix_11, h0, y_is, y_gf, y_pf, y_f0, y_f1, y_f3, y_nI, y_nK, y_nZ, y_nL, y_nR, y_k1i, y_k1r, y_k1l, y_k1n, y_tl, y_tn, y_s, y_ss, List.getElem?_cons_zero, List.getElem?_cons_succ, List.set_cons_zero, List.set_cons_succ, List.length_cons, List.length_nil, true_and, and_true, hv0, le_n]
    exact br1 (by omega) (by rw [show p = n by omega]; exact hQ x)
  | succ d ih =>
    intro p x hp
    rw [q_X9_mix_5]
    simp (disch := omega) only [q_X9_mix_7, q_X9_mix_8, q_X9_mix_11, q_X9_mix_14, q_X9_mix_15, h0, y_is, y_gf, y_pf, y_f0, y_f1, y_f3, y_nI, y_nK, y_nZ, y_nL, y_nR, y_k1i, y_k1r, y_k1l, y_k1n, y_tl, y_tn, y_s, y_ss, List.getElem?_cons_zero, List.getElem?_cons_succ, List.set_cons_zero, List.set_cons_succ, List.length_cons, List.length_nil, true_and, and_true, hv0, le_n]
    refine br0 (by omega) ?_
    refine s_mix_in (h := mrows A h p) hW' (by omega) ?_ 5 0 (by omega)
    simp (disch := omega) only [q_X9_mix_47, q_X9_mix_50, y_is, y_gf, y_pf, y_f0, y_f1, y_f3, y_nI, y_nK, y_nZ, y_nL, y_nR, y_k1i, y_k1r, y_k1l, y_k1n, y_tl, y_tn, y_s, y_ss, List.getElem?_cons_zero, List.getElem?_cons_succ, List.set_cons_zero, List.set_cons_succ, List.length_cons, List.length_nil, true_and, and_true, lit, nI_add]
    exact ih (p + 1) _ (by omega)
theorem s_mix_sig {sg : Nat} {h h1 : Int64} {x6 : Value} (hW : wt g w v A) (hv : v 5 = nI sg) (hn : sg ≤ 12) (hQ : wp 86 b 164 [.ref w, .long h1, .null, .long (msig A h sg), .null, .int (nI sg), x6] [] g Q) : ∀ d i, i + d = sg → wp 86 b 104 [.ref w, .long h1, .null, .long (msig A h i), .null, .int (nI i), x6] [] g Q := by
  obtain ⟨h0, k1, h2, h5, h6, h7, -⟩ := hW
  intro d
  induction d with
  | zero =>
    intro i hi
    rw [q_X9_mix_104]
    simp (disch := omega) only [q_X9_mix_106, q_X9_mix_107, q_X9_mix_110, h0, y_is, y_gf, y_pf, y_f0, y_f1, y_f3, y_nI, y_nK, y_nZ, y_nL, y_nR, y_k1i, y_k1r, y_k1l, y_k1n, y_tl, y_tn, y_s, y_ss, List.getElem?_cons_zero, List.getElem?_cons_succ, List.set_cons_zero, List.set_cons_succ, List.length_cons, List.length_nil, true_and, and_true, hv, le_n]
    exact br1 (by omega) (by rw [show i = sg by omega]; exact hQ)
  | succ d ih =>
    intro i hi
    rw [q_X9_mix_104]
    simp (disch := omega) only [q_X9_mix_106, q_X9_mix_107, q_X9_mix_110, q_X9_mix_113, q_X9_mix_116, q_X9_mix_117, q_X9_mix_118, q_X9_mix_119, q_X9_mix_122, q_X9_mix_124, q_X9_mix_125, q_X9_mix_126, q_X9_mix_127, q_X9_mix_128, q_X9_mix_131, q_X9_mix_132, q_X9_mix_133, q_X9_mix_134, q_X9_mix_137, q_X9_mix_139, q_X9_mix_140, q_X9_mix_141, q_X9_mix_142, q_X9_mix_143, q_X9_mix_146, q_X9_mix_147, q_X9_mix_148, q_X9_mix_149, q_X9_mix_152, q_X9_mix_154, q_X9_mix_155, q_X9_mix_156, q_X9_mix_157, q_X9_mix_158, q_X9_mix_161, h0, h5, h6, h7, y_is, y_gf, y_pf, y_f0, y_f1, y_f3, y_nI, y_nK, y_nZ, y_nL, y_nR, y_k1i, y_k1r, y_k1l, y_k1n, y_tl, y_tn, y_s, y_ss, List.getElem?_cons_zero, List.getElem?_cons_succ, List.set_cons_zero, List.set_cons_succ, List.length_cons, List.length_nil, true_and, and_true, hv, y_lIn, y_lKn, y_lZn, y_lLn, y_wIn, y_wZn, y_wLn, lit, le_n, lt_n, eq_n, nI_add]
    exact br0 (by omega) (ih (i + 1) (by omega))
theorem s_mix {n sg hr sn : Nat} {h : Int64} (hW : wt g w v A) (hv0 : v 0 = nI n) (hn : n ≤ 9) (hv5 : v 5 = nI sg) (hsg : sg ≤ 12) (hv6 : v 6 = nI hr) (hhr : hr ≤ 12) (hv7 : v 7 = nI sn) (hsn : sn ≤ 40) (hQ : Q (some (.long (mixW v A n sg hr sn h))) g) : wp 86 b 0 [.ref w, .long h, .null, .null, .null, .null, .null] [] g Q := by
  have hW' := hW
  obtain ⟨h0, k1, h2, h5, h6, h7, h8, h9⟩ := hW
  simp only [q_X9_mix_0, q_X9_mix_1, q_X9_mix_2, q_X9_mix_3, y_is, y_gf, y_pf, y_f0, y_f1, y_f3, y_nI, y_nK, y_nZ, y_nL, y_nR, y_k1i, y_k1r, y_k1l, y_k1n, y_tl, y_tn, y_s, y_ss, List.getElem?_cons_zero, List.getElem?_cons_succ, List.set_cons_zero, List.set_cons_succ, List.length_cons, List.length_nil, true_and, and_true]
  refine s_mix_out hW' hv0 hn (fun x => ?_) n 0 _ (by omega)
  simp (disch := omega) only [q_X9_mix_53, q_X9_mix_56, q_X9_mix_57, q_X9_mix_58, q_X9_mix_59, q_X9_mix_62, q_X9_mix_63, q_X9_mix_64, q_X9_mix_65, q_X9_mix_68, q_X9_mix_69, q_X9_mix_70, q_X9_mix_71, q_X9_mix_74, q_X9_mix_75, q_X9_mix_76, q_X9_mix_77, q_X9_mix_80, q_X9_mix_81, q_X9_mix_82, q_X9_mix_83, q_X9_mix_86, q_X9_mix_87, q_X9_mix_88, q_X9_mix_89, q_X9_mix_92, q_X9_mix_93, q_X9_mix_94, q_X9_mix_95, q_X9_mix_98, q_X9_mix_99, q_X9_mix_100, q_X9_mix_101, q_X9_mix_102, h0, y_is, y_gf, y_pf, y_f0, y_f1, y_f3, y_nI, y_nK, y_nZ, y_nL, y_nR, y_k1i, y_k1r, y_k1l, y_k1n, y_tl, y_tn, y_s, y_ss, List.getElem?_cons_zero, List.getElem?_cons_succ, List.set_cons_zero, List.set_cons_succ, List.length_cons, List.length_nil, true_and, and_true]
  refine s_mix_sig hW' hv5 hsg ?_ sg 0 (by omega)
  simp (disch := omega) only [q_X9_mix_164, q_X9_mix_165, q_X9_mix_166, q_X9_mix_169, q_X9_mix_170, q_X9_mix_173, h0, y_is, y_gf, y_pf, y_f0, y_f1, y_f3, y_nI, y_nK, y_nZ, y_nL, y_nR, y_k1i, y_k1r, y_k1l, y_k1n, y_tl, y_tn, y_s, y_ss, List.getElem?_cons_zero, List.getElem?_cons_succ, List.set_cons_zero, List.set_cons_succ, List.length_cons, List.length_nil, true_and, and_true, hv6]
  refine s_mixAll h8 hhr (by omega) ?_
  simp (disch := omega) only [q_X9_mix_176, q_X9_mix_177, q_X9_mix_178, q_X9_mix_179, q_X9_mix_182, q_X9_mix_183, q_X9_mix_186, h0, y_is, y_gf, y_pf, y_f0, y_f1, y_f3, y_nI, y_nK, y_nZ, y_nL, y_nR, y_k1i, y_k1r, y_k1l, y_k1n, y_tl, y_tn, y_s, y_ss, List.getElem?_cons_zero, List.getElem?_cons_succ, List.set_cons_zero, List.set_cons_succ, List.length_cons, List.length_nil, true_and, and_true, hv7]
  refine s_mixAll h9 hsn (by omega) ?_
  simp (disch := omega) only [q_X9_mix_189, y_is, y_gf, y_pf, y_f0, y_f1, y_f3, y_nI, y_nK, y_nZ, y_nL, y_nR, y_k1i, y_k1r, y_k1l, y_k1n, y_tl, y_tn, y_s, y_ss, List.getElem?_cons_zero, List.getElem?_cons_succ, List.set_cons_zero, List.set_cons_succ, List.length_cons, List.length_nil, true_and, and_true]
  exact hQ
end WATCH5
