/-! ===== the reference: THE WALL is read ===== -/
/-- a wall that was read -/
def rdW (W : Nat → Nat) (n : Nat) (r : rowsT) : Nat → Nat := fun k => if 1 ≤ k ∧ k < 10 then r 0 (k - 1) else if 10 ≤ k ∧ k < 19 then r 1 (k - 10) else if 19 ≤ k ∧ k < 28 then r 2 (k - 19) else layW W n k
/-- the rows that are read -/
def rof (g : mzG) (rr : rowsT) : Prop := ∃ q, g.2 85 = aI 27 q ∧ ∀ i p, i < 3 → p < 9 → q (9 * i + p) = nI (rr i p)
def wdL (c0 c1 c2 c3 c4 : Nat) : List Nat := if c4 = 0 then [c0, c1, c2, c3] else [c0, c1, c2, c3, c4]
section MREAD2
variable {b : mzB} {Q : mzQ} {r : Int64}
theorem s_goOn {f0 f1 f2 f3 f4 f10 : Int32} {g : mzG} {tb : Nat → Nat} {tl p e t : Nat} {va : Int32} (hM : g.2 73 = ob 9 [.ref 74, .ref 75, .ref 76, .ref 77, .ref 78, .ref 79, .int (f0), .int (f1), .int (f2), .ref 80, .int (f3), .ref 81, .int (f4), .ref 82, .long (r), .ref 83, .ref 84, .int (nI tl), .int (nI p), .int (nI (e - p)), .int (nI t), .int (va), .ref 85, .int (f10)]) (hB : by_ g tb tl) (hpe : p ≤ e) (he : e ≤ tl) (hQ : ∀ g' va', g'.2 73 = ob 9 [.ref 74, .ref 75, .ref 76, .ref 77, .ref 78, .ref 79, .int (f0), .int (f1), .int (f2), .ref 80, .int (f3), .ref 81, .int (f4), .ref 82, .long (r), .ref 83, .ref 84, .int (nI tl), .int (nI (tkP tb tl e)), .int (nI (tkE tb tl e - tkP tb tl e)), .int (nI (tkT tb tl e)), .int (va'), .ref 85, .int (f10)] → (tkT tb tl e = 2 → va' = nI (tkV tb tl e)) → fr g g' 73 74 → Q none g') : wp 215 b 0 [.ref 73] [] g Q := by
  simp (disch := omega) only [q_X11_goOn_0, q_X11_goOn_1, q_X11_goOn_2, q_X11_goOn_5, q_X11_goOn_6, q_X11_goOn_9, q_X11_goOn_10, hM, y_is, y_gf, y_pf, y_f0, y_f1, y_f3, y_nI, y_nK, y_nZ, y_nL, y_nR, y_k1i, y_k1r, y_k1l, y_k1n, y_tl, y_tn, y_s, y_ss, List.getElem?_cons_zero, List.getElem?_cons_succ, List.set_cons_zero, List.set_cons_succ, List.length_cons, List.length_nil, true_and, and_true, nI_add]
  rw [show p + (e - p) = e by omega]
  refine s_look hM hB he (fun g' va' q1 q2 q3 => ?_)
  simp only [q_X11_goOn_13, y_is, y_gf, y_pf, y_f0, y_f1, y_f3, y_nI, y_nK, y_nZ, y_nL, y_nR, y_k1i, y_k1r, y_k1l, y_k1n, y_tl, y_tn, y_s, y_ss, List.getElem?_cons_zero, List.getElem?_cons_succ, List.set_cons_zero, List.set_cons_succ, List.length_cons, List.length_nil, true_and, and_true]
  exact hQ g' va' q1 q2 q3
theorem s_misWord {f0 f1 f2 f3 f4 f9 f10 : Int32} {g : mzG} {tb : Nat → Nat} {tl p e t c0 c1 c2 c3 c4 : Nat} (hM : g.2 73 = ob 9 [.ref 74, .ref 75, .ref 76, .ref 77, .ref 78, .ref 79, .int (f0), .int (f1), .int (f2), .ref 80, .int (f3), .ref 81, .int (f4), .ref 82, .long (r), .ref 83, .ref 84, .int (nI tl), .int (nI p), .int (nI (e - p)), .int (nI t), .int (f9), .ref 85, .int (f10)]) (hB : by_ g tb tl) (hpe : p ≤ e) (he : e ≤ tl) (ht : t ≤ 4) (h0 : c0 < 128) (h1 : c1 < 128) (h2 : c2 < 128) (h3 : c3 < 128) (h4 : c4 < 128) (hQ : Q (some (.int (if isW tb t p e (wdL c0 c1 c2 c3 c4) then 1 else 0))) g) : wp 216 b 0 [.ref 73, .int (nI c0), .int (nI c1), .int (nI c2), .int (nI c3), .int (nI c4), .null, .null, .null] [] g Q := by
  obtain ⟨⟨fb, h84, hfb⟩, hl⟩ := hB
  -- the size
  have at10 : ∀ (wd : List Nat), wd = wdL c0 c1 c2 c3 c4 → (wd.length = 4 ∨ wd.length = 5) → (∀ k c, wd[k]? = some c → c = (if k = 0 then c0 else if k = 1 then c1 else if k = 2 then c2 else if k = 3 then c3 else c4)) → wp 216 b 10 [.ref 73, .int (nI c0), .int (nI c1), .int (nI c2), .int (nI c3), .int (nI c4), .null, .null, .null] [.int (nI wd.length)] g Q := by
    intro wd hwd hwl hsel
    rw [← hwd] at hQ
    unfold isW at hQ
    have fin : ∀ (v : Bool) (x8 : Int32), v = (t == 1 && (e - p == wd.length && mt tb p wd)) → wp 216 b 121 [.ref 73, .int (nI c0), .int (nI c1), .int (nI c2), .int (nI c3), .int (nI c4), .int (nI wd.length), .int (bI v), .int x8] [] g Q := by
      intro v x8 hv
      rw [← hv] at hQ
      simp only [q_X11_isWord_121, q_X11_isWord_123, y_is, y_gf, y_pf, y_f0, y_f1, y_f3, y_nI, y_nK, y_nZ, y_nL, y_nR, y_k1i, y_k1r, y_k1l, y_k1n, y_tl, y_tn, y_s, y_ss, List.getElem?_cons_zero, List.getElem?_cons_succ, List.set_cons_zero, List.set_cons_succ, List.length_cons, List.length_nil, true_and, and_true]
      cases v with
      | true => exact ⟨by decide, hQ⟩
      | false => exact ⟨by decide, hQ⟩
    -- none
    have no : ¬ (t = 1 ∧ e - p = wd.length) → wp 216 b 33 [.ref 73, .int (nI c0), .int (nI c1), .int (nI c2), .int (nI c3), .int (nI c4), .int (nI wd.length), .null, .null] [] g Q := by
      intro h
      simp (disch := omega) only [q_X11_isWord_33, q_X11_isWord_34, q_X11_isWord_36, q_X11_isWord_37, y_is, y_gf, y_pf, y_f0, y_f1, y_f3, y_nI, y_nK, y_nZ, y_nL, y_nR, y_k1i, y_k1r, y_k1l, y_k1n, y_tl, y_tn, y_s, y_ss, List.getElem?_cons_zero, List.getElem?_cons_succ, List.set_cons_zero, List.set_cons_succ, List.length_cons, List.length_nil, true_and, and_true]
      rw [q_X11_isWord_39]
      simp (disch := omega) only [q_X11_isWord_41, q_X11_isWord_43, y_is, y_gf, y_pf, y_f0, y_f1, y_f3, y_nI, y_nK, y_nZ, y_nL, y_nR, y_k1i, y_k1r, y_k1l, y_k1n, y_tl, y_tn, y_s, y_ss, List.getElem?_cons_zero, List.getElem?_cons_succ, List.set_cons_zero, List.set_cons_succ, List.length_cons, List.length_nil, true_and, and_true]
      refine br0 (by show ¬ nI wd.length ≤ nI 0; rw [le_n (by omega) (by omega)]; omega) ?_
      simp (disch := omega) only [q_X11_isWord_46, q_X11_isWord_48, y_is, y_gf, y_pf, y_f0, y_f1, y_f3, y_nI, y_nK, y_nZ, y_nL, y_nR, y_k1i, y_k1r, y_k1l, y_k1n, y_tl, y_tn, y_s, y_ss, List.getElem?_cons_zero, List.getElem?_cons_succ, List.set_cons_zero, List.set_cons_succ, List.length_cons, List.length_nil, true_and, and_true]
      refine br1 (by decide) (fin false _ ?_)
      by_cases h1 : t = 1
      · rw [beq_false_of_ne (fun z => h ⟨h1, z⟩), Bool.false_and, Bool.and_false]
      · rw [beq_false_of_ne h1, Bool.false_and]
    have loop : t = 1 → e - p = wd.length → ∀ d k, k + d = wd.length → mt tb (p + k) (wd.drop k) = mt tb p wd → wp 216 b 39 [.ref 73, .int (nI c0), .int (nI c1), .int (nI c2), .int (nI c3), .int (nI c4), .int (nI wd.length), .int 1, .int (nI k)] [] g Q := by
      intro t1 tle d
      have hval : (t == 1 && (e - p == wd.length && mt tb p wd)) = mt tb p wd := by
        rw [show (t == 1) = true by simp [t1], show (e - p == wd.length) = true by simp [tle], Bool.true_and, Bool.true_and]
      induction d with
      | zero =>
        intro k hk hm
        rw [List.drop_eq_nil_of_le (by omega), mt] at hm
        rw [q_X11_isWord_39]
        simp (disch := omega) only [q_X11_isWord_41, q_X11_isWord_43, y_is, y_gf, y_pf, y_f0, y_f1, y_f3, y_nI, y_nK, y_nZ, y_nL, y_nR, y_k1i, y_k1r, y_k1l, y_k1n, y_tl, y_tn, y_s, y_ss, List.getElem?_cons_zero, List.getElem?_cons_succ, List.set_cons_zero, List.set_cons_succ, List.length_cons, List.length_nil, true_and, and_true, le_n]
        exact br1 (by omega) (fin true _ (by rw [hval]; exact hm))
      | succ d ih =>
        intro k hk hm
        have hkl : k < wd.length := by omega
        rw [List.drop_eq_getElem_cons hkl, mt] at hm
        have hg := hsel k _ (List.getElem?_eq_getElem hkl)
        obtain ⟨e1, e2⟩ := hfb (p + k) (by omega)
        generalize wd[k] = c at hm hg
        have hc8 : c < 128 := by rw [hg]; (repeat' split) <;> omega
        have cmp : wp 216 b 105 [.ref 73, .int (nI c0), .int (nI c1), .int (nI c2), .int (nI c3), .int (nI c4), .int (nI wd.length), .int 1, .int (nI k)] [.int (nI c), .int (nI (tb (p + k)))] g Q := by
          simp (disch := omega) only [q_X11_isWord_105, y_is, y_gf, y_pf, y_f0, y_f1, y_f3, y_nI, y_nK, y_nZ, y_nL, y_nR, y_k1i, y_k1r, y_k1l, y_k1n, y_tl, y_tn, y_s, y_ss, List.getElem?_cons_zero, List.getElem?_cons_succ, List.set_cons_zero, List.set_cons_succ, List.length_cons, List.length_nil, true_and, and_true, eq_n]
          by_cases y : tb (p + k) = c
          · rw [bnt y]
            rw [show (tb (p + k) == c) = true by simp [y], Bool.true_and] at hm
            simp (disch := omega) only [q_X11_isWord_108, q_X11_isWord_109, q_X11_isWord_113, q_X11_isWord_115, q_X11_isWord_118, y_is, y_gf, y_pf, y_f0, y_f1, y_f3, y_nI, y_nK, y_nZ, y_nL, y_nR, y_k1i, y_k1r, y_k1l, y_k1n, y_tl, y_tn, y_s, y_ss, List.getElem?_cons_zero, List.getElem?_cons_succ, List.set_cons_zero, List.set_cons_succ, List.length_cons, List.length_nil, true_and, and_true, lit, nI_add]
            exact ih (k + 1) (by omega) (by rw [show p + (k + 1) = p + k + 1 by omega]; exact hm)
          · rw [bnf y]
            rw [beq_false_of_ne y, Bool.false_and] at hm
            simp (disch := omega) only [q_X11_isWord_112, q_X11_isWord_113, q_X11_isWord_115, q_X11_isWord_118, y_is, y_gf, y_pf, y_f0, y_f1, y_f3, y_nI, y_nK, y_nZ, y_nL, y_nR, y_k1i, y_k1r, y_k1l, y_k1n, y_tl, y_tn, y_s, y_ss, List.getElem?_cons_zero, List.getElem?_cons_succ, List.set_cons_zero, List.set_cons_succ, List.length_cons, List.length_nil, true_and, and_true, lit, nI_add]
            have fi : ∀ x8, wp 216 b 121 [.ref 73, .int (nI c0), .int (nI c1), .int (nI c2), .int (nI c3), .int (nI c4), .int (nI wd.length), .int (nI 0), .int x8] [] g Q := fun x8 => fin false x8 (by rw [hval]; exact hm)
            rw [q_X11_isWord_39]
            simp (disch := omega) only [q_X11_isWord_41, q_X11_isWord_43, y_is, y_gf, y_pf, y_f0, y_f1, y_f3, y_nI, y_nK, y_nZ, y_nL, y_nR, y_k1i, y_k1r, y_k1l, y_k1n, y_tl, y_tn, y_s, y_ss, List.getElem?_cons_zero, List.getElem?_cons_succ, List.set_cons_zero, List.set_cons_succ, List.length_cons, List.length_nil, true_and, and_true]
            refine brs (fun _ => fi _) (fun _ => ?_)
            simp (disch := omega) only [q_X11_isWord_46, q_X11_isWord_48, y_is, y_gf, y_pf, y_f0, y_f1, y_f3, y_nI, y_nK, y_nZ, y_nL, y_nR, y_k1i, y_k1r, y_k1l, y_k1n, y_tl, y_tn, y_s, y_ss, List.getElem?_cons_zero, List.getElem?_cons_succ, List.set_cons_zero, List.set_cons_succ, List.length_cons, List.length_nil, true_and, and_true]
            exact br1 (by decide) (fi _)
        rw [q_X11_isWord_39]
        simp (disch := omega) only [q_X11_isWord_41, q_X11_isWord_43, q_X11_isWord_46, q_X11_isWord_48, y_is, y_gf, y_pf, y_f0, y_f1, y_f3, y_nI, y_nK, y_nZ, y_nL, y_nR, y_k1i, y_k1r, y_k1l, y_k1n, y_tl, y_tn, y_s, y_ss, List.getElem?_cons_zero, List.getElem?_cons_succ, List.set_cons_zero, List.set_cons_succ, List.length_cons, List.length_nil, true_and, and_true, le_n]
        refine br0 (by omega) (br0 (by decide) ?_)
        simp (disch := omega) only [q_X11_isWord_51, q_X11_isWord_52, q_X11_isWord_55, q_X11_isWord_56, q_X11_isWord_59, q_X11_isWord_61, q_X11_isWord_62, q_X11_isWord_63, q_X11_isWord_65, hM, h84, e1, y_is, y_gf, y_pf, y_f0, y_f1, y_f3, y_nI, y_nK, y_nZ, y_nL, y_nR, y_k1i, y_k1r, y_k1l, y_k1n, y_tl, y_tn, y_s, y_ss, List.getElem?_cons_zero, List.getElem?_cons_succ, List.set_cons_zero, List.set_cons_succ, List.length_cons, List.length_nil, true_and, and_true, y_lIn, y_lKn, y_lZn, y_lLn, y_wIn, y_wZn, y_wLn, lit, le_n, lt_n, eq_n, lit, nI_add, eq_n]
        by_cases k0 : k = 0
        · rw [bnt k0]
          rw [if_pos k0] at hg
          subst hg
          simp only [q_X11_isWord_68, q_X11_isWord_69, y_is, y_gf, y_pf, y_f0, y_f1, y_f3, y_nI, y_nK, y_nZ, y_nL, y_nR, y_k1i, y_k1r, y_k1l, y_k1n, y_tl, y_tn, y_s, y_ss, List.getElem?_cons_zero, List.getElem?_cons_succ, List.set_cons_zero, List.set_cons_succ, List.length_cons, List.length_nil, true_and, and_true]
          exact cmp
        rw [bnf k0]
        rw [if_neg k0] at hg
        simp (disch := omega) only [q_X11_isWord_72, q_X11_isWord_74, q_X11_isWord_75, y_is, y_gf, y_pf, y_f0, y_f1, y_f3, y_nI, y_nK, y_nZ, y_nL, y_nR, y_k1i, y_k1r, y_k1l, y_k1n, y_tl, y_tn, y_s, y_ss, List.getElem?_cons_zero, List.getElem?_cons_succ, List.set_cons_zero, List.set_cons_succ, List.length_cons, List.length_nil, true_and, and_true, lit, eq_n]
        by_cases k1 : k = 1
        · rw [bnt k1]
          rw [if_pos k1] at hg
          subst hg
          simp only [q_X11_isWord_78, q_X11_isWord_79, y_is, y_gf, y_pf, y_f0, y_f1, y_f3, y_nI, y_nK, y_nZ, y_nL, y_nR, y_k1i, y_k1r, y_k1l, y_k1n, y_tl, y_tn, y_s, y_ss, List.getElem?_cons_zero, List.getElem?_cons_succ, List.set_cons_zero, List.set_cons_succ, List.length_cons, List.length_nil, true_and, and_true]
          exact cmp
        rw [bnf k1]
        rw [if_neg k1] at hg
        simp (disch := omega) only [q_X11_isWord_82, q_X11_isWord_84, q_X11_isWord_85, y_is, y_gf, y_pf, y_f0, y_f1, y_f3, y_nI, y_nK, y_nZ, y_nL, y_nR, y_k1i, y_k1r, y_k1l, y_k1n, y_tl, y_tn, y_s, y_ss, List.getElem?_cons_zero, List.getElem?_cons_succ, List.set_cons_zero, List.set_cons_succ, List.length_cons, List.length_nil, true_and, and_true, lit, eq_n]
        by_cases k2 : k = 2
        · rw [bnt k2]
          rw [if_pos k2] at hg
          subst hg
          simp only [q_X11_isWord_88, q_X11_isWord_89, y_is, y_gf, y_pf, y_f0, y_f1, y_f3, y_nI, y_nK, y_nZ, y_nL, y_nR, y_k1i, y_k1r, y_k1l, y_k1n, y_tl, y_tn, y_s, y_ss, List.getElem?_cons_zero, List.getElem?_cons_succ, List.set_cons_zero, List.set_cons_succ, List.length_cons, List.length_nil, true_and, and_true]
          exact cmp
        rw [bnf k2]
        rw [if_neg k2] at hg
        simp (disch := omega) only [q_X11_isWord_92, q_X11_isWord_94, q_X11_isWord_95, y_is, y_gf, y_pf, y_f0, y_f1, y_f3, y_nI, y_nK, y_nZ, y_nL, y_nR, y_k1i, y_k1r, y_k1l, y_k1n, y_tl, y_tn, y_s, y_ss, List.getElem?_cons_zero, List.getElem?_cons_succ, List.set_cons_zero, List.set_cons_succ, List.length_cons, List.length_nil, true_and, and_true, lit, eq_n]
        by_cases k3 : k = 3
        · rw [bnt k3]
          rw [if_pos k3] at hg
          subst hg
          simp only [q_X11_isWord_98, q_X11_isWord_100, y_is, y_gf, y_pf, y_f0, y_f1, y_f3, y_nI, y_nK, y_nZ, y_nL, y_nR, y_k1i, y_k1r, y_k1l, y_k1n, y_tl, y_tn, y_s, y_ss, List.getElem?_cons_zero, List.getElem?_cons_succ, List.set_cons_zero, List.set_cons_succ, List.length_cons, List.length_nil, true_and, and_true]
          exact cmp
        rw [bnf k3]
        rw [if_neg k3] at hg
        subst hg
        simp only [q_X11_isWord_103, y_is, y_gf, y_pf, y_f0, y_f1, y_f3, y_nI, y_nK, y_nZ, y_nL, y_nR, y_k1i, y_k1r, y_k1l, y_k1n, y_tl, y_tn, y_s, y_ss, List.getElem?_cons_zero, List.getElem?_cons_succ, List.set_cons_zero, List.set_cons_succ, List.length_cons, List.length_nil, true_and, and_true]
        exact cmp
    simp (disch := omega) only [q_X11_isWord_10, q_X11_isWord_12, q_X11_isWord_13, q_X11_isWord_16, q_X11_isWord_17, hM, y_is, y_gf, y_pf, y_f0, y_f1, y_f3, y_nI, y_nK, y_nZ, y_nL, y_nR, y_k1i, y_k1r, y_k1l, y_k1n, y_tl, y_tn, y_s, y_ss, List.getElem?_cons_zero, List.getElem?_cons_succ, List.set_cons_zero, List.set_cons_succ, List.length_cons, List.length_nil, true_and, and_true, lit, eq_n]
    by_cases t1 : t = 1
    · rw [bnt t1]
      simp (disch := omega) only [q_X11_isWord_20, q_X11_isWord_21, q_X11_isWord_24, q_X11_isWord_26, hM, y_is, y_gf, y_pf, y_f0, y_f1, y_f3, y_nI, y_nK, y_nZ, y_nL, y_nR, y_k1i, y_k1r, y_k1l, y_k1n, y_tl, y_tn, y_s, y_ss, List.getElem?_cons_zero, List.getElem?_cons_succ, List.set_cons_zero, List.set_cons_succ, List.length_cons, List.length_nil, true_and, and_true, eq_n]
      by_cases tle : e - p = wd.length
      · rw [bnt tle]
        simp (disch := omega) only [q_X11_isWord_29, q_X11_isWord_30, q_X11_isWord_34, q_X11_isWord_36, q_X11_isWord_37, y_is, y_gf, y_pf, y_f0, y_f1, y_f3, y_nI, y_nK, y_nZ, y_nL, y_nR, y_k1i, y_k1r, y_k1l, y_k1n, y_tl, y_tn, y_s, y_ss, List.getElem?_cons_zero, List.getElem?_cons_succ, List.set_cons_zero, List.set_cons_succ, List.length_cons, List.length_nil, true_and, and_true]
        exact loop t1 tle wd.length 0 (by omega) rfl
      · rw [bnf tle]
        exact no (fun z => tle z.2)
    · rw [bnf t1]
      exact no (fun z => t1 z.1)
  simp (disch := omega) only [q_X11_isWord_0, q_X11_isWord_2, y_is, y_gf, y_pf, y_f0, y_f1, y_f3, y_nI, y_nK, y_nZ, y_nL, y_nR, y_k1i, y_k1r, y_k1l, y_k1n, y_tl, y_tn, y_s, y_ss, List.getElem?_cons_zero, List.getElem?_cons_succ, List.set_cons_zero, List.set_cons_succ, List.length_cons, List.length_nil, true_and, and_true, lit, eq_n]
  have sel4 : ∀ (k c : Nat), ([c0, c1, c2, c3] : List Nat)[k]? = some c → c = (if k = 0 then c0 else if k = 1 then c1 else if k = 2 then c2 else if k = 3 then c3 else c4) := by
    intro k c h
    match k, h with
    | 0, h => simp at h; rw [if_pos rfl]; exact h.symm
    | 1, h => simp at h; rw [if_neg (by decide), if_pos rfl]; exact h.symm
    | 2, h => simp at h; rw [if_neg (by decide), if_neg (by decide), if_pos rfl]; exact h.symm
    | 3, h => simp at h; rw [if_neg (by decide), if_neg (by decide), if_neg (by decide), if_pos rfl]; exact h.symm
    | k + 4, h => simp at h
  have sel5 : ∀ (k c : Nat), ([c0, c1, c2, c3, c4] : List Nat)[k]? = some c → c = (if k = 0 then c0 else if k = 1 then c1 else if k = 2 then c2 else if k = 3 then c3 else c4) := by
    intro k c h
    match k, h with
    | 0, h => simp at h; rw [if_pos rfl]; exact h.symm
    | 1, h => simp at h; rw [if_neg (by decide), if_pos rfl]; exact h.symm
    | 2, h => simp at h; rw [if_neg (by decide), if_neg (by decide), if_pos rfl]; exact h.symm
    | 3, h => simp at h; rw [if_neg (by decide), if_neg (by decide), if_neg (by decide), if_pos rfl]; exact h.symm
    | 4, h => simp at h; rw [if_neg (by decide), if_neg (by decide), if_neg (by decide), if_neg (by decide)]; exact h.symm
    | k + 5, h => simp at h
  by_cases z : c4 = 0
  · rw [bnt z]
    simp only [q_X11_isWord_5, q_X11_isWord_6, y_is, y_gf, y_pf, y_f0, y_f1, y_f3, y_nI, y_nK, y_nZ, y_nL, y_nR, y_k1i, y_k1r, y_k1l, y_k1n, y_tl, y_tn, y_s, y_ss, List.getElem?_cons_zero, List.getElem?_cons_succ, List.set_cons_zero, List.set_cons_succ, List.length_cons, List.length_nil, true_and, and_true]
    exact at10 [c0, c1, c2, c3] (by unfold wdL; rw [if_pos z]) (Or.inl rfl) sel4
  · rw [bnf z]
    simp only [q_X11_isWord_9, y_is, y_gf, y_pf, y_f0, y_f1, y_f3, y_nI, y_nK, y_nZ, y_nL, y_nR, y_k1i, y_k1r, y_k1l, y_k1n, y_tl, y_tn, y_s, y_ss, List.getElem?_cons_zero, List.getElem?_cons_succ, List.set_cons_zero, List.set_cons_succ, List.length_cons, List.length_nil, true_and, and_true]
    exact at10 [c0, c1, c2, c3, c4] (by unfold wdL; rw [if_neg z]) (Or.inr rfl) sel5
theorem by_.frm {g g' : mzG} {tb : Nat → Nat} {tl : Nat} (h : by_ g tb tl) (e : g'.2 84 = g.2 84) : by_ g' tb tl := by
  obtain ⟨⟨fb, h1, h2⟩, h3⟩ := h
  exact ⟨⟨fb, e.trans h1, h2⟩, h3⟩
theorem s_readsFirst {f0 f1 f2 f3 f4 f10 : Int32} {g : mzG} {tb : Nat → Nat} {tl a : Nat} {va : Int32} (hM : g.2 73 = ob 9 [.ref 74, .ref 75, .ref 76, .ref 77, .ref 78, .ref 79, .int (f0), .int (f1), .int (f2), .ref 80, .int (f3), .ref 81, .int (f4), .ref 82, .long (r), .ref 83, .ref 84, .int (nI tl), .int (nI (tkP tb tl a)), .int (nI (tkE tb tl a - tkP tb tl a)), .int (nI (tkT tb tl a)), .int (va), .ref 85, .int (f10)]) (hB : by_ g tb tl) (ha : a ≤ tl) (h1 : isW tb (tkT tb tl a) (tkP tb tl a) (tkE tb tl a) wPosts = false → Q (some (.int 0)) g) (h2 : isW tb (tkT tb tl a) (tkP tb tl a) (tkE tb tl a) wPosts = true → ¬ (tkT tb tl (tkE tb tl a) = 2 ∧ 1 ≤ tkV tb tl (tkE tb tl a) ∧ tkV tb tl (tkE tb tl a) ≤ 9) → ∀ g' q7 q8 q9 q10, g'.2 73 = ob 9 [.ref 74, .ref 75, .ref 76, .ref 77, .ref 78, .ref 79, .int (f0), .int (f1), .int (f2), .ref 80, .int (f3), .ref 81, .int (f4), .ref 82, .long (r), .ref 83, .ref 84, .int (nI tl), .int (nI (tkP tb tl (tkE tb tl a))), .int (q7), .int (q8), .int (q9), .ref 85, .int (q10)] → fr g g' 73 74 → Q (some (.int 0)) g') (h3 : isW tb (tkT tb tl a) (tkP tb tl a) (tkE tb tl a) wPosts = true → (tkT tb tl (tkE tb tl a) = 2 ∧ 1 ≤ tkV tb tl (tkE tb tl a) ∧ tkV tb tl (tkE tb tl a) ≤ 9) → ∀ g' q9, g'.2 73 = ob 9 [.ref 74, .ref 75, .ref 76, .ref 77, .ref 78, .ref 79, .int (f0), .int (f1), .int (f2), .ref 80, .int (f3), .ref 81, .int (f4), .ref 82, .long (r), .ref 83, .ref 84, .int (nI tl), .int (nI (tkP tb tl (tkE tb tl (tkE tb tl a)))), .int (nI (tkE tb tl (tkE tb tl (tkE tb tl a)) - tkP tb tl (tkE tb tl (tkE tb tl a)))), .int (nI (tkT tb tl (tkE tb tl (tkE tb tl a)))), .int (q9), .ref 85, .int (nI (tkV tb tl (tkE tb tl a)))] → fr g g' 73 74 → Q (some (.int (if tkT tb tl (tkE tb tl (tkE tb tl a)) = 3 then 1 else 0))) g') : wp 217 b 0 [.ref 73] [] g Q := by
  have hE := tkE_b (tb := tb) ha
  have hE1 := tkE_b (tb := tb) hE.2.1
  have ht := tkT_le (tb := tb) (len := tl) (a := a)
  simp (disch := omega) only [q_X11_readsFirst_0, q_X11_readsFirst_1, q_X11_readsFirst_3, q_X11_readsFirst_5, q_X11_readsFirst_7, q_X11_readsFirst_9, q_X11_readsFirst_11, hM, y_is, y_gf, y_pf, y_f0, y_f1, y_f3, y_nI, y_nK, y_nZ, y_nL, y_nR, y_k1i, y_k1r, y_k1l, y_k1n, y_tl, y_tn, y_s, y_ss, List.getElem?_cons_zero, List.getElem?_cons_succ, List.set_cons_zero, List.set_cons_succ, List.length_cons, List.length_nil, true_and, and_true, lit]
  refine s_misWord (c0 := 112) (c1 := 111) (c2 := 115) (c3 := 116) (c4 := 115) hM hB hE.1 hE.2.1 ht (by decide) (by decide) (by decide) (by decide) (by decide) ?_
  rw [show wdL 112 111 115 116 115 = wPosts from rfl]
  cases hw : isW tb (tkT tb tl a) (tkP tb tl a) (tkE tb tl a) wPosts with
  | false =>
    simp only [Bool.false_eq_true, if_false, q_X11_readsFirst_14, y_is, y_gf, y_pf, y_f0, y_f1, y_f3, y_nI, y_nK, y_nZ, y_nL, y_nR, y_k1i, y_k1r, y_k1l, y_k1n, y_tl, y_tn, y_s, y_ss, List.getElem?_cons_zero, List.getElem?_cons_succ, List.set_cons_zero, List.set_cons_succ, List.length_cons, List.length_nil, true_and, and_true]
    refine br0 (fun z => z (by first | decide | omega | trivial | simp)) ?_
    simp only [q_X11_readsFirst_17, q_X11_readsFirst_18, y_is, y_gf, y_pf, y_f0, y_f1, y_f3, y_nI, y_nK, y_nZ, y_nL, y_nR, y_k1i, y_k1r, y_k1l, y_k1n, y_tl, y_tn, y_s, y_ss, List.getElem?_cons_zero, List.getElem?_cons_succ, List.set_cons_zero, List.set_cons_succ, List.length_cons, List.length_nil, true_and, and_true]
    exact ⟨by decide, h1 hw⟩
  | true =>
    simp only [if_true, q_X11_readsFirst_14, y_is, y_gf, y_pf, y_f0, y_f1, y_f3, y_nI, y_nK, y_nZ, y_nL, y_nR, y_k1i, y_k1r, y_k1l, y_k1n, y_tl, y_tn, y_s, y_ss, List.getElem?_cons_zero, List.getElem?_cons_succ, List.set_cons_zero, List.set_cons_succ, List.length_cons, List.length_nil, true_and, and_true]
    refine br1 (by decide) ?_
    simp (disch := omega) only [q_X11_readsFirst_19, q_X11_readsFirst_20, hM, y_is, y_gf, y_pf, y_f0, y_f1, y_f3, y_nI, y_nK, y_nZ, y_nL, y_nR, y_k1i, y_k1r, y_k1l, y_k1n, y_tl, y_tn, y_s, y_ss, List.getElem?_cons_zero, List.getElem?_cons_succ, List.set_cons_zero, List.set_cons_succ, List.length_cons, List.length_nil, true_and, and_true]
    refine s_goOn hM hB hE.1 hE.2.1 (fun g1 va1 hM1 hv1 hf1 => ?_)
    have ht1 := tkT_le (tb := tb) (len := tl) (a := tkE tb tl a)
    have hV1 := tkV_b (tb := tb) (len := tl) (a := tkE tb tl a)
    have h2 := h2 hw
    have h3 := h3 hw
    simp (disch := omega) only [q_X11_readsFirst_23, q_X11_readsFirst_24, q_X11_readsFirst_27, q_X11_readsFirst_28, hM1, y_is, y_gf, y_pf, y_f0, y_f1, y_f3, y_nI, y_nK, y_nZ, y_nL, y_nR, y_k1i, y_k1r, y_k1l, y_k1n, y_tl, y_tn, y_s, y_ss, List.getElem?_cons_zero, List.getElem?_cons_succ, List.set_cons_zero, List.set_cons_succ, List.length_cons, List.length_nil, true_and, and_true, lit, eq_n]
    have bad : ¬ (tkT tb tl (tkE tb tl a) = 2 ∧ 1 ≤ tkV tb tl (tkE tb tl a) ∧ tkV tb tl (tkE tb tl a) ≤ 9) → wp 217 b 46 [.ref 73] [] g1 Q := by
      intro h
      simp only [q_X11_readsFirst_46, q_X11_readsFirst_47, y_is, y_gf, y_pf, y_f0, y_f1, y_f3, y_nI, y_nK, y_nZ, y_nL, y_nR, y_k1i, y_k1r, y_k1l, y_k1n, y_tl, y_tn, y_s, y_ss, List.getElem?_cons_zero, List.getElem?_cons_succ, List.set_cons_zero, List.set_cons_succ, List.length_cons, List.length_nil, true_and, and_true]
      exact ⟨by decide, h2 h g1 _ _ _ _ hM1 hf1⟩
    by_cases c : tkT tb tl (tkE tb tl a) = 2
    · rw [bnt c]
      have e := hv1 c
      subst e
      simp (disch := omega) only [q_X11_readsFirst_31, q_X11_readsFirst_32, q_X11_readsFirst_35, q_X11_readsFirst_36, q_X11_readsFirst_37, q_X11_readsFirst_40, hM1, y_is, y_gf, y_pf, y_f0, y_f1, y_f3, y_nI, y_nK, y_nZ, y_nL, y_nR, y_k1i, y_k1r, y_k1l, y_k1n, y_tl, y_tn, y_s, y_ss, List.getElem?_cons_zero, List.getElem?_cons_succ, List.set_cons_zero, List.set_cons_succ, List.length_cons, List.length_nil, true_and, and_true, litL]
      refine s_inI (by decide) (by decide) (fun z => ?_) (fun z => ?_)
      · have hr : 1 ≤ tkV tb tl (tkE tb tl a) ∧ tkV tb tl (tkE tb tl a) ≤ 9 := by
          obtain ⟨j, j1, j2, j3⟩ := z
          have := nI_inj (by omega) (by omega) j3
          omega
        simp only [q_X11_readsFirst_43, y_is, y_gf, y_pf, y_f0, y_f1, y_f3, y_nI, y_nK, y_nZ, y_nL, y_nR, y_k1i, y_k1r, y_k1l, y_k1n, y_tl, y_tn, y_s, y_ss, List.getElem?_cons_zero, List.getElem?_cons_succ, List.set_cons_zero, List.set_cons_succ, List.length_cons, List.length_nil, true_and, and_true]
        refine br1 (by decide) ?_
        simp (disch := omega) only [q_X11_readsFirst_48, q_X11_readsFirst_49, q_X11_readsFirst_50, q_X11_readsFirst_53, q_X11_readsFirst_56, q_X11_readsFirst_57, hM1, y_is, y_gf, y_pf, y_f0, y_f1, y_f3, y_nI, y_nK, y_nZ, y_nL, y_nR, y_k1i, y_k1r, y_k1l, y_k1n, y_tl, y_tn, y_s, y_ss, List.getElem?_cons_zero, List.getElem?_cons_succ, List.set_cons_zero, List.set_cons_succ, List.length_cons, List.length_nil, true_and, and_true]
        refine ⟨by decide, ?_⟩
        refine s_goOn (f10 := nI (tkV tb tl (tkE tb tl a))) y_s (hB.frm (by rw [y_ne (by decide), hf1.2 _ (by omega)])) hE1.1 hE1.2.1 (fun g2 va2 hM2 hv2 hf2 => ?_)
        have ht2 := tkT_le (tb := tb) (len := tl) (a := tkE tb tl (tkE tb tl a))
        have k := h3 ⟨c, hr⟩ g2 va2 hM2 ((hf1.hs (by omega) (by omega)).tr hf2)
        simp (disch := omega) only [q_X11_readsFirst_60, q_X11_readsFirst_61, q_X11_readsFirst_64, q_X11_readsFirst_65, hM2, y_is, y_gf, y_pf, y_f0, y_f1, y_f3, y_nI, y_nK, y_nZ, y_nL, y_nR, y_k1i, y_k1r, y_k1l, y_k1n, y_tl, y_tn, y_s, y_ss, List.getElem?_cons_zero, List.getElem?_cons_succ, List.set_cons_zero, List.set_cons_succ, List.length_cons, List.length_nil, true_and, and_true, lit, eq_n]
        by_cases c3 : tkT tb tl (tkE tb tl (tkE tb tl a)) = 3
        · rw [bnt c3]
          rw [if_pos c3] at k
          simp only [q_X11_readsFirst_68, q_X11_readsFirst_69, q_X11_readsFirst_73, y_is, y_gf, y_pf, y_f0, y_f1, y_f3, y_nI, y_nK, y_nZ, y_nL, y_nR, y_k1i, y_k1r, y_k1l, y_k1n, y_tl, y_tn, y_s, y_ss, List.getElem?_cons_zero, List.getElem?_cons_succ, List.set_cons_zero, List.set_cons_succ, List.length_cons, List.length_nil, true_and, and_true]
          exact ⟨by decide, k⟩
        · rw [bnf c3]
          rw [if_neg c3] at k
          simp only [q_X11_readsFirst_72, q_X11_readsFirst_73, y_is, y_gf, y_pf, y_f0, y_f1, y_f3, y_nI, y_nK, y_nZ, y_nL, y_nR, y_k1i, y_k1r, y_k1l, y_k1n, y_tl, y_tn, y_s, y_ss, List.getElem?_cons_zero, List.getElem?_cons_succ, List.set_cons_zero, List.set_cons_succ, List.length_cons, List.length_nil, true_and, and_true]
          exact ⟨by decide, k⟩
      · simp only [q_X11_readsFirst_43, y_is, y_gf, y_pf, y_f0, y_f1, y_f3, y_nI, y_nK, y_nZ, y_nL, y_nR, y_k1i, y_k1r, y_k1l, y_k1n, y_tl, y_tn, y_s, y_ss, List.getElem?_cons_zero, List.getElem?_cons_succ, List.set_cons_zero, List.set_cons_succ, List.length_cons, List.length_nil, true_and, and_true]
        refine br0 (fun y => y (by first | decide | omega | trivial | simp)) (bad (fun y => z ⟨_, y.2.1, y.2.2, rfl⟩))
    · rw [bnf c]
      exact bad (fun y => c y.1)
theorem s_readsNext {f0 f1 f2 f3 f4 : Int32} {g : mzG} {tb : Nat → Nat} {tl a n : Nat} {va : Int32} {rr : rowsT} (hM : g.2 73 = ob 9 [.ref 74, .ref 75, .ref 76, .ref 77, .ref 78, .ref 79, .int (f0), .int (f1), .int (f2), .ref 80, .int (f3), .ref 81, .int (f4), .ref 82, .long (r), .ref 83, .ref 84, .int (nI tl), .int (nI (tkP tb tl a)), .int (nI (tkE tb tl a - tkP tb tl a)), .int (nI (tkT tb tl a)), .int (va), .ref 85, .int (nI n)]) (hB : by_ g tb tl) (ha : a ≤ tl) (hn : n ≤ 9) (hr : rof g rr) (hbad : ∀ f, pit tb tl n a rr = .inl f → ∀ g' q7 q8 q9, g'.2 73 = ob 9 [.ref 74, .ref 75, .ref 76, .ref 77, .ref 78, .ref 79, .int (f0), .int (f1), .int (f2), .ref 80, .int (f3), .ref 81, .int (f4), .ref 82, .long (r), .ref 83, .ref 84, .int (nI tl), .int (nI f), .int (q7), .int (q8), .int (q9), .ref 85, .int (nI n)] → (∃ q, g'.2 85 = aI 27 q) → (∀ k, k ≠ 73 → k ≠ 85 → g'.2 k = g.2 k) → g'.1 = g.1 → Q (some (.int 0)) g') (hok : ∀ a' r', pit tb tl n a rr = .inr (a', r') → ∀ g' q p t q9, p ≤ a' → g'.2 73 = ob 9 [.ref 74, .ref 75, .ref 76, .ref 77, .ref 78, .ref 79, .int (f0), .int (f1), .int (f2), .ref 80, .int (f3), .ref 81, .int (f4), .ref 82, .long (r), .ref 83, .ref 84, .int (nI tl), .int (nI p), .int (nI (a' - p)), .int (nI t), .int (q9), .ref 85, .int (nI n)] → rof g' r' → a < a' → a' ≤ tl → (∀ k, k ≠ 73 → k ≠ 85 → g'.2 k = g.2 k) → g'.1 = q → g'.1 = g.1 → Q (some (.int 1)) g') : wp 218 b 0 [.ref 73, .null, .null] [] g Q := by
  have hE := tkE_b (tb := tb) ha
  have hP := tkP_b (tb := tb) ha
  have ht := tkT_le (tb := tb) (len := tl) (a := a)
  unfold pit at hbad hok
  -- behind the word
  have at63 : ∀ (o : Option Nat), o = rowW tb (tkT tb tl a) (tkP tb tl a) (tkE tb tl a) → wp 218 b 63 [.ref 73, .null, .null] [.int (oI o)] g Q := by
    intro o ho
    rw [← ho] at hbad hok
    cases o with
    | none =>
      simp only at hbad
      simp only [q_X11_readsNext_63, q_X11_readsNext_64, q_X11_readsNext_65, q_X11_readsNext_66, oI, y_is, y_gf, y_pf, y_f0, y_f1, y_f3, y_nI, y_nK, y_nZ, y_nL, y_nR, y_k1i, y_k1r, y_k1l, y_k1n, y_tl, y_tn, y_s, y_ss, List.getElem?_cons_zero, List.getElem?_cons_succ, List.set_cons_zero, List.set_cons_succ, List.length_cons, List.length_nil, true_and, and_true]
      refine br0 (fun z => z (by first | decide | omega | trivial | simp)) ?_
      simp only [q_X11_readsNext_69, q_X11_readsNext_70, y_is, y_gf, y_pf, y_f0, y_f1, y_f3, y_nI, y_nK, y_nZ, y_nL, y_nR, y_k1i, y_k1r, y_k1l, y_k1n, y_tl, y_tn, y_s, y_ss, List.getElem?_cons_zero, List.getElem?_cons_succ, List.set_cons_zero, List.set_cons_succ, List.length_cons, List.length_nil, true_and, and_true]
      obtain ⟨q, h85, -⟩ := hr
      exact ⟨by decide, hbad _ rfl g _ _ _ hM ⟨q, h85⟩ (fun _ _ _ => rfl) rfl⟩
    | some row =>
      have hrow := rowW_lt ho.symm
      have t1 : tkT tb tl a ≠ 0 := fun e => by
        rw [e] at ho
        unfold rowW isW at ho
        simp at ho
      have hEa := hE.2.2 t1
      simp only [pit2] at hbad hok
      simp only [q_X11_readsNext_63, q_X11_readsNext_64, q_X11_readsNext_65, q_X11_readsNext_66, oI, y_is, y_gf, y_pf, y_f0, y_f1, y_f3, y_nI, y_nK, y_nZ, y_nL, y_nR, y_k1i, y_k1r, y_k1l, y_k1n, y_tl, y_tn, y_s, y_ss, List.getElem?_cons_zero, List.getElem?_cons_succ, List.set_cons_zero, List.set_cons_succ, List.length_cons, List.length_nil, true_and, and_true]
      refine br1 (fun z => (m1_ne (by omega)).mp z) ?_
      simp (disch := omega) only [q_X11_readsNext_71, q_X11_readsNext_72, hM, y_is, y_gf, y_pf, y_f0, y_f1, y_f3, y_nI, y_nK, y_nZ, y_nL, y_nR, y_k1i, y_k1r, y_k1l, y_k1n, y_tl, y_tn, y_s, y_ss, List.getElem?_cons_zero, List.getElem?_cons_succ, List.set_cons_zero, List.set_cons_succ, List.length_cons, List.length_nil, true_and, and_true]
      refine s_goOn hM hB hE.1 hE.2.1 (fun g1 va1 hM1 hv1 hf1 => ?_)
      generalize tkE tb tl a = a1 at *
      have hE1 := tkE_b (tb := tb) hE.2.1
      have hP1 := tkP_b (tb := tb) hE.2.1
      have ht1 := tkT_le (tb := tb) (len := tl) (a := a1)
      have hV1 := tkV_b (tb := tb) (len := tl) (a := a1)
      have hr1 : rof g1 rr := by obtain ⟨q, q1, q2⟩ := hr; exact ⟨q, by rw [hf1.2 _ (by omega)]; exact q1, q2⟩
      have bad1 : ¬ (tkT tb tl a1 = 2 ∧ tkV tb tl a1 < n) → wp 218 b 94 [.ref 73, .int (nI row), .null] [] g1 Q := by
        intro h
        simp only [if_neg h] at hbad
        simp only [q_X11_readsNext_94, q_X11_readsNext_95, y_is, y_gf, y_pf, y_f0, y_f1, y_f3, y_nI, y_nK, y_nZ, y_nL, y_nR, y_k1i, y_k1r, y_k1l, y_k1n, y_tl, y_tn, y_s, y_ss, List.getElem?_cons_zero, List.getElem?_cons_succ, List.set_cons_zero, List.set_cons_succ, List.length_cons, List.length_nil, true_and, and_true]
        obtain ⟨q, h85, -⟩ := hr1
        exact ⟨by decide, hbad _ rfl g1 _ _ _ hM1 ⟨q, h85⟩ (fun k k1 _ => hf1.2 k (by omega)) hf1.1⟩
      simp (disch := omega) only [q_X11_readsNext_75, q_X11_readsNext_76, q_X11_readsNext_79, q_X11_readsNext_80, hM1, y_is, y_gf, y_pf, y_f0, y_f1, y_f3, y_nI, y_nK, y_nZ, y_nL, y_nR, y_k1i, y_k1r, y_k1l, y_k1n, y_tl, y_tn, y_s, y_ss, List.getElem?_cons_zero, List.getElem?_cons_succ, List.set_cons_zero, List.set_cons_succ, List.length_cons, List.length_nil, true_and, and_true, lit, eq_n]
      by_cases c1 : tkT tb tl a1 = 2
      · rw [bnt c1]
        have e := hv1 c1
        subst e
        simp (disch := omega) only [q_X11_readsNext_83, q_X11_readsNext_84, q_X11_readsNext_87, q_X11_readsNext_88, q_X11_readsNext_91, hM1, y_is, y_gf, y_pf, y_f0, y_f1, y_f3, y_nI, y_nK, y_nZ, y_nL, y_nR, y_k1i, y_k1r, y_k1l, y_k1n, y_tl, y_tn, y_s, y_ss, List.getElem?_cons_zero, List.getElem?_cons_succ, List.set_cons_zero, List.set_cons_succ, List.length_cons, List.length_nil, true_and, and_true, lt_n]
        refine brs (fun z => ?_) (fun z => bad1 (fun y => z y.2))
        simp only [if_pos (show tkT tb tl a1 = 2 ∧ tkV tb tl a1 < n from ⟨c1, z⟩), pit3] at hbad hok
        simp (disch := omega) only [q_X11_readsNext_96, q_X11_readsNext_97, q_X11_readsNext_100, q_X11_readsNext_101, q_X11_readsNext_102, hM1, y_is, y_gf, y_pf, y_f0, y_f1, y_f3, y_nI, y_nK, y_nZ, y_nL, y_nR, y_k1i, y_k1r, y_k1l, y_k1n, y_tl, y_tn, y_s, y_ss, List.getElem?_cons_zero, List.getElem?_cons_succ, List.set_cons_zero, List.set_cons_succ, List.length_cons, List.length_nil, true_and, and_true]
        refine s_goOn hM1 (hB.frm (hf1.2 _ (by omega))) hE1.1 hE1.2.1 (fun g2 va2 hM2 hv2 hf2 => ?_)
        have hE1b := hE1.2.2 (by omega)
        generalize tkE tb tl a1 = a2 at *
        generalize tkV tb tl a1 = p at *
        have hE2 := tkE_b (tb := tb) hE1.2.1
        have hP2 := tkP_b (tb := tb) hE1.2.1
        have ht2 := tkT_le (tb := tb) (len := tl) (a := a2)
        have hV2 := tkV_b (tb := tb) (len := tl) (a := a2)
        have hr2 : rof g2 rr := by obtain ⟨q, q1, q2⟩ := hr1; exact ⟨q, by rw [hf2.2 _ (by omega)]; exact q1, q2⟩
        have hf12 := hf1.tr hf2
        have bad2 : ¬ (tkT tb tl a2 = 2 ∧ tkV tb tl a2 ≤ mo row) → wp 218 b 127 [.ref 73, .int (nI row), .int (nI p)] [] g2 Q := by
          intro h
          simp only [if_neg h] at hbad
          simp only [q_X11_readsNext_127, q_X11_readsNext_128, y_is, y_gf, y_pf, y_f0, y_f1, y_f3, y_nI, y_nK, y_nZ, y_nL, y_nR, y_k1i, y_k1r, y_k1l, y_k1n, y_tl, y_tn, y_s, y_ss, List.getElem?_cons_zero, List.getElem?_cons_succ, List.set_cons_zero, List.set_cons_succ, List.length_cons, List.length_nil, true_and, and_true]
          obtain ⟨q, h85, -⟩ := hr2
          exact ⟨by decide, hbad _ rfl g2 _ _ _ hM2 ⟨q, h85⟩ (fun k k1 _ => hf12.2 k (by omega)) hf12.1⟩
        simp (disch := omega) only [q_X11_readsNext_105, q_X11_readsNext_106, q_X11_readsNext_109, q_X11_readsNext_110, hM2, y_is, y_gf, y_pf, y_f0, y_f1, y_f3, y_nI, y_nK, y_nZ, y_nL, y_nR, y_k1i, y_k1r, y_k1l, y_k1n, y_tl, y_tn, y_s, y_ss, List.getElem?_cons_zero, List.getElem?_cons_succ, List.set_cons_zero, List.set_cons_succ, List.length_cons, List.length_nil, true_and, and_true, lit, eq_n]
        by_cases c2 : tkT tb tl a2 = 2
        · rw [bnt c2]
          have e := hv2 c2
          subst e
          have good : tkV tb tl a2 ≤ mo row → wp 218 b 129 [.ref 73, .int (nI row), .int (nI p)] [] g2 Q := by
            intro hx
            simp only [if_pos (show tkT tb tl a2 = 2 ∧ tkV tb tl a2 ≤ mo row from ⟨c2, hx⟩), pit4] at hbad hok
            obtain ⟨q, h85, hq⟩ := hr2
            simp (disch := omega) only [q_X11_readsNext_129, q_X11_readsNext_130, q_X11_readsNext_133, q_X11_readsNext_135, q_X11_readsNext_136, q_X11_readsNext_137, q_X11_readsNext_138, q_X11_readsNext_139, q_X11_readsNext_140, q_X11_readsNext_143, q_X11_readsNext_144, q_X11_readsNext_145, hM2, h85, y_is, y_gf, y_pf, y_f0, y_f1, y_f3, y_nI, y_nK, y_nZ, y_nL, y_nR, y_k1i, y_k1r, y_k1l, y_k1n, y_tl, y_tn, y_s, y_ss, List.getElem?_cons_zero, List.getElem?_cons_succ, List.set_cons_zero, List.set_cons_succ, List.length_cons, List.length_nil, true_and, and_true, y_lIn, y_lKn, y_lZn, y_lLn, y_wIn, y_wZn, y_wLn, lit, le_n, lt_n, eq_n, lit, pk_mul, nI_add, y_ne]
            refine s_goOn (by rw [y_ne (by decide)]; exact hM2) ((hB.frm (hf12.2 _ (by omega))).frm (y_ne (by decide))) hE2.1 hE2.2.1 (fun g4 va4 hM4 hv4 hf4 => ?_)
            have hE2b := hE2.2.2 (by omega)
            generalize tkE tb tl a2 = a3 at *
            generalize tkV tb tl a2 = xx at *
            have hE3 := tkE_b (tb := tb) hE2.2.1
            have hP3 := tkP_b (tb := tb) hE2.2.1
            have ht3 := tkT_le (tb := tb) (len := tl) (a := a3)
            have hr4 : rof g4 (setR rr row p xx) := by
              refine ⟨upd q (9 * row + p) (nI xx), by rw [hf4.2 _ (by omega), y_s], fun i j hi hj => ?_⟩
              unfold setR
              by_cases e : i = row ∧ j = p
              · rw [if_pos e, e.1, e.2, u_s]
              · rw [if_neg e, u_n (by omega)]; exact hq i j hi hj
            have hfr : ∀ k, k ≠ 73 → k ≠ 85 → g4.2 k = g.2 k := fun k k1 k2 => by rw [hf4.2 k (by omega), y_ne k2]; exact hf12.2 k (by omega)
            have hg1 : g4.1 = g.1 := hf4.1.trans hf12.1
            simp (disch := omega) only [q_X11_readsNext_148, q_X11_readsNext_149, q_X11_readsNext_152, q_X11_readsNext_153, hM4, y_is, y_gf, y_pf, y_f0, y_f1, y_f3, y_nI, y_nK, y_nZ, y_nL, y_nR, y_k1i, y_k1r, y_k1l, y_k1n, y_tl, y_tn, y_s, y_ss, List.getElem?_cons_zero, List.getElem?_cons_succ, List.set_cons_zero, List.set_cons_succ, List.length_cons, List.length_nil, true_and, and_true, lit, eq_n]
            by_cases c3 : tkT tb tl a3 = 3
            · rw [bnt c3]
              simp only [if_pos c3] at hok
              simp only [q_X11_readsNext_156, q_X11_readsNext_157, q_X11_readsNext_161, y_is, y_gf, y_pf, y_f0, y_f1, y_f3, y_nI, y_nK, y_nZ, y_nL, y_nR, y_k1i, y_k1r, y_k1l, y_k1n, y_tl, y_tn, y_s, y_ss, List.getElem?_cons_zero, List.getElem?_cons_succ, List.set_cons_zero, List.set_cons_succ, List.length_cons, List.length_nil, true_and, and_true]
              have hE3b := hE3.2.2 (by omega)
              exact ⟨by decide, hok _ _ rfl g4 _ _ _ _ hE3.1 hM4 hr4 (by omega) hE3.2.1 hfr rfl hg1⟩
            · rw [bnf c3]
              simp only [if_neg c3] at hbad
              simp only [q_X11_readsNext_160, q_X11_readsNext_161, y_is, y_gf, y_pf, y_f0, y_f1, y_f3, y_nI, y_nK, y_nZ, y_nL, y_nR, y_k1i, y_k1r, y_k1l, y_k1n, y_tl, y_tn, y_s, y_ss, List.getElem?_cons_zero, List.getElem?_cons_succ, List.set_cons_zero, List.set_cons_succ, List.length_cons, List.length_nil, true_and, and_true]
              obtain ⟨q4, h85', -⟩ := hr4
              exact ⟨by decide, hbad _ rfl g4 _ _ _ hM4 ⟨q4, h85'⟩ hfr hg1⟩
          simp (disch := omega) only [q_X11_readsNext_113, q_X11_readsNext_114, q_X11_readsNext_115, y_is, y_gf, y_pf, y_f0, y_f1, y_f3, y_nI, y_nK, y_nZ, y_nL, y_nR, y_k1i, y_k1r, y_k1l, y_k1n, y_tl, y_tn, y_s, y_ss, List.getElem?_cons_zero, List.getElem?_cons_succ, List.set_cons_zero, List.set_cons_succ, List.length_cons, List.length_nil, true_and, and_true, lit, eq_n]
          by_cases r2 : row = 2
          · rw [bnt r2]
            have hmo : mo row = 12 := by unfold mo; rw [if_pos r2]
            simp (disch := omega) only [q_X11_readsNext_118, q_X11_readsNext_119, q_X11_readsNext_122, q_X11_readsNext_124, hM2, y_is, y_gf, y_pf, y_f0, y_f1, y_f3, y_nI, y_nK, y_nZ, y_nL, y_nR, y_k1i, y_k1r, y_k1l, y_k1n, y_tl, y_tn, y_s, y_ss, List.getElem?_cons_zero, List.getElem?_cons_succ, List.set_cons_zero, List.set_cons_succ, List.length_cons, List.length_nil, true_and, and_true, lit, le_n]
            exact brs (fun y => good (by omega)) (fun y => bad2 (fun u => by omega))
          · rw [bnf r2]
            have hmo : mo row = 99 := by unfold mo; rw [if_neg r2]
            exact good (by omega)
        · rw [bnf c2]
          exact bad2 (fun y => c2 y.1)
      · rw [bnf c1]
        exact bad1 (fun y => c1 y.1)
  simp (disch := omega) only [q_X11_readsNext_0, q_X11_readsNext_1, q_X11_readsNext_3, q_X11_readsNext_5, q_X11_readsNext_7, q_X11_readsNext_9, q_X11_readsNext_11, hM, y_is, y_gf, y_pf, y_f0, y_f1, y_f3, y_nI, y_nK, y_nZ, y_nL, y_nR, y_k1i, y_k1r, y_k1l, y_k1n, y_tl, y_tn, y_s, y_ss, List.getElem?_cons_zero, List.getElem?_cons_succ, List.set_cons_zero, List.set_cons_succ, List.length_cons, List.length_nil, true_and, and_true, lit]
  refine s_misWord (c0 := 119) (c1 := 111) (c2 := 114) (c3 := 116) (c4 := 104) hM hB hE.1 hE.2.1 ht (by decide) (by decide) (by decide) (by decide) (by decide) ?_
  rw [show wdL 119 111 114 116 104 = wWorth from rfl]
  unfold rowW at at63
  cases hw : isW tb (tkT tb tl a) (tkP tb tl a) (tkE tb tl a) wWorth with
  | true =>
    rw [hw] at at63
    simp only [if_true, q_X11_readsNext_14, y_is, y_gf, y_pf, y_f0, y_f1, y_f3, y_nI, y_nK, y_nZ, y_nL, y_nR, y_k1i, y_k1r, y_k1l, y_k1n, y_tl, y_tn, y_s, y_ss, List.getElem?_cons_zero, List.getElem?_cons_succ, List.set_cons_zero, List.set_cons_succ, List.length_cons, List.length_nil, true_and, and_true]
    refine br0 (by decide) ?_
    simp only [q_X11_readsNext_17, q_X11_readsNext_18, y_is, y_gf, y_pf, y_f0, y_f1, y_f3, y_nI, y_nK, y_nZ, y_nL, y_nR, y_k1i, y_k1r, y_k1l, y_k1n, y_tl, y_tn, y_s, y_ss, List.getElem?_cons_zero, List.getElem?_cons_succ, List.set_cons_zero, List.set_cons_succ, List.length_cons, List.length_nil, true_and, and_true]
    exact at63 (some 0) rfl
  | false =>
    rw [hw] at at63
    simp only [Bool.false_eq_true, if_false, q_X11_readsNext_14, y_is, y_gf, y_pf, y_f0, y_f1, y_f3, y_nI, y_nK, y_nZ, y_nL, y_nR, y_k1i, y_k1r, y_k1l, y_k1n, y_tl, y_tn, y_s, y_ss, List.getElem?_cons_zero, List.getElem?_cons_succ, List.set_cons_zero, List.set_cons_succ, List.length_cons, List.length_nil, true_and, and_true] at at63 ⊢
    refine br1 (by first | decide | omega | trivial | simp) ?_
    simp (disch := omega) only [q_X11_readsNext_21, q_X11_readsNext_22, q_X11_readsNext_24, q_X11_readsNext_26, q_X11_readsNext_28, q_X11_readsNext_30, q_X11_readsNext_32, hM, y_is, y_gf, y_pf, y_f0, y_f1, y_f3, y_nI, y_nK, y_nZ, y_nL, y_nR, y_k1i, y_k1r, y_k1l, y_k1n, y_tl, y_tn, y_s, y_ss, List.getElem?_cons_zero, List.getElem?_cons_succ, List.set_cons_zero, List.set_cons_succ, List.length_cons, List.length_nil, true_and, and_true, lit]
    refine s_misWord (c0 := 115) (c1 := 104) (c2 := 97) (c3 := 114) (c4 := 101) hM hB hE.1 hE.2.1 ht (by decide) (by decide) (by decide) (by decide) (by decide) ?_
    rw [show wdL 115 104 97 114 101 = wShare from rfl]
    cases hw2 : isW tb (tkT tb tl a) (tkP tb tl a) (tkE tb tl a) wShare with
    | true =>
      rw [hw2] at at63
      simp only [if_true, q_X11_readsNext_35, y_is, y_gf, y_pf, y_f0, y_f1, y_f3, y_nI, y_nK, y_nZ, y_nL, y_nR, y_k1i, y_k1r, y_k1l, y_k1n, y_tl, y_tn, y_s, y_ss, List.getElem?_cons_zero, List.getElem?_cons_succ, List.set_cons_zero, List.set_cons_succ, List.length_cons, List.length_nil, true_and, and_true] at at63 ⊢
      refine br0 (by decide) ?_
      simp only [q_X11_readsNext_38, q_X11_readsNext_39, y_is, y_gf, y_pf, y_f0, y_f1, y_f3, y_nI, y_nK, y_nZ, y_nL, y_nR, y_k1i, y_k1r, y_k1l, y_k1n, y_tl, y_tn, y_s, y_ss, List.getElem?_cons_zero, List.getElem?_cons_succ, List.set_cons_zero, List.set_cons_succ, List.length_cons, List.length_nil, true_and, and_true]
      exact at63 (some 1) rfl
    | false =>
      rw [hw2] at at63
      simp only [Bool.false_eq_true, if_false, q_X11_readsNext_35, y_is, y_gf, y_pf, y_f0, y_f1, y_f3, y_nI, y_nK, y_nZ, y_nL, y_nR, y_k1i, y_k1r, y_k1l, y_k1n, y_tl, y_tn, y_s, y_ss, List.getElem?_cons_zero, List.getElem?_cons_succ, List.set_cons_zero, List.set_cons_succ, List.length_cons, List.length_nil, true_and, and_true] at at63 ⊢
      refine br1 (by first | decide | omega | trivial | simp) ?_
      simp (disch := omega) only [q_X11_readsNext_42, q_X11_readsNext_43, q_X11_readsNext_45, q_X11_readsNext_47, q_X11_readsNext_49, q_X11_readsNext_51, q_X11_readsNext_52, hM, y_is, y_gf, y_pf, y_f0, y_f1, y_f3, y_nI, y_nK, y_nZ, y_nL, y_nR, y_k1i, y_k1r, y_k1l, y_k1n, y_tl, y_tn, y_s, y_ss, List.getElem?_cons_zero, List.getElem?_cons_succ, List.set_cons_zero, List.set_cons_succ, List.length_cons, List.length_nil, true_and, and_true, lit]
      refine s_misWord (c0 := 110) (c1 := 101) (c2 := 101) (c3 := 100) (c4 := 0) hM hB hE.1 hE.2.1 ht (by decide) (by decide) (by decide) (by decide) (by decide) ?_
      rw [show wdL 110 101 101 100 0 = wNeed from rfl]
      cases hw3 : isW tb (tkT tb tl a) (tkP tb tl a) (tkE tb tl a) wNeed with
      | true =>
        rw [hw3] at at63
        simp only [if_true, q_X11_readsNext_55, y_is, y_gf, y_pf, y_f0, y_f1, y_f3, y_nI, y_nK, y_nZ, y_nL, y_nR, y_k1i, y_k1r, y_k1l, y_k1n, y_tl, y_tn, y_s, y_ss, List.getElem?_cons_zero, List.getElem?_cons_succ, List.set_cons_zero, List.set_cons_succ, List.length_cons, List.length_nil, true_and, and_true] at at63 ⊢
        refine br0 (by decide) ?_
        simp only [q_X11_readsNext_58, q_X11_readsNext_59, y_is, y_gf, y_pf, y_f0, y_f1, y_f3, y_nI, y_nK, y_nZ, y_nL, y_nR, y_k1i, y_k1r, y_k1l, y_k1n, y_tl, y_tn, y_s, y_ss, List.getElem?_cons_zero, List.getElem?_cons_succ, List.set_cons_zero, List.set_cons_succ, List.length_cons, List.length_nil, true_and, and_true]
        exact at63 (some 2) rfl
      | false =>
        rw [hw3] at at63
        simp only [Bool.false_eq_true, if_false, q_X11_readsNext_55, y_is, y_gf, y_pf, y_f0, y_f1, y_f3, y_nI, y_nK, y_nZ, y_nL, y_nR, y_k1i, y_k1r, y_k1l, y_k1n, y_tl, y_tn, y_s, y_ss, List.getElem?_cons_zero, List.getElem?_cons_succ, List.set_cons_zero, List.set_cons_succ, List.length_cons, List.length_nil, true_and, and_true] at at63 ⊢
        refine br1 (by first | decide | omega | trivial | simp) ?_
        simp only [q_X11_readsNext_62, y_is, y_gf, y_pf, y_f0, y_f1, y_f3, y_nI, y_nK, y_nZ, y_nL, y_nR, y_k1i, y_k1r, y_k1l, y_k1n, y_tl, y_tn, y_s, y_ss, List.getElem?_cons_zero, List.getElem?_cons_succ, List.set_cons_zero, List.set_cons_succ, List.length_cons, List.length_nil, true_and, and_true]
        exact at63 none rfl
end MREAD2
