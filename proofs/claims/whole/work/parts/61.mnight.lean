/-! ===== the reference: nights ===== -/
theorem or_same {s p : Nat} (h : bitN s p = 1) : s ||| 2 ^ p = s := by
  apply Nat.eq_of_testBit_eq
  intro i
  rw [Nat.testBit_or, Nat.testBit_two_pow]
  by_cases e : p = i
  · subst e
    rw [bitN_t] at h
    cases hb : s.testBit p with
    | true => simp
    | false => rw [hb] at h; simp at h
  · simp [e]
theorem tI_inj {s t : Nat} (hs : s < 1000) (ht : t < 1000) : (tI s = tI t) = (s = t) := by
  by_cases h : t = 0
  · subst h
    unfold tI
    rw [if_pos rfl]
    by_cases h2 : s = 0
    · rw [if_pos h2]; exact propext ⟨fun _ => h2, fun _ => rfl⟩
    · rw [if_neg h2]
      exact propext ⟨fun e => absurd e (fun z => (m1_ne (by omega)).mp z), fun e => absurd e h2⟩
  · rw [tI_nn h, tI_eq hs (by omega)]
    exact propext ⟨fun e => by omega, fun e => by omega⟩
theorem tI_m1 {t : Nat} (ht : t < 1000) : (tI t = -(nI 1)) = (t = 0) := by
  have := tI_inj (s := t) (t := 0) ht (by decide)
  exact this
section MNIGHT
variable {b : mzB} {Q : mzQ} {g : mzG} {x : Nat → Int32} {r : Int64} {f : Nat → Int32} {W : Nat → Nat}
theorem s_mnsl_in {n hour str idle slept next p rem E : Nat} {x1 F11 : Int64} (hM : g.2 73 = ob 9 [.ref 74, .ref 75, .ref 76, .ref 77, .ref 78, .ref 79, .int (x 0), .int (x 1), .int (x 2), .ref 80, .int (x 3), .ref 81, .int (x 4), .ref 82, .long (r), .ref 83, .ref 84, .int (x 5), .int (x 6), .int (x 7), .int (x 8), .int (x 9), .ref 85, .int (x 10)]) (h74 : g.2 74 = aI 141 f) (hW : nwf f W) (hv : wv W) (hn : n ≤ 9) (hsl : slept < 512) (hE0 : 0 < E) (hE : E ≤ 35184372088832) (hrem : rem < E) (hQ : wp 197 b 220 [.ref 73, .long x1, .null, .int (nI hour), .int (nI str), .int (nI idle), .long (lN rem), .null, .int (nI slept), .int (nI next), .int (nI p), .long F11, .null, .long (lN E), .null] [] g Q) : ∀ (d i q : Nat), i + d = n → q ≤ 20 → wsl (neW W) slept d i q = some p → wp 197 b 148 [.ref 73, .long x1, .null, .int (nI hour), .int (nI str), .int (nI idle), .long (lN (q * E + rem)), .null, .int (nI slept), .int (nI next), .int (nI i), .long F11, .null, .long (lN E), .null] [] g Q := by
  intro d
  induction d with
  | zero => intro i q hi hq hw; simp [wsl] at hw
  | succ d ih =>
    intro i q hi hq hw
    rw [wsl] at hw
    have e := hW (19 + i) (by omega)
    rw [wI_n (by omega)] at e
    have hb12 := (hv.2.1 i (by omega)).2.2.1
    have hb := bit_lt slept i
    have hqE : q * E ≤ 20 * 35184372088832 := Nat.mul_le_mul hq hE
    have hwai : wai (neW W) slept i ↔ (0 < W (19 + i) ∧ bitN slept i = 0) := Iff.rfl
    -- one step on, nothing taken
    have on0 : ¬ wai (neW W) slept i → wp 197 b 180 [.ref 73, .long x1, .null, .int (nI hour), .int (nI str), .int (nI idle), .long (lN (q * E + rem)), .null, .int (nI slept), .int (nI next), .int (nI i), .long F11, .null, .long (lN E), .null] [] g Q := by
      intro hno
      rw [if_neg hno] at hw
      have ihn := ih (i + 1) q (by omega) hq hw
      have fin : wp 197 b 210 [.ref 73, .long x1, .null, .int (nI hour), .int (nI str), .int (nI idle), .long (lN (q * E + rem)), .null, .int (nI slept), .int (nI next), .int (nI i), .long F11, .null, .long (lN E), .null] [.long (lN (q * E + rem))] g Q := by
        simp (disch := omega) only [q_X11_night_210, q_X11_night_211, q_X11_night_212, q_X11_night_214, q_X11_night_217, y_is, y_gf, y_pf, y_f0, y_f1, y_f3, y_nI, y_nK, y_nZ, y_nL, y_nR, y_k1i, y_k1r, y_k1l, y_k1n, y_tl, y_tn, y_s, y_ss, List.getElem?_cons_zero, List.getElem?_cons_succ, List.set_cons_zero, List.set_cons_succ, List.length_cons, List.length_nil, true_and, and_true, lit, litL, l_sub, Nat.sub_zero, nI_add]
        exact ihn
      simp (disch := omega) only [q_X11_night_180, q_X11_night_182, q_X11_night_183, q_X11_night_186, q_X11_night_188, q_X11_night_190, q_X11_night_191, q_X11_night_192, hM, h74, e, y_is, y_gf, y_pf, y_f0, y_f1, y_f3, y_nI, y_nK, y_nZ, y_nL, y_nR, y_k1i, y_k1r, y_k1l, y_k1n, y_tl, y_tn, y_s, y_ss, List.getElem?_cons_zero, List.getElem?_cons_succ, List.set_cons_zero, List.set_cons_succ, List.length_cons, List.length_nil, true_and, and_true, y_lIn, y_lKn, y_lZn, y_lLn, y_wIn, y_wZn, y_wLn, lit, le_n, lt_n, eq_n, lit, nI_add]
      refine brs (fun _ => fin) (fun z => ?_)
      simp (disch := omega) only [q_X11_night_195, q_X11_night_197, q_X11_night_199, q_X11_night_200, q_X11_night_201, q_X11_night_202, y_is, y_gf, y_pf, y_f0, y_f1, y_f3, y_nI, y_nK, y_nZ, y_nL, y_nR, y_k1i, y_k1r, y_k1l, y_k1n, y_tl, y_tn, y_s, y_ss, List.getElem?_cons_zero, List.getElem?_cons_succ, List.set_cons_zero, List.set_cons_succ, List.length_cons, List.length_nil, true_and, and_true, lit, i_bit, eq_n]
      by_cases y : bitN slept i = 0
      · exact absurd (hwai.mpr ⟨by omega, y⟩) hno
      · rw [bnf y]; exact fin
    rw [q_X11_night_148]
    simp (disch := omega) only [q_X11_night_149, q_X11_night_152, q_X11_night_154, q_X11_night_156, q_X11_night_157, q_X11_night_158, hM, h74, e, y_is, y_gf, y_pf, y_f0, y_f1, y_f3, y_nI, y_nK, y_nZ, y_nL, y_nR, y_k1i, y_k1r, y_k1l, y_k1n, y_tl, y_tn, y_s, y_ss, List.getElem?_cons_zero, List.getElem?_cons_succ, List.set_cons_zero, List.set_cons_succ, List.length_cons, List.length_nil, true_and, and_true, y_lIn, y_lKn, y_lZn, y_lLn, y_wIn, y_wZn, y_wLn, lit, le_n, lt_n, eq_n, lit, nI_add]
    refine brs (fun z => on0 (fun h => by have := (hwai.mp h).1; omega)) (fun z => ?_)
    simp (disch := omega) only [q_X11_night_161, q_X11_night_163, q_X11_night_165, q_X11_night_166, q_X11_night_167, q_X11_night_168, q_X11_night_169, y_is, y_gf, y_pf, y_f0, y_f1, y_f3, y_nI, y_nK, y_nZ, y_nL, y_nR, y_k1i, y_k1r, y_k1l, y_k1n, y_tl, y_tn, y_s, y_ss, List.getElem?_cons_zero, List.getElem?_cons_succ, List.set_cons_zero, List.set_cons_succ, List.length_cons, List.length_nil, true_and, and_true, lit, i_bit, eq_n]
    refine brs (fun y => on0 (fun h => by have := (hwai.mp h).2; omega)) (fun y => ?_)
    have hwa : wai (neW W) slept i := hwai.mpr ⟨by omega, by omega⟩
    rw [if_pos hwa] at hw
    simp (disch := omega) only [q_X11_night_172, q_X11_night_174, q_X11_night_176, q_X11_night_177, y_is, y_gf, y_pf, y_f0, y_f1, y_f3, y_nI, y_nK, y_nZ, y_nL, y_nR, y_k1i, y_k1r, y_k1l, y_k1n, y_tl, y_tn, y_s, y_ss, List.getElem?_cons_zero, List.getElem?_cons_succ, List.set_cons_zero, List.set_cons_succ, List.length_cons, List.length_nil, true_and, and_true, lit, lc_lt]
    by_cases q0 : q = 0
    · rw [if_pos q0] at hw
      have := Option.some.inj hw
      subst this
      subst q0
      rw [Nat.zero_mul, Nat.zero_add]
      exact br1 hrem hQ
    · rw [if_neg q0] at hw
      obtain ⟨q', rfl⟩ : ∃ q', q = q' + 1 := ⟨q - 1, by omega⟩
      rw [Nat.add_sub_cancel] at hw
      have hm : (q' + 1) * E = q' * E + E := by rw [Nat.add_mul, Nat.one_mul]
      refine br0 (by omega) ?_
      simp (disch := omega) only [q_X11_night_180, q_X11_night_182, q_X11_night_183, q_X11_night_186, q_X11_night_188, q_X11_night_190, q_X11_night_191, q_X11_night_192, hM, h74, e, y_is, y_gf, y_pf, y_f0, y_f1, y_f3, y_nI, y_nK, y_nZ, y_nL, y_nR, y_k1i, y_k1r, y_k1l, y_k1n, y_tl, y_tn, y_s, y_ss, List.getElem?_cons_zero, List.getElem?_cons_succ, List.set_cons_zero, List.set_cons_succ, List.length_cons, List.length_nil, true_and, and_true, y_lIn, y_lKn, y_lZn, y_lLn, y_wIn, y_wZn, y_wLn, lit, le_n, lt_n, eq_n, lit, nI_add]
      refine br0 (by omega) ?_
      simp (disch := omega) only [q_X11_night_195, q_X11_night_197, q_X11_night_199, q_X11_night_200, q_X11_night_201, q_X11_night_202, y_is, y_gf, y_pf, y_f0, y_f1, y_f3, y_nI, y_nK, y_nZ, y_nL, y_nR, y_k1i, y_k1r, y_k1l, y_k1n, y_tl, y_tn, y_s, y_ss, List.getElem?_cons_zero, List.getElem?_cons_succ, List.set_cons_zero, List.set_cons_succ, List.length_cons, List.length_nil, true_and, and_true, lit, i_bit, eq_n]
      rw [bnt (show bitN slept i = 0 by omega)]
      simp (disch := omega) only [q_X11_night_205, q_X11_night_207, q_X11_night_211, q_X11_night_212, q_X11_night_214, q_X11_night_217, y_is, y_gf, y_pf, y_f0, y_f1, y_f3, y_nI, y_nK, y_nZ, y_nL, y_nR, y_k1i, y_k1r, y_k1l, y_k1n, y_tl, y_tn, y_s, y_ss, List.getElem?_cons_zero, List.getElem?_cons_succ, List.set_cons_zero, List.set_cons_succ, List.length_cons, List.length_nil, true_and, and_true, lit, l_sub, nI_add]
      rw [show (q' + 1) * E + rem - E = q' * E + rem by omega]
      exact ih (i + 1) q' (by omega) (by omega) hw
theorem s_mnsl {n hour : Nat} {x1 : Int64} (hM : g.2 73 = ob 9 [.ref 74, .ref 75, .ref 76, .ref 77, .ref 78, .ref 79, .int (x 0), .int (x 1), .int (x 2), .ref 80, .int (x 3), .ref 81, .int (x 4), .ref 82, .long (r), .ref 83, .ref 84, .int (x 5), .int (x 6), .int (x 7), .int (x 8), .int (x 9), .ref 85, .int (x 10)]) (h74 : g.2 74 = aI 141 f) (hW : nwf f W) (hv : wv W) (hn : n ≤ 9) (hh : hour < 12) (R : Int32) (hQ : Q (some (.int R)) g) : ∀ (d idle str slept left next : Nat) (who : Option Nat) (x11 x12 x13 x14 : Value), 12 ≤ next + d → ninv (neW W) n idle str slept left next → oI (nrun (neW W) n hour d idle str slept left next who) = R → wp 197 b 81 [.ref 73, .long x1, .null, .int (nI hour), .int (nI str), .int (nI idle), .long (lN left), .null, .int (nI slept), .int (nI next), .int (oI who), x11, x12, x13, x14] [] g Q := by
  intro d
  induction d with
  | zero =>
    intro idle str slept left next who x11 x12 x13 x14 hd hi hR
    rw [nrun] at hR
    subst hR
    obtain ⟨i1, i2, i3, i4⟩ := id hi
    rw [q_X11_night_81]
    simp (disch := omega) only [q_X11_night_83, q_X11_night_84, q_X11_night_250, q_X11_night_252, y_is, y_gf, y_pf, y_f0, y_f1, y_f3, y_nI, y_nK, y_nZ, y_nL, y_nR, y_k1i, y_k1r, y_k1l, y_k1n, y_tl, y_tn, y_s, y_ss, List.getElem?_cons_zero, List.getElem?_cons_succ, List.set_cons_zero, List.set_cons_succ, List.length_cons, List.length_nil, true_and, and_true, y_lIn, y_lKn, y_lZn, y_lLn, y_wIn, y_wZn, y_wLn, lit, le_n, lt_n, eq_n, lit, litL, le_n, lt_n, eq_n, nI_add, m_neg, pk_sub, pk_mul, i_l, l_i, l_add, l_mul, l_sub, lc_le, lc_ge, lc_lt, lc_gt, lc_eq, l_rem2, l_rem3, i_rem2, i_rem3]
    exact br1 (by omega) hQ
  | succ d ih =>
    intro idle str slept left next who x11 x12 x13 x14 hd hi hR
    rw [nrun] at hR
    obtain ⟨i1, i2, i3, i4⟩ := id hi
    have hsl := wcd_le (ne := neW W) (s := slept) n 0
    have hb1 := wys_b (idle := idle) (s := str) (by omega) (by omega)
    rw [q_X11_night_81]
    simp (disch := omega) only [q_X11_night_83, q_X11_night_84, y_is, y_gf, y_pf, y_f0, y_f1, y_f3, y_nI, y_nK, y_nZ, y_nL, y_nR, y_k1i, y_k1r, y_k1l, y_k1n, y_tl, y_tn, y_s, y_ss, List.getElem?_cons_zero, List.getElem?_cons_succ, List.set_cons_zero, List.set_cons_succ, List.length_cons, List.length_nil, true_and, and_true, y_lIn, y_lKn, y_lZn, y_lLn, y_wIn, y_wZn, y_wLn, lit, le_n, lt_n, eq_n, lit, litL, le_n, lt_n, eq_n, nI_add, m_neg, pk_sub, pk_mul, i_l, l_i, l_add, l_mul, l_sub, lc_le, lc_ge, lc_lt, lc_gt, lc_eq, l_rem2, l_rem3, i_rem2, i_rem3]
    refine brs (fun c => ?_) (fun c => ?_)
    · rw [if_pos c] at hR
      subst hR
      simp only [q_X11_night_250, q_X11_night_252, y_is, y_gf, y_pf, y_f0, y_f1, y_f3, y_nI, y_nK, y_nZ, y_nL, y_nR, y_k1i, y_k1r, y_k1l, y_k1n, y_tl, y_tn, y_s, y_ss, List.getElem?_cons_zero, List.getElem?_cons_succ, List.set_cons_zero, List.set_cons_succ, List.length_cons, List.length_nil, true_and, and_true]
      exact hQ
    · rw [if_neg c] at hR
      have hnb : nob idle str ≤ 35184372088832 := by
        unfold nob
        split
        · exact wys_b (by omega) (by omega)
        · omega
      have key : ∀ (x11 x12 x13 x14 : Value), wp 197 b 108 [.ref 73, .long x1, .null, .int (nI hour), .int (nI str), .int (nI idle), .long (lN left), .null, .int (nI slept), .int (nI next), .int (-1), x11, x12, x13, x14] [.long (lN (nob idle str))] g Q := by
        intro x11 x12 x13 x14
        by_cases hl : left < nob idle str
        · rw [if_pos hl] at hR
          obtain ⟨j1, j2⟩ := nstep1 hi hl
          simp (disch := omega) only [q_X11_night_108, q_X11_night_110, q_X11_night_112, q_X11_night_114, q_X11_night_115, y_is, y_gf, y_pf, y_f0, y_f1, y_f3, y_nI, y_nK, y_nZ, y_nL, y_nR, y_k1i, y_k1r, y_k1l, y_k1n, y_tl, y_tn, y_s, y_ss, List.getElem?_cons_zero, List.getElem?_cons_succ, List.set_cons_zero, List.set_cons_succ, List.length_cons, List.length_nil, true_and, and_true, lit, litL, lc_ge]
          refine br0 (by omega) ?_
          simp (disch := omega) only [q_X11_night_118, q_X11_night_121, q_X11_night_124, q_X11_night_247, y_is, y_gf, y_pf, y_f0, y_f1, y_f3, y_nI, y_nK, y_nZ, y_nL, y_nR, y_k1i, y_k1r, y_k1l, y_k1n, y_tl, y_tn, y_s, y_ss, List.getElem?_cons_zero, List.getElem?_cons_succ, List.set_cons_zero, List.set_cons_succ, List.length_cons, List.length_nil, true_and, and_true, lit, m_neg, pk_sub, nI_add]
          exact ih (idle - 1) str slept left (next + 1) none _ _ _ _ (by omega) j2 hR
        · rw [if_neg hl] at hR
          obtain ⟨j1, j2, p, j3, j4, j5, j6⟩ := nstep2 hn (by omega) hi hl
          rw [j3] at hR
          simp (disch := omega) only [q_X11_night_108, q_X11_night_110, q_X11_night_112, q_X11_night_114, q_X11_night_115, y_is, y_gf, y_pf, y_f0, y_f1, y_f3, y_nI, y_nK, y_nZ, y_nL, y_nR, y_k1i, y_k1r, y_k1l, y_k1n, y_tl, y_tn, y_s, y_ss, List.getElem?_cons_zero, List.getElem?_cons_succ, List.set_cons_zero, List.set_cons_succ, List.length_cons, List.length_nil, true_and, and_true, lit, litL, lc_ge]
          refine br1 (by omega) ?_
          simp (disch := omega) only [q_X11_night_127, q_X11_night_129, q_X11_night_131, q_X11_night_132, q_X11_night_134, q_X11_night_135, q_X11_night_137, q_X11_night_139, q_X11_night_140, q_X11_night_141, q_X11_night_143, y_is, y_gf, y_pf, y_f0, y_f1, y_f3, y_nI, y_nK, y_nZ, y_nL, y_nR, y_k1i, y_k1r, y_k1l, y_k1n, y_tl, y_tn, y_s, y_ss, List.getElem?_cons_zero, List.getElem?_cons_succ, List.set_cons_zero, List.set_cons_succ, List.length_cons, List.length_nil, true_and, and_true, lit, l_sub, pk_sub]
          refine s_mways (by omega) (by omega) ?_
          have e1 := wys_pos idle (str - 1)
          have e2 := wys_b (idle := idle) (s := str - 1) (by omega) (by omega)
          have hq : (left - nob idle str) / wys idle (str - 1) ≤ 20 := by
            have h1 := wys_rec idle (str - 1)
            rw [show str - 1 + 1 = str by omega] at h1
            have h2 : left - nob idle str < str * wys idle (str - 1) := by
              have : wys idle str = nob idle str + str * wys idle (str - 1) := h1
              omega
            have := (Nat.div_lt_iff_lt_mul e1).mpr h2
            omega
          generalize hE : wys idle (str - 1) = E at e1 e2 j3 j6 hR hq ⊢
          have hdm : (left - nob idle str) / E * E + (left - nob idle str) % E = left - nob idle str := Nat.div_add_mod' _ _
          simp (disch := omega) only [q_X11_night_146, y_is, y_gf, y_pf, y_f0, y_f1, y_f3, y_nI, y_nK, y_nZ, y_nL, y_nR, y_k1i, y_k1r, y_k1l, y_k1n, y_tl, y_tn, y_s, y_ss, List.getElem?_cons_zero, List.getElem?_cons_succ, List.set_cons_zero, List.set_cons_succ, List.length_cons, List.length_nil, true_and, and_true]
          rw [← hdm]
          refine s_mnsl_in hM h74 hW hv hn i4 e1 e2 (Nat.mod_lt _ e1) ?_ n 0 _ (by omega) hq j3
          have ep := hW (19 + p) (by omega)
          rw [wI_n (by omega)] at ep
          simp (disch := omega) only [q_X11_night_220, q_X11_night_222, q_X11_night_223, q_X11_night_225, q_X11_night_226, q_X11_night_227, q_X11_night_229, q_X11_night_232, q_X11_night_234, q_X11_night_235, q_X11_night_238, q_X11_night_240, q_X11_night_242, q_X11_night_243, q_X11_night_244, q_X11_night_245, q_X11_night_247, hM, h74, ep, y_is, y_gf, y_pf, y_f0, y_f1, y_f3, y_nI, y_nK, y_nZ, y_nL, y_nR, y_k1i, y_k1r, y_k1l, y_k1n, y_tl, y_tn, y_s, y_ss, List.getElem?_cons_zero, List.getElem?_cons_succ, List.set_cons_zero, List.set_cons_succ, List.length_cons, List.length_nil, true_and, and_true, y_lIn, y_lKn, y_lZn, y_lLn, y_wIn, y_wZn, y_wLn, lit, le_n, lt_n, eq_n, lit, i_or, m_neg, pk_sub, nI_add]
          refine ih idle (str - 1) (slept ||| 2 ^ p) ((left - nob idle str) % E) (next + neW W p) (some p) _ _ _ _ ?_ j6 hR
          have := j5.1
          omega
      simp (disch := omega) only [q_X11_night_87, q_X11_night_88, q_X11_night_90, q_X11_night_92, y_is, y_gf, y_pf, y_f0, y_f1, y_f3, y_nI, y_nK, y_nZ, y_nL, y_nR, y_k1i, y_k1r, y_k1l, y_k1n, y_tl, y_tn, y_s, y_ss, List.getElem?_cons_zero, List.getElem?_cons_succ, List.set_cons_zero, List.set_cons_succ, List.length_cons, List.length_nil, true_and, and_true, lit, le_n]
      refine brs (fun z => ?_) (fun z => ?_)
      · simp (disch := omega) only [q_X11_night_107, y_is, y_gf, y_pf, y_f0, y_f1, y_f3, y_nI, y_nK, y_nZ, y_nL, y_nR, y_k1i, y_k1r, y_k1l, y_k1n, y_tl, y_tn, y_s, y_ss, List.getElem?_cons_zero, List.getElem?_cons_succ, List.set_cons_zero, List.set_cons_succ, List.length_cons, List.length_nil, true_and, and_true, litL]
        have key := key x11 x12 x13 x14
        rw [show nob idle str = 0 by unfold nob; rw [if_neg (by omega)]] at key
        exact key
      · simp (disch := omega) only [q_X11_night_95, q_X11_night_97, q_X11_night_99, q_X11_night_100, q_X11_night_101, y_is, y_gf, y_pf, y_f0, y_f1, y_f3, y_nI, y_nK, y_nZ, y_nL, y_nR, y_k1i, y_k1r, y_k1l, y_k1n, y_tl, y_tn, y_s, y_ss, List.getElem?_cons_zero, List.getElem?_cons_succ, List.set_cons_zero, List.set_cons_succ, List.length_cons, List.length_nil, true_and, and_true, lit, pk_sub]
        refine s_mways (by omega) (by omega) ?_
        simp (disch := omega) only [q_X11_night_104, y_is, y_gf, y_pf, y_f0, y_f1, y_f3, y_nI, y_nK, y_nZ, y_nL, y_nR, y_k1i, y_k1r, y_k1l, y_k1n, y_tl, y_tn, y_s, y_ss, List.getElem?_cons_zero, List.getElem?_cons_succ, List.set_cons_zero, List.set_cons_succ, List.length_cons, List.length_nil, true_and, and_true]
        have key := key x11 x12 x13 x14
        rw [show nob idle str = wys (idle - 1) str by unfold nob; rw [if_pos (by omega)]] at key
        exact key
theorem s_mjudge (hM : g.2 73 = ob 9 [.ref 74, .ref 75, .ref 76, .ref 77, .ref 78, .ref 79, .int (x 0), .int (x 1), .int (x 2), .ref 80, .int (x 3), .ref 81, .int (x 4), .ref 82, .long (r), .ref 83, .ref 84, .int (x 5), .int (x 6), .int (x 7), .int (x 8), .int (x 9), .ref 85, .int (x 10)]) (h74 : g.2 74 = aI 141 f) (hW : nwf f W) (hv : wv W) (hQ : Q (some (.int (jrun (neW W) (toW W) (W 87) 0 (nI 12 - nI (sm (neW W) (W 0))) 0 0 0))) g) : wp 200 b 0 [.ref 73, .null, .null, .null, .null, .null, .null] [] g Q := by
  obtain ⟨⟨n1, n9⟩, hpp, -, hkk, ⟨h87, -⟩, -⟩ := id hv
  have e87 := hW 87 (by omega)
  rw [wI_n (by omega)] at e87
  generalize hm : W 87 = m at *
  have loop : ∀ (R : Int32), Q (some (.int R)) g → ∀ (d k : Nat) (idle : Int32) (slept sl more lt hours : Nat) (x6 : Value), k + d = m → slept < 512 → lt ≤ 9 → hours ≤ 100 + k → more ≤ 12 → (lt = 0 → more = 0) → (0 < lt → hours + more = neW W (lt - 1) ∧ 1 ≤ hours ∧ bitN slept (lt - 1) = 1 ∧ (0 < more → sl = lt - 1)) → jrun (neW W) (toW W) d k idle slept sl more = R → wp 200 b 18 [.ref 73, .int idle, .int (nI slept), .int (tI lt), .int (nI hours), .int (nI k), x6] [] g Q := by
    intro R hR d
    induction d with
    | zero =>
      intro k idle slept sl more lt hours x6 hk hsl hlt hho hmo hl0 hl1 hj
      rw [jrun] at hj
      subst hj
      rw [q_X11_judge_18]
      simp (disch := omega) only [q_X11_judge_20, q_X11_judge_21, q_X11_judge_24, q_X11_judge_26, q_X11_judge_27, q_X11_judge_155, q_X11_judge_156, hM, h74, e87, y_is, y_gf, y_pf, y_f0, y_f1, y_f3, y_nI, y_nK, y_nZ, y_nL, y_nR, y_k1i, y_k1r, y_k1l, y_k1n, y_tl, y_tn, y_s, y_ss, List.getElem?_cons_zero, List.getElem?_cons_succ, List.set_cons_zero, List.set_cons_succ, List.length_cons, List.length_nil, true_and, and_true, y_lIn, y_lKn, y_lZn, y_lLn, y_wIn, y_wZn, y_wLn, lit, le_n, lt_n, eq_n, lit, litL, le_n, lt_n, eq_n, nI_add, m_neg, pk_sub, pk_mul, i_l, l_i, l_add, l_mul, l_sub, lc_le, lc_ge, lc_lt, lc_gt, lc_eq, l_rem2, l_rem3, i_rem2, i_rem3]
      exact br1 (by omega) hR
    | succ d ih =>
      intro k idle slept sl more lt hours x6 hk hsl hlt hho hmo hl0 hl1 hj
      rw [jrun] at hj
      have et := hW (88 + k) (by omega)
      rw [wI_t (by omega) (by omega)] at et
      have ht9 : W (88 + k) ≤ 9 := (hkk k (by omega)).2.2.2
      have htw : toW W k = W (88 + k) := rfl
      rw [htw] at hj
      generalize W (88 + k) = t at *
      have ret : ∀ ls, nI k = R → wp 200 b 67 ls [] g Q → True := fun _ _ _ => trivial
      -- behind: the hours of nobody
      have at139 : ∀ (idle : Int32) (slept sl more lt hours : Nat) (last : Int32), slept < 512 → lt ≤ 9 → hours ≤ 101 + k → more ≤ 12 → (lt = 0 → more = 0) → (0 < lt → hours + more = neW W (lt - 1) ∧ 1 ≤ hours ∧ bitN slept (lt - 1) = 1 ∧ (0 < more → sl = lt - 1)) → (if 0 ≤ idle then jrun (neW W) (toW W) d (k + 1) idle slept sl more else nI k) = R → wp 200 b 139 [.ref 73, .int idle, .int (nI slept), .int last, .int (nI hours), .int (nI k), .int (tI lt)] [] g Q := by
        intro idle slept sl more lt hours last q1 q2 q3 q4 q5 q6 q7
        simp (disch := omega) only [q_X11_judge_139, q_X11_judge_140, y_is, y_gf, y_pf, y_f0, y_f1, y_f3, y_nI, y_nK, y_nZ, y_nL, y_nR, y_k1i, y_k1r, y_k1l, y_k1n, y_tl, y_tn, y_s, y_ss, List.getElem?_cons_zero, List.getElem?_cons_succ, List.set_cons_zero, List.set_cons_succ, List.length_cons, List.length_nil, true_and, and_true]
        refine brs (fun z => ?_) (fun z => ?_)
        · rw [if_pos z] at q7
          simp (disch := omega) only [q_X11_judge_146, q_X11_judge_148, q_X11_judge_149, q_X11_judge_152, y_is, y_gf, y_pf, y_f0, y_f1, y_f3, y_nI, y_nK, y_nZ, y_nL, y_nR, y_k1i, y_k1r, y_k1l, y_k1n, y_tl, y_tn, y_s, y_ss, List.getElem?_cons_zero, List.getElem?_cons_succ, List.set_cons_zero, List.set_cons_succ, List.length_cons, List.length_nil, true_and, and_true, lit, nI_add]
          exact ih (k + 1) idle slept sl more lt hours _ (by omega) q1 q2 (by omega) q4 q5 q6 q7
        · rw [if_neg z] at q7
          subst q7
          simp (disch := omega) only [q_X11_judge_143, q_X11_judge_145, y_is, y_gf, y_pf, y_f0, y_f1, y_f3, y_nI, y_nK, y_nZ, y_nL, y_nR, y_k1i, y_k1r, y_k1l, y_k1n, y_tl, y_tn, y_s, y_ss, List.getElem?_cons_zero, List.getElem?_cons_succ, List.set_cons_zero, List.set_cons_succ, List.length_cons, List.length_nil, true_and, and_true]
          exact hR
      have at129 : ∀ ls5 : List Value, nI k = R → ∀ (a1 a2 a3 a4 a6 : Value), wp 200 b 129 [.ref 73, a1, a2, a3, a4, .int (nI k), a6] [] g Q := by
        intro _ h a1 a2 a3 a4 a6
        subst h
        simp (disch := omega) only [q_X11_judge_129, q_X11_judge_131, y_is, y_gf, y_pf, y_f0, y_f1, y_f3, y_nI, y_nK, y_nZ, y_nL, y_nR, y_k1i, y_k1r, y_k1l, y_k1n, y_tl, y_tn, y_s, y_ss, List.getElem?_cons_zero, List.getElem?_cons_succ, List.set_cons_zero, List.set_cons_succ, List.length_cons, List.length_nil, true_and, and_true]
        exact hR
      rw [q_X11_judge_18]
      simp (disch := omega) only [q_X11_judge_20, q_X11_judge_21, q_X11_judge_24, q_X11_judge_26, q_X11_judge_27, q_X11_judge_30, q_X11_judge_31, q_X11_judge_34, q_X11_judge_36, q_X11_judge_38, q_X11_judge_39, q_X11_judge_40, q_X11_judge_42, q_X11_judge_44, q_X11_judge_45, hM, h74, e87, et, y_is, y_gf, y_pf, y_f0, y_f1, y_f3, y_nI, y_nK, y_nZ, y_nL, y_nR, y_k1i, y_k1r, y_k1l, y_k1n, y_tl, y_tn, y_s, y_ss, List.getElem?_cons_zero, List.getElem?_cons_succ, List.set_cons_zero, List.set_cons_succ, List.length_cons, List.length_nil, true_and, and_true, y_lIn, y_lKn, y_lZn, y_lLn, y_wIn, y_wZn, y_wLn, lit, le_n, lt_n, eq_n, lit, nI_add, le_n, tI_inj]
      refine br0 (by omega) (brs (fun c => ?_) (fun c => ?_))
      · -- the same as the hour ahead
        subst c
        simp (disch := omega) only [q_X11_judge_70, q_X11_judge_72, q_X11_judge_73, y_is, y_gf, y_pf, y_f0, y_f1, y_f3, y_nI, y_nK, y_nZ, y_nL, y_nR, y_k1i, y_k1r, y_k1l, y_k1n, y_tl, y_tn, y_s, y_ss, List.getElem?_cons_zero, List.getElem?_cons_succ, List.set_cons_zero, List.set_cons_succ, List.length_cons, List.length_nil, true_and, and_true, tI_inj]
        refine br0 (fun z => z trivial) ?_
        simp (disch := omega) only [q_X11_judge_76, q_X11_judge_78, q_X11_judge_79, q_X11_judge_80, q_X11_judge_84, q_X11_judge_86, q_X11_judge_88, q_X11_judge_89, y_is, y_gf, y_pf, y_f0, y_f1, y_f3, y_nI, y_nK, y_nZ, y_nL, y_nR, y_k1i, y_k1r, y_k1l, y_k1n, y_tl, y_tn, y_s, y_ss, List.getElem?_cons_zero, List.getElem?_cons_succ, List.set_cons_zero, List.set_cons_succ, List.length_cons, List.length_nil, true_and, and_true, lit, nI_add, tI_m1]
        by_cases t0 : t = 0
        · rw [bnt t0]
          have hm0 := hl0 t0
          subst hm0
          rw [if_neg (by omega), if_pos t0] at hj
          simp (disch := omega) only [q_X11_judge_92, q_X11_judge_95, y_is, y_gf, y_pf, y_f0, y_f1, y_f3, y_nI, y_nK, y_nZ, y_nL, y_nR, y_k1i, y_k1r, y_k1l, y_k1n, y_tl, y_tn, y_s, y_ss, List.getElem?_cons_zero, List.getElem?_cons_succ, List.set_cons_zero, List.set_cons_succ, List.length_cons, List.length_nil, true_and, and_true]
          have := at139 (idle + -1) slept sl 0 t (hours + 1) (tI t) hsl hlt (by omega) (by omega) (fun _ => rfl) (fun z => by omega) hj
          exact this
        · rw [bnf t0]
          obtain ⟨k1, k2, k3, k4⟩ := hl1 (by omega)
          have en := hW (19 + (t - 1)) (by omega)
          rw [wI_n (by omega)] at en
          have hn12 : W (19 + (t - 1)) ≤ 12 := (hpp (t - 1) (by omega)).2.2.1
          have hne : neW W (t - 1) = W (19 + (t - 1)) := rfl
          simp (disch := omega) only [q_X11_judge_98, q_X11_judge_100, q_X11_judge_101, y_is, y_gf, y_pf, y_f0, y_f1, y_f3, y_nI, y_nK, y_nZ, y_nL, y_nR, y_k1i, y_k1r, y_k1l, y_k1n, y_tl, y_tn, y_s, y_ss, List.getElem?_cons_zero, List.getElem?_cons_succ, List.set_cons_zero, List.set_cons_succ, List.length_cons, List.length_nil, true_and, and_true, tI_inj]
          refine br1 (by first | decide | omega | trivial | simp) ?_
          have et' := tI_nn t0
          simp (disch := omega) only [q_X11_judge_114, q_X11_judge_116, q_X11_judge_117, q_X11_judge_120, q_X11_judge_122, q_X11_judge_124, q_X11_judge_125, q_X11_judge_126, hM, h74, et', en, y_is, y_gf, y_pf, y_f0, y_f1, y_f3, y_nI, y_nK, y_nZ, y_nL, y_nR, y_k1i, y_k1r, y_k1l, y_k1n, y_tl, y_tn, y_s, y_ss, List.getElem?_cons_zero, List.getElem?_cons_succ, List.set_cons_zero, List.set_cons_succ, List.length_cons, List.length_nil, true_and, and_true, y_lIn, y_lKn, y_lZn, y_lLn, y_wIn, y_wZn, y_wLn, lit, le_n, lt_n, eq_n, lit, nI_add, le_n]
          refine brs (fun z => ?_) (fun z => ?_)
          · have hm1 : 0 < more := by omega
            rw [if_pos hm1, if_pos (by have := k4 hm1; omega)] at hj
            simp (disch := omega) only [q_X11_judge_132, q_X11_judge_133, q_X11_judge_134, q_X11_judge_136, q_X11_judge_137, q_X11_judge_138, y_is, y_gf, y_pf, y_f0, y_f1, y_f3, y_nI, y_nK, y_nZ, y_nL, y_nR, y_k1i, y_k1r, y_k1l, y_k1n, y_tl, y_tn, y_s, y_ss, List.getElem?_cons_zero, List.getElem?_cons_succ, List.set_cons_zero, List.set_cons_succ, List.length_cons, List.length_nil, true_and, and_true, lit, i_or]
            rw [or_same k3]
            have := at139 idle slept sl (more - 1) t (hours + 1) (tI t) hsl hlt (by omega) (by omega) (fun z => absurd z t0) (fun _ => ⟨by omega, by omega, k3, fun _ => k4 hm1⟩) hj
            rw [et'] at this
            exact this
          · rw [if_neg (by omega), if_neg t0, if_pos (Or.inr k3)] at hj
            exact at129 [] hj _ _ _ _ _
      · -- another one
        have at70 : (0 < lt → more = 0) → wp 200 b 70 [.ref 73, .int idle, .int (nI slept), .int (tI lt), .int (nI hours), .int (nI k), .int (tI t)] [] g Q := by
          intro hm0'
          have hm0 : more = 0 := by
            rcases Nat.eq_zero_or_pos lt with z | z
            · exact hl0 z
            · exact hm0' z
          subst hm0
          rw [if_neg (by omega)] at hj
          simp (disch := omega) only [q_X11_judge_70, q_X11_judge_72, q_X11_judge_73, y_is, y_gf, y_pf, y_f0, y_f1, y_f3, y_nI, y_nK, y_nZ, y_nL, y_nR, y_k1i, y_k1r, y_k1l, y_k1n, y_tl, y_tn, y_s, y_ss, List.getElem?_cons_zero, List.getElem?_cons_succ, List.set_cons_zero, List.set_cons_succ, List.length_cons, List.length_nil, true_and, and_true, tI_inj]
          rw [bnf c]
          simp (disch := omega) only [q_X11_judge_83, q_X11_judge_84, q_X11_judge_86, q_X11_judge_88, q_X11_judge_89, y_is, y_gf, y_pf, y_f0, y_f1, y_f3, y_nI, y_nK, y_nZ, y_nL, y_nR, y_k1i, y_k1r, y_k1l, y_k1n, y_tl, y_tn, y_s, y_ss, List.getElem?_cons_zero, List.getElem?_cons_succ, List.set_cons_zero, List.set_cons_succ, List.length_cons, List.length_nil, true_and, and_true, lit, tI_m1]
          by_cases t0 : t = 0
          · rw [bnt t0]
            rw [if_pos t0] at hj
            simp (disch := omega) only [q_X11_judge_92, q_X11_judge_95, y_is, y_gf, y_pf, y_f0, y_f1, y_f3, y_nI, y_nK, y_nZ, y_nL, y_nR, y_k1i, y_k1r, y_k1l, y_k1n, y_tl, y_tn, y_s, y_ss, List.getElem?_cons_zero, List.getElem?_cons_succ, List.set_cons_zero, List.set_cons_succ, List.length_cons, List.length_nil, true_and, and_true]
            exact at139 (idle + -1) slept sl 0 t 1 _ hsl ht9 (by omega) (by omega) (fun _ => rfl) (fun z => by omega) hj
          · rw [bnf t0]
            rw [if_neg t0] at hj
            have en := hW (19 + (t - 1)) (by omega)
            rw [wI_n (by omega)] at en
            have hn12 : W (19 + (t - 1)) ≤ 12 := (hpp (t - 1) (by omega)).2.2.1
            have hne : neW W (t - 1) = W (19 + (t - 1)) := rfl
            have et' := tI_nn t0
            have hbl := bit_lt slept (t - 1)
            simp (disch := omega) only [q_X11_judge_98, q_X11_judge_100, q_X11_judge_101, y_is, y_gf, y_pf, y_f0, y_f1, y_f3, y_nI, y_nK, y_nZ, y_nL, y_nR, y_k1i, y_k1r, y_k1l, y_k1n, y_tl, y_tn, y_s, y_ss, List.getElem?_cons_zero, List.getElem?_cons_succ, List.set_cons_zero, List.set_cons_succ, List.length_cons, List.length_nil, true_and, and_true, tI_inj]
            refine br0 c ?_
            simp (disch := omega) only [q_X11_judge_104, q_X11_judge_105, q_X11_judge_107, q_X11_judge_108, q_X11_judge_109, q_X11_judge_110, q_X11_judge_111, et', y_is, y_gf, y_pf, y_f0, y_f1, y_f3, y_nI, y_nK, y_nZ, y_nL, y_nR, y_k1i, y_k1r, y_k1l, y_k1n, y_tl, y_tn, y_s, y_ss, List.getElem?_cons_zero, List.getElem?_cons_succ, List.set_cons_zero, List.set_cons_succ, List.length_cons, List.length_nil, true_and, and_true, lit, i_bit, eq_n]
            refine brs (fun z => ?_) (fun z => ?_)
            · rw [if_pos (Or.inr z)] at hj
              exact at129 [] hj _ _ _ _ _
            · simp (disch := omega) only [q_X11_judge_114, q_X11_judge_116, q_X11_judge_117, q_X11_judge_120, q_X11_judge_122, q_X11_judge_124, q_X11_judge_125, q_X11_judge_126, hM, h74, en, y_is, y_gf, y_pf, y_f0, y_f1, y_f3, y_nI, y_nK, y_nZ, y_nL, y_nR, y_k1i, y_k1r, y_k1l, y_k1n, y_tl, y_tn, y_s, y_ss, List.getElem?_cons_zero, List.getElem?_cons_succ, List.set_cons_zero, List.set_cons_succ, List.length_cons, List.length_nil, true_and, and_true, y_lIn, y_lKn, y_lZn, y_lLn, y_wIn, y_wZn, y_wLn, lit, le_n, lt_n, eq_n, lit, nI_add, le_n]
              refine brs (fun y => ?_) (fun y => ?_)
              · rw [if_neg (by omega)] at hj
                simp (disch := omega) only [q_X11_judge_132, q_X11_judge_133, q_X11_judge_134, q_X11_judge_136, q_X11_judge_137, q_X11_judge_138, y_is, y_gf, y_pf, y_f0, y_f1, y_f3, y_nI, y_nK, y_nZ, y_nL, y_nR, y_k1i, y_k1r, y_k1l, y_k1n, y_tl, y_tn, y_s, y_ss, List.getElem?_cons_zero, List.getElem?_cons_succ, List.set_cons_zero, List.set_cons_succ, List.length_cons, List.length_nil, true_and, and_true, lit, i_or]
                have := at139 idle (slept ||| 2 ^ (t - 1)) (t - 1) (neW W (t - 1) - 1) t 1 (tI lt) (or_lt hsl (by omega)) ht9 (by omega) (by omega) (fun z => absurd z t0) (fun _ => ⟨by omega, by omega, by rw [bitN_or, if_pos rfl], fun _ => rfl⟩) hj
                rw [et'] at this
                exact this
              · rw [if_pos (Or.inl (by omega))] at hj
                exact at129 [] hj _ _ _ _ _
        simp (disch := omega) only [q_X11_judge_48, q_X11_judge_49, q_X11_judge_50, y_is, y_gf, y_pf, y_f0, y_f1, y_f3, y_nI, y_nK, y_nZ, y_nL, y_nR, y_k1i, y_k1r, y_k1l, y_k1n, y_tl, y_tn, y_s, y_ss, List.getElem?_cons_zero, List.getElem?_cons_succ, List.set_cons_zero, List.set_cons_succ, List.length_cons, List.length_nil, true_and, and_true, lit, tI_m1]
        refine brs (fun z => at70 (fun y => by omega)) (fun z => ?_)
        obtain ⟨k1, k2, k3, k4⟩ := hl1 (by omega)
        have en := hW (19 + (lt - 1)) (by omega)
        rw [wI_n (by omega)] at en
        have hn12 : W (19 + (lt - 1)) ≤ 12 := (hpp (lt - 1) (by omega)).2.2.1
        have hne : neW W (lt - 1) = W (19 + (lt - 1)) := rfl
        have et' := tI_nn z
        rw [et']
        rw [et'] at at70
        simp (disch := omega) only [q_X11_judge_53, q_X11_judge_55, q_X11_judge_56, q_X11_judge_59, q_X11_judge_61, q_X11_judge_62, q_X11_judge_63, q_X11_judge_64, hM, h74, en, y_is, y_gf, y_pf, y_f0, y_f1, y_f3, y_nI, y_nK, y_nZ, y_nL, y_nR, y_k1i, y_k1r, y_k1l, y_k1n, y_tl, y_tn, y_s, y_ss, List.getElem?_cons_zero, List.getElem?_cons_succ, List.set_cons_zero, List.set_cons_succ, List.length_cons, List.length_nil, true_and, and_true, y_lIn, y_lKn, y_lZn, y_lLn, y_wIn, y_wZn, y_wLn, lit, le_n, lt_n, eq_n, lit, nI_add, eq_n]
        refine brs (fun y => at70 (fun _ => by omega)) (fun y => ?_)
        have hm1 : 0 < more := by omega
        rw [if_pos hm1, if_neg (by have := k4 hm1; omega)] at hj
        subst hj
        simp (disch := omega) only [q_X11_judge_67, q_X11_judge_69, y_is, y_gf, y_pf, y_f0, y_f1, y_f3, y_nI, y_nK, y_nZ, y_nL, y_nR, y_k1i, y_k1r, y_k1l, y_k1n, y_tl, y_tn, y_s, y_ss, List.getElem?_cons_zero, List.getElem?_cons_succ, List.set_cons_zero, List.set_cons_succ, List.length_cons, List.length_nil, true_and, and_true]
        exact hR
  simp (disch := omega) only [q_X11_judge_0, q_X11_judge_2, q_X11_judge_3, hM, y_is, y_gf, y_pf, y_f0, y_f1, y_f3, y_nI, y_nK, y_nZ, y_nL, y_nR, y_k1i, y_k1r, y_k1l, y_k1n, y_tl, y_tn, y_s, y_ss, List.getElem?_cons_zero, List.getElem?_cons_succ, List.set_cons_zero, List.set_cons_succ, List.length_cons, List.length_nil, true_and, and_true, lit]
  refine s_mneeds hM h74 hW rfl n9 ?_
  simp (disch := omega) only [q_X11_judge_6, q_X11_judge_7, q_X11_judge_8, q_X11_judge_9, q_X11_judge_10, q_X11_judge_11, q_X11_judge_12, q_X11_judge_13, q_X11_judge_15, q_X11_judge_16, y_is, y_gf, y_pf, y_f0, y_f1, y_f3, y_nI, y_nK, y_nZ, y_nL, y_nR, y_k1i, y_k1r, y_k1l, y_k1n, y_tl, y_tn, y_s, y_ss, List.getElem?_cons_zero, List.getElem?_cons_succ, List.set_cons_zero, List.set_cons_succ, List.length_cons, List.length_nil, true_and, and_true, lit]
  exact loop _ hQ m 0 _ 0 0 0 0 0 _ (by omega) (by decide) (by decide) (by omega) (by omega) (fun _ => rfl) (fun z => by omega) rfl
end MNIGHT
