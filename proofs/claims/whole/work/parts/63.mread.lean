/-! ===== the reference: THE TEXT ===== -/
def nnn (t0 : Nat) (tb : Nat → Nat) : Nat → Nat → Nat
  | 0, _ => 0
  | d + 1, e => if (if t0 = 1 then lc (tb e) else dg (tb e)) then nnn t0 tb d (e + 1) + 1 else 0
theorem nnn_1 {tb : Nat → Nat} : ∀ d e, nnn 1 tb d e = lnn tb d e
  | 0, _ => rfl
  | d + 1, e => by rw [nnn, lnn, nnn_1 d (e + 1), if_pos rfl]
theorem nnn_2 {tb : Nat → Nat} : ∀ d e, nnn 2 tb d e = dn tb d e
  | 0, _ => rfl
  | d + 1, e => by rw [nnn, dn, nnn_2 d (e + 1)]; rfl
theorem nnn_le {t0 : Nat} {tb : Nat → Nat} : ∀ d e, nnn t0 tb d e ≤ d
  | 0, _ => Nat.le_refl _
  | d + 1, e => by
    have := nnn_le (t0 := t0) (tb := tb) d (e + 1)
    rw [nnn]
    generalize (if t0 = 1 then lc (tb e) else dg (tb e)) = c
    cases c with
    | true => rw [if_pos rfl]; omega
    | false => rw [if_neg (by decide)]; omega
theorem inR_lc {c : Nat} (hc : c < 1000) : inR (nI c) 97 122 ↔ lc c = true := by
  constructor
  · rintro ⟨j, h1, h2, e⟩
    have := nI_inj (by omega) (by omega) e
    unfold lc; simp; omega
  · intro h
    unfold lc at h
    simp at h
    exact ⟨c, h.1, h.2, rfl⟩
/-- the bytes -/
def by_ (g : mzG) (tb : Nat → Nat) (tl : Nat) : Prop := (∃ fb, g.2 84 = aI 200 fb ∧ ∀ i, i < tl → fb i = nI (tb i) ∧ tb i < 256) ∧ tl ≤ 200
section MREAD
variable {b : mzB} {Q : mzQ} {r : Int64}
theorem s_misSmall {g : mzG} {v : Int32} (h1 : inR v 97 122 → Q (some (.int 1)) g) (h0 : ¬ inR v 97 122 → Q (some (.int 0)) g) : wp 213 b 0 [.int v] [] g Q := by
  simp only [q_X11_isSmall_0, q_X11_isSmall_1, q_X11_isSmall_2, q_X11_isSmall_5, q_X11_isSmall_8, y_is, y_gf, y_pf, y_f0, y_f1, y_f3, y_nI, y_nK, y_nZ, y_nL, y_nR, y_k1i, y_k1r, y_k1l, y_k1n, y_tl, y_tn, y_s, y_ss, List.getElem?_cons_zero, List.getElem?_cons_succ, List.set_cons_zero, List.set_cons_succ, List.length_cons, List.length_nil, true_and, and_true, litL]
  refine s_inI (by decide) (by decide) (fun z => ?_) (fun z => ?_)
  · simp only [q_X11_isSmall_11, y_is, y_gf, y_pf, y_f0, y_f1, y_f3, y_nI, y_nK, y_nZ, y_nL, y_nR, y_k1i, y_k1r, y_k1l, y_k1n, y_tl, y_tn, y_s, y_ss, List.getElem?_cons_zero, List.getElem?_cons_succ, List.set_cons_zero, List.set_cons_succ, List.length_cons, List.length_nil, true_and, and_true]
    exact ⟨by decide, h1 z⟩
  · simp only [q_X11_isSmall_11, y_is, y_gf, y_pf, y_f0, y_f1, y_f3, y_nI, y_nK, y_nZ, y_nL, y_nR, y_k1i, y_k1r, y_k1l, y_k1n, y_tl, y_tn, y_s, y_ss, List.getElem?_cons_zero, List.getElem?_cons_succ, List.set_cons_zero, List.set_cons_succ, List.length_cons, List.length_nil, true_and, and_true]
    exact ⟨by decide, h0 z⟩
theorem s_look {f0 f1 f2 f3 f4 f6 f7 f8 f9 f10 : Int32} {g : mzG} {tb : Nat → Nat} {tl a : Nat} (hM0 : g.2 73 = ob 9 [.ref 74, .ref 75, .ref 76, .ref 77, .ref 78, .ref 79, .int (f0), .int (f1), .int (f2), .ref 80, .int (f3), .ref 81, .int (f4), .ref 82, .long (r), .ref 83, .ref 84, .int (nI tl), .int (f6), .int (f7), .int (f8), .int (f9), .ref 85, .int (f10)]) (hB : by_ g tb tl) (ha : a ≤ tl) (hQ : ∀ g' va, g'.2 73 = ob 9 [.ref 74, .ref 75, .ref 76, .ref 77, .ref 78, .ref 79, .int (f0), .int (f1), .int (f2), .ref 80, .int (f3), .ref 81, .int (f4), .ref 82, .long (r), .ref 83, .ref 84, .int (nI tl), .int (nI (tkP tb tl a)), .int (nI (tkE tb tl a - tkP tb tl a)), .int (nI (tkT tb tl a)), .int (va), .ref 85, .int (f10)] → (tkT tb tl a = 2 → va = nI (tkV tb tl a)) → fr g g' 73 74 → Q none g') : wp 214 b 0 [.ref 73, .int (nI a), .null, .null, .null] [] g Q := by
  obtain ⟨⟨fb, h84, hfb⟩, hl⟩ := hB
  have e84 : ∀ g', fr g g' 73 74 → g'.2 84 = aI 200 fb := fun g' hf => by rw [hf.2 _ (by omega)]; exact h84
  have hpb := tkP_b (tb := tb) ha
  have hQE : tkE tb tl a = (if tl ≤ tkP tb tl a then tkP tb tl a else if lc (tb (tkP tb tl a)) then tkP tb tl a + lnn tb (tl - tkP tb tl a) (tkP tb tl a) else if dg (tb (tkP tb tl a)) then tkP tb tl a + dn tb (tl - tkP tb tl a) (tkP tb tl a) else tkP tb tl a + 1) := rfl
  have hQT : tkT tb tl a = (if tl ≤ tkP tb tl a then 0 else if lc (tb (tkP tb tl a)) then 1 else if dg (tb (tkP tb tl a)) then (if 2 < dn tb (tl - tkP tb tl a) (tkP tb tl a) then 4 else 2) else if tb (tkP tb tl a) = 59 then 3 else 4) := rfl
  have hQV : tkV tb tl a = dv tb (tkP tb tl a) (min (dn tb (tl - tkP tb tl a) (tkP tb tl a)) 2) := rfl
  rw [hQE, hQT, hQV] at hQ
  clear hQE hQT hQV
  have hsk : skp tb (tl - a) a = tkP tb tl a := rfl
  generalize tkP tb tl a = P at *
  -- the last: too many figures
  have at274 : ∀ (g' : mzG) (x2 x3 x4 : Int32) (L t0 : Nat) (va : Int32), L ≤ 200 → t0 ≤ 4 → g'.2 73 = ob 9 [.ref 74, .ref 75, .ref 76, .ref 77, .ref 78, .ref 79, .int (f0), .int (f1), .int (f2), .ref 80, .int (f3), .ref 81, .int (f4), .ref 82, .long (r), .ref 83, .ref 84, .int (nI tl), .int (nI P), .int (nI L), .int (nI t0), .int (va), .ref 85, .int (f10)] → fr g g' 73 74 → (∀ g2, g2.2 73 = ob 9 [.ref 74, .ref 75, .ref 76, .ref 77, .ref 78, .ref 79, .int (f0), .int (f1), .int (f2), .ref 80, .int (f3), .ref 81, .int (f4), .ref 82, .long (r), .ref 83, .ref 84, .int (nI tl), .int (nI P), .int (nI L), .int (nI (if t0 = 2 ∧ 2 < L then 4 else t0)), .int (va), .ref 85, .int (f10)] → fr g g2 73 74 → Q none g2) → wp 214 b 274 [.ref 73, .int (nI a), .int x2, .int x3, .int x4] [] g' Q := by
    intro g' x2 x3 x4 L t0 va hL ht0 hM hf k
    simp (disch := omega) only [q_X11_look_274, q_X11_look_275, q_X11_look_276, q_X11_look_279, q_X11_look_280, hM, y_is, y_gf, y_pf, y_f0, y_f1, y_f3, y_nI, y_nK, y_nZ, y_nL, y_nR, y_k1i, y_k1r, y_k1l, y_k1n, y_tl, y_tn, y_s, y_ss, List.getElem?_cons_zero, List.getElem?_cons_succ, List.set_cons_zero, List.set_cons_succ, List.length_cons, List.length_nil, true_and, and_true, lit, eq_n]
    have same : ¬ (t0 = 2 ∧ 2 < L) → wp 214 b 295 [.ref 73, .int (nI a), .int x2, .int x3, .int x4] [.ref 73] g' Q := by
      intro hno
      rw [if_neg hno] at k
      simp (disch := omega) only [q_X11_look_295, q_X11_look_296, q_X11_look_299, q_X11_look_302, hM, y_is, y_gf, y_pf, y_f0, y_f1, y_f3, y_nI, y_nK, y_nZ, y_nL, y_nR, y_k1i, y_k1r, y_k1l, y_k1n, y_tl, y_tn, y_s, y_ss, List.getElem?_cons_zero, List.getElem?_cons_succ, List.set_cons_zero, List.set_cons_succ, List.length_cons, List.length_nil, true_and, and_true]
      exact ⟨by decide, k _ y_s (hf.hs (by omega) (by omega))⟩
    by_cases c : t0 = 2
    · rw [bnt c]
      simp (disch := omega) only [q_X11_look_283, q_X11_look_284, q_X11_look_287, q_X11_look_288, hM, y_is, y_gf, y_pf, y_f0, y_f1, y_f3, y_nI, y_nK, y_nZ, y_nL, y_nR, y_k1i, y_k1r, y_k1l, y_k1n, y_tl, y_tn, y_s, y_ss, List.getElem?_cons_zero, List.getElem?_cons_succ, List.set_cons_zero, List.set_cons_succ, List.length_cons, List.length_nil, true_and, and_true, lit, le_n]
      refine brs (fun z => same (fun y => by omega)) (fun z => ?_)
      rw [if_pos ⟨c, by omega⟩] at k
      simp (disch := omega) only [q_X11_look_291, q_X11_look_292, q_X11_look_299, q_X11_look_302, hM, y_is, y_gf, y_pf, y_f0, y_f1, y_f3, y_nI, y_nK, y_nZ, y_nL, y_nR, y_k1i, y_k1r, y_k1l, y_k1n, y_tl, y_tn, y_s, y_ss, List.getElem?_cons_zero, List.getElem?_cons_succ, List.set_cons_zero, List.set_cons_succ, List.length_cons, List.length_nil, true_and, and_true, lit]
      exact ⟨by decide, k _ y_s (hf.hs (by omega) (by omega))⟩
    · rw [bnf c]
      exact same (fun y => c y.1)
  -- the value
  have at215 : ∀ (g' : mzG) (x2 x3 : Int32) (x4 : Value) (L t0 : Nat), P + L ≤ tl → t0 ≤ 4 → (t0 = 2 → ∀ j, j < L → dg (tb (P + j)) = true) → g'.2 73 = ob 9 [.ref 74, .ref 75, .ref 76, .ref 77, .ref 78, .ref 79, .int (f0), .int (f1), .int (f2), .ref 80, .int (f3), .ref 81, .int (f4), .ref 82, .long (r), .ref 83, .ref 84, .int (nI tl), .int (nI P), .int (nI L), .int (nI t0), .int (nI 0), .ref 85, .int (f10)] → fr g g' 73 74 → (∀ g2 va, g2.2 73 = ob 9 [.ref 74, .ref 75, .ref 76, .ref 77, .ref 78, .ref 79, .int (f0), .int (f1), .int (f2), .ref 80, .int (f3), .ref 81, .int (f4), .ref 82, .long (r), .ref 83, .ref 84, .int (nI tl), .int (nI P), .int (nI L), .int (nI (if t0 = 2 ∧ 2 < L then 4 else t0)), .int (va), .ref 85, .int (f10)] → (t0 = 2 → va = nI (dv tb P (min L 2))) → fr g g2 73 74 → Q none g2) → wp 214 b 215 [.ref 73, .int (nI a), .int x2, .int x3, x4] [] g' Q := by
    intro g' x2 x3 x4 L t0 hL ht0 hdg hM hf k
    have loop : ∀ (d j : Nat) (g2 : mzG), j + d = min L 2 → g2.2 73 = ob 9 [.ref 74, .ref 75, .ref 76, .ref 77, .ref 78, .ref 79, .int (f0), .int (f1), .int (f2), .ref 80, .int (f3), .ref 81, .int (f4), .ref 82, .long (r), .ref 83, .ref 84, .int (nI tl), .int (nI P), .int (nI L), .int (nI t0), .int (nI (dv tb P j)), .ref 85, .int (f10)] → t0 = 2 → fr g g2 73 74 → wp 214 b 218 [.ref 73, .int (nI a), .int x2, .int x3, .int (nI j)] [] g2 Q := by
      intro d
      induction d with
      | zero =>
        intro j g2 hj hM2 h2 hf2
        have fin := at274 g2 x2 x3 (nI j) L t0 _ (by omega) ht0 hM2 hf2 (fun g3 m f => k g3 _ m (fun _ => by rw [show min L 2 = j by omega]) f)
        rw [q_X11_look_218]
        simp (disch := omega) only [q_X11_look_220, q_X11_look_221, q_X11_look_224, hM2, y_is, y_gf, y_pf, y_f0, y_f1, y_f3, y_nI, y_nK, y_nZ, y_nL, y_nR, y_k1i, y_k1r, y_k1l, y_k1n, y_tl, y_tn, y_s, y_ss, List.getElem?_cons_zero, List.getElem?_cons_succ, List.set_cons_zero, List.set_cons_succ, List.length_cons, List.length_nil, true_and, and_true, y_lIn, y_lKn, y_lZn, y_lLn, y_wIn, y_wZn, y_wLn, lit, le_n, lt_n, eq_n, lit, litL, le_n, lt_n, eq_n, nI_add, m_neg, pk_sub, pk_mul, i_l, l_i, l_add, l_mul, l_sub, lc_le, lc_ge, lc_lt, lc_gt, lc_eq, l_rem2, l_rem3, i_rem2, i_rem3]
        refine brs (fun _ => fin) (fun z => ?_)
        simp (disch := omega) only [q_X11_look_227, q_X11_look_229, q_X11_look_230, y_is, y_gf, y_pf, y_f0, y_f1, y_f3, y_nI, y_nK, y_nZ, y_nL, y_nR, y_k1i, y_k1r, y_k1l, y_k1n, y_tl, y_tn, y_s, y_ss, List.getElem?_cons_zero, List.getElem?_cons_succ, List.set_cons_zero, List.set_cons_succ, List.length_cons, List.length_nil, true_and, and_true, lit, le_n]
        exact br1 (by omega) fin
      | succ d ih =>
        intro j g2 hj hM2 h2 hf2
        obtain ⟨e1, e2⟩ := hfb (P + j) (by omega)
        have hD := dg_b (hdg h2 j (by omega))
        have hv := dv_le (ch := tb) (a := P) (k := j) (fun i hi => hdg h2 i (by omega))
        have hp : 10 ^ j ≤ 10 ^ 2 := Nat.pow_le_pow_right (by decide) (by omega)
        have ihn := fun g3 => ih (j + 1) g3 (by omega)
        rw [dv] at ihn
        rw [q_X11_look_218]
        simp (disch := omega) only [q_X11_look_220, q_X11_look_221, q_X11_look_224, q_X11_look_227, q_X11_look_229, q_X11_look_230, q_X11_look_233, q_X11_look_234, q_X11_look_237, q_X11_look_238, hM2, y_is, y_gf, y_pf, y_f0, y_f1, y_f3, y_nI, y_nK, y_nZ, y_nL, y_nR, y_k1i, y_k1r, y_k1l, y_k1n, y_tl, y_tn, y_s, y_ss, List.getElem?_cons_zero, List.getElem?_cons_succ, List.set_cons_zero, List.set_cons_succ, List.length_cons, List.length_nil, true_and, and_true, y_lIn, y_lKn, y_lZn, y_lLn, y_wIn, y_wZn, y_wLn, lit, le_n, lt_n, eq_n, lit, litL, le_n, lt_n, eq_n, nI_add, m_neg, pk_sub, pk_mul, i_l, l_i, l_add, l_mul, l_sub, lc_le, lc_ge, lc_lt, lc_gt, lc_eq, l_rem2, l_rem3, i_rem2, i_rem3]
        refine br0 (by omega) (br0 (by omega) ?_)
        rw [bnt h2]
        simp (disch := omega) only [q_X11_look_241, q_X11_look_242, q_X11_look_244, q_X11_look_245, q_X11_look_248, q_X11_look_249, q_X11_look_250, q_X11_look_253, q_X11_look_254, q_X11_look_257, q_X11_look_259, q_X11_look_260, q_X11_look_261, q_X11_look_262, q_X11_look_264, q_X11_look_265, q_X11_look_268, q_X11_look_271, hM2, e84 g2 hf2, e1, y_is, y_gf, y_pf, y_f0, y_f1, y_f3, y_nI, y_nK, y_nZ, y_nL, y_nR, y_k1i, y_k1r, y_k1l, y_k1n, y_tl, y_tn, y_s, y_ss, List.getElem?_cons_zero, List.getElem?_cons_succ, List.set_cons_zero, List.set_cons_succ, List.length_cons, List.length_nil, true_and, and_true, y_lIn, y_lKn, y_lZn, y_lLn, y_wIn, y_wZn, y_wLn, lit, le_n, lt_n, eq_n, lit, pk_mul, nI_add, pk_sub]
        exact ⟨by decide, ihn _ y_s h2 (hf2.hs (by omega) (by omega))⟩
    simp (disch := omega) only [q_X11_look_215, q_X11_look_216, y_is, y_gf, y_pf, y_f0, y_f1, y_f3, y_nI, y_nK, y_nZ, y_nL, y_nR, y_k1i, y_k1r, y_k1l, y_k1n, y_tl, y_tn, y_s, y_ss, List.getElem?_cons_zero, List.getElem?_cons_succ, List.set_cons_zero, List.set_cons_succ, List.length_cons, List.length_nil, true_and, and_true, lit]
    by_cases h2 : t0 = 2
    · exact loop (min L 2) 0 g' (by omega) hM h2 hf
    · have fin := at274 g' x2 x3 (nI 0) L t0 _ (by omega) ht0 hM hf (fun g3 m f => k g3 _ m (fun z => absurd z h2) f)
      rw [q_X11_look_218]
      simp (disch := omega) only [q_X11_look_220, q_X11_look_221, q_X11_look_224, hM, y_is, y_gf, y_pf, y_f0, y_f1, y_f3, y_nI, y_nK, y_nZ, y_nL, y_nR, y_k1i, y_k1r, y_k1l, y_k1n, y_tl, y_tn, y_s, y_ss, List.getElem?_cons_zero, List.getElem?_cons_succ, List.set_cons_zero, List.set_cons_succ, List.length_cons, List.length_nil, true_and, and_true, y_lIn, y_lKn, y_lZn, y_lLn, y_wIn, y_wZn, y_wLn, lit, le_n, lt_n, eq_n, lit, litL, le_n, lt_n, eq_n, nI_add, m_neg, pk_sub, pk_mul, i_l, l_i, l_add, l_mul, l_sub, lc_le, lc_ge, lc_lt, lc_gt, lc_eq, l_rem2, l_rem3, i_rem2, i_rem3]
      refine brs (fun _ => fin) (fun z => ?_)
      simp (disch := omega) only [q_X11_look_227, q_X11_look_229, q_X11_look_230, q_X11_look_233, q_X11_look_234, q_X11_look_237, q_X11_look_238, hM, y_is, y_gf, y_pf, y_f0, y_f1, y_f3, y_nI, y_nK, y_nZ, y_nL, y_nR, y_k1i, y_k1r, y_k1l, y_k1n, y_tl, y_tn, y_s, y_ss, List.getElem?_cons_zero, List.getElem?_cons_succ, List.set_cons_zero, List.set_cons_succ, List.length_cons, List.length_nil, true_and, and_true, lit, le_n, eq_n]
      refine br0 (by omega) ?_
      rw [bnf h2]
      exact fin
  -- on and on
  have at136 : ∀ (t0 : Nat), t0 = 1 ∨ t0 = 2 → ∀ (N : Nat), N = nnn t0 tb (tl - P) P → (∀ (g' : mzG) (x2 x3 : Int32) (x4 : Value), g'.2 73 = ob 9 [.ref 74, .ref 75, .ref 76, .ref 77, .ref 78, .ref 79, .int (f0), .int (f1), .int (f2), .ref 80, .int (f3), .ref 81, .int (f4), .ref 82, .long (r), .ref 83, .ref 84, .int (nI tl), .int (nI P), .int (nI N), .int (nI t0), .int (nI 0), .ref 85, .int (f10)] → fr g g' 73 74 → wp 214 b 215 [.ref 73, .int (nI a), .int x2, .int x3, x4] [] g' Q) → ∀ (d k : Nat) (g' : mzG) (x2 : Int32) (x4 : Value), P + k + d = tl → N = k + nnn t0 tb d (P + k) → g'.2 73 = ob 9 [.ref 74, .ref 75, .ref 76, .ref 77, .ref 78, .ref 79, .int (f0), .int (f1), .int (f2), .ref 80, .int (f3), .ref 81, .int (f4), .ref 82, .long (r), .ref 83, .ref 84, .int (nI tl), .int (nI P), .int (nI k), .int (nI t0), .int (nI 0), .ref 85, .int (f10)] → fr g g' 73 74 → wp 214 b 136 [.ref 73, .int (nI a), .int x2, .int 1, x4] [] g' Q := by
    intro t0 ht0 N hN hnext d
    induction d with
    | zero =>
      intro k g' x2 x4 hk hd hM hf
      rw [nnn, Nat.add_zero] at hd
      rw [hd] at hnext
      rw [q_X11_look_136]
      simp only [q_X11_look_137, y_is, y_gf, y_pf, y_f0, y_f1, y_f3, y_nI, y_nK, y_nZ, y_nL, y_nR, y_k1i, y_k1r, y_k1l, y_k1n, y_tl, y_tn, y_s, y_ss, List.getElem?_cons_zero, List.getElem?_cons_succ, List.set_cons_zero, List.set_cons_succ, List.length_cons, List.length_nil, true_and, and_true]
      refine br0 (by decide) ?_
      simp (disch := omega) only [q_X11_look_140, q_X11_look_141, q_X11_look_144, q_X11_look_145, q_X11_look_148, q_X11_look_149, q_X11_look_150, q_X11_look_153, hM, y_is, y_gf, y_pf, y_f0, y_f1, y_f3, y_nI, y_nK, y_nZ, y_nL, y_nR, y_k1i, y_k1r, y_k1l, y_k1n, y_tl, y_tn, y_s, y_ss, List.getElem?_cons_zero, List.getElem?_cons_succ, List.set_cons_zero, List.set_cons_succ, List.length_cons, List.length_nil, true_and, and_true, nI_add, le_n]
      exact br1 (by omega) (hnext g' _ _ _ hM hf)
    | succ d ih =>
      intro k g' x2 x4 hk hd hM hf
      rw [nnn] at hd
      obtain ⟨e1, e2⟩ := hfb (P + k) (by omega)
      have step : ∀ (v : Bool), v = (if t0 = 1 then lc (tb (P + k)) else dg (tb (P + k))) → wp 214 b 193 [.ref 73, .int (nI a), .int x2, .int 1, .int (nI (tb (P + k)))] [.int (bI v)] g' Q := by
        intro v hv
        rw [← hv] at hd
        cases v with
        | true =>
          rw [if_pos rfl] at hd
          simp only [q_X11_look_193, q_X11_look_194, q_X11_look_195, q_X11_look_196, q_X11_look_199, q_X11_look_200, hM, y_is, y_gf, y_pf, y_f0, y_f1, y_f3, y_nI, y_nK, y_nZ, y_nL, y_nR, y_k1i, y_k1r, y_k1l, y_k1n, y_tl, y_tn, y_s, y_ss, List.getElem?_cons_zero, List.getElem?_cons_succ, List.set_cons_zero, List.set_cons_succ, List.length_cons, List.length_nil, true_and, and_true]
          refine br0 (by decide) ?_
          simp (disch := omega) only [q_X11_look_203, q_X11_look_204, q_X11_look_208, q_X11_look_209, q_X11_look_212, hM, y_is, y_gf, y_pf, y_f0, y_f1, y_f3, y_nI, y_nK, y_nZ, y_nL, y_nR, y_k1i, y_k1r, y_k1l, y_k1n, y_tl, y_tn, y_s, y_ss, List.getElem?_cons_zero, List.getElem?_cons_succ, List.set_cons_zero, List.set_cons_succ, List.length_cons, List.length_nil, true_and, and_true, lit, nI_add]
          refine ⟨by decide, ?_⟩
          exact ih (k + 1) _ _ _ (by omega) (by rw [show P + (k + 1) = P + k + 1 by omega]; omega) y_s (hf.hs (by omega) (by omega))
        | false =>
          rw [if_neg (by decide), Nat.add_zero] at hd
          rw [hd] at hnext
          simp only [q_X11_look_193, q_X11_look_194, q_X11_look_195, q_X11_look_196, q_X11_look_199, q_X11_look_200, hM, y_is, y_gf, y_pf, y_f0, y_f1, y_f3, y_nI, y_nK, y_nZ, y_nL, y_nR, y_k1i, y_k1r, y_k1l, y_k1n, y_tl, y_tn, y_s, y_ss, List.getElem?_cons_zero, List.getElem?_cons_succ, List.set_cons_zero, List.set_cons_succ, List.length_cons, List.length_nil, true_and, and_true]
          refine br1 (by decide) ?_
          simp (disch := omega) only [q_X11_look_207, q_X11_look_208, q_X11_look_209, q_X11_look_212, hM, y_is, y_gf, y_pf, y_f0, y_f1, y_f3, y_nI, y_nK, y_nZ, y_nL, y_nR, y_k1i, y_k1r, y_k1l, y_k1n, y_tl, y_tn, y_s, y_ss, List.getElem?_cons_zero, List.getElem?_cons_succ, List.set_cons_zero, List.set_cons_succ, List.length_cons, List.length_nil, true_and, and_true, lit, nI_add, Nat.add_zero]
          refine ⟨by decide, ?_⟩
          rw [q_X11_look_136]
          simp only [q_X11_look_137, y_is, y_gf, y_pf, y_f0, y_f1, y_f3, y_nI, y_nK, y_nZ, y_nL, y_nR, y_k1i, y_k1r, y_k1l, y_k1n, y_tl, y_tn, y_s, y_ss, List.getElem?_cons_zero, List.getElem?_cons_succ, List.set_cons_zero, List.set_cons_succ, List.length_cons, List.length_nil, true_and, and_true]
          refine br1 (by decide) ?_
          exact hnext _ _ _ _ y_s (hf.hs (by omega) (by omega))
      rw [q_X11_look_136]
      simp only [q_X11_look_137, y_is, y_gf, y_pf, y_f0, y_f1, y_f3, y_nI, y_nK, y_nZ, y_nL, y_nR, y_k1i, y_k1r, y_k1l, y_k1n, y_tl, y_tn, y_s, y_ss, List.getElem?_cons_zero, List.getElem?_cons_succ, List.set_cons_zero, List.set_cons_succ, List.length_cons, List.length_nil, true_and, and_true]
      refine br0 (by decide) ?_
      simp (disch := omega) only [q_X11_look_140, q_X11_look_141, q_X11_look_144, q_X11_look_145, q_X11_look_148, q_X11_look_149, q_X11_look_150, q_X11_look_153, q_X11_look_156, q_X11_look_157, q_X11_look_160, q_X11_look_161, q_X11_look_164, q_X11_look_165, q_X11_look_168, q_X11_look_169, q_X11_look_170, q_X11_look_172, q_X11_look_173, q_X11_look_176, q_X11_look_177, hM, e84 g' hf, e1, y_is, y_gf, y_pf, y_f0, y_f1, y_f3, y_nI, y_nK, y_nZ, y_nL, y_nR, y_k1i, y_k1r, y_k1l, y_k1n, y_tl, y_tn, y_s, y_ss, List.getElem?_cons_zero, List.getElem?_cons_succ, List.set_cons_zero, List.set_cons_succ, List.length_cons, List.length_nil, true_and, and_true, y_lIn, y_lKn, y_lZn, y_lLn, y_wIn, y_wZn, y_wLn, lit, le_n, lt_n, eq_n, lit, nI_add, le_n, eq_n]
      refine br0 (by omega) ?_
      rcases ht0 with t1 | t1
      · subst t1
        refine br0 (fun z => z (by first | decide | omega | trivial | simp)) ?_
        simp only [q_X11_look_180, q_X11_look_182, y_is, y_gf, y_pf, y_f0, y_f1, y_f3, y_nI, y_nK, y_nZ, y_nL, y_nR, y_k1i, y_k1r, y_k1l, y_k1n, y_tl, y_tn, y_s, y_ss, List.getElem?_cons_zero, List.getElem?_cons_succ, List.set_cons_zero, List.set_cons_succ, List.length_cons, List.length_nil, true_and, and_true]
        refine s_misSmall (fun z => ?_) (fun z => ?_)
        · simp only [q_X11_look_185, y_is, y_gf, y_pf, y_f0, y_f1, y_f3, y_nI, y_nK, y_nZ, y_nL, y_nR, y_k1i, y_k1r, y_k1l, y_k1n, y_tl, y_tn, y_s, y_ss, List.getElem?_cons_zero, List.getElem?_cons_succ, List.set_cons_zero, List.set_cons_succ, List.length_cons, List.length_nil, true_and, and_true]
          exact step true (by rw [if_pos rfl, (inR_lc (by omega)).mp z])
        · simp only [q_X11_look_185, y_is, y_gf, y_pf, y_f0, y_f1, y_f3, y_nI, y_nK, y_nZ, y_nL, y_nR, y_k1i, y_k1r, y_k1l, y_k1n, y_tl, y_tn, y_s, y_ss, List.getElem?_cons_zero, List.getElem?_cons_succ, List.set_cons_zero, List.set_cons_succ, List.length_cons, List.length_nil, true_and, and_true]
          refine step false ?_
          rw [if_pos rfl]
          cases e : lc (tb (P + k)) with
          | false => rfl
          | true => exact absurd ((inR_lc (by omega)).mpr e) z
      · subst t1
        refine br1 (by first | decide | omega | trivial | simp) ?_
        simp only [q_X11_look_188, q_X11_look_190, y_is, y_gf, y_pf, y_f0, y_f1, y_f3, y_nI, y_nK, y_nZ, y_nL, y_nR, y_k1i, y_k1r, y_k1l, y_k1n, y_tl, y_tn, y_s, y_ss, List.getElem?_cons_zero, List.getElem?_cons_succ, List.set_cons_zero, List.set_cons_succ, List.length_cons, List.length_nil, true_and, and_true]
        refine s_misFig (fun z => ?_) (fun z => ?_)
        · exact step true (by rw [if_neg (by decide), (inR_dg (by omega)).mp z])
        · refine step false ?_
          rw [if_neg (by decide)]
          cases e : dg (tb (P + k)) with
          | false => rfl
          | true => exact absurd ((inR_dg (by omega)).mpr e) z
  -- at its place
  have at43 : ∀ (g' : mzG), g'.2 73 = ob 9 [.ref 74, .ref 75, .ref 76, .ref 77, .ref 78, .ref 79, .int (f0), .int (f1), .int (f2), .ref 80, .int (f3), .ref 81, .int (f4), .ref 82, .long (r), .ref 83, .ref 84, .int (nI tl), .int (nI P), .int (f7), .int (f8), .int (f9), .ref 85, .int (f10)] → fr g g' 73 74 → wp 214 b 43 [.ref 73, .int (nI a), .null, .null, .null] [] g' Q := by
    intro g' hM hf
    simp (disch := omega) only [q_X11_look_43, q_X11_look_44, q_X11_look_45, q_X11_look_48, q_X11_look_49, q_X11_look_50, q_X11_look_53, q_X11_look_54, q_X11_look_55, q_X11_look_58, q_X11_look_59, q_X11_look_62, q_X11_look_63, q_X11_look_66, hM, y_is, y_gf, y_pf, y_f0, y_f1, y_f3, y_nI, y_nK, y_nZ, y_nL, y_nR, y_k1i, y_k1r, y_k1l, y_k1n, y_tl, y_tn, y_s, y_ss, List.getElem?_cons_zero, List.getElem?_cons_succ, List.set_cons_zero, List.set_cons_succ, List.length_cons, List.length_nil, true_and, and_true, lit, eq_n]
    refine ⟨by decide, by decide, by decide, ?_⟩
    generalize hg1 : hs g' 73 _ = g1
    have hM1 : g1.2 73 = ob 9 [.ref 74, .ref 75, .ref 76, .ref 77, .ref 78, .ref 79, .int (f0), .int (f1), .int (f2), .ref 80, .int (f3), .ref 81, .int (f4), .ref 82, .long (r), .ref 83, .ref 84, .int (nI tl), .int (nI P), .int (nI 0), .int (nI 0), .int (nI 0), .ref 85, .int (f10)] := by rw [← hg1, y_s]
    have hf1 : fr g g1 73 74 := by rw [← hg1]; exact hf.hs (by omega) (by omega)
    by_cases c0 : P = tl
    · rw [bnt c0]
      simp only [q_X11_look_69, y_is, y_gf, y_pf, y_f0, y_f1, y_f3, y_nI, y_nK, y_nZ, y_nL, y_nR, y_k1i, y_k1r, y_k1l, y_k1n, y_tl, y_tn, y_s, y_ss, List.getElem?_cons_zero, List.getElem?_cons_succ, List.set_cons_zero, List.set_cons_succ, List.length_cons, List.length_nil, true_and, and_true]
      simp only [if_pos (show tl ≤ P by omega)] at hQ
      exact hQ g1 _ (by rw [Nat.sub_self]; exact hM1) (fun z => absurd z (by decide)) hf1
    · rw [bnf c0]
      simp only [if_neg (show ¬ tl ≤ P by omega)] at hQ
      obtain ⟨e1, e2⟩ := hfb P (by omega)
      -- the kind is laid down
      have at114 : ∀ (t0 : Nat), t0 ≤ 4 → wp 214 b 122 [.ref 73, .int (nI a), .int (nI (tb P)), .null, .null] [] (hs g1 73 (ob 9 [.ref 74, .ref 75, .ref 76, .ref 77, .ref 78, .ref 79, .int (f0), .int (f1), .int (f2), .ref 80, .int (f3), .ref 81, .int (f4), .ref 82, .long (r), .ref 83, .ref 84, .int (nI tl), .int (nI P), .int (nI 1), .int (nI t0), .int (nI 0), .ref 85, .int (f10)])) Q → wp 214 b 114 [.ref 73, .int (nI a), .int (nI (tb P)), .null, .null] [.int (nI t0), .ref 73] g1 Q := by
        intro t0 _ h
        simp (disch := omega) only [q_X11_look_114, q_X11_look_117, q_X11_look_118, q_X11_look_119, hM1, y_is, y_gf, y_pf, y_f0, y_f1, y_f3, y_nI, y_nK, y_nZ, y_nL, y_nR, y_k1i, y_k1r, y_k1l, y_k1n, y_tl, y_tn, y_s, y_ss, List.getElem?_cons_zero, List.getElem?_cons_succ, List.set_cons_zero, List.set_cons_succ, List.length_cons, List.length_nil, true_and, and_true, lit]
        exact ⟨by decide, by decide, h⟩
      have go : ∀ (t0 : Nat), (t0 = 1 ∨ t0 = 2) → (if t0 = 1 then lc (tb P) else dg (tb P)) = true → (∀ g2 va, g2.2 73 = ob 9 [.ref 74, .ref 75, .ref 76, .ref 77, .ref 78, .ref 79, .int (f0), .int (f1), .int (f2), .ref 80, .int (f3), .ref 81, .int (f4), .ref 82, .long (r), .ref 83, .ref 84, .int (nI tl), .int (nI P), .int (nI (nnn t0 tb (tl - P) P)), .int (nI (if t0 = 2 ∧ 2 < nnn t0 tb (tl - P) P then 4 else t0)), .int (va), .ref 85, .int (f10)] → (t0 = 2 → va = nI (dv tb P (min (nnn t0 tb (tl - P) P) 2))) → fr g g2 73 74 → Q none g2) → wp 214 b 114 [.ref 73, .int (nI a), .int (nI (tb P)), .null, .null] [.int (nI t0), .ref 73] g1 Q := by
        intro t0 ht0 hcc k
        refine at114 t0 (by omega) ?_
        have hnl := nnn_le (t0 := t0) (tb := tb) (tl - P) P
        have h1 : nnn t0 tb (tl - P) P = 1 + nnn t0 tb (tl - P - 1) (P + 1) := by
          rw [show tl - P = tl - P - 1 + 1 by omega, nnn, if_pos hcc, Nat.add_sub_cancel, Nat.add_comm]
        simp (disch := omega) only [q_X11_look_122, q_X11_look_123, q_X11_look_126, q_X11_look_127, y_is, y_gf, y_pf, y_f0, y_f1, y_f3, y_nI, y_nK, y_nZ, y_nL, y_nR, y_k1i, y_k1r, y_k1l, y_k1n, y_tl, y_tn, y_s, y_ss, List.getElem?_cons_zero, List.getElem?_cons_succ, List.set_cons_zero, List.set_cons_succ, List.length_cons, List.length_nil, true_and, and_true, lit, le_n]
        refine br0 (by omega) ?_
        simp (disch := omega) only [q_X11_look_130, q_X11_look_131, q_X11_look_135, y_is, y_gf, y_pf, y_f0, y_f1, y_f3, y_nI, y_nK, y_nZ, y_nL, y_nR, y_k1i, y_k1r, y_k1l, y_k1n, y_tl, y_tn, y_s, y_ss, List.getElem?_cons_zero, List.getElem?_cons_succ, List.set_cons_zero, List.set_cons_succ, List.length_cons, List.length_nil, true_and, and_true]
        refine at136 t0 ht0 _ rfl (fun g3 x2 x3 x4 q1 q2 => ?_) (tl - P - 1) 1 _ _ _ (by omega) h1 y_s (hf1.hs (by omega) (by omega))
        refine at215 g3 x2 x3 x4 _ t0 (by omega) (by omega) (fun h2 j hj => ?_) q1 q2 k
        subst h2
        rw [nnn_2] at hj
        exact dn_all hj
      have one_ : ∀ (t0 : Nat), 3 ≤ t0 → t0 ≤ 4 → (∀ g2 va, g2.2 73 = ob 9 [.ref 74, .ref 75, .ref 76, .ref 77, .ref 78, .ref 79, .int (f0), .int (f1), .int (f2), .ref 80, .int (f3), .ref 81, .int (f4), .ref 82, .long (r), .ref 83, .ref 84, .int (nI tl), .int (nI P), .int (nI 1), .int (nI t0), .int (va), .ref 85, .int (f10)] → fr g g2 73 74 → Q none g2) → wp 214 b 114 [.ref 73, .int (nI a), .int (nI (tb P)), .null, .null] [.int (nI t0), .ref 73] g1 Q := by
        intro t0 h3 h4 k
        refine at114 t0 h4 ?_
        simp (disch := omega) only [q_X11_look_122, q_X11_look_123, q_X11_look_126, q_X11_look_127, y_is, y_gf, y_pf, y_f0, y_f1, y_f3, y_nI, y_nK, y_nZ, y_nL, y_nR, y_k1i, y_k1r, y_k1l, y_k1n, y_tl, y_tn, y_s, y_ss, List.getElem?_cons_zero, List.getElem?_cons_succ, List.set_cons_zero, List.set_cons_succ, List.length_cons, List.length_nil, true_and, and_true, lit, le_n]
        refine br1 (by omega) ?_
        simp (disch := omega) only [q_X11_look_134, q_X11_look_135, y_is, y_gf, y_pf, y_f0, y_f1, y_f3, y_nI, y_nK, y_nZ, y_nL, y_nR, y_k1i, y_k1r, y_k1l, y_k1n, y_tl, y_tn, y_s, y_ss, List.getElem?_cons_zero, List.getElem?_cons_succ, List.set_cons_zero, List.set_cons_succ, List.length_cons, List.length_nil, true_and, and_true]
        rw [q_X11_look_136]
        simp only [q_X11_look_137, y_is, y_gf, y_pf, y_f0, y_f1, y_f3, y_nI, y_nK, y_nZ, y_nL, y_nR, y_k1i, y_k1r, y_k1l, y_k1n, y_tl, y_tn, y_s, y_ss, List.getElem?_cons_zero, List.getElem?_cons_succ, List.set_cons_zero, List.set_cons_succ, List.length_cons, List.length_nil, true_and, and_true]
        refine br1 (by decide) ?_
        refine at215 _ _ _ _ 1 t0 (by omega) h4 (fun h2 => by omega) y_s (hf1.hs (by omega) (by omega)) (fun g2 va m _ f => ?_)
        rw [if_neg (by omega)] at m
        exact k g2 va m f
      simp (disch := omega) only [q_X11_look_70, q_X11_look_71, q_X11_look_74, q_X11_look_75, q_X11_look_78, q_X11_look_79, q_X11_look_80, q_X11_look_81, q_X11_look_82, hM1, e84 g1 hf1, e1, y_is, y_gf, y_pf, y_f0, y_f1, y_f3, y_nI, y_nK, y_nZ, y_nL, y_nR, y_k1i, y_k1r, y_k1l, y_k1n, y_tl, y_tn, y_s, y_ss, List.getElem?_cons_zero, List.getElem?_cons_succ, List.set_cons_zero, List.set_cons_succ, List.length_cons, List.length_nil, true_and, and_true, y_lIn, y_lKn, y_lZn, y_lLn, y_wIn, y_wZn, y_wLn, lit, le_n, lt_n, eq_n]
      refine s_misSmall (fun z => ?_) (fun z => ?_)
      · have hL := (inR_lc (by omega)).mp z
        simp only [q_X11_look_85, y_is, y_gf, y_pf, y_f0, y_f1, y_f3, y_nI, y_nK, y_nZ, y_nL, y_nR, y_k1i, y_k1r, y_k1l, y_k1n, y_tl, y_tn, y_s, y_ss, List.getElem?_cons_zero, List.getElem?_cons_succ, List.set_cons_zero, List.set_cons_succ, List.length_cons, List.length_nil, true_and, and_true]
        refine br0 (by decide) ?_
        simp only [q_X11_look_88, q_X11_look_89, y_is, y_gf, y_pf, y_f0, y_f1, y_f3, y_nI, y_nK, y_nZ, y_nL, y_nR, y_k1i, y_k1r, y_k1l, y_k1n, y_tl, y_tn, y_s, y_ss, List.getElem?_cons_zero, List.getElem?_cons_succ, List.set_cons_zero, List.set_cons_succ, List.length_cons, List.length_nil, true_and, and_true]
        simp only [hL, if_true] at hQ
        refine go 1 (Or.inl rfl) (by rw [if_pos rfl]; exact hL) (fun g2 va m _ f => ?_)
        rw [if_neg (by omega), nnn_1] at m
        exact hQ g2 va (by rw [Nat.add_sub_cancel_left]; exact m) (fun y => absurd y (by decide)) f
      · have hL : lc (tb P) = false := by
          cases e : lc (tb P) with
          | false => rfl
          | true => exact absurd ((inR_lc (by omega)).mpr e) z
        simp only [hL, Bool.false_eq_true, if_false] at hQ
        simp only [q_X11_look_85, y_is, y_gf, y_pf, y_f0, y_f1, y_f3, y_nI, y_nK, y_nZ, y_nL, y_nR, y_k1i, y_k1r, y_k1l, y_k1n, y_tl, y_tn, y_s, y_ss, List.getElem?_cons_zero, List.getElem?_cons_succ, List.set_cons_zero, List.set_cons_succ, List.length_cons, List.length_nil, true_and, and_true]
        refine br1 (by decide) ?_
        simp only [q_X11_look_92, q_X11_look_93, y_is, y_gf, y_pf, y_f0, y_f1, y_f3, y_nI, y_nK, y_nZ, y_nL, y_nR, y_k1i, y_k1r, y_k1l, y_k1n, y_tl, y_tn, y_s, y_ss, List.getElem?_cons_zero, List.getElem?_cons_succ, List.set_cons_zero, List.set_cons_succ, List.length_cons, List.length_nil, true_and, and_true]
        refine s_misFig (fun z2 => ?_) (fun z2 => ?_)
        · have hD := (inR_dg (by omega)).mp z2
          simp only [hD, if_true] at hQ
          simp only [q_X11_look_96, y_is, y_gf, y_pf, y_f0, y_f1, y_f3, y_nI, y_nK, y_nZ, y_nL, y_nR, y_k1i, y_k1r, y_k1l, y_k1n, y_tl, y_tn, y_s, y_ss, List.getElem?_cons_zero, List.getElem?_cons_succ, List.set_cons_zero, List.set_cons_succ, List.length_cons, List.length_nil, true_and, and_true]
          refine br0 (by decide) ?_
          simp only [q_X11_look_99, q_X11_look_100, y_is, y_gf, y_pf, y_f0, y_f1, y_f3, y_nI, y_nK, y_nZ, y_nL, y_nR, y_k1i, y_k1r, y_k1l, y_k1n, y_tl, y_tn, y_s, y_ss, List.getElem?_cons_zero, List.getElem?_cons_succ, List.set_cons_zero, List.set_cons_succ, List.length_cons, List.length_nil, true_and, and_true]
          refine go 2 (Or.inr rfl) (by rw [if_neg (by decide)]; exact hD) (fun g2 va m hva f => ?_)
          rw [nnn_2] at m hva
          refine hQ g2 va ?_ (fun _ => hva rfl) f
          rw [Nat.add_sub_cancel_left]
          by_cases q : 2 < dn tb (tl - P) P
          · rw [if_pos ⟨rfl, q⟩] at m; rw [if_pos q]; exact m
          · rw [if_neg (fun y => q y.2)] at m; rw [if_neg q]; exact m
        · have hD : dg (tb P) = false := by
            cases e : dg (tb P) with
            | false => rfl
            | true => exact absurd ((inR_dg (by omega)).mpr e) z2
          simp only [hD, Bool.false_eq_true, if_false] at hQ
          simp only [q_X11_look_96, y_is, y_gf, y_pf, y_f0, y_f1, y_f3, y_nI, y_nK, y_nZ, y_nL, y_nR, y_k1i, y_k1r, y_k1l, y_k1n, y_tl, y_tn, y_s, y_ss, List.getElem?_cons_zero, List.getElem?_cons_succ, List.set_cons_zero, List.set_cons_succ, List.length_cons, List.length_nil, true_and, and_true]
          refine br1 (by decide) ?_
          simp (disch := omega) only [q_X11_look_103, q_X11_look_104, q_X11_look_106, y_is, y_gf, y_pf, y_f0, y_f1, y_f3, y_nI, y_nK, y_nZ, y_nL, y_nR, y_k1i, y_k1r, y_k1l, y_k1n, y_tl, y_tn, y_s, y_ss, List.getElem?_cons_zero, List.getElem?_cons_succ, List.set_cons_zero, List.set_cons_succ, List.length_cons, List.length_nil, true_and, and_true, lit, eq_n]
          by_cases h59 : tb P = 59
          · rw [bnt h59]
            simp only [if_pos h59] at hQ
            simp only [q_X11_look_109, q_X11_look_110, y_is, y_gf, y_pf, y_f0, y_f1, y_f3, y_nI, y_nK, y_nZ, y_nL, y_nR, y_k1i, y_k1r, y_k1l, y_k1n, y_tl, y_tn, y_s, y_ss, List.getElem?_cons_zero, List.getElem?_cons_succ, List.set_cons_zero, List.set_cons_succ, List.length_cons, List.length_nil, true_and, and_true]
            exact one_ 3 (by omega) (by omega) (fun g2 va m f => hQ g2 va (by rw [Nat.add_sub_cancel_left]; exact m) (fun y => absurd y (by decide)) f)
          · rw [bnf h59]
            simp only [if_neg h59] at hQ
            simp only [q_X11_look_113, y_is, y_gf, y_pf, y_f0, y_f1, y_f3, y_nI, y_nK, y_nZ, y_nL, y_nR, y_k1i, y_k1r, y_k1l, y_k1n, y_tl, y_tn, y_s, y_ss, List.getElem?_cons_zero, List.getElem?_cons_succ, List.set_cons_zero, List.set_cons_succ, List.length_cons, List.length_nil, true_and, and_true]
            exact one_ 4 (by omega) (by omega) (fun g2 va m f => hQ g2 va (by rw [Nat.add_sub_cancel_left]; exact m) (fun y => absurd y (by decide)) f)
  have skip : ∀ (d k : Nat) (g' : mzG), k + d = tl → skp tb d k = P → g'.2 73 = ob 9 [.ref 74, .ref 75, .ref 76, .ref 77, .ref 78, .ref 79, .int (f0), .int (f1), .int (f2), .ref 80, .int (f3), .ref 81, .int (f4), .ref 82, .long (r), .ref 83, .ref 84, .int (nI tl), .int (nI k), .int (f7), .int (f8), .int (f9), .ref 85, .int (f10)] → fr g g' 73 74 → wp 214 b 5 [.ref 73, .int (nI a), .null, .null, .null] [] g' Q := by
    intro d
    induction d with
    | zero =>
      intro k g' hk hs hM hf
      rw [skp] at hs
      subst hs
      rw [q_X11_look_5]
      simp (disch := omega) only [q_X11_look_6, q_X11_look_9, q_X11_look_10, q_X11_look_13, hM, y_is, y_gf, y_pf, y_f0, y_f1, y_f3, y_nI, y_nK, y_nZ, y_nL, y_nR, y_k1i, y_k1r, y_k1l, y_k1n, y_tl, y_tn, y_s, y_ss, List.getElem?_cons_zero, List.getElem?_cons_succ, List.set_cons_zero, List.set_cons_succ, List.length_cons, List.length_nil, true_and, and_true, y_lIn, y_lKn, y_lZn, y_lLn, y_wIn, y_wZn, y_wLn, lit, le_n, lt_n, eq_n, lit, litL, le_n, lt_n, eq_n, nI_add, m_neg, pk_sub, pk_mul, i_l, l_i, l_add, l_mul, l_sub, lc_le, lc_ge, lc_lt, lc_gt, lc_eq, l_rem2, l_rem3, i_rem2, i_rem3]
      exact br1 (by omega) (at43 g' hM hf)
    | succ d ih =>
      intro k g' hk hs hM hf
      rw [skp] at hs
      obtain ⟨e1, e2⟩ := hfb k (by omega)
      rw [q_X11_look_5]
      simp (disch := omega) only [q_X11_look_6, q_X11_look_9, q_X11_look_10, q_X11_look_13, q_X11_look_16, q_X11_look_17, q_X11_look_20, q_X11_look_21, q_X11_look_24, q_X11_look_25, q_X11_look_27, hM, e84 g' hf, e1, y_is, y_gf, y_pf, y_f0, y_f1, y_f3, y_nI, y_nK, y_nZ, y_nL, y_nR, y_k1i, y_k1r, y_k1l, y_k1n, y_tl, y_tn, y_s, y_ss, List.getElem?_cons_zero, List.getElem?_cons_succ, List.set_cons_zero, List.set_cons_succ, List.length_cons, List.length_nil, true_and, and_true, y_lIn, y_lKn, y_lZn, y_lLn, y_wIn, y_wZn, y_wLn, lit, le_n, lt_n, eq_n, lit, litL, le_n, lt_n, eq_n, nI_add, m_neg, pk_sub, pk_mul, i_l, l_i, l_add, l_mul, l_sub, lc_le, lc_ge, lc_lt, lc_gt, lc_eq, l_rem2, l_rem3, i_rem2, i_rem3]
      refine br0 (by omega) ?_
      by_cases c : tb k = 32
      · rw [bnt c]
        rw [if_pos c] at hs
        simp (disch := omega) only [q_X11_look_30, q_X11_look_31, q_X11_look_32, q_X11_look_35, q_X11_look_36, q_X11_look_37, q_X11_look_40, hM, y_is, y_gf, y_pf, y_f0, y_f1, y_f3, y_nI, y_nK, y_nZ, y_nL, y_nR, y_k1i, y_k1r, y_k1l, y_k1n, y_tl, y_tn, y_s, y_ss, List.getElem?_cons_zero, List.getElem?_cons_succ, List.set_cons_zero, List.set_cons_succ, List.length_cons, List.length_nil, true_and, and_true, lit, nI_add]
        exact ⟨by decide, ih (k + 1) _ (by omega) hs y_s (hf.hs (by omega) (by omega))⟩
      · rw [bnf c]
        rw [if_neg c] at hs
        subst hs
        exact at43 g' hM hf
  simp (disch := omega) only [q_X11_look_0, q_X11_look_1, q_X11_look_2, hM0, y_is, y_gf, y_pf, y_f0, y_f1, y_f3, y_nI, y_nK, y_nZ, y_nL, y_nR, y_k1i, y_k1r, y_k1l, y_k1n, y_tl, y_tn, y_s, y_ss, List.getElem?_cons_zero, List.getElem?_cons_succ, List.set_cons_zero, List.set_cons_succ, List.length_cons, List.length_nil, true_and, and_true]
  exact ⟨by decide, skip (tl - a) a _ (by omega) hsk y_s (fr.rf.hs (by omega) (by omega))⟩
end MREAD
