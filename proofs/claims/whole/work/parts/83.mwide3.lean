/-! ===== the reference: spy and duke ===== -/
theorem crs {A B w ti tb : Nat} (hw : 0 < w) (hi : ti ≤ 40) (hb : tb ≤ 40) : (A * w ^ (40 - ti) < B * w ^ (40 - tb)) ↔ A * w ^ tb < B * w ^ ti := by
  have e1 : w ^ (40 - ti) * w ^ ti = w ^ 40 := by rw [← Nat.pow_add, show 40 - ti + ti = 40 by omega]
  have e2 : w ^ (40 - tb) * w ^ tb = w ^ 40 := by rw [← Nat.pow_add, show 40 - tb + tb = 40 by omega]
  have p1 : 0 < w ^ ti * w ^ tb := Nat.mul_pos (Nat.pow_pos hw) (Nat.pow_pos hw)
  have p2 : 0 < w ^ 40 := Nat.pow_pos hw
  have a1 : A * w ^ (40 - ti) * (w ^ ti * w ^ tb) = A * w ^ tb * w ^ 40 := by
    rw [← e1]; simp only [Nat.mul_assoc, Nat.mul_left_comm, Nat.mul_comm]
  have a2 : B * w ^ (40 - tb) * (w ^ ti * w ^ tb) = B * w ^ ti * w ^ 40 := by
    rw [← e2]; simp only [Nat.mul_assoc, Nat.mul_left_comm, Nat.mul_comm]
  rw [← Nat.mul_lt_mul_right p1, a1, a2, Nat.mul_lt_mul_right p2]
def uN (W : Nat → Nat) (pay a : Nat) : Nat := (bsW W a).1 + (bsW W a).2 * (pay * (W 0 - a))
def uD (W : Nat → Nat) (a : Nat) : Nat := (bsW W a).2
theorem lo_u {W : Nat → Nat} (h : wv W) {pay a : Nat} (ha : a ≤ 9) : loN (soW W) (W 0) pay a * Nat.gcd (bsW W a).1 (bsW W a).2 = uN W pay a ∧ loD (soW W) (W 0) a * Nat.gcd (bsW W a).1 (bsW W a).2 = uD W a := by
  have d1 := Nat.div_mul_cancel (Nat.gcd_dvd_left (bsW W a).1 (bsW W a).2)
  have d2 := Nat.div_mul_cancel (Nat.gcd_dvd_right (bsW W a).1 (bsW W a).2)
  refine ⟨?_, d2⟩
  show ((bsW W a).1 / Nat.gcd (bsW W a).1 (bsW W a).2 + pay * (W 0 - a) * ((bsW W a).2 / Nat.gcd (bsW W a).1 (bsW W a).2)) * Nat.gcd (bsW W a).1 (bsW W a).2 = uN W pay a
  rw [Nat.add_mul, Nat.mul_assoc, d1, d2]
  unfold uN
  rw [Nat.mul_comm (pay * (W 0 - a))]
theorem crs2 {W : Nat → Nat} (h : wv W) {pay a c : Nat} (ha : a ≤ 9) (hc : c ≤ 9) : (loN (soW W) (W 0) pay a * loD (soW W) (W 0) c < loN (soW W) (W 0) pay c * loD (soW W) (W 0) a) ↔ uN W pay a * uD W c < uN W pay c * uD W a := by
  obtain ⟨a1, a2⟩ := lo_u h (pay := pay) ha
  obtain ⟨c1, c2⟩ := lo_u h (pay := pay) hc
  have g1 : 0 < Nat.gcd (bsW W a).1 (bsW W a).2 := Nat.gcd_pos_of_pos_right _ (bsW_le h ha).2.1
  have g2 : 0 < Nat.gcd (bsW W c).1 (bsW W c).2 := Nat.gcd_pos_of_pos_right _ (bsW_le h hc).2.1
  rw [← a1, ← a2, ← c1, ← c2]
  generalize Nat.gcd (bsW W a).1 (bsW W a).2 = ga at *
  generalize Nat.gcd (bsW W c).1 (bsW W c).2 = gc at *
  rw [← Nat.mul_lt_mul_right (Nat.mul_pos g1 g2)]
  have e1 : ∀ p q : Nat, p * ga * (q * gc) = p * q * (ga * gc) := fun p q => by simp only [Nat.mul_assoc, Nat.mul_left_comm, Nat.mul_comm]
  have e2 : ∀ p q : Nat, p * gc * (q * ga) = p * q * (ga * gc) := fun p q => by simp only [Nat.mul_assoc, Nat.mul_left_comm, Nat.mul_comm]
  rw [e1, e2]
theorem uN_le {W : Nat → Nat} (h : wv W) {pay a : Nat} (ha : a ≤ 9) (hp : pay ≤ 99) : uN W pay a < BB ^ 31 ∧ uD W a < BB ^ 31 ∧ (bsW W a).2 * (pay * (W 0 - a)) < BB ^ 31 := by
  have hb := bsW_le h ha
  have n9 := h.1.2
  have k1 : pay * (W 0 - a) ≤ 99 * 9 := Nat.mul_le_mul hp (by omega)
  have k2 : (bsW W a).2 * (pay * (W 0 - a)) ≤ 9 * 99 ^ 8 * (99 * 9) := Nat.mul_le_mul hb.2.2 k1
  have q1 : 9 * 99 ^ 9 + 9 * 99 ^ 8 * (99 * 9) < BB ^ 31 := by decide +kernel
  have q2 : 9 * 99 ^ 8 < BB ^ 31 := by decide +kernel
  have q3 : 9 * 99 ^ 8 * (99 * 9) < BB ^ 31 := by decide +kernel
  exact ⟨Nat.lt_of_le_of_lt (Nat.add_le_add hb.1 k2) q1, Nat.lt_of_le_of_lt hb.2.2 q2, Nat.lt_of_le_of_lt k2 q3⟩
section MWIDE3
variable {b : mzB} {g : mzG} {Q : mzQ} {S : sT}
theorem cmpn {A B : Nat} : (0 ≤ cmpI A B) = ¬ A < B := by
  unfold cmpI
  by_cases c : A < B
  · rw [if_pos c]; simp only [c, not_true]; exact eq_false (by decide)
  · rw [if_neg c]
    simp only [c, not_false_eq_true]
    refine eq_true ?_
    by_cases e : A = B
    · rw [if_pos e]; decide
    · rw [if_neg e]; decide
theorem m_spy (h : MR g S) (hS : sv S) (hQ : mO g (oSpy S) Q) : wp 210 b 0 [.ref 73, .null, .null, .null] [] g Q := by
  unfold oSpy at hQ
  obtain ⟨x, r, hM, x0, x5⟩ := id h.mM
  obtain ⟨f, h74, hW⟩ := id h.mW
  obtain ⟨V, hV, -, -⟩ := id h.mV
  have hv := hS.vW
  have hwl := whW_le hv
  have n1 := hv.1.1
  have n9 := hv.1.2
  simp only [q_X11_spy_0, q_X11_spy_1, hM, y_is, y_gf, y_pf, y_f0, y_f1, y_f3, y_nI, y_nK, y_nZ, y_nL, y_nR, y_k1i, y_k1r, y_k1l, y_k1n, y_tl, y_tn, y_s, y_ss, List.getElem?_cons_zero, List.getElem?_cons_succ, List.set_cons_zero, List.set_cons_succ, List.length_cons, List.length_nil, true_and, and_true]
  refine s_mwhole hM h74 hW rfl n9 ?_
  show wp _ _ _ _ [.int (nI (whW S.W))] _ _
  simp (disch := omega) only [q_X11_spy_4, y_is, y_gf, y_pf, y_f0, y_f1, y_f3, y_nI, y_nK, y_nZ, y_nL, y_nR, y_k1i, y_k1r, y_k1l, y_k1n, y_tl, y_tn, y_s, y_ss, List.getElem?_cons_zero, List.getElem?_cons_succ, List.set_cons_zero, List.set_cons_succ, List.length_cons, List.length_nil, true_and, and_true, lit, eq_n]
  by_cases c : whW S.W = 0
  · rw [bnt c]
    rw [if_pos c] at hQ
    simp only [q_X11_spy_7, q_X11_spy_8, hM, y_is, y_gf, y_pf, y_f0, y_f1, y_f3, y_nI, y_nK, y_nZ, y_nL, y_nR, y_k1i, y_k1r, y_k1l, y_k1n, y_tl, y_tn, y_s, y_ss, List.getElem?_cons_zero, List.getElem?_cons_succ, List.set_cons_zero, List.set_cons_succ, List.length_cons, List.length_nil, true_and, and_true]
    refine m_no h (fun g' a1 a2 => ?_)
    simp only [q_X11_spy_11, y_is, y_gf, y_pf, y_f0, y_f1, y_f3, y_nI, y_nK, y_nZ, y_nL, y_nR, y_k1i, y_k1r, y_k1l, y_k1n, y_tl, y_tn, y_s, y_ss, List.getElem?_cons_zero, List.getElem?_cons_succ, List.set_cons_zero, List.set_cons_succ, List.length_cons, List.length_nil, true_and, and_true]
    exact hQ g' a1 a2
  rw [bnf c]
  rw [if_neg c] at hQ
  have hle := lea_lt (d40 (shW S.W) (doW S.W) (trW S.W) (whW S.W))
  have htr : ∀ i, i < 9 → trW S.W i ≤ 40 := fun i hi => (hv.2.1 i hi).2.2.2.2
  have loop : ∀ (d i : Nat) (g' : mzG) (V' : Nat → Nat) (x1 : Int32) (x3 : Value), i + d = S.W 0 → x1 = (if i = 0 then -1 else nI (lea (d40 (shW S.W) (doW S.W) (trW S.W) (whW S.W)) i)) → ms g' E0 V' → (0 < i → V' 4 = dbW S.W (lea (d40 (shW S.W) (doW S.W) (trW S.W) (whW S.W)) i) ∧ V' 5 = whW S.W ^ trW S.W (lea (d40 (shW S.W) (doW S.W) (trW S.W) (whW S.W)) i)) → fr g g' 78 80 → wp 210 b 16 [.ref 73, .int x1, .int (nI i), x3] [] g' Q := by
    intro d
    induction d with
    | zero =>
      intro i g' V' x1 x3 hi hx1 hV' h45 hf
      have hi : i = S.W 0 := by omega
      subst hi
      obtain ⟨h4, h5⟩ := h45 (by omega)
      have h4 : V' 4 = dbW S.W (spW S.W) := h4
      have h5 : V' 5 = whW S.W ^ trW S.W (spW S.W) := h5
      rw [if_neg (by omega)] at hx1
      have hx1 : x1 = nI (spW S.W) := hx1
      subst hx1
      have hsp := spW_lt hv
      have hM' : g'.2 73 = ob 9 [.ref 74, .ref 75, .ref 76, .ref 77, .ref 78, .ref 79, .int (x 0), .int (x 1), .int (x 2), .ref 80, .int (x 3), .ref 81, .int (x 4), .ref 82, .long (r), .ref 83, .ref 84, .int (x 5), .int (x 6), .int (x 7), .int (x 8), .int (x 9), .ref 85, .int (x 10)] := by rw [hf.2 _ (by omega)]; exact hM
      have h74' : g'.2 74 = aI 141 f := by rw [hf.2 _ (by omega)]; exact h74
      rw [q_X11_spy_16]
      simp (disch := omega) only [q_X11_spy_17, q_X11_spy_18, hM', y_is, y_gf, y_pf, y_f0, y_f1, y_f3, y_nI, y_nK, y_nZ, y_nL, y_nR, y_k1i, y_k1r, y_k1l, y_k1n, y_tl, y_tn, y_s, y_ss, List.getElem?_cons_zero, List.getElem?_cons_succ, List.set_cons_zero, List.set_cons_succ, List.length_cons, List.length_nil, true_and, and_true]
      refine s_watched hM' h74' hW ?_
      simp (disch := omega) only [q_X11_spy_21, q_X11_spy_105, q_X11_spy_106, q_X11_spy_107, q_X11_spy_108, hM', y_is, y_gf, y_pf, y_f0, y_f1, y_f3, y_nI, y_nK, y_nZ, y_nL, y_nR, y_k1i, y_k1r, y_k1l, y_k1n, y_tl, y_tn, y_s, y_ss, List.getElem?_cons_zero, List.getElem?_cons_succ, List.set_cons_zero, List.set_cons_succ, List.length_cons, List.length_nil, true_and, and_true, lit, le_n]
      refine br1 (by first | decide | omega | trivial | simp) (s_mcopy hM' hV' (by decide) (E0n _) (by decide) (E0n _) (by decide) (fun g1 hM1 hV1 hf1 => ?_))
      simp (disch := omega) only [q_X11_spy_111, q_X11_spy_112, q_X11_spy_113, q_X11_spy_114, hM1, y_is, y_gf, y_pf, y_f0, y_f1, y_f3, y_nI, y_nK, y_nZ, y_nL, y_nR, y_k1i, y_k1r, y_k1l, y_k1n, y_tl, y_tn, y_s, y_ss, List.getElem?_cons_zero, List.getElem?_cons_succ, List.set_cons_zero, List.set_cons_succ, List.length_cons, List.length_nil, true_and, and_true, lit]
      refine s_mcopy hM1 hV1 (by decide) (E0n _) (by decide) (E0n _) (by decide) (fun g2 hM2 hV2 hf2 => ?_)
      have e2 : va_up (va_up V' 2 (V' 4)) 3 (va_up V' 2 (V' 4) 5) 2 = dbW S.W (spW S.W) := by rw [up_n (by decide), up_s, h4]
      have e3 : va_up (va_up V' 2 (V' 4)) 3 (va_up V' 2 (V' 4) 5) 3 = whW S.W ^ trW S.W (spW S.W) := by rw [up_s, up_n (by decide), h5]
      simp (disch := omega) only [q_X11_spy_117, q_X11_spy_118, q_X11_spy_119, q_X11_spy_120, q_X11_spy_121, hM2, y_is, y_gf, y_pf, y_f0, y_f1, y_f3, y_nI, y_nK, y_nZ, y_nL, y_nR, y_k1i, y_k1r, y_k1l, y_k1n, y_tl, y_tn, y_s, y_ss, List.getElem?_cons_zero, List.getElem?_cons_succ, List.set_cons_zero, List.set_cons_succ, List.length_cons, List.length_nil, true_and, and_true, lit]
      refine m_wide h x0 x5 ((hf.tr hf1).tr hf2) hM2 hV2 (by decide) (by decide) (by decide) (by decide) (by rw [e3]; exact Nat.pow_pos (by omega)) (by rw [e2]; exact Nat.lt_of_le_of_lt (dbW_le hv hsp) (whp_le hv hsp)) (by rw [e3]; exact whp_le hv hsp) (fun g4 k1 k2 => ?_)
      rw [e2, e3] at k1
      simp only [q_X11_spy_124, q_X11_spy_125, y_is, y_gf, y_pf, y_f0, y_f1, y_f3, y_nI, y_nK, y_nZ, y_nL, y_nR, y_k1i, y_k1r, y_k1l, y_k1n, y_tl, y_tn, y_s, y_ss, List.getElem?_cons_zero, List.getElem?_cons_succ, List.set_cons_zero, List.set_cons_succ, List.length_cons, List.length_nil, true_and, and_true]
      exact hQ g4 k1 k2
    | succ d ih =>
      intro i g' V' x1 x3 hi hx1 hV' h45 hf
      have hM' : g'.2 73 = ob 9 [.ref 74, .ref 75, .ref 76, .ref 77, .ref 78, .ref 79, .int (x 0), .int (x 1), .int (x 2), .ref 80, .int (x 3), .ref 81, .int (x 4), .ref 82, .long (r), .ref 83, .ref 84, .int (x 5), .int (x 6), .int (x 7), .int (x 8), .int (x 9), .ref 85, .int (x 10)] := by rw [hf.2 _ (by omega)]; exact hM
      have h74' : g'.2 74 = aI 141 f := by rw [hf.2 _ (by omega)]; exact h74
      have ih := fun g2 V2 x1 x3 => ih (i + 1) g2 V2 x1 x3 (by omega)
      rw [lea, if_neg (show ¬ i + 1 = 0 by omega)] at ih
      rw [q_X11_spy_16]
      simp (disch := omega) only [q_X11_spy_17, q_X11_spy_18, hM', y_is, y_gf, y_pf, y_f0, y_f1, y_f3, y_nI, y_nK, y_nZ, y_nL, y_nR, y_k1i, y_k1r, y_k1l, y_k1n, y_tl, y_tn, y_s, y_ss, List.getElem?_cons_zero, List.getElem?_cons_succ, List.set_cons_zero, List.set_cons_succ, List.length_cons, List.length_nil, true_and, and_true]
      refine s_watched hM' h74' hW ?_
      simp (disch := omega) only [q_X11_spy_21, q_X11_spy_24, q_X11_spy_25, q_X11_spy_26, hM', y_is, y_gf, y_pf, y_f0, y_f1, y_f3, y_nI, y_nK, y_nZ, y_nL, y_nR, y_k1i, y_k1r, y_k1l, y_k1n, y_tl, y_tn, y_s, y_ss, List.getElem?_cons_zero, List.getElem?_cons_succ, List.set_cons_zero, List.set_cons_succ, List.length_cons, List.length_nil, true_and, and_true, lit, le_n]
      refine br0 (by omega) (s_layDoubt hM' h74' hW rfl n9 (by omega) hv hV' (fun g1 V1 hM1 hV1 h6 h7 hk hf1 => ?_))
      have h6 : V1 6 = dbW S.W i := h6
      have h7 : V1 7 = whW S.W ^ trW S.W i := h7
      have take : ∀ (g2 : mzG) (V2 : Nat → Nat), (i = 0 ∨ d40 (shW S.W) (doW S.W) (trW S.W) (whW S.W) i < d40 (shW S.W) (doW S.W) (trW S.W) (whW S.W) (lea (d40 (shW S.W) (doW S.W) (trW S.W) (whW S.W)) i)) → g2.2 73 = ob 9 [.ref 74, .ref 75, .ref 76, .ref 77, .ref 78, .ref 79, .int (x 0), .int (x 1), .int (x 2), .ref 80, .int (x 3), .ref 81, .int (x 4), .ref 82, .long (r), .ref 83, .ref 84, .int (x 5), .int (x 6), .int (x 7), .int (x 8), .int (x 9), .ref 85, .int (x 10)] → ms g2 E0 V2 → V2 6 = dbW S.W i → V2 7 = whW S.W ^ trW S.W i → fr g g2 78 80 → wp 210 b 79 [.ref 73, .int x1, .int (nI i), .int 1] [] g2 Q := by
        intro g2 V2 hc hM2 hV2 a6 a7 hf2
        rw [if_pos hc] at ih
        simp (disch := omega) only [q_X11_spy_79, q_X11_spy_80, q_X11_spy_83, q_X11_spy_84, q_X11_spy_85, q_X11_spy_86, q_X11_spy_87, q_X11_spy_89, hM2, y_is, y_gf, y_pf, y_f0, y_f1, y_f3, y_nI, y_nK, y_nZ, y_nL, y_nR, y_k1i, y_k1r, y_k1l, y_k1n, y_tl, y_tn, y_s, y_ss, List.getElem?_cons_zero, List.getElem?_cons_succ, List.set_cons_zero, List.set_cons_succ, List.length_cons, List.length_nil, true_and, and_true, lit]
        refine br0 (by decide) (s_mcopy hM2 hV2 (by decide) (E0n _) (by decide) (E0n _) (by decide) (fun g3 hM3 hV3 hf3 => ?_))
        simp (disch := omega) only [q_X11_spy_92, q_X11_spy_93, q_X11_spy_94, q_X11_spy_96, hM3, y_is, y_gf, y_pf, y_f0, y_f1, y_f3, y_nI, y_nK, y_nZ, y_nL, y_nR, y_k1i, y_k1r, y_k1l, y_k1n, y_tl, y_tn, y_s, y_ss, List.getElem?_cons_zero, List.getElem?_cons_succ, List.set_cons_zero, List.set_cons_succ, List.length_cons, List.length_nil, true_and, and_true, lit]
        refine s_mcopy hM3 hV3 (by decide) (E0n _) (by decide) (E0n _) (by decide) (fun g4 hM4 hV4 hf4 => ?_)
        simp (disch := omega) only [q_X11_spy_99, q_X11_spy_102, y_is, y_gf, y_pf, y_f0, y_f1, y_f3, y_nI, y_nK, y_nZ, y_nL, y_nR, y_k1i, y_k1r, y_k1l, y_k1n, y_tl, y_tn, y_s, y_ss, List.getElem?_cons_zero, List.getElem?_cons_succ, List.set_cons_zero, List.set_cons_succ, List.length_cons, List.length_nil, true_and, and_true, lit, nI_add]
        refine ih g4 _ _ _ rfl hV4 (fun _ => ⟨?_, ?_⟩) ((hf2.tr hf3).tr hf4)
        · rw [up_n (by decide), up_s, a6]
        · rw [up_s, up_n (by decide), a7]
      have skip : ∀ (g2 : mzG) (V2 : Nat → Nat), ¬ (i = 0 ∨ d40 (shW S.W) (doW S.W) (trW S.W) (whW S.W) i < d40 (shW S.W) (doW S.W) (trW S.W) (whW S.W) (lea (d40 (shW S.W) (doW S.W) (trW S.W) (whW S.W)) i)) → ms g2 E0 V2 → V2 4 = V' 4 → V2 5 = V' 5 → fr g g2 78 80 → wp 210 b 79 [.ref 73, .int x1, .int (nI i), .int 0] [] g2 Q := by
        intro g2 V2 hc hV2 a4 a5 hf2
        rw [if_neg hc] at ih
        obtain ⟨b4, b5⟩ := h45 (by omega)
        rw [if_neg (fun z => hc (Or.inl z))] at hx1
        simp (disch := omega) only [q_X11_spy_79, q_X11_spy_80, y_is, y_gf, y_pf, y_f0, y_f1, y_f3, y_nI, y_nK, y_nZ, y_nL, y_nR, y_k1i, y_k1r, y_k1l, y_k1n, y_tl, y_tn, y_s, y_ss, List.getElem?_cons_zero, List.getElem?_cons_succ, List.set_cons_zero, List.set_cons_succ, List.length_cons, List.length_nil, true_and, and_true]
        refine br1 (by first | decide | omega | trivial | simp) ?_
        simp (disch := omega) only [q_X11_spy_99, q_X11_spy_102, y_is, y_gf, y_pf, y_f0, y_f1, y_f3, y_nI, y_nK, y_nZ, y_nL, y_nR, y_k1i, y_k1r, y_k1l, y_k1n, y_tl, y_tn, y_s, y_ss, List.getElem?_cons_zero, List.getElem?_cons_succ, List.set_cons_zero, List.set_cons_succ, List.length_cons, List.length_nil, true_and, and_true, lit, nI_add]
        exact ih g2 _ _ _ hx1 hV2 (fun _ => ⟨a4.trans b4, a5.trans b5⟩) hf2
      by_cases i0 : i = 0
      · rw [if_pos i0] at hx1
        subst hx1
        simp (disch := omega) only [q_X11_spy_29, q_X11_spy_30, q_X11_spy_31, y_is, y_gf, y_pf, y_f0, y_f1, y_f3, y_nI, y_nK, y_nZ, y_nL, y_nR, y_k1i, y_k1r, y_k1l, y_k1n, y_tl, y_tn, y_s, y_ss, List.getElem?_cons_zero, List.getElem?_cons_succ, List.set_cons_zero, List.set_cons_succ, List.length_cons, List.length_nil, true_and, and_true]
        refine br0 (fun z => z (by first | decide | omega | trivial | simp)) ?_
        simp (disch := omega) only [q_X11_spy_34, q_X11_spy_35, q_X11_spy_39, q_X11_spy_40, q_X11_spy_41, y_is, y_gf, y_pf, y_f0, y_f1, y_f3, y_nI, y_nK, y_nZ, y_nL, y_nR, y_k1i, y_k1r, y_k1l, y_k1n, y_tl, y_tn, y_s, y_ss, List.getElem?_cons_zero, List.getElem?_cons_succ, List.set_cons_zero, List.set_cons_succ, List.length_cons, List.length_nil, true_and, and_true]
        exact br1 (by decide) (take g1 V1 (Or.inl i0) hM1 hV1 h6 h7 (hf.tr hf1))
      · have hx1' := hx1
        rw [if_neg i0] at hx1'
        have hli := hle i
        obtain ⟨b4, b5⟩ := h45 (by omega)
        have hlt : lea (d40 (shW S.W) (doW S.W) (trW S.W) (whW S.W)) i < S.W 0 := by omega
        simp (disch := omega) only [q_X11_spy_29, q_X11_spy_30, q_X11_spy_31, y_is, y_gf, y_pf, y_f0, y_f1, y_f3, y_nI, y_nK, y_nZ, y_nL, y_nR, y_k1i, y_k1r, y_k1l, y_k1n, y_tl, y_tn, y_s, y_ss, List.getElem?_cons_zero, List.getElem?_cons_succ, List.set_cons_zero, List.set_cons_succ, List.length_cons, List.length_nil, true_and, and_true]
        refine br1 (fun z => (m1_ne (a := lea (d40 (shW S.W) (doW S.W) (trW S.W) (whW S.W)) i) (by omega)).mp (hx1'.symm.trans z)) ?_
        simp (disch := omega) only [q_X11_spy_38, q_X11_spy_39, q_X11_spy_40, q_X11_spy_41, q_X11_spy_44, q_X11_spy_45, q_X11_spy_47, q_X11_spy_49, q_X11_spy_50, hM1, y_is, y_gf, y_pf, y_f0, y_f1, y_f3, y_nI, y_nK, y_nZ, y_nL, y_nR, y_k1i, y_k1r, y_k1l, y_k1n, y_tl, y_tn, y_s, y_ss, List.getElem?_cons_zero, List.getElem?_cons_succ, List.set_cons_zero, List.set_cons_succ, List.length_cons, List.length_nil, true_and, and_true, lit]
        have v4 : V1 4 = dbW S.W (lea (d40 (shW S.W) (doW S.W) (trW S.W) (whW S.W)) i) := (hk 4 (by decide) (by decide) (by decide)).trans b4
        have v5 : V1 5 = whW S.W ^ trW S.W (lea (d40 (shW S.W) (doW S.W) (trW S.W) (whW S.W)) i) := (hk 5 (by decide) (by decide) (by decide)).trans b5
        refine br0 (fun z => z (by first | decide | omega | trivial | simp)) (s_mproduct hM1 hV1 (by decide) (E0n _) (by decide) (E0n _) (by decide) (E0n _) (by decide) (by decide) (by rw [h6]; exact Nat.lt_of_le_of_lt (dbW_le hv (by omega)) (whp_le hv (by omega))) (by rw [v5]; exact whp_le hv hlt) (fun g2 hM2 hV2 hf2 => ?_))
        simp (disch := omega) only [q_X11_spy_53, q_X11_spy_54, q_X11_spy_56, q_X11_spy_57, q_X11_spy_59, hM2, y_is, y_gf, y_pf, y_f0, y_f1, y_f3, y_nI, y_nK, y_nZ, y_nL, y_nR, y_k1i, y_k1r, y_k1l, y_k1n, y_tl, y_tn, y_s, y_ss, List.getElem?_cons_zero, List.getElem?_cons_succ, List.set_cons_zero, List.set_cons_succ, List.length_cons, List.length_nil, true_and, and_true, lit]
        refine s_mproduct hM2 hV2 (by decide) (E0n _) (by decide) (E0n _) (by decide) (E0n _) (by decide) (by decide) (by rw [up_n (by decide), v4]; exact Nat.lt_of_le_of_lt (dbW_le hv hlt) (whp_le hv hlt)) (by rw [up_n (by decide), h7]; exact whp_le hv (by omega)) (fun g3 hM3 hV3 hf3 => ?_)
        simp (disch := omega) only [q_X11_spy_62, q_X11_spy_63, q_X11_spy_65, q_X11_spy_67, hM3, y_is, y_gf, y_pf, y_f0, y_f1, y_f3, y_nI, y_nK, y_nZ, y_nL, y_nR, y_k1i, y_k1r, y_k1l, y_k1n, y_tl, y_tn, y_s, y_ss, List.getElem?_cons_zero, List.getElem?_cons_succ, List.set_cons_zero, List.set_cons_succ, List.length_cons, List.length_nil, true_and, and_true, lit]
        refine s_mcompare hM3 hV3 (by decide) (E0n _) (by decide) (E0n _) ?_
        rw [up_s, up_n (by decide), up_s, up_n (by decide), up_n (by decide), v4, h7, h6, v5]
        have hcr := crs (A := dbW S.W i) (B := dbW S.W (lea (d40 (shW S.W) (doW S.W) (trW S.W) (whW S.W)) i)) (w := whW S.W) (by omega) (htr i (by omega)) (htr (lea (d40 (shW S.W) (doW S.W) (trW S.W) (whW S.W)) i) (by omega))
        have hd : ∀ k, d40 (shW S.W) (doW S.W) (trW S.W) (whW S.W) k = dbW S.W k * whW S.W ^ (40 - trW S.W k) := fun _ => rfl
        have hf3' := ((hf.tr hf1).tr hf2).tr hf3
        simp only [q_X11_spy_70, y_is, y_gf, y_pf, y_f0, y_f1, y_f3, y_nI, y_nK, y_nZ, y_nL, y_nR, y_k1i, y_k1r, y_k1l, y_k1n, y_tl, y_tn, y_s, y_ss, List.getElem?_cons_zero, List.getElem?_cons_succ, List.set_cons_zero, List.set_cons_succ, List.length_cons, List.length_nil, true_and, and_true, cmpn]
        refine brs (fun z => ?_) (fun z => ?_)
        · simp only [q_X11_spy_77, q_X11_spy_78, y_is, y_gf, y_pf, y_f0, y_f1, y_f3, y_nI, y_nK, y_nZ, y_nL, y_nR, y_k1i, y_k1r, y_k1l, y_k1n, y_tl, y_tn, y_s, y_ss, List.getElem?_cons_zero, List.getElem?_cons_succ, List.set_cons_zero, List.set_cons_succ, List.length_cons, List.length_nil, true_and, and_true]
          refine skip g3 _ ?_ hV3 ?_ ?_ hf3'
          · rintro (u | u)
            · exact i0 u
            · rw [hd, hd] at u
              exact z (hcr.mp u)
          · rw [up_n (by decide), up_n (by decide), v4, b4]
          · rw [up_n (by decide), up_n (by decide), v5, b5]
        · simp only [q_X11_spy_73, q_X11_spy_74, q_X11_spy_78, y_is, y_gf, y_pf, y_f0, y_f1, y_f3, y_nI, y_nK, y_nZ, y_nL, y_nR, y_k1i, y_k1r, y_k1l, y_k1n, y_tl, y_tn, y_s, y_ss, List.getElem?_cons_zero, List.getElem?_cons_succ, List.set_cons_zero, List.set_cons_succ, List.length_cons, List.length_nil, true_and, and_true]
          refine take g3 _ (Or.inr ?_) hM3 hV3 (by rw [up_n (by decide), up_n (by decide), h6]) (by rw [up_n (by decide), up_n (by decide), h7]) hf3'
          rw [hd, hd]
          exact hcr.mpr (Nat.lt_of_not_le (fun y => z (by omega)))
  simp (disch := omega) only [q_X11_spy_12, q_X11_spy_13, q_X11_spy_14, q_X11_spy_15, y_is, y_gf, y_pf, y_f0, y_f1, y_f3, y_nI, y_nK, y_nZ, y_nL, y_nR, y_k1i, y_k1r, y_k1l, y_k1n, y_tl, y_tn, y_s, y_ss, List.getElem?_cons_zero, List.getElem?_cons_succ, List.set_cons_zero, List.set_cons_succ, List.length_cons, List.length_nil, true_and, and_true]
  exact loop (S.W 0) 0 g V _ _ (by omega) (by rw [if_pos rfl]) hV (fun z => by omega) fr.rf
theorem m_duke {p : Int32} (h : MR g S) (hS : sv S) (hQ : mO g (oDuke S p) Q) : wp 191 b 0 [.ref 73, .int p, .null, .null, .null] [] g Q := by
  unfold oDuke at hQ
  obtain ⟨x, r, hM, x0, x5⟩ := id h.mM
  obtain ⟨f, h74, hW⟩ := id h.mW
  obtain ⟨V, hV, v0, v1⟩ := id h.mV
  have hv := hS.vW
  have n1 := hv.1.1
  have n9 := hv.1.2
  simp only [q_X11_duke_0, q_X11_duke_1, q_X11_duke_2, q_X11_duke_3, q_X11_duke_6, y_is, y_gf, y_pf, y_f0, y_f1, y_f3, y_nI, y_nK, y_nZ, y_nL, y_nR, y_k1i, y_k1r, y_k1l, y_k1n, y_tl, y_tn, y_s, y_ss, List.getElem?_cons_zero, List.getElem?_cons_succ, List.set_cons_zero, List.set_cons_succ, List.length_cons, List.length_nil, true_and, and_true, litL]
  refine s_inI (by decide) (by decide) (fun z => ?_) (fun z => ?_)
  · obtain ⟨pay, p1, p2, e⟩ := z
    subst e
    rw [inB_n (by omega) p1 p2, ck_n (by omega), if_pos rfl] at hQ
    have hle := lef_b (loN (soW S.W) (S.W 0) pay) (loD (soW S.W) (S.W 0))
    generalize hL : lef (loN (soW S.W) (S.W 0) pay) (loD (soW S.W) (S.W 0)) = L at hQ hle
    have hLs : ∀ i, L (i + 1) = if i = 0 ∨ loN (soW S.W) (S.W 0) pay (i + 1) * loD (soW S.W) (S.W 0) (L i) < loN (soW S.W) (S.W 0) pay (L i) * loD (soW S.W) (S.W 0) (i + 1) then i + 1 else L i := fun i => by rw [← hL, lef]
    have hu := fun a ha => uN_le hv (pay := pay) (a := a) ha p2
    have q63 : BB ^ 31 < BB ^ 63 := by decide +kernel
    have loop : ∀ (d i : Nat) (g' : mzG) (V' : Nat → Nat) (x2 : Int32) (x4 : Value), i + d = S.W 0 → x2 = (if i = 0 then 0 else nI (L i)) → ms g' E0 V' → (0 < i → V' 4 = uN S.W pay (L i) ∧ V' 5 = uD S.W (L i)) → V' 0 = S.N → V' 1 = S.D → fr g g' 78 80 → wp 191 b 23 [.ref 73, .int (nI pay), .int x2, .int (nI (i + 1)), x4] [] g' Q := by
      intro d
      induction d with
      | zero =>
        intro i g' V' x2 x4 hi hx2 hV' h45 w0 w1 hf
        have hi : i = S.W 0 := by omega
        subst hi
        rw [if_neg (by omega)] at hx2
        subst hx2
        have hM' : g'.2 73 = ob 9 [.ref 74, .ref 75, .ref 76, .ref 77, .ref 78, .ref 79, .int (x 0), .int (x 1), .int (x 2), .ref 80, .int (x 3), .ref 81, .int (x 4), .ref 82, .long (r), .ref 83, .ref 84, .int (x 5), .int (x 6), .int (x 7), .int (x 8), .int (x 9), .ref 85, .int (x 10)] := by rw [hf.2 _ (by omega)]; exact hM
        have h74' : g'.2 74 = aI 141 f := by rw [hf.2 _ (by omega)]; exact h74
        rw [q_X11_duke_23]
        simp (disch := omega) only [q_X11_duke_24, q_X11_duke_25, hM', y_is, y_gf, y_pf, y_f0, y_f1, y_f3, y_nI, y_nK, y_nZ, y_nL, y_nR, y_k1i, y_k1r, y_k1l, y_k1n, y_tl, y_tn, y_s, y_ss, List.getElem?_cons_zero, List.getElem?_cons_succ, List.set_cons_zero, List.set_cons_succ, List.length_cons, List.length_nil, true_and, and_true]
        refine s_watched hM' h74' hW ?_
        simp (disch := omega) only [q_X11_duke_28, q_X11_duke_157, q_X11_duke_158, y_is, y_gf, y_pf, y_f0, y_f1, y_f3, y_nI, y_nK, y_nZ, y_nL, y_nR, y_k1i, y_k1r, y_k1l, y_k1n, y_tl, y_tn, y_s, y_ss, List.getElem?_cons_zero, List.getElem?_cons_succ, List.set_cons_zero, List.set_cons_succ, List.length_cons, List.length_nil, true_and, and_true, lt_n]
        exact br1 (by omega) (hQ g' (h.n (N := S.N) (D := S.D) (frn.of hf) ⟨x, r, hM', x0, x5⟩ ⟨V', hV', w0, w1⟩) (hf.wide (by omega) (by omega)))
      | succ d ih =>
        intro i g' V' x2 x4 hi hx2 hV' h45 w0 w1 hf
        have hM' : g'.2 73 = ob 9 [.ref 74, .ref 75, .ref 76, .ref 77, .ref 78, .ref 79, .int (x 0), .int (x 1), .int (x 2), .ref 80, .int (x 3), .ref 81, .int (x 4), .ref 82, .long (r), .ref 83, .ref 84, .int (x 5), .int (x 6), .int (x 7), .int (x 8), .int (x 9), .ref 85, .int (x 10)] := by rw [hf.2 _ (by omega)]; exact hM
        have h74' : g'.2 74 = aI 141 f := by rw [hf.2 _ (by omega)]; exact h74
        have ih := fun g2 V2 x2 x4 => ih (i + 1) g2 V2 x2 x4 (by omega)
        rw [hLs, if_neg (show ¬ i + 1 = 0 by omega)] at ih
        obtain ⟨u1, u2, u3⟩ := hu (i + 1) (by omega)
        rw [q_X11_duke_23]
        simp (disch := omega) only [q_X11_duke_24, q_X11_duke_25, hM', y_is, y_gf, y_pf, y_f0, y_f1, y_f3, y_nI, y_nK, y_nZ, y_nL, y_nR, y_k1i, y_k1r, y_k1l, y_k1n, y_tl, y_tn, y_s, y_ss, List.getElem?_cons_zero, List.getElem?_cons_succ, List.set_cons_zero, List.set_cons_succ, List.length_cons, List.length_nil, true_and, and_true]
        refine s_watched hM' h74' hW ?_
        simp (disch := omega) only [q_X11_duke_28, q_X11_duke_31, q_X11_duke_32, q_X11_duke_33, hM', y_is, y_gf, y_pf, y_f0, y_f1, y_f3, y_nI, y_nK, y_nZ, y_nL, y_nR, y_k1i, y_k1r, y_k1l, y_k1n, y_tl, y_tn, y_s, y_ss, List.getElem?_cons_zero, List.getElem?_cons_succ, List.set_cons_zero, List.set_cons_succ, List.length_cons, List.length_nil, true_and, and_true, lt_n]
        refine br0 (by omega) (s_layBest (l := soW S.W) hM' h74' hW rfl n9 (by omega) hv hV' (srt_p _) (srt_s _) (fun g1 V1 hM1 hV1 h6 h7 hk hf1 => ?_))
        have h6 : V1 6 = (bsW S.W (i + 1)).1 := h6
        have h7 : V1 7 = (bsW S.W (i + 1)).2 := h7
        simp (disch := omega) only [q_X11_duke_36, q_X11_duke_37, q_X11_duke_39, q_X11_duke_41, hM1, y_is, y_gf, y_pf, y_f0, y_f1, y_f3, y_nI, y_nK, y_nZ, y_nL, y_nR, y_k1i, y_k1r, y_k1l, y_k1n, y_tl, y_tn, y_s, y_ss, List.getElem?_cons_zero, List.getElem?_cons_succ, List.set_cons_zero, List.set_cons_succ, List.length_cons, List.length_nil, true_and, and_true, lit]
        refine s_mcopy hM1 hV1 (by decide) (E0n _) (by decide) (E0n _) (by decide) (fun g2 hM2 hV2 hf2 => ?_)
        have h742 : g2.2 74 = aI 141 f := by rw [hf2.2 _ (by omega), hf1.2 _ (by omega)]; exact h74'
        have hpm : pay * (S.W 0 - (i + 1)) ≤ 99 * 9 := Nat.mul_le_mul p2 (by omega)
        simp (disch := omega) only [q_X11_duke_44, q_X11_duke_45, q_X11_duke_47, q_X11_duke_48, q_X11_duke_49, q_X11_duke_50, hM2, y_is, y_gf, y_pf, y_f0, y_f1, y_f3, y_nI, y_nK, y_nZ, y_nL, y_nR, y_k1i, y_k1r, y_k1l, y_k1n, y_tl, y_tn, y_s, y_ss, List.getElem?_cons_zero, List.getElem?_cons_succ, List.set_cons_zero, List.set_cons_succ, List.length_cons, List.length_nil, true_and, and_true, lit, i_l]
        refine s_watched hM2 h742 hW ?_
        simp (disch := omega) only [q_X11_duke_53, q_X11_duke_54, q_X11_duke_55, q_X11_duke_56, q_X11_duke_57, hM2, y_is, y_gf, y_pf, y_f0, y_f1, y_f3, y_nI, y_nK, y_nZ, y_nL, y_nR, y_k1i, y_k1r, y_k1l, y_k1n, y_tl, y_tn, y_s, y_ss, List.getElem?_cons_zero, List.getElem?_cons_succ, List.set_cons_zero, List.set_cons_succ, List.length_cons, List.length_nil, true_and, and_true, lit, pk_sub, i_l, l_mul]
        refine s_mtimes hM2 hV2 (by decide) (E0n _) (by omega) (by rw [up_s, h7]; exact Nat.lt_trans u3 q63) (fun g3 hM3 hV3 hf3 => ?_)
        rw [up_s, h7] at hV3
        simp (disch := omega) only [q_X11_duke_60, q_X11_duke_61, q_X11_duke_63, q_X11_duke_65, hM3, y_is, y_gf, y_pf, y_f0, y_f1, y_f3, y_nI, y_nK, y_nZ, y_nL, y_nR, y_k1i, y_k1r, y_k1l, y_k1n, y_tl, y_tn, y_s, y_ss, List.getElem?_cons_zero, List.getElem?_cons_succ, List.set_cons_zero, List.set_cons_succ, List.length_cons, List.length_nil, true_and, and_true, lit]
        have e6 : va_up (va_up V1 8 (bsW S.W (i + 1)).2) 8 ((bsW S.W (i + 1)).2 * (pay * (S.W 0 - (i + 1)))) 6 = (bsW S.W (i + 1)).1 := by rw [up_n (by decide), up_n (by decide), h6]
        have e8 : va_up (va_up V1 8 (bsW S.W (i + 1)).2) 8 ((bsW S.W (i + 1)).2 * (pay * (S.W 0 - (i + 1)))) 8 = (bsW S.W (i + 1)).2 * (pay * (S.W 0 - (i + 1))) := up_s
        refine s_madd hM3 hV3 (by decide) (E0n _) (by decide) (E0n _) (by decide) (by rw [e6, e8]; exact Nat.lt_trans u1 q63) (fun g4 hM4 hV4 hf4 => ?_)
        rw [e6, e8] at hV4
        simp (disch := omega) only [q_X11_duke_68, q_X11_duke_69, q_X11_duke_70, q_X11_duke_72, hM4, y_is, y_gf, y_pf, y_f0, y_f1, y_f3, y_nI, y_nK, y_nZ, y_nL, y_nR, y_k1i, y_k1r, y_k1l, y_k1n, y_tl, y_tn, y_s, y_ss, List.getElem?_cons_zero, List.getElem?_cons_succ, List.set_cons_zero, List.set_cons_succ, List.length_cons, List.length_nil, true_and, and_true, lit]
        refine s_mcopy hM4 hV4 (by decide) (E0n _) (by decide) (E0n _) (by decide) (fun g5 hM5 hV5 hf5 => ?_)
        simp (disch := omega) only [q_X11_duke_75, q_X11_duke_76, q_X11_duke_77, q_X11_duke_79, hM5, y_is, y_gf, y_pf, y_f0, y_f1, y_f3, y_nI, y_nK, y_nZ, y_nL, y_nR, y_k1i, y_k1r, y_k1l, y_k1n, y_tl, y_tn, y_s, y_ss, List.getElem?_cons_zero, List.getElem?_cons_succ, List.set_cons_zero, List.set_cons_succ, List.length_cons, List.length_nil, true_and, and_true, lit]
        refine s_mcopy hM5 hV5 (by decide) (E0n _) (by decide) (E0n _) (by decide) (fun g6 hM6 hV6 hf6 => ?_)
        generalize hV7 : va_up (va_up _ 2 _) 3 _ = V7 at hV6
        have a2 : V7 2 = uN S.W pay (i + 1) := by rw [← hV7, up_n (by decide), up_s, up_s]; rfl
        have a3 : V7 3 = uD S.W (i + 1) := by rw [← hV7, up_s, up_n (by decide), up_n (by decide), up_n (by decide), up_n (by decide), h7]; rfl
        have a4 : V7 4 = V' 4 := by rw [← hV7, up_n (by decide), up_n (by decide), up_n (by decide), up_n (by decide), up_n (by decide)]; exact hk 4 (by decide) (by decide) (by decide)
        have a5 : V7 5 = V' 5 := by rw [← hV7, up_n (by decide), up_n (by decide), up_n (by decide), up_n (by decide), up_n (by decide)]; exact hk 5 (by decide) (by decide) (by decide)
        have a0 : V7 0 = S.N := by rw [← hV7, up_n (by decide), up_n (by decide), up_n (by decide), up_n (by decide), up_n (by decide)]; exact (hk 0 (by decide) (by decide) (by decide)).trans w0
        have a1 : V7 1 = S.D := by rw [← hV7, up_n (by decide), up_n (by decide), up_n (by decide), up_n (by decide), up_n (by decide)]; exact (hk 1 (by decide) (by decide) (by decide)).trans w1
        clear hV7
        have hf6' := (((((hf.tr hf1).tr hf2).tr hf3).tr hf4).tr hf5).tr hf6
        have take : ∀ (gq : mzG) (Vq : Nat → Nat), (i = 0 ∨ loN (soW S.W) (S.W 0) pay (i + 1) * loD (soW S.W) (S.W 0) (L i) < loN (soW S.W) (S.W 0) pay (L i) * loD (soW S.W) (S.W 0) (i + 1)) → gq.2 73 = ob 9 [.ref 74, .ref 75, .ref 76, .ref 77, .ref 78, .ref 79, .int (x 0), .int (x 1), .int (x 2), .ref 80, .int (x 3), .ref 81, .int (x 4), .ref 82, .long (r), .ref 83, .ref 84, .int (x 5), .int (x 6), .int (x 7), .int (x 8), .int (x 9), .ref 85, .int (x 10)] → ms gq E0 Vq → (∀ s, s < 6 → Vq s = V7 s) → fr g gq 78 80 → wp 191 b 132 [.ref 73, .int (nI pay), .int x2, .int (nI (i + 1)), .int 1] [] gq Q := by
          intro gq Vq hc hMq hVq hs hfq
          rw [if_pos hc] at ih
          simp (disch := omega) only [q_X11_duke_132, q_X11_duke_134, q_X11_duke_137, q_X11_duke_138, q_X11_duke_139, q_X11_duke_140, q_X11_duke_141, q_X11_duke_142, hMq, y_is, y_gf, y_pf, y_f0, y_f1, y_f3, y_nI, y_nK, y_nZ, y_nL, y_nR, y_k1i, y_k1r, y_k1l, y_k1n, y_tl, y_tn, y_s, y_ss, List.getElem?_cons_zero, List.getElem?_cons_succ, List.set_cons_zero, List.set_cons_succ, List.length_cons, List.length_nil, true_and, and_true, lit]
          refine br0 (by decide) (s_mcopy hMq hVq (by decide) (E0n _) (by decide) (E0n _) (by decide) (fun g3 hM3 hV3 hf3 => ?_))
          simp (disch := omega) only [q_X11_duke_145, q_X11_duke_146, q_X11_duke_147, q_X11_duke_148, hM3, y_is, y_gf, y_pf, y_f0, y_f1, y_f3, y_nI, y_nK, y_nZ, y_nL, y_nR, y_k1i, y_k1r, y_k1l, y_k1n, y_tl, y_tn, y_s, y_ss, List.getElem?_cons_zero, List.getElem?_cons_succ, List.set_cons_zero, List.set_cons_succ, List.length_cons, List.length_nil, true_and, and_true, lit]
          refine s_mcopy hM3 hV3 (by decide) (E0n _) (by decide) (E0n _) (by decide) (fun g4 hM4 hV4 hf4 => ?_)
          simp (disch := omega) only [q_X11_duke_151, q_X11_duke_154, y_is, y_gf, y_pf, y_f0, y_f1, y_f3, y_nI, y_nK, y_nZ, y_nL, y_nR, y_k1i, y_k1r, y_k1l, y_k1n, y_tl, y_tn, y_s, y_ss, List.getElem?_cons_zero, List.getElem?_cons_succ, List.set_cons_zero, List.set_cons_succ, List.length_cons, List.length_nil, true_and, and_true, lit, nI_add]
          refine ih g4 _ _ _ rfl hV4 (fun _ => ⟨?_, ?_⟩) ?_ ?_ ((hfq.tr hf3).tr hf4)
          · rw [up_n (by decide), up_s, hs 2 (by decide), a2]
          · rw [up_s, up_n (by decide), hs 3 (by decide), a3]
          · rw [up_n (by decide), up_n (by decide), hs 0 (by decide), a0]
          · rw [up_n (by decide), up_n (by decide), hs 1 (by decide), a1]
        have skip : ∀ (gq : mzG) (Vq : Nat → Nat), ¬ (i = 0 ∨ loN (soW S.W) (S.W 0) pay (i + 1) * loD (soW S.W) (S.W 0) (L i) < loN (soW S.W) (S.W 0) pay (L i) * loD (soW S.W) (S.W 0) (i + 1)) → ms gq E0 Vq → (∀ s, s < 6 → Vq s = V7 s) → fr g gq 78 80 → wp 191 b 132 [.ref 73, .int (nI pay), .int x2, .int (nI (i + 1)), .int 0] [] gq Q := by
          intro gq Vq hc hVq hs hfq
          rw [if_neg hc] at ih
          obtain ⟨b4, b5⟩ := h45 (by omega)
          rw [if_neg (fun z => hc (Or.inl z))] at hx2
          simp (disch := omega) only [q_X11_duke_132, q_X11_duke_134, y_is, y_gf, y_pf, y_f0, y_f1, y_f3, y_nI, y_nK, y_nZ, y_nL, y_nR, y_k1i, y_k1r, y_k1l, y_k1n, y_tl, y_tn, y_s, y_ss, List.getElem?_cons_zero, List.getElem?_cons_succ, List.set_cons_zero, List.set_cons_succ, List.length_cons, List.length_nil, true_and, and_true]
          refine br1 (by first | decide | omega | trivial | simp) ?_
          simp (disch := omega) only [q_X11_duke_151, q_X11_duke_154, y_is, y_gf, y_pf, y_f0, y_f1, y_f3, y_nI, y_nK, y_nZ, y_nL, y_nR, y_k1i, y_k1r, y_k1l, y_k1n, y_tl, y_tn, y_s, y_ss, List.getElem?_cons_zero, List.getElem?_cons_succ, List.set_cons_zero, List.set_cons_succ, List.length_cons, List.length_nil, true_and, and_true, lit, nI_add]
          exact ih gq _ _ _ hx2 hVq (fun _ => ⟨by rw [hs 4 (by decide), a4, b4], by rw [hs 5 (by decide), a5, b5]⟩) (by rw [hs 0 (by decide), a0]) (by rw [hs 1 (by decide), a1]) hfq
        by_cases i0 : i = 0
        · rw [if_pos i0] at hx2
          subst hx2
          simp (disch := omega) only [q_X11_duke_82, q_X11_duke_83, y_is, y_gf, y_pf, y_f0, y_f1, y_f3, y_nI, y_nK, y_nZ, y_nL, y_nR, y_k1i, y_k1r, y_k1l, y_k1n, y_tl, y_tn, y_s, y_ss, List.getElem?_cons_zero, List.getElem?_cons_succ, List.set_cons_zero, List.set_cons_succ, List.length_cons, List.length_nil, true_and, and_true]
          refine br0 (fun z => z (by first | decide | omega | trivial | simp)) ?_
          simp (disch := omega) only [q_X11_duke_86, q_X11_duke_87, q_X11_duke_91, q_X11_duke_93, q_X11_duke_95, y_is, y_gf, y_pf, y_f0, y_f1, y_f3, y_nI, y_nK, y_nZ, y_nL, y_nR, y_k1i, y_k1r, y_k1l, y_k1n, y_tl, y_tn, y_s, y_ss, List.getElem?_cons_zero, List.getElem?_cons_succ, List.set_cons_zero, List.set_cons_succ, List.length_cons, List.length_nil, true_and, and_true]
          exact br1 (by decide) (take g6 V7 (Or.inl i0) hM6 hV6 (fun _ _ => rfl) hf6')
        · have hx2' := hx2
          rw [if_neg i0] at hx2'
          have hli := hle i
          obtain ⟨b4, b5⟩ := h45 (by omega)
          have hL9 : L i ≤ 9 := by omega
          obtain ⟨t1, t2, t3⟩ := hu (L i) hL9
          simp (disch := omega) only [q_X11_duke_82, q_X11_duke_83, y_is, y_gf, y_pf, y_f0, y_f1, y_f3, y_nI, y_nK, y_nZ, y_nL, y_nR, y_k1i, y_k1r, y_k1l, y_k1n, y_tl, y_tn, y_s, y_ss, List.getElem?_cons_zero, List.getElem?_cons_succ, List.set_cons_zero, List.set_cons_succ, List.length_cons, List.length_nil, true_and, and_true]
          refine br1 (fun z => ?_) ?_
          · have z := hx2'.symm.trans z
            have := nI_inj (a := L i) (b := 0) (by omega) (by omega) z
            omega
          simp (disch := omega) only [q_X11_duke_90, q_X11_duke_91, q_X11_duke_93, q_X11_duke_95, q_X11_duke_98, q_X11_duke_99, q_X11_duke_101, q_X11_duke_102, q_X11_duke_103, hM6, y_is, y_gf, y_pf, y_f0, y_f1, y_f3, y_nI, y_nK, y_nZ, y_nL, y_nR, y_k1i, y_k1r, y_k1l, y_k1n, y_tl, y_tn, y_s, y_ss, List.getElem?_cons_zero, List.getElem?_cons_succ, List.set_cons_zero, List.set_cons_succ, List.length_cons, List.length_nil, true_and, and_true, lit]
          refine br0 (fun z => z (by first | decide | omega | trivial | simp)) (s_mproduct hM6 hV6 (by decide) (E0n _) (by decide) (E0n _) (by decide) (E0n _) (by decide) (by decide) (by rw [a2]; exact u1) (by rw [a5, b5]; exact t2) (fun g7 hM7 hV7 hf7 => ?_))
          simp (disch := omega) only [q_X11_duke_106, q_X11_duke_107, q_X11_duke_109, q_X11_duke_110, q_X11_duke_111, hM7, y_is, y_gf, y_pf, y_f0, y_f1, y_f3, y_nI, y_nK, y_nZ, y_nL, y_nR, y_k1i, y_k1r, y_k1l, y_k1n, y_tl, y_tn, y_s, y_ss, List.getElem?_cons_zero, List.getElem?_cons_succ, List.set_cons_zero, List.set_cons_succ, List.length_cons, List.length_nil, true_and, and_true, lit]
          refine s_mproduct hM7 hV7 (by decide) (E0n _) (by decide) (E0n _) (by decide) (E0n _) (by decide) (by decide) (by rw [up_n (by decide), a4, b4]; exact t1) (by rw [up_n (by decide), a3]; exact u2) (fun g8 hM8 hV8 hf8 => ?_)
          simp (disch := omega) only [q_X11_duke_114, q_X11_duke_115, q_X11_duke_117, q_X11_duke_119, hM8, y_is, y_gf, y_pf, y_f0, y_f1, y_f3, y_nI, y_nK, y_nZ, y_nL, y_nR, y_k1i, y_k1r, y_k1l, y_k1n, y_tl, y_tn, y_s, y_ss, List.getElem?_cons_zero, List.getElem?_cons_succ, List.set_cons_zero, List.set_cons_succ, List.length_cons, List.length_nil, true_and, and_true, lit]
          refine s_mcompare hM8 hV8 (by decide) (E0n _) (by decide) (E0n _) ?_
          rw [up_s, up_n (by decide), up_s, up_n (by decide), up_n (by decide), a4, b4, a3, a2, a5, b5]
          have hcr := crs2 hv (pay := pay) (a := i + 1) (c := L i) (by omega) hL9
          have hf8' := (hf6'.tr hf7).tr hf8
          simp only [q_X11_duke_122, y_is, y_gf, y_pf, y_f0, y_f1, y_f3, y_nI, y_nK, y_nZ, y_nL, y_nR, y_k1i, y_k1r, y_k1l, y_k1n, y_tl, y_tn, y_s, y_ss, List.getElem?_cons_zero, List.getElem?_cons_succ, List.set_cons_zero, List.set_cons_succ, List.length_cons, List.length_nil, true_and, and_true, cmpn]
          refine brs (fun z => ?_) (fun z => ?_)
          · simp only [q_X11_duke_129, q_X11_duke_130, y_is, y_gf, y_pf, y_f0, y_f1, y_f3, y_nI, y_nK, y_nZ, y_nL, y_nR, y_k1i, y_k1r, y_k1l, y_k1n, y_tl, y_tn, y_s, y_ss, List.getElem?_cons_zero, List.getElem?_cons_succ, List.set_cons_zero, List.set_cons_succ, List.length_cons, List.length_nil, true_and, and_true]
            refine skip g8 _ ?_ hV8 (fun s hs => by rw [up_n (by omega), up_n (by omega)]) hf8'
            rintro (u | u)
            · exact i0 u
            · exact z (hcr.mp u)
          · simp only [q_X11_duke_125, q_X11_duke_126, q_X11_duke_130, y_is, y_gf, y_pf, y_f0, y_f1, y_f3, y_nI, y_nK, y_nZ, y_nL, y_nR, y_k1i, y_k1r, y_k1l, y_k1n, y_tl, y_tn, y_s, y_ss, List.getElem?_cons_zero, List.getElem?_cons_succ, List.set_cons_zero, List.set_cons_succ, List.length_cons, List.length_nil, true_and, and_true]
            exact take g8 _ (Or.inr (hcr.mpr (Nat.lt_of_not_le (fun y => z (by omega))))) hM8 hV8 (fun s hs => by rw [up_n (by omega), up_n (by omega)]) hf8'
    simp (disch := omega) only [q_X11_duke_9, q_X11_duke_19, q_X11_duke_20, q_X11_duke_21, q_X11_duke_22, y_is, y_gf, y_pf, y_f0, y_f1, y_f3, y_nI, y_nK, y_nZ, y_nL, y_nR, y_k1i, y_k1r, y_k1l, y_k1n, y_tl, y_tn, y_s, y_ss, List.getElem?_cons_zero, List.getElem?_cons_succ, List.set_cons_zero, List.set_cons_succ, List.length_cons, List.length_nil, true_and, and_true]
    refine br1 (by decide) (loop (S.W 0) 0 g V _ _ (by omega) (by rw [if_pos rfl]) hV (fun z => by omega) v0 v1 fr.rf)
  · rw [inB_f (by omega) (by omega) z, if_neg (by decide)] at hQ
    simp only [q_X11_duke_9, q_X11_duke_12, q_X11_duke_13, q_X11_duke_15, hM, y_is, y_gf, y_pf, y_f0, y_f1, y_f3, y_nI, y_nK, y_nZ, y_nL, y_nR, y_k1i, y_k1r, y_k1l, y_k1n, y_tl, y_tn, y_s, y_ss, List.getElem?_cons_zero, List.getElem?_cons_succ, List.set_cons_zero, List.set_cons_succ, List.length_cons, List.length_nil, true_and, and_true]
    refine br0 (fun z => z (by first | decide | omega | trivial | simp)) (m_bad h (fun g' a1 a2 => ?_))
    simp only [q_X11_duke_18, y_is, y_gf, y_pf, y_f0, y_f1, y_f3, y_nI, y_nK, y_nZ, y_nL, y_nR, y_k1i, y_k1r, y_k1l, y_k1n, y_tl, y_tn, y_s, y_ss, List.getElem?_cons_zero, List.getElem?_cons_succ, List.set_cons_zero, List.set_cons_succ, List.length_cons, List.length_nil, true_and, and_true]
    exact hQ g' a1 a2
end MWIDE3
