/-! ===== Thieves ===== -/
/-- the Thieves at t hold S, T and L -/
def th (g : mzG) (t S T L : Nat) : Prop := g.2 t = ob 5 [.ref (t + 1), .ref (t + 3), .ref (t + 5)] ∧ nv g (t + 1) S ∧ nv g (t + 3) T ∧ nv g (t + 5) L
theorem th.frm {g g' : mzG} {t S T L lo hi : Nat} (h : th g t S T L) (hf : fr g g' lo hi) (ha : t + 7 ≤ lo ∨ hi ≤ t) : th g' t S T L := ⟨(hf.2 t (by omega)).trans h.1, h.2.1.fr hf (by omega), h.2.2.1.fr hf (by omega), h.2.2.2.fr hf (by omega)⟩
theorem th.su {g g' : mzG} {t S T L M : Nat} (h : th g t S T L) (hM : nv g' (t + 1) M) (hf : fr g g' (t + 1) (t + 3)) : th g' t M T L := ⟨(hf.2 t (by omega)).trans h.1, hM, h.2.2.1.fr hf (by omega), h.2.2.2.fr hf (by omega)⟩
theorem th.te {g g' : mzG} {t S T L M : Nat} (h : th g t S T L) (hM : nv g' (t + 3) M) (hf : fr g g' (t + 3) (t + 5)) : th g' t S M L := ⟨(hf.2 t (by omega)).trans h.1, h.2.1.fr hf (by omega), hM, h.2.2.2.fr hf (by omega)⟩
theorem th.le {g g' : mzG} {t S T L M : Nat} (h : th g t S T L) (hM : nv g' (t + 5) M) (hf : fr g g' (t + 5) (t + 7)) : th g' t S T M := ⟨(hf.2 t (by omega)).trans h.1, h.2.1.fr hf (by omega), h.2.2.1.fr hf (by omega), hM⟩
theorem wt.frm {g g' : mzG} {w lo hi : Nat} {v : Nat → Int32} {A : Nat → Nat → Int32} (h : wt g w v A) (hf : fr g g' lo hi) (ha : w + 12 ≤ lo ∨ hi ≤ w) : wt g' w v A := h.kept (fun k h1 h2 => hf.2 k (by omega))
def mxn (f : Nat → Nat) : Nat → Nat
  | 0 => 0
  | i + 1 => if mxn f i < f i then f i else mxn f i
theorem mxn_le {f : Nat → Nat} {c : Nat} : ∀ {n : Nat}, (∀ i, i < n → f i ≤ c) → mxn f n ≤ c
  | 0, _ => Nat.zero_le _
  | n + 1, h => by
    rw [mxn]
    split
    · exact h n (by omega)
    · exact mxn_le (fun i hi => h i (by omega))
theorem p99 {a e c : Nat} (ha : a ≤ 99) (he : e ≤ 40) (hc : c ≤ 99) : a ^ e * c < BB ^ 16 := by
  have h1 : a ^ e ≤ 99 ^ e := Nat.pow_le_pow_left ha e
  have h2 : (99 : Nat) ^ e ≤ 99 ^ 40 := Nat.pow_le_pow_right (by decide) he
  have h3 : a ^ e * c ≤ 99 ^ 40 * 99 := Nat.mul_le_mul (Nat.le_trans h1 h2) hc
  exact Nat.lt_of_le_of_lt h3 (by decide +kernel)
theorem p891 {a e : Nat} (ha : a ≤ 891) (he : e ≤ 40) : a ^ e < BB ^ 14 := by
  have h1 : a ^ e ≤ 891 ^ e := Nat.pow_le_pow_left ha e
  have h2 : (891 : Nat) ^ e ≤ 891 ^ 40 := Nat.pow_le_pow_right (by decide) he
  exact Nat.lt_of_le_of_lt (Nat.le_trans h1 h2) (by decide +kernel)
theorem b14 : BB ^ 14 ≤ BB ^ 16 := by decide +kernel
section THIEVES
variable {b : mzB} {Q : mzQ} {t w : Nat} {v : Nat → Int32} {A : Nat → Nat → Int32}
theorem s_climb_loop (g0 : mzG) {n h L k : Nat} {sh wo : Nat → Nat} (hw : w + 12 ≤ t) (hk : k = t + 7) (hv : v 0 = nI n) (hn : n ≤ 9) (hh : h ≤ 40) (hsh : ∀ i, i < n → A 1 i = nI (sh i) ∧ sh i ≤ 99) (hwo : ∀ i, i < n → A 0 i = nI (wo i) ∧ wo i ≤ 99) (hQ : ∀ g' T, th g' t (mxn (fun i => sh i ^ h * wo i) n) T L → fr g0 g' t (t + 7) → wp 61 b 84 [.ref t, .ref k, .ref w, .int (nI h), .int (nI n)] [] g' Q) : ∀ (d i : Nat) (g : mzG) (T : Nat), i + d = n → th g t (mxn (fun i => sh i ^ h * wo i) i) T L → wt g w v A → fr g0 g t (t + 7) → wp 61 b 11 [.ref t, .ref k, .ref w, .int (nI h), .int (nI i)] [] g Q := by
  intro d
  induction d with
  | zero =>
    intro i g T hi hT hW hf
    have hi : i = n := by omega
    subst hi
    rw [q_X7_climb_11]
    simp (disch := omega) only [q_X7_climb_13, q_X7_climb_14, q_X7_climb_17, hW.1, hv, y_is, y_gf, y_pf, y_f0, y_f1, y_f3, y_nI, y_nK, y_nZ, y_nL, y_nR, y_k1i, y_k1r, y_k1l, y_k1n, y_tl, y_tn, y_s, y_ss, List.getElem?_cons_zero, List.getElem?_cons_succ, List.set_cons_zero, List.set_cons_succ, List.length_cons, List.length_nil, true_and, and_true, le_n]
    exact br1 (by omega) (hQ g T hT hf)
  | succ d ih =>
    intro i g T hi hT hW hf
    have hi' : i < n := by omega
    obtain ⟨s1, s2⟩ := hsh i hi'
    obtain ⟨w1, w2⟩ := hwo i hi'
    rw [q_X7_climb_11]
    simp (disch := omega) only [q_X7_climb_13, q_X7_climb_14, q_X7_climb_17, q_X7_climb_20, q_X7_climb_21, q_X7_climb_24, q_X7_climb_25, q_X7_climb_28, q_X7_climb_29, q_X7_climb_30, q_X7_climb_32, q_X7_climb_33, q_X7_climb_34, hW.1, hW.2.1, hW.2.2.1, hv, hT.1, y_is, y_gf, y_pf, y_f0, y_f1, y_f3, y_nI, y_nK, y_nZ, y_nL, y_nR, y_k1i, y_k1r, y_k1l, y_k1n, y_tl, y_tn, y_s, y_ss, List.getElem?_cons_zero, List.getElem?_cons_succ, List.set_cons_zero, List.set_cons_succ, List.length_cons, List.length_nil, true_and, and_true, y_lIn, y_lKn, y_lZn, y_lLn, y_wIn, y_wZn, y_wLn, lit, le_n, lt_n, eq_n, lit, y_row, s1, hT.2.2.1.is]
    refine br0 (by omega) ?_
    refine s_power (by omega) hT.2.2.1 h (by omega) (fun e he => Nat.lt_of_le_of_lt (Nat.le_of_eq (Nat.mul_one _).symm) (p99 s2 (by omega) (by decide : 1 ≤ 99))) (fun g1 hN1 hf1 => ?_)
    have hT1 := hT.te hN1 hf1
    have hW1 := hW.frm hf1 (by omega)
    simp (disch := omega) only [q_X7_climb_37, q_X7_climb_38, q_X7_climb_41, q_X7_climb_42, q_X7_climb_45, q_X7_climb_46, q_X7_climb_47, q_X7_climb_49, q_X7_climb_50, hW1.1, hW1.2.1, hW1.2.2.1, hv, hT1.1, y_is, y_gf, y_pf, y_f0, y_f1, y_f3, y_nI, y_nK, y_nZ, y_nL, y_nR, y_k1i, y_k1r, y_k1l, y_k1n, y_tl, y_tn, y_s, y_ss, List.getElem?_cons_zero, List.getElem?_cons_succ, List.set_cons_zero, List.set_cons_succ, List.length_cons, List.length_nil, true_and, and_true, y_lIn, y_lKn, y_lZn, y_lLn, y_wIn, y_wZn, y_wLn, lit, le_n, lt_n, eq_n, lit, y_row, w1, hT1.2.2.1.is]
    refine s_times hT1.2.2.1 (by omega) (p99 s2 hh w2) (fun g2 hN2 hf2 => ?_)
    have hT2 := hT1.te hN2 hf2
    have hW2 := hW1.frm hf2 (by omega)
    have hf' : fr g0 g2 t (t + 7) := hf.tr ((hf1.wide (by omega) (by omega)).tr (hf2.wide (by omega) (by omega)))
    simp (disch := omega) only [q_X7_climb_53, q_X7_climb_54, q_X7_climb_57, q_X7_climb_58, q_X7_climb_61, hT2.1, y_is, y_gf, y_pf, y_f0, y_f1, y_f3, y_nI, y_nK, y_nZ, y_nL, y_nR, y_k1i, y_k1r, y_k1l, y_k1n, y_tl, y_tn, y_s, y_ss, List.getElem?_cons_zero, List.getElem?_cons_succ, List.set_cons_zero, List.set_cons_succ, List.length_cons, List.length_nil, true_and, and_true, hT2.2.1.is]
    refine s_isLess hT2.2.1 hT2.2.2.1 ?_
    by_cases c : mxn (fun i => sh i ^ h * wo i) i < sh i ^ h * wo i
    · rw [if_pos c]
      simp (disch := omega) only [q_X7_climb_64, y_is, y_gf, y_pf, y_f0, y_f1, y_f3, y_nI, y_nK, y_nZ, y_nL, y_nR, y_k1i, y_k1r, y_k1l, y_k1n, y_tl, y_tn, y_s, y_ss, List.getElem?_cons_zero, List.getElem?_cons_succ, List.set_cons_zero, List.set_cons_succ, List.length_cons, List.length_nil, true_and, and_true]
      refine br0 (by decide) ?_
      simp (disch := omega) only [q_X7_climb_67, q_X7_climb_68, q_X7_climb_71, q_X7_climb_72, q_X7_climb_75, hT2.1, y_is, y_gf, y_pf, y_f0, y_f1, y_f3, y_nI, y_nK, y_nZ, y_nL, y_nR, y_k1i, y_k1r, y_k1l, y_k1n, y_tl, y_tn, y_s, y_ss, List.getElem?_cons_zero, List.getElem?_cons_succ, List.set_cons_zero, List.set_cons_succ, List.length_cons, List.length_nil, true_and, and_true, hT2.2.1.is]
      refine s_ncopy (by omega) hT2.2.1 hT2.2.2.1 (fun g3 hN3 hf3 => ?_)
      simp (disch := omega) only [q_X7_climb_78, q_X7_climb_81, y_is, y_gf, y_pf, y_f0, y_f1, y_f3, y_nI, y_nK, y_nZ, y_nL, y_nR, y_k1i, y_k1r, y_k1l, y_k1n, y_tl, y_tn, y_s, y_ss, List.getElem?_cons_zero, List.getElem?_cons_succ, List.set_cons_zero, List.set_cons_succ, List.length_cons, List.length_nil, true_and, and_true, lit, nI_add]
      refine ih (i + 1) g3 (sh i ^ h * wo i) (by omega) ?_ (hW2.frm hf3 (by omega)) (hf'.tr (hf3.wide (by omega) (by omega)))
      rw [show mxn (fun i => sh i ^ h * wo i) (i + 1) = sh i ^ h * wo i by rw [mxn, if_pos c]]
      exact hT2.su hN3 hf3
    · rw [if_neg c]
      simp (disch := omega) only [q_X7_climb_64, q_X7_climb_78, q_X7_climb_81, y_is, y_gf, y_pf, y_f0, y_f1, y_f3, y_nI, y_nK, y_nZ, y_nL, y_nR, y_k1i, y_k1r, y_k1l, y_k1n, y_tl, y_tn, y_s, y_ss, List.getElem?_cons_zero, List.getElem?_cons_succ, List.set_cons_zero, List.set_cons_succ, List.length_cons, List.length_nil, true_and, and_true, lit, nI_add]
      refine br1 (by decide) ?_
      refine ih (i + 1) g2 (sh i ^ h * wo i) (by omega) ?_ hW2 hf'
      rw [show mxn (fun i => sh i ^ h * wo i) (i + 1) = mxn (fun i => sh i ^ h * wo i) i by rw [mxn, if_neg c]]
      exact hT2
theorem s_climb {g : mzG} {n h S T L N D k : Nat} {sh wo : Nat → Nat} (hw : w + 12 ≤ t) (hk : k = t + 7) (hT : th g t S T L) (hW : wt g w v A) (hF : ft g k N D) (hv : v 0 = nI n) (hn : n ≤ 9) (hh : h ≤ 40) (hsh : ∀ i, i < n → A 1 i = nI (sh i) ∧ sh i ≤ 99) (hwo : ∀ i, i < n → A 0 i = nI (wo i) ∧ wo i ≤ 99) (h0 : 0 < sm sh n) (hQ : ∀ g' T', th g' t (mxn (fun i => sh i ^ h * wo i) n) T' L → ft g' k (mxn (fun i => sh i ^ h * wo i) n / Nat.gcd (mxn (fun i => sh i ^ h * wo i) n) (sm sh n ^ h)) (sm sh n ^ h / Nat.gcd (mxn (fun i => sh i ^ h * wo i) n) (sm sh n ^ h)) → fr g g' t (t + 12) → Q none g') : wp 61 b 0 [.ref t, .ref k, .ref w, .int (nI h), .null] [] g Q := by
  simp (disch := omega) only [q_X7_climb_0, q_X7_climb_1, q_X7_climb_4, q_X7_climb_5, hT.1, y_is, y_gf, y_pf, y_f0, y_f1, y_f3, y_nI, y_nK, y_nZ, y_nL, y_nR, y_k1i, y_k1r, y_k1l, y_k1n, y_tl, y_tn, y_s, y_ss, List.getElem?_cons_zero, List.getElem?_cons_succ, List.set_cons_zero, List.set_cons_succ, List.length_cons, List.length_nil, true_and, and_true, litL, hT.2.1.is]
  refine s_set hT.2.1 (by decide) (fun g1 hN1 hf1 => ?_)
  simp (disch := omega) only [q_X7_climb_8, q_X7_climb_9, y_is, y_gf, y_pf, y_f0, y_f1, y_f3, y_nI, y_nK, y_nZ, y_nL, y_nR, y_k1i, y_k1r, y_k1l, y_k1n, y_tl, y_tn, y_s, y_ss, List.getElem?_cons_zero, List.getElem?_cons_succ, List.set_cons_zero, List.set_cons_succ, List.length_cons, List.length_nil, true_and, and_true, lit]
  refine s_climb_loop g1 hw hk hv hn hh hsh hwo (fun g2 T2 hT2 hf2 => ?_) n 0 g1 T (by omega) (hT.su hN1 hf1) (hW.frm hf1 (by omega)) fr.rf
  have hW2 := (hW.frm hf1 (by omega)).frm hf2 (by omega)
  have hF2 := (hF.frm hf1 (by omega)).frm hf2 (by omega)
  have hs := sm_le (c := 99) (fun i hi => (hsh i hi).2)
  simp (disch := omega) only [q_X7_climb_84, q_X7_climb_85, q_X7_climb_86, q_X7_climb_89, q_X7_climb_90, hT2.1, hW2.1, y_is, y_gf, y_pf, y_f0, y_f1, y_f3, y_nI, y_nK, y_nZ, y_nL, y_nR, y_k1i, y_k1r, y_k1l, y_k1n, y_tl, y_tn, y_s, y_ss, List.getElem?_cons_zero, List.getElem?_cons_succ, List.set_cons_zero, List.set_cons_succ, List.length_cons, List.length_nil, true_and, and_true, y_is]
  refine s_whole hW2 hv hn ?_
  rw [sm_l (fun i hi => (hsh i hi).1)]
  simp (disch := omega) only [q_X7_climb_93, q_X7_climb_94, y_is, y_gf, y_pf, y_f0, y_f1, y_f3, y_nI, y_nK, y_nZ, y_nL, y_nR, y_k1i, y_k1r, y_k1l, y_k1n, y_tl, y_tn, y_s, y_ss, List.getElem?_cons_zero, List.getElem?_cons_succ, List.set_cons_zero, List.set_cons_succ, List.length_cons, List.length_nil, true_and, and_true, hF2.1, y_is]
  have hs' : sm sh n ≤ 891 := by omega
  refine s_over (by omega) hF2 hT2.2.1 h0 (by omega) (by omega) (fun e he => Nat.lt_of_lt_of_le (p891 hs' (by omega)) b14) (fun g3 hF3 hf3 => ?_)
  simp (disch := omega) only [q_X7_climb_97, y_is, y_gf, y_pf, y_f0, y_f1, y_f3, y_nI, y_nK, y_nZ, y_nL, y_nR, y_k1i, y_k1r, y_k1l, y_k1n, y_tl, y_tn, y_s, y_ss, List.getElem?_cons_zero, List.getElem?_cons_succ, List.set_cons_zero, List.set_cons_succ, List.length_cons, List.length_nil, true_and, and_true]
  exact hQ g3 T2 (hT2.frm hf3 (by omega)) hF3 (((hf1.wide (by omega) (by omega)).tr (hf2.wide (by omega) (by omega))).tr (hf3.wide (by omega) (by omega)))
end THIEVES
