/-! ===== more calls: what is told, seen, stolen ===== -/
def tN (v : Int32) : Nat := if v = -1 then 0 else ck v + 1
def oForget (S : sT) : sT × Int32 := (S.uW (va_up S.W 87 0), nI (S.W 87))
def oBlind (S : sT) : sT × Int32 := (S.uW (va_up S.W 50 0), nI (S.W 50))
def oTell (S : sT) (v : Int32) : sT × Int32 := if v = -1 ∨ inB v 0 (S.W 0 - 1) = true then (if S.W 87 = 12 then (rfs S 2, -4) else (S.uW (va_up (va_up S.W (88 + S.W 87) (tN v)) 87 (S.W 87 + 1)), nI (S.W 87 + 1))) else (rfs S 0, -10)
def oSight (S : sT) (h p a : Int32) : sT × Int32 := if inB h 0 999 && (inB p 0 (S.W 0 - 1) && inB a 0 1) then (if S.W 50 = 12 then (rfs S 2, -4) else (S.uW (va_up (va_up (va_up (va_up S.W (51 + 3 * S.W 50) (ck h)) (51 + 3 * S.W 50 + 1) (ck p)) (51 + 3 * S.W 50 + 2) (ck a)) 50 (S.W 50 + 1)), nI (S.W 50))) else (rfs S 0, -2)
def oThefts (S : sT) (p d t : Int32) : sT × Int32 := if inB p 0 (S.W 0 - 1) && (inB t 0 40 && inB d 0 (ck t)) then (S.uW (va_up (va_up S.W (28 + ck p) (ck d)) (37 + ck p) (ck t)), 1) else (rfs S 0, -2)
section COPS2
variable {b : mzB} {g : mzG} {Q : mzQ} {S : sT}
theorem c_forget (hC : CR g S) (hQ : cO g (oForget S) Q) : wp 111 b 0 [.ref 0, .null] [] g Q := by
  obtain ⟨vv, A, hw, hc⟩ := hC.cW
  simp (disch := omega) only [q_X10_forget_0, q_X10_forget_1, q_X10_forget_4, q_X10_forget_7, q_X10_forget_8, q_X10_forget_9, q_X10_forget_12, q_X10_forget_13, q_X10_forget_16, q_X10_forget_17, hC.c0.1, hw.1, hc.1.2.2.2.2.2.2.1, y_is, y_gf, y_pf, y_f0, y_f1, y_f3, y_nI, y_nK, y_nZ, y_nL, y_nR, y_k1i, y_k1r, y_k1l, y_k1n, y_tl, y_tn, y_s, y_ss, List.getElem?_cons_zero, List.getElem?_cons_succ, List.set_cons_zero, List.set_cons_succ, List.length_cons, List.length_nil, true_and, and_true, y_ne]
  have hw3 := hw.nums (v' := va_up vv 6 0)
  refine ⟨by decide, hQ _ (hC.w (fr.rf.hs (by omega) (by omega)) ⟨_, A, hw3, ?_⟩) (fr.rf.hs (by omega) (by omega))⟩
  refine cw_v hc ⟨hc.1.1, hc.1.2.1, hc.1.2.2.1, hc.1.2.2.2.1, hc.1.2.2.2.2.1, hc.1.2.2.2.2.2.1, rfl, hc.1.2.2.2.2.2.2.2⟩ (fun k a1 a2 a3 a4 => ?_)
  unfold va_up
  rw [if_neg (by omega)]
theorem c_blind (hC : CR g S) (hQ : cO g (oBlind S) Q) : wp 114 b 0 [.ref 0, .null] [] g Q := by
  obtain ⟨vv, A, hw, hc⟩ := hC.cW
  simp (disch := omega) only [q_X10_blind_0, q_X10_blind_1, q_X10_blind_4, q_X10_blind_7, q_X10_blind_8, q_X10_blind_9, q_X10_blind_12, q_X10_blind_13, q_X10_blind_16, q_X10_blind_17, hC.c0.1, hw.1, hc.1.2.2.2.2.2.1, y_is, y_gf, y_pf, y_f0, y_f1, y_f3, y_nI, y_nK, y_nZ, y_nL, y_nR, y_k1i, y_k1r, y_k1l, y_k1n, y_tl, y_tn, y_s, y_ss, List.getElem?_cons_zero, List.getElem?_cons_succ, List.set_cons_zero, List.set_cons_succ, List.length_cons, List.length_nil, true_and, and_true, y_ne]
  have hw3 := hw.nums (v' := va_up vv 5 0)
  refine ⟨by decide, hQ _ (hC.w (fr.rf.hs (by omega) (by omega)) ⟨_, A, hw3, ?_⟩) (fr.rf.hs (by omega) (by omega))⟩
  refine cw_v hc ⟨hc.1.1, hc.1.2.1, hc.1.2.2.1, hc.1.2.2.2.1, hc.1.2.2.2.2.1, rfl, hc.1.2.2.2.2.2.2.1, hc.1.2.2.2.2.2.2.2⟩ (fun k a1 a2 a3 a4 => ?_)
  unfold va_up
  rw [if_neg (by omega)]
theorem tI_N {v : Int32} {c : Nat} (hc : c < 2147483648) (h : v = -1 ∨ inB v 0 c = true) : v = tI (tN v) := by
  unfold tN tI
  by_cases e : v = -1
  · rw [if_pos e, if_pos rfl]; exact e
  · rw [if_neg e, if_neg (by omega)]
    obtain ⟨j, -, j2, e2⟩ := (inR_lo (by omega) hc).mpr (of_decide_eq_true (h.resolve_left e))
    rw [e2, ck_n (by omega), Nat.add_sub_cancel]
theorem c_tell {v : Int32} (hC : CR g S) (hS : sv S) (hQ : cO g (oTell S v) Q) : wp 110 b 0 [.ref 0, .int v] [] g Q := by
  unfold oTell at hQ
  obtain ⟨vv, A, hw, hc⟩ := hC.cW
  obtain ⟨⟨n1, n9⟩, -, -, -, ⟨l12, -⟩, -⟩ := hS.vW
  have ok : (v = -1 ∨ inB v 0 (S.W 0 - 1) = true) → wp 110 b 23 [.ref 0, .int v] [] g Q := by
    intro h
    rw [if_pos h] at hQ
    have hv := tI_N (by omega) h
    have e6 := hc.1.2.2.2.2.2.2.1
    simp (disch := omega) only [q_X10_tell_23, q_X10_tell_24, q_X10_tell_27, q_X10_tell_30, q_X10_tell_32, hC.c0.1, hw.1, e6, y_is, y_gf, y_pf, y_f0, y_f1, y_f3, y_nI, y_nK, y_nZ, y_nL, y_nR, y_k1i, y_k1r, y_k1l, y_k1n, y_tl, y_tn, y_s, y_ss, List.getElem?_cons_zero, List.getElem?_cons_succ, List.set_cons_zero, List.set_cons_succ, List.length_cons, List.length_nil, true_and, and_true, y_lIn, y_lKn, y_lZn, y_lLn, y_wIn, y_wZn, y_wLn, lit, le_n, lt_n, eq_n]
    refine brs (fun y => ?_) (fun y => ?_)
    · rw [if_neg (show ¬ S.W 87 = 12 by omega)] at hQ
      obtain ⟨k0, -, -, -, -, -, k8, -⟩ := id hw
      simp (disch := omega) only [q_X10_tell_42, q_X10_tell_43, q_X10_tell_46, q_X10_tell_49, q_X10_tell_50, q_X10_tell_53, q_X10_tell_56, q_X10_tell_57, q_X10_tell_58, q_X10_tell_59, q_X10_tell_62, q_X10_tell_63, q_X10_tell_66, q_X10_tell_67, q_X10_tell_68, q_X10_tell_71, q_X10_tell_72, q_X10_tell_75, q_X10_tell_78, hC.c0.1, k0, k8, e6, y_is, y_gf, y_pf, y_f0, y_f1, y_f3, y_nI, y_nK, y_nZ, y_nL, y_nR, y_k1i, y_k1r, y_k1l, y_k1n, y_tl, y_tn, y_s, y_ss, List.getElem?_cons_zero, List.getElem?_cons_succ, List.set_cons_zero, List.set_cons_succ, List.length_cons, List.length_nil, true_and, and_true, y_lIn, y_lKn, y_lZn, y_lLn, y_wIn, y_wZn, y_wLn, lit, le_n, lt_n, eq_n, y_ne, nI_add]
      have hw3 := (hw.s8 (f := upd (A 8) (S.W 87) v)).nums (v' := va_up vv 6 (nI (S.W 87 + 1)))
      have hf3 : fr g (hs (hs g (1 + 10) (aI 12 (upd (A 8) (S.W 87) v))) 1 (ob 7 [.int (vv 0), .ref (1 + 1), .int (vv 1), .int (vv 2), .int (vv 3), .int (vv 4), .ref (1 + 7), .ref (1 + 8), .ref (1 + 9), .int (vv 5), .ref (1 + 10), .int (nI (S.W 87 + 1)), .ref (1 + 11), .int (vv 7)])) 1 13 := (fr.rf.hs (by omega) (by omega)).hs (by omega) (by omega)
      refine ⟨by decide, hQ _ (hC.w hf3 ⟨_, _, hw3, ?_⟩) (hf3.wide (by omega) (by omega))⟩
      obtain ⟨⟨a0, a1, a2, a3, a4, a5, a6, a7⟩, h2, h3, h4⟩ := hc
      have e : ∀ k, k ≠ 87 → k ≠ 88 + S.W 87 → va_up (va_up S.W (88 + S.W 87) (tN v)) 87 (S.W 87 + 1) k = S.W k := fun k h1 h2 => by unfold va_up; rw [if_neg h1, if_neg h2]
      refine ⟨⟨?_, ?_, ?_, ?_, ?_, ?_, rfl, ?_⟩, fun j q hj hq => ?_, fun k hk => ?_, fun k hk => ?_⟩
      · rw [e _ (by omega) (by omega)]; exact a0
      · rw [e _ (by omega) (by omega)]; exact a1
      · rw [e _ (by omega) (by omega)]; exact a2
      · rw [e _ (by omega) (by omega)]; exact a3
      · rw [e _ (by omega) (by omega)]; exact a4
      · rw [e _ (by omega) (by omega)]; exact a5
      · rw [e _ (by omega) (by omega)]; exact a7
      · rw [e _ (by omega) (by omega)]
        show (if j = 8 then _ else A j) q = _
        rw [if_neg (by omega)]
        exact h2 j q hj hq
      · obtain ⟨b5, b6, b7, b8⟩ := h3 k hk
        rw [e _ (by omega) (by omega), e _ (by omega) (by omega), e _ (by omega) (by omega)]
        refine ⟨b5, b6, b7, ?_⟩
        show upd (A 8) (S.W 87) v k = _
        by_cases c : k = S.W 87
        · subst c
          unfold va_up
          rw [u_s, if_neg (by omega), if_pos rfl]; exact hv
        · rw [u_n c, e _ (by omega) (by omega)]; exact b8
      · rw [e _ (by omega) (by omega)]; exact h4 k hk
    · rw [if_pos (show S.W 87 = 12 by omega)] at hQ
      simp only [q_X10_tell_35, q_X10_tell_36, q_X10_tell_38, hC.c0.1, y_is, y_gf, y_pf, y_f0, y_f1, y_f3, y_nI, y_nK, y_nZ, y_nL, y_nR, y_k1i, y_k1r, y_k1l, y_k1n, y_tl, y_tn, y_s, y_ss, List.getElem?_cons_zero, List.getElem?_cons_succ, List.set_cons_zero, List.set_cons_succ, List.length_cons, List.length_nil, true_and, and_true]
      refine c_ref hC (i := 2) (by decide) (by decide) (fun g' h1 h2 => ?_)
      simp only [q_X10_tell_41, y_is, y_gf, y_pf, y_f0, y_f1, y_f3, y_nI, y_nK, y_nZ, y_nL, y_nR, y_k1i, y_k1r, y_k1l, y_k1n, y_tl, y_tn, y_s, y_ss, List.getElem?_cons_zero, List.getElem?_cons_succ, List.set_cons_zero, List.set_cons_succ, List.length_cons, List.length_nil, true_and, and_true]
      exact hQ g' h1 h2
  simp only [q_X10_tell_0, q_X10_tell_1, q_X10_tell_2, q_X10_tell_5, q_X10_tell_6, q_X10_tell_7, hC.c0.1, y_is, y_gf, y_pf, y_f0, y_f1, y_f3, y_nI, y_nK, y_nZ, y_nL, y_nR, y_k1i, y_k1r, y_k1l, y_k1n, y_tl, y_tn, y_s, y_ss, List.getElem?_cons_zero, List.getElem?_cons_succ, List.set_cons_zero, List.set_cons_succ, List.length_cons, List.length_nil, true_and, and_true]
  refine brs (fun z => ok (Or.inl z)) (fun z => ?_)
  refine c_isPost hC hS ?_
  cases hp : inB v 0 (S.W 0 - 1) with
  | false =>
    rw [hp] at hQ
    rw [if_neg (by rintro (e | e); exact z e; cases e)] at hQ
    simp only [q_X10_tell_10, q_X10_tell_13, q_X10_tell_14, q_X10_tell_16, hC.c0.1, y_is, y_gf, y_pf, y_f0, y_f1, y_f3, y_nI, y_nK, y_nZ, y_nL, y_nR, y_k1i, y_k1r, y_k1l, y_k1n, y_tl, y_tn, y_s, y_ss, List.getElem?_cons_zero, List.getElem?_cons_succ, List.set_cons_zero, List.set_cons_succ, List.length_cons, List.length_nil, true_and, and_true, Bool.false_eq_true, if_false]
    refine br0 (fun z => z (by first | decide | omega | trivial | simp)) (c_ref hC (i := 0) (by decide) (by decide) (fun g' h1 h2 => ?_))
    simp only [q_X10_tell_19, q_X10_tell_20, q_X10_tell_22, y_is, y_gf, y_pf, y_f0, y_f1, y_f3, y_nI, y_nK, y_nZ, y_nL, y_nR, y_k1i, y_k1r, y_k1l, y_k1n, y_tl, y_tn, y_s, y_ss, List.getElem?_cons_zero, List.getElem?_cons_succ, List.set_cons_zero, List.set_cons_succ, List.length_cons, List.length_nil, true_and, and_true]
    exact hQ g' h1 h2
  | true =>
    simp only [q_X10_tell_10, y_is, y_gf, y_pf, y_f0, y_f1, y_f3, y_nI, y_nK, y_nZ, y_nL, y_nR, y_k1i, y_k1r, y_k1l, y_k1n, y_tl, y_tn, y_s, y_ss, List.getElem?_cons_zero, List.getElem?_cons_succ, List.set_cons_zero, List.set_cons_succ, List.length_cons, List.length_nil, true_and, and_true, if_true]
    exact br1 (by decide) (ok (Or.inr hp))
theorem c_sight {h p a : Int32} (hC : CR g S) (hS : sv S) (hQ : cO g (oSight S h p a) Q) : wp 113 b 0 [.ref 0, .int h, .int p, .int a, .null] [] g Q := by
  unfold oSight at hQ
  obtain ⟨vv, A, hw, hc⟩ := hC.cW
  obtain ⟨⟨n1, n9⟩, -, ⟨-, -, -, -, l12⟩, -⟩ := hS.vW
  have bad : (inB h 0 999 && (inB p 0 (S.W 0 - 1) && inB a 0 1)) = false → wp 113 b 28 [.ref 0, .int h, .int p, .int a, .null] [] g Q := by
    intro e
    rw [e] at hQ
    simp only [q_X10_sight_28, q_X10_sight_29, q_X10_sight_31, hC.c0.1, y_is, y_gf, y_pf, y_f0, y_f1, y_f3, y_nI, y_nK, y_nZ, y_nL, y_nR, y_k1i, y_k1r, y_k1l, y_k1n, y_tl, y_tn, y_s, y_ss, List.getElem?_cons_zero, List.getElem?_cons_succ, List.set_cons_zero, List.set_cons_succ, List.length_cons, List.length_nil, true_and, and_true]
    refine c_ref hC (i := 0) (by decide) (by decide) (fun g' h1 h2 => ?_)
    simp only [q_X10_sight_34, y_is, y_gf, y_pf, y_f0, y_f1, y_f3, y_nI, y_nK, y_nZ, y_nL, y_nR, y_k1i, y_k1r, y_k1l, y_k1n, y_tl, y_tn, y_s, y_ss, List.getElem?_cons_zero, List.getElem?_cons_succ, List.set_cons_zero, List.set_cons_succ, List.length_cons, List.length_nil, true_and, and_true]
    exact hQ g' h1 h2
  simp (disch := omega) only [q_X10_sight_0, q_X10_sight_1, q_X10_sight_4, q_X10_sight_5, q_X10_sight_8, y_is, y_gf, y_pf, y_f0, y_f1, y_f3, y_nI, y_nK, y_nZ, y_nL, y_nR, y_k1i, y_k1r, y_k1l, y_k1n, y_tl, y_tn, y_s, y_ss, List.getElem?_cons_zero, List.getElem?_cons_succ, List.set_cons_zero, List.set_cons_succ, List.length_cons, List.length_nil, true_and, and_true]
  refine brs (fun z => bad (by rw [f_lt (a := 0) (c := 999) (by decide) (by decide) z, Bool.false_and])) (fun z => brs (fun y => bad (by rw [f_gt2 (a := 0) (c := 999) (by decide) (by decide) y, Bool.false_and])) (fun y => ?_))
  obtain ⟨h', k1, k2, e⟩ := in_of (a := 0) (c := 999) (by omega) (by omega) z (Int32.not_lt.mp y)
  subst e
  rw [inB_n (by omega) k1 k2, Bool.true_and] at bad hQ
  simp (disch := omega) only [q_X10_sight_11, q_X10_sight_12, q_X10_sight_13, hC.c0.1, y_is, y_gf, y_pf, y_f0, y_f1, y_f3, y_nI, y_nK, y_nZ, y_nL, y_nR, y_k1i, y_k1r, y_k1l, y_k1n, y_tl, y_tn, y_s, y_ss, List.getElem?_cons_zero, List.getElem?_cons_succ, List.set_cons_zero, List.set_cons_succ, List.length_cons, List.length_nil, true_and, and_true]
  refine c_isPost hC hS ?_
  cases hp : inB p 0 (S.W 0 - 1) with
  | false =>
    rw [hp] at bad
    simp only [q_X10_sight_16, y_is, y_gf, y_pf, y_f0, y_f1, y_f3, y_nI, y_nK, y_nZ, y_nL, y_nR, y_k1i, y_k1r, y_k1l, y_k1n, y_tl, y_tn, y_s, y_ss, List.getElem?_cons_zero, List.getElem?_cons_succ, List.set_cons_zero, List.set_cons_succ, List.length_cons, List.length_nil, true_and, and_true, Bool.false_eq_true, if_false]
    exact br1 (by first | decide | omega | trivial | simp) (bad rfl)
  | true =>
    rw [hp, Bool.true_and] at bad hQ
    simp only [q_X10_sight_16, q_X10_sight_19, q_X10_sight_20, q_X10_sight_23, q_X10_sight_24, q_X10_sight_25, y_is, y_gf, y_pf, y_f0, y_f1, y_f3, y_nI, y_nK, y_nZ, y_nL, y_nR, y_k1i, y_k1r, y_k1l, y_k1n, y_tl, y_tn, y_s, y_ss, List.getElem?_cons_zero, List.getElem?_cons_succ, List.set_cons_zero, List.set_cons_succ, List.length_cons, List.length_nil, true_and, and_true, if_true]
    refine br0 (by decide) (brs (fun z => bad (f_lt (by decide) (by decide) z)) (fun z => brs (fun y => ?_) (fun y => bad (f_gt (by decide) (by decide) y))))
    obtain ⟨a', t1, t2, e⟩ := in_of (a := 0) (c := 1) (by omega) (by omega) z y
    subst e
    have hpp := of_decide_eq_true hp
    obtain ⟨p', s1, s2, e⟩ := (inR_lo (by omega) (by omega)).mpr hpp
    subst e
    rw [inB_n (by omega) t1 t2, ck_n (by omega), ck_n (by omega), ck_n (by omega), if_pos rfl] at hQ
    have e5 := hc.1.2.2.2.2.2.1
    simp (disch := omega) only [q_X10_sight_35, q_X10_sight_36, q_X10_sight_39, q_X10_sight_42, q_X10_sight_44, q_X10_sight_46, q_X10_sight_48, hC.c0.1, hw.1, e5, y_is, y_gf, y_pf, y_f0, y_f1, y_f3, y_nI, y_nK, y_nZ, y_nL, y_nR, y_k1i, y_k1r, y_k1l, y_k1n, y_tl, y_tn, y_s, y_ss, List.getElem?_cons_zero, List.getElem?_cons_succ, List.set_cons_zero, List.set_cons_succ, List.length_cons, List.length_nil, true_and, and_true, y_lIn, y_lKn, y_lZn, y_lLn, y_wIn, y_wZn, y_wLn, lit, le_n, lt_n, eq_n]
    refine brs (fun y => ?_) (fun y => ?_)
    · rw [if_neg (show ¬ S.W 50 = 12 by omega)] at hQ
      obtain ⟨k0, -, -, k5, k6, k7, -, -⟩ := id hw
      simp (disch := omega) only [q_X10_sight_58, q_X10_sight_59, q_X10_sight_62, q_X10_sight_65, q_X10_sight_67, q_X10_sight_68, q_X10_sight_69, q_X10_sight_70, q_X10_sight_73, q_X10_sight_76, q_X10_sight_78, q_X10_sight_79, q_X10_sight_80, q_X10_sight_81, q_X10_sight_84, q_X10_sight_87, q_X10_sight_89, q_X10_sight_90, q_X10_sight_91, q_X10_sight_92, q_X10_sight_95, q_X10_sight_97, q_X10_sight_98, q_X10_sight_99, q_X10_sight_102, q_X10_sight_104, hC.c0.1, k0, k5, k6, k7, e5, y_is, y_gf, y_pf, y_f0, y_f1, y_f3, y_nI, y_nK, y_nZ, y_nL, y_nR, y_k1i, y_k1r, y_k1l, y_k1n, y_tl, y_tn, y_s, y_ss, List.getElem?_cons_zero, List.getElem?_cons_succ, List.set_cons_zero, List.set_cons_succ, List.length_cons, List.length_nil, true_and, and_true, y_lIn, y_lKn, y_lZn, y_lLn, y_wIn, y_wZn, y_wLn, lit, le_n, lt_n, eq_n, y_ne, nI_add]
      have hw3 := ((((hw.s5 (f := upd (A 5) (S.W 50) (nI h'))).s6 (f := upd (A 6) (S.W 50) (nI p'))).s7 (f := upd (A 7) (S.W 50) (nI a')))).nums (v' := va_up vv 5 (nI (S.W 50 + 1)))
      generalize hg : hs _ 1 (ob 7 _) = g3 at hw3
      have hf3 : fr g g3 1 13 := by
        rw [← hg]
        exact (((fr.rf.hs (by omega) (by omega)).hs (by omega) (by omega)).hs (by omega) (by omega)).hs (by omega) (by omega)
      refine ⟨by decide, ?_⟩
      have k := hQ g3 (hC.w hf3 ⟨_, _, hw3, ?_⟩) (hf3.wide (by omega) (by omega))
      · rw [← hg] at k
        exact k
      obtain ⟨⟨a0, a1, a2, a3, a4, a5, a6, a7⟩, h2, h3, h4⟩ := hc
      have e : ∀ k, k ≠ 50 → k < 51 + 3 * S.W 50 ∨ 51 + 3 * S.W 50 + 2 < k → va_up (va_up (va_up (va_up S.W (51 + 3 * S.W 50) h') (51 + 3 * S.W 50 + 1) p') (51 + 3 * S.W 50 + 2) a') 50 (S.W 50 + 1) k = S.W k := fun k h1 h2 => by unfold va_up; rw [if_neg h1, if_neg (by omega), if_neg (by omega), if_neg (by omega)]
      refine ⟨⟨?_, ?_, ?_, ?_, ?_, rfl, ?_, ?_⟩, fun j q hj hq => ?_, fun k hk => ?_, fun k hk => ?_⟩
      · rw [e _ (by omega) (by omega)]; exact a0
      · rw [e _ (by omega) (by omega)]; exact a1
      · rw [e _ (by omega) (by omega)]; exact a2
      · rw [e _ (by omega) (by omega)]; exact a3
      · rw [e _ (by omega) (by omega)]; exact a4
      · rw [e _ (by omega) (by omega)]; exact a6
      · rw [e _ (by omega) (by omega)]; exact a7
      · rw [e _ (by omega) (by omega)]
        show (if j = 7 then _ else if j = 6 then _ else if j = 5 then _ else A j) q = _
        rw [if_neg (by omega), if_neg (by omega), if_neg (by omega)]
        exact h2 j q hj hq
      · obtain ⟨b5, b6, b7, b8⟩ := h3 k hk
        show upd (A 5) (S.W 50) (nI h') k = _ ∧ upd (A 6) (S.W 50) (nI p') k = _ ∧ upd (A 7) (S.W 50) (nI a') k = _ ∧ A 8 k = _
        by_cases c : k = S.W 50
        · subst c
          rw [e (88 + S.W 50) (by omega) (by omega), u_s, u_s, u_s]
          refine ⟨?_, ?_, ?_, b8⟩
          · unfold va_up; rw [if_neg (by omega), if_neg (by omega), if_neg (by omega), if_pos rfl]
          · unfold va_up; rw [if_neg (by omega), if_neg (by omega), if_pos rfl]
          · unfold va_up; rw [if_neg (by omega), if_pos rfl]
        · rw [e (88 + k) (by omega) (by omega), e (51 + 3 * k) (by omega) (by omega), e (51 + 3 * k + 1) (by omega) (by omega), e (51 + 3 * k + 2) (by omega) (by omega), u_n c, u_n c, u_n c]
          exact ⟨b5, b6, b7, b8⟩
      · rw [e _ (by omega) (by omega)]; exact h4 k hk
    · rw [if_pos (show S.W 50 = 12 by omega)] at hQ
      simp only [q_X10_sight_51, q_X10_sight_52, q_X10_sight_54, hC.c0.1, y_is, y_gf, y_pf, y_f0, y_f1, y_f3, y_nI, y_nK, y_nZ, y_nL, y_nR, y_k1i, y_k1r, y_k1l, y_k1n, y_tl, y_tn, y_s, y_ss, List.getElem?_cons_zero, List.getElem?_cons_succ, List.set_cons_zero, List.set_cons_succ, List.length_cons, List.length_nil, true_and, and_true]
      refine c_ref hC (i := 2) (by decide) (by decide) (fun g' h1 h2 => ?_)
      simp only [q_X10_sight_57, y_is, y_gf, y_pf, y_f0, y_f1, y_f3, y_nI, y_nK, y_nZ, y_nL, y_nR, y_k1i, y_k1r, y_k1l, y_k1n, y_tl, y_tn, y_s, y_ss, List.getElem?_cons_zero, List.getElem?_cons_succ, List.set_cons_zero, List.set_cons_succ, List.length_cons, List.length_nil, true_and, and_true]
      exact hQ g' h1 h2
theorem c_thefts {p d t : Int32} (hC : CR g S) (hS : sv S) (hQ : cO g (oThefts S p d t) Q) : wp 117 b 0 [.ref 0, .int p, .int d, .int t] [] g Q := by
  unfold oThefts at hQ
  obtain ⟨vv, A, hw, hc⟩ := hC.cW
  obtain ⟨⟨n1, n9⟩, -⟩ := hS.vW
  have bad : (inB p 0 (S.W 0 - 1) && (inB t 0 40 && inB d 0 (ck t))) = false → wp 117 b 23 [.ref 0, .int p, .int d, .int t] [] g Q := by
    intro h
    rw [h] at hQ
    simp only [q_X10_thefts_23, q_X10_thefts_24, q_X10_thefts_26, hC.c0.1, y_is, y_gf, y_pf, y_f0, y_f1, y_f3, y_nI, y_nK, y_nZ, y_nL, y_nR, y_k1i, y_k1r, y_k1l, y_k1n, y_tl, y_tn, y_s, y_ss, List.getElem?_cons_zero, List.getElem?_cons_succ, List.set_cons_zero, List.set_cons_succ, List.length_cons, List.length_nil, true_and, and_true]
    refine c_ref hC (i := 0) (by decide) (by decide) (fun g' h1 h2 => ?_)
    simp only [q_X10_thefts_29, y_is, y_gf, y_pf, y_f0, y_f1, y_f3, y_nI, y_nK, y_nZ, y_nL, y_nR, y_k1i, y_k1r, y_k1l, y_k1n, y_tl, y_tn, y_s, y_ss, List.getElem?_cons_zero, List.getElem?_cons_succ, List.set_cons_zero, List.set_cons_succ, List.length_cons, List.length_nil, true_and, and_true]
    exact hQ g' h1 h2
  simp (disch := omega) only [q_X10_thefts_0, q_X10_thefts_1, q_X10_thefts_2, hC.c0.1, y_is, y_gf, y_pf, y_f0, y_f1, y_f3, y_nI, y_nK, y_nZ, y_nL, y_nR, y_k1i, y_k1r, y_k1l, y_k1n, y_tl, y_tn, y_s, y_ss, List.getElem?_cons_zero, List.getElem?_cons_succ, List.set_cons_zero, List.set_cons_succ, List.length_cons, List.length_nil, true_and, and_true]
  refine c_isPost hC hS ?_
  cases hp : inB p 0 (S.W 0 - 1) with
  | false =>
    rw [hp] at bad
    simp only [q_X10_thefts_5, y_is, y_gf, y_pf, y_f0, y_f1, y_f3, y_nI, y_nK, y_nZ, y_nL, y_nR, y_k1i, y_k1r, y_k1l, y_k1n, y_tl, y_tn, y_s, y_ss, List.getElem?_cons_zero, List.getElem?_cons_succ, List.set_cons_zero, List.set_cons_succ, List.length_cons, List.length_nil, true_and, and_true, Bool.false_eq_true, if_false]
    exact br1 (by first | decide | omega | trivial | simp) (bad rfl)
  | true =>
    rw [hp, Bool.true_and] at bad hQ
    simp only [q_X10_thefts_5, q_X10_thefts_8, q_X10_thefts_9, q_X10_thefts_12, q_X10_thefts_13, q_X10_thefts_14, q_X10_thefts_17, q_X10_thefts_18, q_X10_thefts_20, y_is, y_gf, y_pf, y_f0, y_f1, y_f3, y_nI, y_nK, y_nZ, y_nL, y_nR, y_k1i, y_k1r, y_k1l, y_k1n, y_tl, y_tn, y_s, y_ss, List.getElem?_cons_zero, List.getElem?_cons_succ, List.set_cons_zero, List.set_cons_succ, List.length_cons, List.length_nil, true_and, and_true, if_true]
    -- where there is no such count, or it is
    have bd : (∀ t', t' ≤ 40 → t = nI t' → inB d 0 t' = false) → wp 117 b 23 [.ref 0, .int p, .int d, .int t] [] g Q := by
      intro h
      refine bad ?_
      cases ht : inB t 0 40 with
      | false => rfl
      | true =>
        obtain ⟨t', t1, t2, e⟩ := (inR_lo (by decide) (by decide)).mpr (of_decide_eq_true ht)
        rw [e, ck_n (by omega), h t' t2 e, Bool.and_false]
    refine br0 (by decide) (brs (fun z => bd (fun t' _ _ => f_lt (by decide) (by omega) z)) (fun z => brs (fun y => bd (fun t' _ e => f_gt2 (by decide) (by omega) (by rw [← e]; exact y))) (fun y => brs (fun u => ?_) (fun u => bad (by rw [f_gt (a := 0) (c := 40) (by decide) (by decide) u, Bool.false_and])))))
    have ht0 : ¬ t < 0 := fun q => z (Int32.lt_of_le_of_lt (Int32.not_lt.mp y) q)
    obtain ⟨t', t1, t2, e⟩ := in_of (a := 0) (c := 40) (by omega) (by omega) ht0 u
    subst e
    obtain ⟨d', d1, d2, e⟩ := in_of (a := 0) (c := t') (by omega) (by omega) z (Int32.not_lt.mp y)
    subst e
    obtain ⟨q, q1, q2, e⟩ := (inR_lo (by omega) (by omega)).mpr (of_decide_eq_true hp)
    subst e
    rw [inB_n (by omega) t1 t2, ck_n (by omega), ck_n (by omega), inB_n (by omega) d1 d2, ck_n (by omega), if_pos (by decide)] at hQ
    obtain ⟨k0, k1, k2, -⟩ := id hw
    have w3 := k2 3 (by omega)
    have w4 := k2 4 (by omega)
    simp (disch := omega) only [q_X10_thefts_30, q_X10_thefts_31, q_X10_thefts_34, q_X10_thefts_37, q_X10_thefts_38, q_X10_thefts_39, q_X10_thefts_40, q_X10_thefts_41, q_X10_thefts_42, q_X10_thefts_43, q_X10_thefts_46, q_X10_thefts_49, q_X10_thefts_50, q_X10_thefts_51, q_X10_thefts_52, q_X10_thefts_53, q_X10_thefts_54, q_X10_thefts_55, hC.c0.1, k0, k1, w3, w4, y_is, y_gf, y_pf, y_f0, y_f1, y_f3, y_nI, y_nK, y_nZ, y_nL, y_nR, y_k1i, y_k1r, y_k1l, y_k1n, y_tl, y_tn, y_s, y_ss, List.getElem?_cons_zero, List.getElem?_cons_succ, List.set_cons_zero, List.set_cons_succ, List.length_cons, List.length_nil, true_and, and_true, y_lIn, y_lKn, y_lZn, y_lLn, y_wIn, y_wZn, y_wLn, lit, le_n, lt_n, eq_n, y_row, y_ne]
    have hw3 := (hw.row (i := 3) (f := upd (A 3) q (nI d')) (by omega)).row (i := 4) (f := upd (A 4) q (nI t')) (by omega)
    have hf3 : fr g (hs (hs g (1 + 1 + 1 + 3) (aI 9 (upd (A 3) q (nI d')))) (1 + 1 + 1 + 4) (aI 9 (upd (A 4) q (nI t')))) 1 13 := (fr.rf.hs (by omega) (by omega)).hs (by omega) (by omega)
    refine hQ _ (hC.w hf3 ⟨_, _, hw3, ?_⟩) (hf3.wide (by omega) (by omega))
    have c1 := cw_row (i := 4) (p := q) (x := t') (cw_row (i := 3) (p := q) (x := d') hc (by omega) (by omega)) (by omega) (by omega)
    rw [show 1 + 9 * 3 + q = 28 + q by omega, show 1 + 9 * 4 + q = 37 + q by omega] at c1
    exact c1
end COPS2
