/-! ===== more calls: who sleeps, when ===== -/
def flt (ch : Nat → Nat) (len : Nat) : Int32 := match cres ch len with
  | .inl fl => nI fl
  | .inr _ => -1
def oFault (S : sT) : sT × Int32 := (S, flt (chW S.W) (S.W 100))
def slS (S : sT) (h : Nat) : Option Nat := slO (chW S.W) (shW S.W) (S.W 100) (S.W 0) (S.W 46) (S.W 47) (S.W 48) (S.W 49) h
def oAsleep (S : sT) (h w : Int32) : sT × Int32 := if inB h 0 999 && inB w 0 1 then (match slS S (ck h) with
  | none => (rfs S 1, -3)
  | some p => (S, nI (if ck w = 1 ∧ S.W 46 = 3 then (p + 1) % S.W 0 else p))) else (rfs S 0, -2)
def oJudge (S : sT) : sT × Int32 := (S, jrun (neW S.W) (toW S.W) (S.W 87) 0 (nI 12 - nI (sm (neW S.W) (S.W 0))) 0 0 0)
def oRounds (S : sT) (v : Int32) : sT × Int32 := if inB v 0 1 then (S, if ck v = 0 then nI (rdo (agW S.W) (S.W 0) (S.W 0)).1 else oI (rdo (agW S.W) (S.W 0) (S.W 0)).2) else (rfs S 0, -2)
def oSoon (S : sT) (v : Int32) : sT × Int32 := if inB v 0 (S.W 0 - 1) then (S, oI (soonA (S.W 0) (ck v) (S.W 47) (S.W 48))) else (rfs S 0, -2)
def wyS (S : sT) : Nat := wys (12 - sm (neW S.W) (S.W 0)) (slp (neW S.W) (S.W 0))
def oNights (S : sT) : sT × Int64 := if sm (neW S.W) (S.W 0) ≤ 12 then (S, lN (wyS S)) else (rfs S 1, -3)
def oNight (S : sT) (i : Int64) (h : Int32) : sT × Int32 := if decide (¬ i < 0) && inB h 0 11 then (if sm (neW S.W) (S.W 0) ≤ 12 then (if i < lN (wyS S) then (S, oI (nrun (neW S.W) (S.W 0) (ck h) 12 (12 - sm (neW S.W) (S.W 0)) (slp (neW S.W) (S.W 0)) 0 i.toInt.toNat 0 none)) else (S, -5)) else (rfs S 1, -3)) else (rfs S 0, -10)
def cO8 (g : mzG) (X : sT × Int64) (Q : mzQ) : Prop := ∀ g', CR g' X.1 → fr g g' 0 73 → Q (some (.long X.2)) g'
def mO8 (g : mzG) (X : sT × Int64) (Q : mzQ) : Prop := ∀ g', MR g' X.1 → fr g g' 73 86 → Q (some (.long X.2)) g'
section COPS4
variable {b : mzB} {g : mzG} {Q : mzQ} {S : sT}
theorem c_fault (hC : CR g S) (hS : sv S) (hQ : cO g (oFault S) Q) : wp 97 b 0 [.ref 0] [] g Q := by
  obtain ⟨vv, A, hw, hc⟩ := id hC.cW
  obtain ⟨fl, lb, due, L, w, op, hu⟩ := id hC.cU
  obtain ⟨-, -, -, -, ⟨-, l40⟩, hch⟩ := hS.vW
  have e7 := hc.1.2.2.2.2.2.2.2
  obtain ⟨k0, -, -, -, -, -, -, k9⟩ := id hw
  unfold oFault flt at hQ
  simp (disch := omega) only [q_X10_fault_0, q_X10_fault_1, q_X10_fault_4, q_X10_fault_7, q_X10_fault_8, q_X10_fault_11, q_X10_fault_14, q_X10_fault_15, q_X10_fault_18, q_X10_fault_21, hC.c0.1, hC.c0.2.2, k0, e7, hu.1, y_is, y_gf, y_pf, y_f0, y_f1, y_f3, y_nI, y_nK, y_nZ, y_nL, y_nR, y_k1i, y_k1r, y_k1l, y_k1n, y_tl, y_tn, y_s, y_ss, List.getElem?_cons_zero, List.getElem?_cons_succ, List.set_cons_zero, List.set_cons_succ, List.length_cons, List.length_nil, true_and, and_true]
  refine s_compile (ch := chW S.W) (Or.inr (by decide)) k9 (fun i hi => ?_) l40 hu (fun f e _ g' lb' due' L' w' op' h1 h2 => ?_) (fun L' lb' e g' due' w' op' h1 _ _ h2 => ?_)
  · have := hch i (by omega)
    refine ⟨hc.2.2.2 i (by omega), ?_⟩
    show S.W (101 + i) < 128
    omega
  · rw [e] at hQ
    have hC1 := hC.u h2 ⟨_, _, _, _, _, _, h1⟩
    simp (disch := omega) only [q_X10_fault_24, q_X10_fault_25, q_X10_fault_28, q_X10_fault_31, q_X10_fault_34, hC1.c0.1, hC1.c0.2.2, h1.1, y_is, y_gf, y_pf, y_f0, y_f1, y_f3, y_nI, y_nK, y_nZ, y_nL, y_nR, y_k1i, y_k1r, y_k1l, y_k1n, y_tl, y_tn, y_s, y_ss, List.getElem?_cons_zero, List.getElem?_cons_succ, List.set_cons_zero, List.set_cons_succ, List.length_cons, List.length_nil, true_and, and_true]
    exact hQ g' hC1 (h2.wide (by omega) (by omega))
  · rw [e] at hQ
    have hC1 := hC.u h2 ⟨_, _, _, _, _, _, h1⟩
    simp (disch := omega) only [q_X10_fault_24, q_X10_fault_25, q_X10_fault_28, q_X10_fault_31, q_X10_fault_34, hC1.c0.1, hC1.c0.2.2, h1.1, y_is, y_gf, y_pf, y_f0, y_f1, y_f3, y_nI, y_nK, y_nZ, y_nL, y_nR, y_k1i, y_k1r, y_k1l, y_k1n, y_tl, y_tn, y_s, y_ss, List.getElem?_cons_zero, List.getElem?_cons_succ, List.set_cons_zero, List.set_cons_succ, List.length_cons, List.length_nil, true_and, and_true]
    exact hQ g' hC1 (h2.wide (by omega) (by omega))
theorem c_asleep {h w : Int32} (hC : CR g S) (hS : sv S) (hQ : cO g (oAsleep S h w) Q) : wp 98 b 0 [.ref 0, .int h, .int w, .null] [] g Q := by
  unfold oAsleep at hQ
  obtain ⟨vv, A, hw, hc⟩ := id hC.cW
  obtain ⟨⟨n1, n9⟩, hp, ⟨w46, w47, w48, w49, -⟩, -, ⟨-, l40⟩, hch⟩ := hS.vW
  have bad : (inB h 0 999 && inB w 0 1) = false → wp 98 b 20 [.ref 0, .int h, .int w, .null] [] g Q := by
    intro e
    rw [e] at hQ
    simp only [q_X10_asleep_20, q_X10_asleep_21, q_X10_asleep_23, hC.c0.1, y_is, y_gf, y_pf, y_f0, y_f1, y_f3, y_nI, y_nK, y_nZ, y_nL, y_nR, y_k1i, y_k1r, y_k1l, y_k1n, y_tl, y_tn, y_s, y_ss, List.getElem?_cons_zero, List.getElem?_cons_succ, List.set_cons_zero, List.set_cons_succ, List.length_cons, List.length_nil, true_and, and_true]
    refine c_ref hC (i := 0) (by decide) (by decide) (fun g' h1 h2 => ?_)
    simp only [q_X10_asleep_26, y_is, y_gf, y_pf, y_f0, y_f1, y_f3, y_nI, y_nK, y_nZ, y_nL, y_nR, y_k1i, y_k1r, y_k1l, y_k1n, y_tl, y_tn, y_s, y_ss, List.getElem?_cons_zero, List.getElem?_cons_succ, List.set_cons_zero, List.set_cons_succ, List.length_cons, List.length_nil, true_and, and_true]
    exact hQ g' h1 h2
  simp (disch := omega) only [q_X10_asleep_0, q_X10_asleep_1, q_X10_asleep_4, q_X10_asleep_5, q_X10_asleep_8, q_X10_asleep_11, q_X10_asleep_12, q_X10_asleep_15, q_X10_asleep_16, q_X10_asleep_17, y_is, y_gf, y_pf, y_f0, y_f1, y_f3, y_nI, y_nK, y_nZ, y_nL, y_nR, y_k1i, y_k1r, y_k1l, y_k1n, y_tl, y_tn, y_s, y_ss, List.getElem?_cons_zero, List.getElem?_cons_succ, List.set_cons_zero, List.set_cons_succ, List.length_cons, List.length_nil, true_and, and_true]
  refine brs (fun z => bad (by rw [f_lt (a := 0) (c := 999) (by decide) (by decide) z, Bool.false_and])) (fun z => brs (fun y => bad (by rw [f_gt2 (a := 0) (c := 999) (by decide) (by decide) y, Bool.false_and])) (fun y => ?_))
  obtain ⟨h', k1, k2, e⟩ := in_of (a := 0) (c := 999) (by omega) (by omega) z (Int32.not_lt.mp y)
  subst e
  rw [inB_n (by omega) k1 k2, Bool.true_and] at bad hQ
  refine brs (fun z => bad (f_lt (by decide) (by decide) z)) (fun z => brs (fun y => ?_) (fun y => bad (f_gt (by decide) (by decide) y)))
  obtain ⟨a', t1, t2, e⟩ := in_of (a := 0) (c := 1) (by omega) (by omega) z y
  subst e
  rw [inB_n (by omega) t1 t2, ck_n (by omega), ck_n (by omega), if_pos rfl] at hQ
  obtain ⟨fl, lb, due, L, w, op, hu⟩ := id hC.cU
  obtain ⟨a0, a1, a2, a3, a4, a5, a6, a7⟩ := id hc.1
  simp (disch := omega) only [q_X10_asleep_27, q_X10_asleep_28, q_X10_asleep_31, q_X10_asleep_32, q_X10_asleep_35, q_X10_asleep_36, hC.c0.1, hC.c0.2.2, hw.1, y_is, y_gf, y_pf, y_f0, y_f1, y_f3, y_nI, y_nK, y_nZ, y_nL, y_nR, y_k1i, y_k1r, y_k1l, y_k1n, y_tl, y_tn, y_s, y_ss, List.getElem?_cons_zero, List.getElem?_cons_succ, List.set_cons_zero, List.set_cons_succ, List.length_cons, List.length_nil, true_and, and_true]
  refine s_sleeper (ch := chW S.W) (sh := shW S.W) (by decide) hw a0 a1 a2 a3 a4 a7 w46 n1 n9 (by omega) w48 (by omega) k2 (fun i hi => ?_) (fun i hi => ?_) l40 hC.c0.2.2 hu (fun g' fl' lb' due' L' wa' op' h1 h2 => ?_)
  · have := hch i (by omega)
    refine ⟨hc.2.2.2 i (by omega), ?_⟩
    show S.W (101 + i) < 128
    omega
  · have := (hp i (by omega)).2.1
    have k := hc.2.1 1 i (by omega) (by omega)
    exact ⟨k, this⟩
  · have hC1 := hC.u h2 ⟨_, _, _, _, _, _, h1⟩
    have hw1 := hw.frm h2 (by omega)
    rw [slW_o3]
    show wp 98 _ _ _ [.int (o3 (slS S h'))] _ _
    cases hs : slS S h' with
    | none =>
      rw [hs] at hQ
      simp only [q_X10_asleep_39, q_X10_asleep_40, q_X10_asleep_41, q_X10_asleep_43, o3, y_is, y_gf, y_pf, y_f0, y_f1, y_f3, y_nI, y_nK, y_nZ, y_nL, y_nR, y_k1i, y_k1r, y_k1l, y_k1n, y_tl, y_tn, y_s, y_ss, List.getElem?_cons_zero, List.getElem?_cons_succ, List.set_cons_zero, List.set_cons_succ, List.length_cons, List.length_nil, true_and, and_true]
      refine br0 (fun z => z (by first | decide | omega | trivial | simp)) ?_
      simp only [q_X10_asleep_46, q_X10_asleep_47, q_X10_asleep_49, hC1.c0.1, y_is, y_gf, y_pf, y_f0, y_f1, y_f3, y_nI, y_nK, y_nZ, y_nL, y_nR, y_k1i, y_k1r, y_k1l, y_k1n, y_tl, y_tn, y_s, y_ss, List.getElem?_cons_zero, List.getElem?_cons_succ, List.set_cons_zero, List.set_cons_succ, List.length_cons, List.length_nil, true_and, and_true]
      refine c_ref hC1 (i := 1) (by decide) (by decide) (fun g2 h3 h4 => ?_)
      simp only [q_X10_asleep_52, y_is, y_gf, y_pf, y_f0, y_f1, y_f3, y_nI, y_nK, y_nZ, y_nL, y_nR, y_k1i, y_k1r, y_k1l, y_k1n, y_tl, y_tn, y_s, y_ss, List.getElem?_cons_zero, List.getElem?_cons_succ, List.set_cons_zero, List.set_cons_succ, List.length_cons, List.length_nil, true_and, and_true]
      exact hQ g2 h3 ((h2.wide (by omega) (by omega)).tr h4)
    | some p =>
      rw [hs] at hQ
      have hpl : p < S.W 0 := slO_lt n1 hs
      have hne : ¬ nI p = -3 := fun e => absurd e (by
        have : (-3 : Int32) < 0 := by decide
        exact fun q => (nI_neg this).elim (fun z => z q) (fun z => by omega))
      simp (disch := omega) only [q_X10_asleep_39, q_X10_asleep_40, q_X10_asleep_41, q_X10_asleep_43, q_X10_asleep_46, q_X10_asleep_47, q_X10_asleep_49, q_X10_asleep_52, q_X10_asleep_53, q_X10_asleep_54, o3, y_is, y_gf, y_pf, y_f0, y_f1, y_f3, y_nI, y_nK, y_nZ, y_nL, y_nR, y_k1i, y_k1r, y_k1l, y_k1n, y_tl, y_tn, y_s, y_ss, List.getElem?_cons_zero, List.getElem?_cons_succ, List.set_cons_zero, List.set_cons_succ, List.length_cons, List.length_nil, true_and, and_true, lit, eq_n]
      refine br1 hne ?_
      by_cases c : a' = 0
      · rw [bnt c]
        simp only [if_neg (show ¬ (a' = 1 ∧ S.W 46 = 3) by omega)] at hQ
        simp only [q_X10_asleep_57, q_X10_asleep_58, q_X10_asleep_73, y_is, y_gf, y_pf, y_f0, y_f1, y_f3, y_nI, y_nK, y_nZ, y_nL, y_nR, y_k1i, y_k1r, y_k1l, y_k1n, y_tl, y_tn, y_s, y_ss, List.getElem?_cons_zero, List.getElem?_cons_succ, List.set_cons_zero, List.set_cons_succ, List.length_cons, List.length_nil, true_and, and_true]
        exact hQ g' hC1 (h2.wide (by omega) (by omega))
      · rw [bnf c]
        simp (disch := omega) only [q_X10_asleep_61, q_X10_asleep_62, q_X10_asleep_65, q_X10_asleep_66, q_X10_asleep_69, q_X10_asleep_70, hC1.c0.1, hC1.c0.2.2, hw1.1, y_is, y_gf, y_pf, y_f0, y_f1, y_f3, y_nI, y_nK, y_nZ, y_nL, y_nR, y_k1i, y_k1r, y_k1l, y_k1n, y_tl, y_tn, y_s, y_ss, List.getElem?_cons_zero, List.getElem?_cons_succ, List.set_cons_zero, List.set_cons_succ, List.length_cons, List.length_nil, true_and, and_true]
        refine s_lantern hw1 a0 a1 n9 w46 hpl ?_
        simp only [q_X10_asleep_73, y_is, y_gf, y_pf, y_f0, y_f1, y_f3, y_nI, y_nK, y_nZ, y_nL, y_nR, y_k1i, y_k1r, y_k1l, y_k1n, y_tl, y_tn, y_s, y_ss, List.getElem?_cons_zero, List.getElem?_cons_succ, List.set_cons_zero, List.set_cons_succ, List.length_cons, List.length_nil, true_and, and_true]
        have k := hQ g' hC1 (h2.wide (by omega) (by omega))
        by_cases c3 : S.W 46 = 3
        · rw [if_pos c3]
          simp only [if_pos (show a' = 1 ∧ S.W 46 = 3 from ⟨by omega, c3⟩)] at k
          exact k
        · rw [if_neg c3]
          simp only [if_neg (show ¬ (a' = 1 ∧ S.W 46 = 3) from fun z => c3 z.2)] at k
          exact k
theorem c_judge (hC : CR g S) (hS : sv S) (hQ : cO g (oJudge S) Q) : wp 112 b 0 [.ref 0] [] g Q := by
  obtain ⟨vv, A, hw, hc⟩ := id hC.cW
  obtain ⟨⟨n1, n9⟩, hp, -, hk, ⟨l12, -⟩, -⟩ := hS.vW
  obtain ⟨a0, a1, a2, a3, a4, a5, a6, a7⟩ := id hc.1
  simp (disch := omega) only [q_X10_judge_0, q_X10_judge_1, q_X10_judge_4, hC.c0.1, hw.1, y_is, y_gf, y_pf, y_f0, y_f1, y_f3, y_nI, y_nK, y_nZ, y_nL, y_nR, y_k1i, y_k1r, y_k1l, y_k1n, y_tl, y_tn, y_s, y_ss, List.getElem?_cons_zero, List.getElem?_cons_succ, List.set_cons_zero, List.set_cons_succ, List.length_cons, List.length_nil, true_and, and_true]
  refine s_jud (ne := neW S.W) (t := toW S.W) hw a0 n9 a6 l12 (fun i hi => ?_) (fun k hk' => ?_) ?_
  · exact ⟨hc.2.1 2 i (by omega) hi, (hp i hi).2.2.1⟩
  · exact ⟨(hc.2.2.1 k hk').2.2.2, (hk k hk').2.2.2⟩
  · simp only [q_X10_judge_7, y_is, y_gf, y_pf, y_f0, y_f1, y_f3, y_nI, y_nK, y_nZ, y_nL, y_nR, y_k1i, y_k1r, y_k1l, y_k1n, y_tl, y_tn, y_s, y_ss, List.getElem?_cons_zero, List.getElem?_cons_succ, List.set_cons_zero, List.set_cons_succ, List.length_cons, List.length_nil, true_and, and_true]
    exact hQ g hC fr.rf
theorem c_rounds {v : Int32} (hC : CR g S) (hS : sv S) (hQ : cO g (oRounds S v) Q) : wp 115 b 0 [.ref 0, .int v] [] g Q := by
  unfold oRounds at hQ
  obtain ⟨vv, A, hw, hc⟩ := id hC.cW
  obtain ⟨⟨n1, n9⟩, hp, ⟨-, -, -, -, w50⟩, hk, -⟩ := hS.vW
  obtain ⟨a0, a1, a2, a3, a4, a5, a6, a7⟩ := id hc.1
  have bad : inB v 0 1 = false → wp 115 b 9 [.ref 0, .int v] [] g Q := by
    intro h
    rw [h] at hQ
    simp only [q_X10_rounds_9, q_X10_rounds_10, q_X10_rounds_12, hC.c0.1, y_is, y_gf, y_pf, y_f0, y_f1, y_f3, y_nI, y_nK, y_nZ, y_nL, y_nR, y_k1i, y_k1r, y_k1l, y_k1n, y_tl, y_tn, y_s, y_ss, List.getElem?_cons_zero, List.getElem?_cons_succ, List.set_cons_zero, List.set_cons_succ, List.length_cons, List.length_nil, true_and, and_true]
    refine c_ref hC (i := 0) (by decide) (by decide) (fun g' h1 h2 => ?_)
    simp only [q_X10_rounds_15, y_is, y_gf, y_pf, y_f0, y_f1, y_f3, y_nI, y_nK, y_nZ, y_nL, y_nR, y_k1i, y_k1r, y_k1l, y_k1n, y_tl, y_tn, y_s, y_ss, List.getElem?_cons_zero, List.getElem?_cons_succ, List.set_cons_zero, List.set_cons_succ, List.length_cons, List.length_nil, true_and, and_true]
    exact hQ g' h1 h2
  simp (disch := omega) only [q_X10_rounds_0, q_X10_rounds_1, q_X10_rounds_4, q_X10_rounds_5, q_X10_rounds_6, y_is, y_gf, y_pf, y_f0, y_f1, y_f3, y_nI, y_nK, y_nZ, y_nL, y_nR, y_k1i, y_k1r, y_k1l, y_k1n, y_tl, y_tn, y_s, y_ss, List.getElem?_cons_zero, List.getElem?_cons_succ, List.set_cons_zero, List.set_cons_succ, List.length_cons, List.length_nil, true_and, and_true]
  refine brs (fun z => bad (f_lt (by decide) (by decide) z)) (fun z => brs (fun y => ?_) (fun y => bad (f_gt (by decide) (by decide) y)))
  obtain ⟨j, j1, j2, e⟩ := in_of (a := 0) (c := 1) (by omega) (by omega) z y
  subst e
  rw [inB_n (by omega) j1 j2, ck_n (by omega), if_pos rfl] at hQ
  have hP : agC g 1 (S.W 0) (agW S.W) := by
    intro b Q i j hi hj hQ
    refine s_agr (hr := hrW S.W) (po := poW S.W) (as_ := asW S.W) hw a0 a5 n1 n9 w50 (by omega) (by omega) (fun k hk' => ?_) (fun k hk' => ?_) (fun k hk' => ?_) hQ
    · exact ⟨(hc.2.2.1 k hk').1, (hk k hk').1⟩
    · have := (hk k hk').2.1
      refine ⟨(hc.2.2.1 k hk').2.1, ?_⟩
      show S.W (51 + 3 * k + 1) ≤ 9
      omega
    · exact ⟨(hc.2.2.1 k hk').2.2.1, (hk k hk').2.2.1⟩
  simp (disch := omega) only [q_X10_rounds_16, q_X10_rounds_17, y_is, y_gf, y_pf, y_f0, y_f1, y_f3, y_nI, y_nK, y_nZ, y_nL, y_nR, y_k1i, y_k1r, y_k1l, y_k1n, y_tl, y_tn, y_s, y_ss, List.getElem?_cons_zero, List.getElem?_cons_succ, List.set_cons_zero, List.set_cons_succ, List.length_cons, List.length_nil, true_and, and_true, lit, eq_n]
  by_cases c : j = 0
  · rw [bnt c]
    rw [if_pos c] at hQ
    simp (disch := omega) only [q_X10_rounds_20, q_X10_rounds_21, q_X10_rounds_24, hC.c0.1, hw.1, y_is, y_gf, y_pf, y_f0, y_f1, y_f3, y_nI, y_nK, y_nZ, y_nL, y_nR, y_k1i, y_k1r, y_k1l, y_k1n, y_tl, y_tn, y_s, y_ss, List.getElem?_cons_zero, List.getElem?_cons_succ, List.set_cons_zero, List.set_cons_succ, List.length_cons, List.length_nil, true_and, and_true]
    refine s_agg hw a0 n9 hP ?_
    simp only [q_X10_rounds_27, q_X10_rounds_37, y_is, y_gf, y_pf, y_f0, y_f1, y_f3, y_nI, y_nK, y_nZ, y_nL, y_nR, y_k1i, y_k1r, y_k1l, y_k1n, y_tl, y_tn, y_s, y_ss, List.getElem?_cons_zero, List.getElem?_cons_succ, List.set_cons_zero, List.set_cons_succ, List.length_cons, List.length_nil, true_and, and_true]
    exact hQ g hC fr.rf
  · rw [bnf c]
    rw [if_neg c] at hQ
    simp (disch := omega) only [q_X10_rounds_30, q_X10_rounds_31, q_X10_rounds_34, hC.c0.1, hw.1, y_is, y_gf, y_pf, y_f0, y_f1, y_f3, y_nI, y_nK, y_nZ, y_nL, y_nR, y_k1i, y_k1r, y_k1l, y_k1n, y_tl, y_tn, y_s, y_ss, List.getElem?_cons_zero, List.getElem?_cons_succ, List.set_cons_zero, List.set_cons_succ, List.length_cons, List.length_nil, true_and, and_true]
    refine s_fag hw a0 n9 hP ?_
    simp only [q_X10_rounds_37, y_is, y_gf, y_pf, y_f0, y_f1, y_f3, y_nI, y_nK, y_nZ, y_nL, y_nR, y_k1i, y_k1r, y_k1l, y_k1n, y_tl, y_tn, y_s, y_ss, List.getElem?_cons_zero, List.getElem?_cons_succ, List.set_cons_zero, List.set_cons_succ, List.length_cons, List.length_nil, true_and, and_true]
    exact hQ g hC fr.rf
theorem c_soon {v : Int32} (hC : CR g S) (hS : sv S) (hQ : cO g (oSoon S v) Q) : wp 116 b 0 [.ref 0, .int v] [] g Q := by
  unfold oSoon at hQ
  obtain ⟨vv, A, hw, hc⟩ := id hC.cW
  obtain ⟨⟨n1, n9⟩, hp, ⟨-, w47, w48, -, w50⟩, hk, -⟩ := hS.vW
  obtain ⟨a0, a1, a2, a3, a4, a5, a6, a7⟩ := id hc.1
  simp only [q_X10_soon_0, q_X10_soon_1, q_X10_soon_2, hC.c0.1, y_is, y_gf, y_pf, y_f0, y_f1, y_f3, y_nI, y_nK, y_nZ, y_nL, y_nR, y_k1i, y_k1r, y_k1l, y_k1n, y_tl, y_tn, y_s, y_ss, List.getElem?_cons_zero, List.getElem?_cons_succ, List.set_cons_zero, List.set_cons_succ, List.length_cons, List.length_nil, true_and, and_true]
  refine c_isPost hC hS ?_
  cases hp : inB v 0 (S.W 0 - 1) with
  | false =>
    rw [hp] at hQ
    simp only [q_X10_soon_5, q_X10_soon_19, q_X10_soon_20, q_X10_soon_22, hC.c0.1, y_is, y_gf, y_pf, y_f0, y_f1, y_f3, y_nI, y_nK, y_nZ, y_nL, y_nR, y_k1i, y_k1r, y_k1l, y_k1n, y_tl, y_tn, y_s, y_ss, List.getElem?_cons_zero, List.getElem?_cons_succ, List.set_cons_zero, List.set_cons_succ, List.length_cons, List.length_nil, true_and, and_true, Bool.false_eq_true, if_false]
    refine br1 (by first | decide | omega | trivial | simp) (c_ref hC (i := 0) (by decide) (by decide) (fun g' h1 h2 => ?_))
    simp only [q_X10_soon_25, y_is, y_gf, y_pf, y_f0, y_f1, y_f3, y_nI, y_nK, y_nZ, y_nL, y_nR, y_k1i, y_k1r, y_k1l, y_k1n, y_tl, y_tn, y_s, y_ss, List.getElem?_cons_zero, List.getElem?_cons_succ, List.set_cons_zero, List.set_cons_succ, List.length_cons, List.length_nil, true_and, and_true]
    exact hQ g' h1 h2
  | true =>
    rw [hp, if_pos rfl] at hQ
    obtain ⟨q, q1, q2, e⟩ := (inR_lo (by omega) (by omega)).mpr (of_decide_eq_true hp)
    subst e
    rw [ck_n (by omega)] at hQ
    simp (disch := omega) only [q_X10_soon_5, q_X10_soon_8, q_X10_soon_9, q_X10_soon_12, q_X10_soon_13, hC.c0.1, hw.1, y_is, y_gf, y_pf, y_f0, y_f1, y_f3, y_nI, y_nK, y_nZ, y_nL, y_nR, y_k1i, y_k1r, y_k1l, y_k1n, y_tl, y_tn, y_s, y_ss, List.getElem?_cons_zero, List.getElem?_cons_succ, List.set_cons_zero, List.set_cons_succ, List.length_cons, List.length_nil, true_and, and_true, if_true]
    refine br0 (by decide) (s_fho hw a0 a2 a3 n1 n9 (by omega) w48 (by omega) ?_)
    simp only [q_X10_soon_16, q_X10_soon_25, y_is, y_gf, y_pf, y_f0, y_f1, y_f3, y_nI, y_nK, y_nZ, y_nL, y_nR, y_k1i, y_k1r, y_k1l, y_k1n, y_tl, y_tn, y_s, y_ss, List.getElem?_cons_zero, List.getElem?_cons_succ, List.set_cons_zero, List.set_cons_succ, List.length_cons, List.length_nil, true_and, and_true]
    exact hQ g hC fr.rf
theorem sub12 {a : Nat} (h : a ≤ 12) : nI 12 - nI a = nI (12 - a) := by rw [pk_sub h]
theorem neg12 {a : Nat} (h : 12 < a) (h2 : a < 120) : nI 12 - nI a < 0 := by
  have k : ∀ a : Fin 120, 12 < a.val → nI 12 - nI a.val < 0 := by decide +kernel
  exact k ⟨a, h2⟩ h
theorem c_nights (hC : CR g S) (hS : sv S) (hQ : cO8 g (oNights S) Q) : wp 108 b 0 [.ref 0, .null] [] g Q := by
  unfold oNights wyS at hQ
  obtain ⟨vv, A, hw, hc⟩ := id hC.cW
  obtain ⟨⟨n1, n9⟩, hp, -⟩ := hS.vW
  obtain ⟨a0, -⟩ := id hc.1
  have hne : ∀ i, i < S.W 0 → A 2 i = nI (neW S.W i) ∧ neW S.W i ≤ 12 := fun i hi => ⟨hc.2.1 2 i (by omega) (by omega), (hp i (by omega)).2.2.1⟩
  have hsm := sm_le (f := neW S.W) (c := 12) (n := S.W 0) (fun i hi => (hne i hi).2)
  simp (disch := omega) only [q_X10_nights_0, q_X10_nights_1, q_X10_nights_4, hC.c0.1, hw.1, y_is, y_gf, y_pf, y_f0, y_f1, y_f3, y_nI, y_nK, y_nZ, y_nL, y_nR, y_k1i, y_k1r, y_k1l, y_k1n, y_tl, y_tn, y_s, y_ss, List.getElem?_cons_zero, List.getElem?_cons_succ, List.set_cons_zero, List.set_cons_succ, List.length_cons, List.length_nil, true_and, and_true]
  refine s_idle hw a0 n9 (fun i hi => (hne i hi).1) ?_
  by_cases c : sm (neW S.W) (S.W 0) ≤ 12
  · rw [if_pos c] at hQ
    rw [sub12 c]
    simp (disch := omega) only [q_X10_nights_7, q_X10_nights_8, q_X10_nights_9, q_X10_nights_12, q_X10_nights_13, q_X10_nights_15, q_X10_nights_18, q_X10_nights_19, q_X10_nights_22, q_X10_nights_23, q_X10_nights_26, hC.c0.1, hw.1, y_is, y_gf, y_pf, y_f0, y_f1, y_f3, y_nI, y_nK, y_nZ, y_nL, y_nR, y_k1i, y_k1r, y_k1l, y_k1n, y_tl, y_tn, y_s, y_ss, List.getElem?_cons_zero, List.getElem?_cons_succ, List.set_cons_zero, List.set_cons_succ, List.length_cons, List.length_nil, true_and, and_true, lit, le_n]
    refine br1 (by omega) (s_slp hw a0 n9 hne ?_)
    simp (disch := omega) only [q_X10_nights_29, q_X10_nights_30, y_is, y_gf, y_pf, y_f0, y_f1, y_f3, y_nI, y_nK, y_nZ, y_nL, y_nR, y_k1i, y_k1r, y_k1l, y_k1n, y_tl, y_tn, y_s, y_ss, List.getElem?_cons_zero, List.getElem?_cons_succ, List.set_cons_zero, List.set_cons_succ, List.length_cons, List.length_nil, true_and, and_true]
    refine s_ways (by have := slp_le (neW S.W) (S.W 0); omega) (by omega) ?_
    simp only [q_X10_nights_33, y_is, y_gf, y_pf, y_f0, y_f1, y_f3, y_nI, y_nK, y_nZ, y_nL, y_nR, y_k1i, y_k1r, y_k1l, y_k1n, y_tl, y_tn, y_s, y_ss, List.getElem?_cons_zero, List.getElem?_cons_succ, List.set_cons_zero, List.set_cons_succ, List.length_cons, List.length_nil, true_and, and_true]
    exact hQ g hC fr.rf
  · rw [if_neg c] at hQ
    have := neg12 (a := sm (neW S.W) (S.W 0)) (by omega) (by omega)
    simp (disch := omega) only [q_X10_nights_7, q_X10_nights_8, q_X10_nights_9, q_X10_nights_12, q_X10_nights_13, q_X10_nights_15, hC.c0.1, y_is, y_gf, y_pf, y_f0, y_f1, y_f3, y_nI, y_nK, y_nZ, y_nL, y_nR, y_k1i, y_k1r, y_k1l, y_k1n, y_tl, y_tn, y_s, y_ss, List.getElem?_cons_zero, List.getElem?_cons_succ, List.set_cons_zero, List.set_cons_succ, List.length_cons, List.length_nil, true_and, and_true]
    refine br0 (Int32.not_le.mpr this) (c_ref hC (i := 1) (by decide) (by decide) (fun g' h1 h2 => ?_))
    simp only [q_X10_nights_18, q_X10_nights_19, q_X10_nights_33, y_is, y_gf, y_pf, y_f0, y_f1, y_f3, y_nI, y_nK, y_nZ, y_nL, y_nR, y_k1i, y_k1r, y_k1l, y_k1n, y_tl, y_tn, y_s, y_ss, List.getElem?_cons_zero, List.getElem?_cons_succ, List.set_cons_zero, List.set_cons_succ, List.length_cons, List.length_nil, true_and, and_true]
    exact hQ g' h1 h2
theorem lN_of {x : Int64} (h : ¬ x < 0) : ∃ j : Nat, j < 9223372036854775808 ∧ x = lN j ∧ x.toInt.toNat = j := by
  rw [Int64.lt_iff_toInt_lt] at h
  have h0 : (0 : Int64).toInt = 0 := by decide
  have hx := Int64.toInt_lt x
  refine ⟨x.toInt.toNat, by omega, Int64.toInt_inj.mp ?_, rfl⟩
  rw [pk_lT (by omega)]
  omega
theorem c_night {i : Int64} {h : Int32} (hC : CR g S) (hS : sv S) (hQ : cO g (oNight S i h) Q) : wp 109 b 0 [.ref 0, .long i, .null, .int h, .null] [] g Q := by
  unfold oNight wyS at hQ
  obtain ⟨vv, A, hw, hc⟩ := id hC.cW
  obtain ⟨⟨n1, n9⟩, hp, -⟩ := hS.vW
  obtain ⟨a0, -⟩ := id hc.1
  have hne : ∀ i, i < S.W 0 → A 2 i = nI (neW S.W i) ∧ neW S.W i ≤ 12 := fun i hi => ⟨hc.2.1 2 i (by omega) (by omega), (hp i (by omega)).2.2.1⟩
  have hsm := sm_le (f := neW S.W) (c := 12) (n := S.W 0) (fun i hi => (hne i hi).2)
  have bad : (decide (¬ i < 0) && inB h 0 11) = false → wp 109 b 16 [.ref 0, .long i, .null, .int h, .null] [] g Q := by
    intro e
    rw [e] at hQ
    simp only [q_X10_night_16, q_X10_night_17, q_X10_night_19, hC.c0.1, y_is, y_gf, y_pf, y_f0, y_f1, y_f3, y_nI, y_nK, y_nZ, y_nL, y_nR, y_k1i, y_k1r, y_k1l, y_k1n, y_tl, y_tn, y_s, y_ss, List.getElem?_cons_zero, List.getElem?_cons_succ, List.set_cons_zero, List.set_cons_succ, List.length_cons, List.length_nil, true_and, and_true]
    refine c_ref hC (i := 0) (by decide) (by decide) (fun g' h1 h2 => ?_)
    simp only [q_X10_night_22, q_X10_night_23, q_X10_night_25, y_is, y_gf, y_pf, y_f0, y_f1, y_f3, y_nI, y_nK, y_nZ, y_nL, y_nR, y_k1i, y_k1r, y_k1l, y_k1n, y_tl, y_tn, y_s, y_ss, List.getElem?_cons_zero, List.getElem?_cons_succ, List.set_cons_zero, List.set_cons_succ, List.length_cons, List.length_nil, true_and, and_true]
    exact hQ g' h1 h2
  simp only [q_X10_night_0, q_X10_night_1, q_X10_night_2, q_X10_night_3, q_X10_night_6, q_X10_night_7, y_is, y_gf, y_pf, y_f0, y_f1, y_f3, y_nI, y_nK, y_nZ, y_nL, y_nR, y_k1i, y_k1r, y_k1l, y_k1n, y_tl, y_tn, y_s, y_ss, List.getElem?_cons_zero, List.getElem?_cons_succ, List.set_cons_zero, List.set_cons_succ, List.length_cons, List.length_nil, true_and, and_true, lcl]
  refine brs (fun z => bad (by rw [decide_eq_false (fun y => y z), Bool.false_and])) (fun z => ?_)
  rw [decide_eq_true z, Bool.true_and] at bad hQ
  refine brs (fun y => bad (f_lt (by decide) (by decide) y)) (fun y => ?_)
  obtain ⟨j, hj, e⟩ := nI_of y
  subst e
  simp (disch := omega) only [q_X10_night_10, q_X10_night_11, q_X10_night_13, y_is, y_gf, y_pf, y_f0, y_f1, y_f3, y_nI, y_nK, y_nZ, y_nL, y_nR, y_k1i, y_k1r, y_k1l, y_k1n, y_tl, y_tn, y_s, y_ss, List.getElem?_cons_zero, List.getElem?_cons_succ, List.set_cons_zero, List.set_cons_succ, List.length_cons, List.length_nil, true_and, and_true, lit, lt_n]
  refine brs (fun u => ?_) (fun u => bad (f_gt2 (by decide) (by decide) (by rw [lt_n (by omega) (by omega)]; omega)))
  rw [inB_n (by omega) (by omega) (by omega), ck_n (by omega), if_pos rfl] at hQ
  obtain ⟨m, m1, m2, m3⟩ := lN_of z
  rw [m3] at hQ
  subst m2
  simp (disch := omega) only [q_X10_night_26, q_X10_night_27, q_X10_night_30, hC.c0.1, hw.1, y_is, y_gf, y_pf, y_f0, y_f1, y_f3, y_nI, y_nK, y_nZ, y_nL, y_nR, y_k1i, y_k1r, y_k1l, y_k1n, y_tl, y_tn, y_s, y_ss, List.getElem?_cons_zero, List.getElem?_cons_succ, List.set_cons_zero, List.set_cons_succ, List.length_cons, List.length_nil, true_and, and_true]
  refine s_idle hw a0 n9 (fun i hi => (hne i hi).1) ?_
  by_cases c : sm (neW S.W) (S.W 0) ≤ 12
  · rw [if_pos c] at hQ
    rw [sub12 c]
    simp (disch := omega) only [q_X10_night_33, q_X10_night_35, q_X10_night_37, y_is, y_gf, y_pf, y_f0, y_f1, y_f3, y_nI, y_nK, y_nZ, y_nL, y_nR, y_k1i, y_k1r, y_k1l, y_k1n, y_tl, y_tn, y_s, y_ss, List.getElem?_cons_zero, List.getElem?_cons_succ, List.set_cons_zero, List.set_cons_succ, List.length_cons, List.length_nil, true_and, and_true, lit, le_n]
    refine br1 (by omega) ?_
    simp (disch := omega) only [q_X10_night_47, q_X10_night_48, q_X10_night_49, q_X10_night_52, hC.c0.1, hw.1, y_is, y_gf, y_pf, y_f0, y_f1, y_f3, y_nI, y_nK, y_nZ, y_nL, y_nR, y_k1i, y_k1r, y_k1l, y_k1n, y_tl, y_tn, y_s, y_ss, List.getElem?_cons_zero, List.getElem?_cons_succ, List.set_cons_zero, List.set_cons_succ, List.length_cons, List.length_nil, true_and, and_true]
    refine s_slp hw a0 n9 hne ?_
    have hsl := slp_le (neW S.W) (S.W 0)
    simp (disch := omega) only [q_X10_night_55, q_X10_night_57, y_is, y_gf, y_pf, y_f0, y_f1, y_f3, y_nI, y_nK, y_nZ, y_nL, y_nR, y_k1i, y_k1r, y_k1l, y_k1n, y_tl, y_tn, y_s, y_ss, List.getElem?_cons_zero, List.getElem?_cons_succ, List.set_cons_zero, List.set_cons_succ, List.length_cons, List.length_nil, true_and, and_true]
    refine s_ways (by omega) (by omega) ?_
    simp only [q_X10_night_60, q_X10_night_61, y_is, y_gf, y_pf, y_f0, y_f1, y_f3, y_nI, y_nK, y_nZ, y_nL, y_nR, y_k1i, y_k1r, y_k1l, y_k1n, y_tl, y_tn, y_s, y_ss, List.getElem?_cons_zero, List.getElem?_cons_succ, List.set_cons_zero, List.set_cons_succ, List.length_cons, List.length_nil, true_and, and_true, lcl]
    refine brs (fun q => ?_) (fun q => ?_)
    · rw [if_pos q] at hQ
      simp (disch := omega) only [q_X10_night_67, q_X10_night_68, q_X10_night_71, q_X10_night_72, q_X10_night_73, hC.c0.1, hw.1, y_is, y_gf, y_pf, y_f0, y_f1, y_f3, y_nI, y_nK, y_nZ, y_nL, y_nR, y_k1i, y_k1r, y_k1l, y_k1n, y_tl, y_tn, y_s, y_ss, List.getElem?_cons_zero, List.getElem?_cons_succ, List.set_cons_zero, List.set_cons_succ, List.length_cons, List.length_nil, true_and, and_true]
      refine s_nsl hw a0 n9 hne (by omega) c ?_ ?_
      · have := wys_b (idle := 12 - sm (neW S.W) (S.W 0)) (s := slp (neW S.W) (S.W 0)) (by omega) (by omega)
        rw [l_lt m1 (by omega)] at q
        exact q
      · simp only [q_X10_night_76, y_is, y_gf, y_pf, y_f0, y_f1, y_f3, y_nI, y_nK, y_nZ, y_nL, y_nR, y_k1i, y_k1r, y_k1l, y_k1n, y_tl, y_tn, y_s, y_ss, List.getElem?_cons_zero, List.getElem?_cons_succ, List.set_cons_zero, List.set_cons_succ, List.length_cons, List.length_nil, true_and, and_true]
        exact hQ g hC fr.rf
    · rw [if_neg q] at hQ
      simp only [q_X10_night_64, q_X10_night_66, y_is, y_gf, y_pf, y_f0, y_f1, y_f3, y_nI, y_nK, y_nZ, y_nL, y_nR, y_k1i, y_k1r, y_k1l, y_k1n, y_tl, y_tn, y_s, y_ss, List.getElem?_cons_zero, List.getElem?_cons_succ, List.set_cons_zero, List.set_cons_succ, List.length_cons, List.length_nil, true_and, and_true]
      exact hQ g hC fr.rf
  · rw [if_neg c] at hQ
    have := neg12 (a := sm (neW S.W) (S.W 0)) (by omega) (by omega)
    simp (disch := omega) only [q_X10_night_33, q_X10_night_35, q_X10_night_37, q_X10_night_40, q_X10_night_41, q_X10_night_43, hC.c0.1, y_is, y_gf, y_pf, y_f0, y_f1, y_f3, y_nI, y_nK, y_nZ, y_nL, y_nR, y_k1i, y_k1r, y_k1l, y_k1n, y_tl, y_tn, y_s, y_ss, List.getElem?_cons_zero, List.getElem?_cons_succ, List.set_cons_zero, List.set_cons_succ, List.length_cons, List.length_nil, true_and, and_true]
    refine br0 (Int32.not_le.mpr this) (c_ref hC (i := 1) (by decide) (by decide) (fun g' h1 h2 => ?_))
    simp only [q_X10_night_46, y_is, y_gf, y_pf, y_f0, y_f1, y_f3, y_nI, y_nK, y_nZ, y_nL, y_nR, y_k1i, y_k1r, y_k1l, y_k1n, y_tl, y_tn, y_s, y_ss, List.getElem?_cons_zero, List.getElem?_cons_succ, List.set_cons_zero, List.set_cons_succ, List.length_cons, List.length_nil, true_and, and_true]
    exact hQ g' h1 h2
end COPS4
