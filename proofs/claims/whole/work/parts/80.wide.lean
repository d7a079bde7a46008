/-! ===== calls that tell a fraction: the wide ones ===== -/
def insN (x : Nat) : List Nat → List Nat
  | [] => [x]
  | y :: l => if x ≤ y then x :: y :: l else y :: insN x l
def srt : List Nat → List Nat
  | [] => []
  | x :: l => insN x (srt l)
theorem insN_p (x : Nat) : ∀ l, (insN x l).Perm (x :: l)
  | [] => List.Perm.refl _
  | y :: l => by
    rw [insN]
    split
    · exact List.Perm.refl _
    · exact ((insN_p x l).cons y).trans (List.Perm.swap x y l)
theorem srt_p : ∀ l, (srt l).Perm l
  | [] => List.Perm.refl _
  | x :: l => (insN_p x (srt l)).trans ((srt_p l).cons x)
theorem insN_s (x : Nat) : ∀ l, l.Pairwise (· ≤ ·) → (insN x l).Pairwise (· ≤ ·)
  | [], _ => List.pairwise_singleton _ _
  | y :: l, h => by
    rw [insN]
    obtain ⟨h1, h2⟩ := List.pairwise_cons.mp h
    split
    · rename_i c
      refine List.pairwise_cons.mpr ⟨fun z hz => ?_, h⟩
      rcases List.mem_cons.mp hz with e | e
      · rw [e]; exact c
      · exact Nat.le_trans c (h1 z e)
    · rename_i c
      refine List.pairwise_cons.mpr ⟨fun z hz => ?_, insN_s x l h2⟩
      rcases List.mem_cons.mp ((insN_p x l).mem_iff.mp hz) with e | e
      · rw [e]; omega
      · exact h1 z e
theorem srt_s : ∀ l, (srt l).Pairwise (· ≤ ·)
  | [] => List.Pairwise.nil
  | x :: l => insN_s x _ (srt_s l)
theorem srt_u : ∀ (l1 l2 : List Nat), l1.Perm l2 → l1.Pairwise (· ≤ ·) → l2.Pairwise (· ≤ ·) → l1 = l2
  | [], l2, h, _, _ => h.nil_eq
  | a :: l1, [], h, _, _ => absurd h.length_eq (by simp)
  | a :: l1, c :: l2, h, s1, s2 => by
    obtain ⟨p1, q1⟩ := List.pairwise_cons.mp s1
    obtain ⟨p2, q2⟩ := List.pairwise_cons.mp s2
    have e : a = c := by
      have m1 : a ∈ c :: l2 := h.mem_iff.mp (List.mem_cons_self ..)
      have m2 : c ∈ a :: l1 := h.mem_iff.mpr (List.mem_cons_self ..)
      rcases List.mem_cons.mp m1 with e | e
      · exact e
      · rcases List.mem_cons.mp m2 with e2 | e2
        · exact e2.symm
        · exact Nat.le_antisymm (p1 c e2) (p2 a e)
    subst e
    rw [srt_u l1 l2 (List.Perm.cons_inv h) q1 q2]
/-- the worths in their order -/
def soW (W : Nat → Nat) : List Nat := srt (pw (woW W) (W 0))
theorem soW_u {W : Nat → Nat} {l : List Nat} (h : l.Perm (pw (woW W) (W 0))) (hs : l.Pairwise (· ≤ ·)) : l = soW W := srt_u _ _ (h.trans (srt_p _).symm) hs (srt_s _)
/-- the best that a thief of a asleep can be held to -/
def bsW (W : Nat → Nat) (a : Nat) : Nat × Nat := bs (0, 1) (a - (W 0 - (soW W).length)) (soW W)
def oLadder (S : sT) (h : Int32) : sT × Int32 := if inB h 1 9 then (if whW S.W = 0 then (rfs S 1, -3) else (rdc S (mxn (fun i => shW S.W i ^ ck h * woW S.W i) (S.W 0)) (whW S.W ^ ck h), 1)) else (rfs S 0, -2)
def dbW (W : Nat → Nat) (p : Nat) : Nat := dbt (shW W p) (whW W - shW W p) (doW W p) (trW W p)
def oDoubt (S : sT) (p : Int32) : sT × Int32 := if inB p 0 (S.W 0 - 1) then (if whW S.W = 0 then (rfs S 1, -3) else (rdc S (dbW S.W (ck p)) (whW S.W ^ trW S.W (ck p)), 1)) else (rfs S 0, -2)
def spW (W : Nat → Nat) : Nat := lea (d40 (shW W) (doW W) (trW W) (whW W)) (W 0)
def oSpy (S : sT) : sT × Int32 := if whW S.W = 0 then (rfs S 1, -3) else (rdc S (dbW S.W (spW S.W)) (whW S.W ^ trW S.W (spW S.W)), nI (spW S.W))
def oBest (S : sT) (a : Int32) : sT × Int32 := if inB a 1 (S.W 0) then (rdc S (bsW S.W (ck a)).1 (bsW S.W (ck a)).2, 1) else (rfs S 0, -2)
def chW_ (W : Nat → Nat) (a p : Nat) : Nat × Nat := chv (bsW W a) (woW W p) a (W 0 - (soW W).length)
def oChance (S : sT) (a p : Int32) : sT × Int32 := if inB a 1 (S.W 0) && inB p 0 (S.W 0 - 1) then (rdc S (chW_ S.W (ck a) (ck p)).1 (chW_ S.W (ck a) (ck p)).2, 1) else (rfs S 0, -2)
def oDuke (S : sT) (p : Int32) : sT × Int32 := if inB p 0 99 then (S, nI (lef (loN (soW S.W) (S.W 0) (ck p)) (loD (soW S.W) (S.W 0)) (S.W 0))) else (rfs S 0, -2)
theorem spW_lt {W : Nat → Nat} (h : wv W) : spW W < W 0 := by
  have := lea_lt (d40 (shW W) (doW W) (trW W) (whW W)) (W 0)
  have := h.1.1
  unfold spW
  omega
theorem gcd_red {a c : Nat} (hc : 0 < c) : (a / Nat.gcd a c) / Nat.gcd (a / Nat.gcd a c) (c / Nat.gcd a c) = a / Nat.gcd a c ∧ (c / Nat.gcd a c) / Nat.gcd (a / Nat.gcd a c) (c / Nat.gcd a c) = c / Nat.gcd a c := by
  have hg : 0 < Nat.gcd a c := Nat.gcd_pos_of_pos_right _ hc
  have e : Nat.gcd (a / Nat.gcd a c) (c / Nat.gcd a c) = 1 := by
    rw [Nat.gcd_div (Nat.gcd_dvd_left a c) (Nat.gcd_dvd_right a c), Nat.div_self hg]
  rw [e, Nat.div_one, Nat.div_one]
  exact ⟨rfl, rfl⟩
section WIDE
variable {b : mzB} {g : mzG} {Q : mzQ} {S : sT}
theorem c_ladder {h : Int32} (hC : CR g S) (hS : sv S) (hQ : cO g (oLadder S h) Q) : wp 102 b 0 [.ref 0, .int h] [] g Q := by
  unfold oLadder at hQ
  obtain ⟨vv, A, hw, hc⟩ := id hC.cW
  have hv := hS.vW
  have hwl := whW_le hv
  have n1 := hv.1.1
  have n9 := hv.1.2
  have bad : inB h 1 9 = false → wp 102 b 11 [.ref 0, .int h] [] g Q := by
    intro e
    rw [e] at hQ
    simp only [q_X10_ladder_11, q_X10_ladder_12, q_X10_ladder_14, hC.c0.1, y_is, y_gf, y_pf, y_f0, y_f1, y_f3, y_nI, y_nK, y_nZ, y_nL, y_nR, y_k1i, y_k1r, y_k1l, y_k1n, y_tl, y_tn, y_s, y_ss, List.getElem?_cons_zero, List.getElem?_cons_succ, List.set_cons_zero, List.set_cons_succ, List.length_cons, List.length_nil, true_and, and_true]
    refine c_ref hC (i := 0) (by decide) (by decide) (fun g' h1 h2 => ?_)
    simp only [q_X10_ladder_17, y_is, y_gf, y_pf, y_f0, y_f1, y_f3, y_nI, y_nK, y_nZ, y_nL, y_nR, y_k1i, y_k1r, y_k1l, y_k1n, y_tl, y_tn, y_s, y_ss, List.getElem?_cons_zero, List.getElem?_cons_succ, List.set_cons_zero, List.set_cons_succ, List.length_cons, List.length_nil, true_and, and_true]
    exact hQ g' h1 h2
  simp (disch := omega) only [q_X10_ladder_0, q_X10_ladder_1, q_X10_ladder_2, q_X10_ladder_5, q_X10_ladder_6, q_X10_ladder_8, y_is, y_gf, y_pf, y_f0, y_f1, y_f3, y_nI, y_nK, y_nZ, y_nL, y_nR, y_k1i, y_k1r, y_k1l, y_k1n, y_tl, y_tn, y_s, y_ss, List.getElem?_cons_zero, List.getElem?_cons_succ, List.set_cons_zero, List.set_cons_succ, List.length_cons, List.length_nil, true_and, and_true]
  refine brs (fun z => bad (f_lt (by decide) (by decide) z)) (fun z => brs (fun y => ?_) (fun y => bad (f_gt (by decide) (by decide) y)))
  obtain ⟨m, m1, m2, e⟩ := in_of (a := 1) (c := 9) (by omega) (by omega) z y
  subst e
  rw [inB_n (by omega) m1 m2, ck_n (by omega), if_pos rfl] at hQ
  simp (disch := omega) only [q_X10_ladder_18, q_X10_ladder_19, q_X10_ladder_22, hC.c0.1, hw.1, y_is, y_gf, y_pf, y_f0, y_f1, y_f3, y_nI, y_nK, y_nZ, y_nL, y_nR, y_k1i, y_k1r, y_k1l, y_k1n, y_tl, y_tn, y_s, y_ss, List.getElem?_cons_zero, List.getElem?_cons_succ, List.set_cons_zero, List.set_cons_succ, List.length_cons, List.length_nil, true_and, and_true]
  refine c_whole hv hw hc ?_
  simp (disch := omega) only [q_X10_ladder_25, y_is, y_gf, y_pf, y_f0, y_f1, y_f3, y_nI, y_nK, y_nZ, y_nL, y_nR, y_k1i, y_k1r, y_k1l, y_k1n, y_tl, y_tn, y_s, y_ss, List.getElem?_cons_zero, List.getElem?_cons_succ, List.set_cons_zero, List.set_cons_succ, List.length_cons, List.length_nil, true_and, and_true, lit, eq_n]
  by_cases c : whW S.W = 0
  · rw [bnt c]
    rw [if_pos c] at hQ
    simp only [q_X10_ladder_28, q_X10_ladder_29, q_X10_ladder_31, hC.c0.1, y_is, y_gf, y_pf, y_f0, y_f1, y_f3, y_nI, y_nK, y_nZ, y_nL, y_nR, y_k1i, y_k1r, y_k1l, y_k1n, y_tl, y_tn, y_s, y_ss, List.getElem?_cons_zero, List.getElem?_cons_succ, List.set_cons_zero, List.set_cons_succ, List.length_cons, List.length_nil, true_and, and_true]
    refine c_ref hC (i := 1) (by decide) (by decide) (fun g' h1 h2 => ?_)
    simp only [q_X10_ladder_34, y_is, y_gf, y_pf, y_f0, y_f1, y_f3, y_nI, y_nK, y_nZ, y_nL, y_nR, y_k1i, y_k1r, y_k1l, y_k1n, y_tl, y_tn, y_s, y_ss, List.getElem?_cons_zero, List.getElem?_cons_succ, List.set_cons_zero, List.set_cons_succ, List.length_cons, List.length_nil, true_and, and_true]
    exact hQ g' h1 h2
  · rw [bnf c]
    rw [if_neg c] at hQ
    obtain ⟨t1, t2, t3, hT⟩ := id hC.cH
    simp (disch := omega) only [q_X10_ladder_35, q_X10_ladder_36, q_X10_ladder_39, q_X10_ladder_40, q_X10_ladder_43, q_X10_ladder_44, q_X10_ladder_47, q_X10_ladder_48, hC.c0.1, hT.1, y_is, y_gf, y_pf, y_f0, y_f1, y_f3, y_nI, y_nK, y_nZ, y_nL, y_nR, y_k1i, y_k1r, y_k1l, y_k1n, y_tl, y_tn, y_s, y_ss, List.getElem?_cons_zero, List.getElem?_cons_succ, List.set_cons_zero, List.set_cons_succ, List.length_cons, List.length_nil, true_and, and_true]
    refine s_climb (sh := shW S.W) (wo := woW S.W) (by decide) rfl hT hw hC.cF hc.1.1 n9 (by omega) (fun i hi => ⟨hc.2.1 1 i (by omega) (by omega), (hv.2.1 i (by omega)).2.1⟩) (fun i hi => ⟨hc.2.1 0 i (by omega) (by omega), (hv.2.1 i (by omega)).1⟩) (by unfold whW at c; omega) (fun g' T' h1 h2 h3 => ?_)
    simp only [q_X10_ladder_51, q_X10_ladder_52, y_is, y_gf, y_pf, y_f0, y_f1, y_f3, y_nI, y_nK, y_nZ, y_nL, y_nR, y_k1i, y_k1r, y_k1l, y_k1n, y_tl, y_tn, y_s, y_ss, List.getElem?_cons_zero, List.getElem?_cons_succ, List.set_cons_zero, List.set_cons_succ, List.length_cons, List.length_nil, true_and, and_true]
    exact hQ g' (hC.h h3 ⟨_, _, _, h1⟩ h2) (h3.wide (by omega) (by omega))
theorem c_doubtOf {p : Nat} (hC : CR g S) (hS : sv S) (hp : p < S.W 0) (hw0 : ¬ whW S.W = 0) (hQ : ∀ g', CR g' (rdc S (dbW S.W p) (whW S.W ^ trW S.W p)) → fr g g' 0 73 → Q none g') : wp 62 b 0 [.ref 36, .ref 43, .ref 1, .int (nI p), .null, .null, .null, .null] [] g Q := by
  obtain ⟨vv, A, hw, hc⟩ := id hC.cW
  have hv := hS.vW
  have n9 := hv.1.2
  obtain ⟨t1, t2, t3, hT⟩ := id hC.cH
  have hb := hv.2.1 p (by omega)
  refine s_doubtOf (sh := shW S.W) (do_ := doW S.W) (tr := trW S.W) (by decide) rfl hT hw hC.cF hc.1.1 n9 hp (fun i hi => ⟨hc.2.1 1 i (by omega) (by omega), (hv.2.1 i (by omega)).2.1⟩) (hc.2.1 3 p (by omega) (by omega)) (hc.2.1 4 p (by omega) (by omega)) hb.2.2.2.1 hb.2.2.2.2 (by unfold whW at hw0; omega) (sm_ge hp) (fun g' S' T' h1 h2 h3 => ?_)
  exact hQ g' (hC.h h3 ⟨_, _, _, h1⟩ h2) (h3.wide (by omega) (by omega))
theorem c_doubt {p : Int32} (hC : CR g S) (hS : sv S) (hQ : cO g (oDoubt S p) Q) : wp 118 b 0 [.ref 0, .int p] [] g Q := by
  unfold oDoubt at hQ
  obtain ⟨vv, A, hw, hc⟩ := id hC.cW
  have hv := hS.vW
  have hwl := whW_le hv
  have n1 := hv.1.1
  have n9 := hv.1.2
  simp only [q_X10_doubt_0, q_X10_doubt_1, q_X10_doubt_2, hC.c0.1, y_is, y_gf, y_pf, y_f0, y_f1, y_f3, y_nI, y_nK, y_nZ, y_nL, y_nR, y_k1i, y_k1r, y_k1l, y_k1n, y_tl, y_tn, y_s, y_ss, List.getElem?_cons_zero, List.getElem?_cons_succ, List.set_cons_zero, List.set_cons_succ, List.length_cons, List.length_nil, true_and, and_true]
  refine c_isPost hC hS ?_
  cases hp : inB p 0 (S.W 0 - 1) with
  | false =>
    rw [hp] at hQ
    simp only [q_X10_doubt_5, q_X10_doubt_8, q_X10_doubt_9, q_X10_doubt_11, hC.c0.1, y_is, y_gf, y_pf, y_f0, y_f1, y_f3, y_nI, y_nK, y_nZ, y_nL, y_nR, y_k1i, y_k1r, y_k1l, y_k1n, y_tl, y_tn, y_s, y_ss, List.getElem?_cons_zero, List.getElem?_cons_succ, List.set_cons_zero, List.set_cons_succ, List.length_cons, List.length_nil, true_and, and_true, Bool.false_eq_true, if_false]
    refine br0 (fun z => z (by first | decide | omega | trivial | simp)) (c_ref hC (i := 0) (by decide) (by decide) (fun g' h1 h2 => ?_))
    simp only [q_X10_doubt_14, y_is, y_gf, y_pf, y_f0, y_f1, y_f3, y_nI, y_nK, y_nZ, y_nL, y_nR, y_k1i, y_k1r, y_k1l, y_k1n, y_tl, y_tn, y_s, y_ss, List.getElem?_cons_zero, List.getElem?_cons_succ, List.set_cons_zero, List.set_cons_succ, List.length_cons, List.length_nil, true_and, and_true]
    exact hQ g' h1 h2
  | true =>
    rw [hp, if_pos rfl] at hQ
    obtain ⟨q, q1, q2, e⟩ := (inR_lo (by omega) (by omega)).mpr (of_decide_eq_true hp)
    subst e
    rw [ck_n (by omega)] at hQ
    simp (disch := omega) only [q_X10_doubt_5, q_X10_doubt_15, q_X10_doubt_16, q_X10_doubt_19, hC.c0.1, hw.1, y_is, y_gf, y_pf, y_f0, y_f1, y_f3, y_nI, y_nK, y_nZ, y_nL, y_nR, y_k1i, y_k1r, y_k1l, y_k1n, y_tl, y_tn, y_s, y_ss, List.getElem?_cons_zero, List.getElem?_cons_succ, List.set_cons_zero, List.set_cons_succ, List.length_cons, List.length_nil, true_and, and_true, if_true]
    refine br1 (by decide) (c_whole hv hw hc ?_)
    simp (disch := omega) only [q_X10_doubt_22, y_is, y_gf, y_pf, y_f0, y_f1, y_f3, y_nI, y_nK, y_nZ, y_nL, y_nR, y_k1i, y_k1r, y_k1l, y_k1n, y_tl, y_tn, y_s, y_ss, List.getElem?_cons_zero, List.getElem?_cons_succ, List.set_cons_zero, List.set_cons_succ, List.length_cons, List.length_nil, true_and, and_true, lit, eq_n]
    by_cases c : whW S.W = 0
    · rw [bnt c]
      rw [if_pos c] at hQ
      simp only [q_X10_doubt_25, q_X10_doubt_26, q_X10_doubt_28, hC.c0.1, y_is, y_gf, y_pf, y_f0, y_f1, y_f3, y_nI, y_nK, y_nZ, y_nL, y_nR, y_k1i, y_k1r, y_k1l, y_k1n, y_tl, y_tn, y_s, y_ss, List.getElem?_cons_zero, List.getElem?_cons_succ, List.set_cons_zero, List.set_cons_succ, List.length_cons, List.length_nil, true_and, and_true]
      refine c_ref hC (i := 1) (by decide) (by decide) (fun g' h1 h2 => ?_)
      simp only [q_X10_doubt_31, y_is, y_gf, y_pf, y_f0, y_f1, y_f3, y_nI, y_nK, y_nZ, y_nL, y_nR, y_k1i, y_k1r, y_k1l, y_k1n, y_tl, y_tn, y_s, y_ss, List.getElem?_cons_zero, List.getElem?_cons_succ, List.set_cons_zero, List.set_cons_succ, List.length_cons, List.length_nil, true_and, and_true]
      exact hQ g' h1 h2
    · rw [bnf c]
      rw [if_neg c] at hQ
      obtain ⟨t1, t2, t3, hT⟩ := id hC.cH
      simp (disch := omega) only [q_X10_doubt_32, q_X10_doubt_33, q_X10_doubt_36, q_X10_doubt_37, q_X10_doubt_40, q_X10_doubt_41, q_X10_doubt_44, q_X10_doubt_45, hC.c0.1, hT.1, y_is, y_gf, y_pf, y_f0, y_f1, y_f3, y_nI, y_nK, y_nZ, y_nL, y_nR, y_k1i, y_k1r, y_k1l, y_k1n, y_tl, y_tn, y_s, y_ss, List.getElem?_cons_zero, List.getElem?_cons_succ, List.set_cons_zero, List.set_cons_succ, List.length_cons, List.length_nil, true_and, and_true]
      refine c_doubtOf hC hS (by omega) c (fun g' h1 h2 => ?_)
      simp only [q_X10_doubt_48, q_X10_doubt_49, y_is, y_gf, y_pf, y_f0, y_f1, y_f3, y_nI, y_nK, y_nZ, y_nL, y_nR, y_k1i, y_k1r, y_k1l, y_k1n, y_tl, y_tn, y_s, y_ss, List.getElem?_cons_zero, List.getElem?_cons_succ, List.set_cons_zero, List.set_cons_succ, List.length_cons, List.length_nil, true_and, and_true]
      exact hQ g' h1 h2
theorem c_spy (hC : CR g S) (hS : sv S) (hQ : cO g (oSpy S) Q) : wp 119 b 0 [.ref 0, .null] [] g Q := by
  unfold oSpy at hQ
  obtain ⟨vv, A, hw, hc⟩ := id hC.cW
  have hv := hS.vW
  have hwl := whW_le hv
  have n1 := hv.1.1
  have n9 := hv.1.2
  simp (disch := omega) only [q_X10_spy_0, q_X10_spy_1, q_X10_spy_4, hC.c0.1, hw.1, y_is, y_gf, y_pf, y_f0, y_f1, y_f3, y_nI, y_nK, y_nZ, y_nL, y_nR, y_k1i, y_k1r, y_k1l, y_k1n, y_tl, y_tn, y_s, y_ss, List.getElem?_cons_zero, List.getElem?_cons_succ, List.set_cons_zero, List.set_cons_succ, List.length_cons, List.length_nil, true_and, and_true]
  refine c_whole hv hw hc ?_
  simp (disch := omega) only [q_X10_spy_7, y_is, y_gf, y_pf, y_f0, y_f1, y_f3, y_nI, y_nK, y_nZ, y_nL, y_nR, y_k1i, y_k1r, y_k1l, y_k1n, y_tl, y_tn, y_s, y_ss, List.getElem?_cons_zero, List.getElem?_cons_succ, List.set_cons_zero, List.set_cons_succ, List.length_cons, List.length_nil, true_and, and_true, lit, eq_n]
  by_cases c : whW S.W = 0
  · rw [bnt c]
    rw [if_pos c] at hQ
    simp only [q_X10_spy_10, q_X10_spy_11, q_X10_spy_13, hC.c0.1, y_is, y_gf, y_pf, y_f0, y_f1, y_f3, y_nI, y_nK, y_nZ, y_nL, y_nR, y_k1i, y_k1r, y_k1l, y_k1n, y_tl, y_tn, y_s, y_ss, List.getElem?_cons_zero, List.getElem?_cons_succ, List.set_cons_zero, List.set_cons_succ, List.length_cons, List.length_nil, true_and, and_true]
    refine c_ref hC (i := 1) (by decide) (by decide) (fun g' h1 h2 => ?_)
    simp only [q_X10_spy_16, y_is, y_gf, y_pf, y_f0, y_f1, y_f3, y_nI, y_nK, y_nZ, y_nL, y_nR, y_k1i, y_k1r, y_k1l, y_k1n, y_tl, y_tn, y_s, y_ss, List.getElem?_cons_zero, List.getElem?_cons_succ, List.set_cons_zero, List.set_cons_succ, List.length_cons, List.length_nil, true_and, and_true]
    exact hQ g' h1 h2
  · rw [bnf c]
    rw [if_neg c] at hQ
    obtain ⟨t1, t2, t3, hT⟩ := id hC.cH
    simp (disch := omega) only [q_X10_spy_17, q_X10_spy_18, q_X10_spy_21, q_X10_spy_22, q_X10_spy_25, hC.c0.1, hT.1, y_is, y_gf, y_pf, y_f0, y_f1, y_f3, y_nI, y_nK, y_nZ, y_nL, y_nR, y_k1i, y_k1r, y_k1l, y_k1n, y_tl, y_tn, y_s, y_ss, List.getElem?_cons_zero, List.getElem?_cons_succ, List.set_cons_zero, List.set_cons_succ, List.length_cons, List.length_nil, true_and, and_true]
    refine s_most (sh := shW S.W) (do_ := doW S.W) (tr := trW S.W) hT hw (by decide) hc.1.1 n9 hwl (fun i hi => ⟨hc.2.1 1 i (by omega) (by omega), sm_ge hi⟩) (fun i hi => ⟨hc.2.1 3 i (by omega) (by omega), (hv.2.1 i (by omega)).2.2.2.1⟩) (fun i hi => ⟨hc.2.1 4 i (by omega) (by omega), (hv.2.1 i (by omega)).2.2.2.2⟩) (fun g' S' T' L' h1 h2 => ?_)
    show wp _ _ _ _ [.int (nI (spW S.W))] _ _
    have hC1 : CR g' S := hC.h (N := S.N) (D := S.D) (h2.wide (by omega) (by omega)) ⟨_, _, _, h1⟩ (hC.cF.frm h2 (by omega))
    simp (disch := omega) only [q_X10_spy_28, q_X10_spy_29, q_X10_spy_30, q_X10_spy_33, q_X10_spy_34, q_X10_spy_37, q_X10_spy_38, q_X10_spy_41, q_X10_spy_42, hC1.c0.1, h1.1, y_is, y_gf, y_pf, y_f0, y_f1, y_f3, y_nI, y_nK, y_nZ, y_nL, y_nR, y_k1i, y_k1r, y_k1l, y_k1n, y_tl, y_tn, y_s, y_ss, List.getElem?_cons_zero, List.getElem?_cons_succ, List.set_cons_zero, List.set_cons_succ, List.length_cons, List.length_nil, true_and, and_true]
    refine c_doubtOf hC1 hS (spW_lt hv) c (fun g2 h3 h4 => ?_)
    simp only [q_X10_spy_45, q_X10_spy_46, y_is, y_gf, y_pf, y_f0, y_f1, y_f3, y_nI, y_nK, y_nZ, y_nL, y_nR, y_k1i, y_k1r, y_k1l, y_k1n, y_tl, y_tn, y_s, y_ss, List.getElem?_cons_zero, List.getElem?_cons_succ, List.set_cons_zero, List.set_cons_succ, List.length_cons, List.length_nil, true_and, and_true]
    exact hQ g2 h3 ((h2.wide (by omega) (by omega)).tr h4)
theorem bsW_b {W : Nat → Nat} {a : Nat} (F : Nat × Nat) (h : F = bsW W a) : F = bsW W a := h
theorem c_best {a : Int32} (hC : CR g S) (hS : sv S) (hQ : cO g (oBest S a) Q) : wp 104 b 0 [.ref 0, .int a] [] g Q := by
  unfold oBest at hQ
  obtain ⟨vv, A, hw, hc⟩ := id hC.cW
  have hv := hS.vW
  have n1 := hv.1.1
  have n9 := hv.1.2
  have bad : inB a 1 (S.W 0) = false → wp 104 b 16 [.ref 0, .int a] [] g Q := by
    intro e
    rw [e] at hQ
    simp only [q_X10_best_16, q_X10_best_17, q_X10_best_19, hC.c0.1, y_is, y_gf, y_pf, y_f0, y_f1, y_f3, y_nI, y_nK, y_nZ, y_nL, y_nR, y_k1i, y_k1r, y_k1l, y_k1n, y_tl, y_tn, y_s, y_ss, List.getElem?_cons_zero, List.getElem?_cons_succ, List.set_cons_zero, List.set_cons_succ, List.length_cons, List.length_nil, true_and, and_true]
    refine c_ref hC (i := 0) (by decide) (by decide) (fun g' h1 h2 => ?_)
    simp only [q_X10_best_22, y_is, y_gf, y_pf, y_f0, y_f1, y_f3, y_nI, y_nK, y_nZ, y_nL, y_nR, y_k1i, y_k1r, y_k1l, y_k1n, y_tl, y_tn, y_s, y_ss, List.getElem?_cons_zero, List.getElem?_cons_succ, List.set_cons_zero, List.set_cons_succ, List.length_cons, List.length_nil, true_and, and_true]
    exact hQ g' h1 h2
  simp (disch := omega) only [q_X10_best_0, q_X10_best_1, q_X10_best_2, q_X10_best_5, q_X10_best_6, q_X10_best_7, q_X10_best_10, q_X10_best_13, hC.c0.1, hw.1, hc.1.1, y_is, y_gf, y_pf, y_f0, y_f1, y_f3, y_nI, y_nK, y_nZ, y_nL, y_nR, y_k1i, y_k1r, y_k1l, y_k1n, y_tl, y_tn, y_s, y_ss, List.getElem?_cons_zero, List.getElem?_cons_succ, List.set_cons_zero, List.set_cons_succ, List.length_cons, List.length_nil, true_and, and_true]
  refine brs (fun z => bad (f_lt (by decide) (by omega) z)) (fun z => brs (fun y => ?_) (fun y => bad (f_gt (by decide) (by omega) y)))
  obtain ⟨m, m1, m2, e⟩ := in_of (a := 1) (c := S.W 0) (by omega) (by omega) z y
  subst e
  rw [inB_n (by omega) m1 m2, ck_n (by omega), if_pos rfl] at hQ
  obtain ⟨b1, b2, b3, b4, hB⟩ := id hC.cB
  simp (disch := omega) only [q_X10_best_23, q_X10_best_24, q_X10_best_27, q_X10_best_28, q_X10_best_31, q_X10_best_32, hC.c0.1, hB.1, y_is, y_gf, y_pf, y_f0, y_f1, y_f3, y_nI, y_nK, y_nZ, y_nL, y_nR, y_k1i, y_k1r, y_k1l, y_k1n, y_tl, y_tn, y_s, y_ss, List.getElem?_cons_zero, List.getElem?_cons_succ, List.set_cons_zero, List.set_cons_succ, List.length_cons, List.length_nil, true_and, and_true]
  refine s_solve (wo := woW S.W) (by decide) hB hw hc.1.1 n9 (fun i hi => ⟨hc.2.1 0 i (by omega) (by omega), (hv.2.1 i (by omega)).1⟩) (by omega) (fun g' f' l F hl hs hF f1 f2 f3 h1 h2 => ?_)
  have el := soW_u hl hs
  subst el
  have hF : F = bsW S.W m := hF
  rw [← hF] at hQ
  have hC1 := hC.b h2 ⟨_, _, _, _, h1⟩
  have hg : 0 < Nat.gcd F.1 F.2 := Nat.gcd_pos_of_pos_right _ f2
  have d1 : F.1 / Nat.gcd F.1 F.2 ≤ F.1 := Nat.div_le_self _ _
  have d2 : F.2 / Nat.gcd F.1 F.2 ≤ F.2 := Nat.div_le_self _ _
  have d3 : 0 < F.2 / Nat.gcd F.1 F.2 := Nat.div_pos (Nat.le_of_dvd f2 (Nat.gcd_dvd_right _ _)) hg
  have p1 : 9 * 99 ^ 9 < 9223372036854775808 := by decide
  have p2 : 9 * 99 ^ 8 < 9223372036854775808 := by decide
  simp (disch := omega) only [q_X10_best_35, q_X10_best_36, q_X10_best_39, q_X10_best_40, q_X10_best_43, q_X10_best_46, q_X10_best_47, q_X10_best_50, q_X10_best_53, hC1.c0.1, hC1.cF.1, h1.1, y_is, y_gf, y_pf, y_f0, y_f1, y_f3, y_nI, y_nK, y_nZ, y_nL, y_nR, y_k1i, y_k1r, y_k1l, y_k1n, y_tl, y_tn, y_s, y_ss, List.getElem?_cons_zero, List.getElem?_cons_succ, List.set_cons_zero, List.set_cons_succ, List.length_cons, List.length_nil, true_and, and_true]
  refine c_fset hC1 (Nat.lt_of_le_of_lt (Nat.le_trans d1 f1) p1) (Nat.lt_of_le_of_lt (Nat.le_trans d2 f3) p2) d3 (fun g2 h3 h4 => ?_)
  simp only [q_X10_best_56, q_X10_best_57, y_is, y_gf, y_pf, y_f0, y_f1, y_f3, y_nI, y_nK, y_nZ, y_nL, y_nR, y_k1i, y_k1r, y_k1l, y_k1n, y_tl, y_tn, y_s, y_ss, List.getElem?_cons_zero, List.getElem?_cons_succ, List.set_cons_zero, List.set_cons_succ, List.length_cons, List.length_nil, true_and, and_true]
  unfold rdc at h3 hQ
  rw [(gcd_red f2).1, (gcd_red f2).2] at h3
  exact hQ g2 h3 ((h2.wide (by omega) (by omega)).tr h4)
theorem c_chance {a p : Int32} (hC : CR g S) (hS : sv S) (hQ : cO g (oChance S a p) Q) : wp 105 b 0 [.ref 0, .int a, .int p] [] g Q := by
  unfold oChance at hQ
  obtain ⟨vv, A, hw, hc⟩ := id hC.cW
  have hv := hS.vW
  have n1 := hv.1.1
  have n9 := hv.1.2
  have bad : (inB a 1 (S.W 0) && inB p 0 (S.W 0 - 1)) = false → wp 105 b 24 [.ref 0, .int a, .int p] [] g Q := by
    intro e
    rw [e] at hQ
    simp only [q_X10_chance_24, q_X10_chance_25, q_X10_chance_27, hC.c0.1, y_is, y_gf, y_pf, y_f0, y_f1, y_f3, y_nI, y_nK, y_nZ, y_nL, y_nR, y_k1i, y_k1r, y_k1l, y_k1n, y_tl, y_tn, y_s, y_ss, List.getElem?_cons_zero, List.getElem?_cons_succ, List.set_cons_zero, List.set_cons_succ, List.length_cons, List.length_nil, true_and, and_true]
    refine c_ref hC (i := 0) (by decide) (by decide) (fun g' h1 h2 => ?_)
    simp only [q_X10_chance_30, y_is, y_gf, y_pf, y_f0, y_f1, y_f3, y_nI, y_nK, y_nZ, y_nL, y_nR, y_k1i, y_k1r, y_k1l, y_k1n, y_tl, y_tn, y_s, y_ss, List.getElem?_cons_zero, List.getElem?_cons_succ, List.set_cons_zero, List.set_cons_succ, List.length_cons, List.length_nil, true_and, and_true]
    exact hQ g' h1 h2
  simp (disch := omega) only [q_X10_chance_0, q_X10_chance_1, q_X10_chance_2, q_X10_chance_5, q_X10_chance_6, q_X10_chance_7, q_X10_chance_10, q_X10_chance_13, hC.c0.1, hw.1, hc.1.1, y_is, y_gf, y_pf, y_f0, y_f1, y_f3, y_nI, y_nK, y_nZ, y_nL, y_nR, y_k1i, y_k1r, y_k1l, y_k1n, y_tl, y_tn, y_s, y_ss, List.getElem?_cons_zero, List.getElem?_cons_succ, List.set_cons_zero, List.set_cons_succ, List.length_cons, List.length_nil, true_and, and_true]
  refine brs (fun z => bad (by rw [f_lt (a := 1) (by decide) (by omega) z, Bool.false_and])) (fun z => brs (fun y => bad (by rw [f_gt2 (a := 1) (by decide) (by omega) y, Bool.false_and])) (fun y => ?_))
  obtain ⟨m, m1, m2, e⟩ := in_of (a := 1) (c := S.W 0) (by omega) (by omega) z (Int32.not_lt.mp y)
  subst e
  rw [inB_n (by omega) m1 m2, Bool.true_and] at bad hQ
  simp only [q_X10_chance_16, q_X10_chance_17, q_X10_chance_18, hC.c0.1, y_is, y_gf, y_pf, y_f0, y_f1, y_f3, y_nI, y_nK, y_nZ, y_nL, y_nR, y_k1i, y_k1r, y_k1l, y_k1n, y_tl, y_tn, y_s, y_ss, List.getElem?_cons_zero, List.getElem?_cons_succ, List.set_cons_zero, List.set_cons_succ, List.length_cons, List.length_nil, true_and, and_true]
  refine c_isPost hC hS ?_
  cases hp : inB p 0 (S.W 0 - 1) with
  | false =>
    simp only [q_X10_chance_21, y_is, y_gf, y_pf, y_f0, y_f1, y_f3, y_nI, y_nK, y_nZ, y_nL, y_nR, y_k1i, y_k1r, y_k1l, y_k1n, y_tl, y_tn, y_s, y_ss, List.getElem?_cons_zero, List.getElem?_cons_succ, List.set_cons_zero, List.set_cons_succ, List.length_cons, List.length_nil, true_and, and_true, Bool.false_eq_true, if_false]
    exact br0 (fun z => z (by first | decide | omega | trivial | simp)) (bad hp)
  | true =>
    rw [hp, if_pos rfl] at hQ
    obtain ⟨q, q1, q2, e⟩ := (inR_lo (by omega) (by omega)).mpr (of_decide_eq_true hp)
    subst e
    rw [ck_n (by omega), ck_n (by omega)] at hQ
    obtain ⟨b1, b2, b3, b4, hB⟩ := id hC.cB
    simp (disch := omega) only [q_X10_chance_21, q_X10_chance_31, q_X10_chance_32, q_X10_chance_35, q_X10_chance_36, q_X10_chance_39, q_X10_chance_40, q_X10_chance_43, q_X10_chance_44, q_X10_chance_45, hC.c0.1, hB.1, y_is, y_gf, y_pf, y_f0, y_f1, y_f3, y_nI, y_nK, y_nZ, y_nL, y_nR, y_k1i, y_k1r, y_k1l, y_k1n, y_tl, y_tn, y_s, y_ss, List.getElem?_cons_zero, List.getElem?_cons_succ, List.set_cons_zero, List.set_cons_succ, List.length_cons, List.length_nil, true_and, and_true, if_true]
    refine br1 (by decide) (s_chanceOf (wo := woW S.W) (by decide) (by decide) hC.cF hB hw hc.1.1 n9 (by omega) (fun i hi => ⟨hc.2.1 0 i (by omega) (by omega), (hv.2.1 i (by omega)).1⟩) m1 (by omega) (fun g' f' a' c' l F X hl hs hF f2 hX h1 h2 h3 h4 => ?_))
    have el := soW_u hl hs
    subst el
    have hF : F = bsW S.W m := hF
    have hX : X = chW_ S.W m q := by rw [hX, hF]; rfl
    rw [← hX] at hQ
    simp only [q_X10_chance_48, q_X10_chance_49, y_is, y_gf, y_pf, y_f0, y_f1, y_f3, y_nI, y_nK, y_nZ, y_nL, y_nR, y_k1i, y_k1r, y_k1l, y_k1n, y_tl, y_tn, y_s, y_ss, List.getElem?_cons_zero, List.getElem?_cons_succ, List.set_cons_zero, List.set_cons_succ, List.length_cons, List.length_nil, true_and, and_true]
    refine hQ g' ?_ ⟨h4, fun k hk => h3 k (by omega) (by omega)⟩
    -- the balance, then the fraction
    have fe : ∀ lo hi, (∀ k, k < lo ∨ hi ≤ k → g'.2 k = g.2 k) → fr g g' lo hi := fun lo hi h => ⟨h4, h⟩
    have hf : fr g g' 34 48 := ⟨h4, fun k hk => h3 k (by omega) (by omega)⟩
    have hH : pH g' := by
      obtain ⟨t1, t2, t3, hT⟩ := hC.cH
      have kk : ∀ k, 36 ≤ k → k < 43 → g'.2 k = g.2 k := fun k k1 k2 => h3 k (by omega) (by omega)
      refine ⟨t1, t2, t3, (kk 36 (by omega) (by omega)).trans hT.1, hT.2.1.kept (kk _ (by omega) (by omega)) (kk _ (by omega) (by omega)), hT.2.2.1.kept (kk _ (by omega) (by omega)) (kk _ (by omega) (by omega)), hT.2.2.2.kept (kk _ (by omega) (by omega)) (kk _ (by omega) (by omega))⟩
    exact ⟨hC.c0.frm hf (by omega), hC.cW.frm hf (by omega), hC.cI.frm hf (by omega), hC.cT.frm hf (by omega), hC.cU.frm hf (by omega), ⟨_, _, _, _, h1⟩, hH, h2, by rw [hf.2 _ (by omega)]; exact hC.cR, hC.cC.frm hf (by omega)⟩
theorem c_duke {p : Int32} (hC : CR g S) (hS : sv S) (hQ : cO g (oDuke S p) Q) : wp 106 b 0 [.ref 0, .int p] [] g Q := by
  unfold oDuke at hQ
  obtain ⟨vv, A, hw, hc⟩ := id hC.cW
  have hv := hS.vW
  have n1 := hv.1.1
  have n9 := hv.1.2
  have bad : inB p 0 99 = false → wp 106 b 10 [.ref 0, .int p] [] g Q := by
    intro e
    rw [e] at hQ
    simp only [q_X10_duke_10, q_X10_duke_11, q_X10_duke_13, hC.c0.1, y_is, y_gf, y_pf, y_f0, y_f1, y_f3, y_nI, y_nK, y_nZ, y_nL, y_nR, y_k1i, y_k1r, y_k1l, y_k1n, y_tl, y_tn, y_s, y_ss, List.getElem?_cons_zero, List.getElem?_cons_succ, List.set_cons_zero, List.set_cons_succ, List.length_cons, List.length_nil, true_and, and_true]
    refine c_ref hC (i := 0) (by decide) (by decide) (fun g' h1 h2 => ?_)
    simp only [q_X10_duke_16, y_is, y_gf, y_pf, y_f0, y_f1, y_f3, y_nI, y_nK, y_nZ, y_nL, y_nR, y_k1i, y_k1r, y_k1l, y_k1n, y_tl, y_tn, y_s, y_ss, List.getElem?_cons_zero, List.getElem?_cons_succ, List.set_cons_zero, List.set_cons_succ, List.length_cons, List.length_nil, true_and, and_true]
    exact hQ g' h1 h2
  simp (disch := omega) only [q_X10_duke_0, q_X10_duke_1, q_X10_duke_4, q_X10_duke_5, q_X10_duke_7, y_is, y_gf, y_pf, y_f0, y_f1, y_f3, y_nI, y_nK, y_nZ, y_nL, y_nR, y_k1i, y_k1r, y_k1l, y_k1n, y_tl, y_tn, y_s, y_ss, List.getElem?_cons_zero, List.getElem?_cons_succ, List.set_cons_zero, List.set_cons_succ, List.length_cons, List.length_nil, true_and, and_true]
  refine brs (fun z => bad (f_lt (by decide) (by decide) z)) (fun z => brs (fun y => ?_) (fun y => bad (f_gt (by decide) (by decide) y)))
  obtain ⟨m, m1, m2, e⟩ := in_of (a := 0) (c := 99) (by omega) (by omega) z y
  subst e
  rw [inB_n (by omega) m1 m2, ck_n (by omega), if_pos rfl] at hQ
  obtain ⟨b1, b2, b3, b4, hB⟩ := id hC.cB
  simp (disch := omega) only [q_X10_duke_17, q_X10_duke_18, q_X10_duke_21, q_X10_duke_22, q_X10_duke_25, q_X10_duke_26, hC.c0.1, hB.1, y_is, y_gf, y_pf, y_f0, y_f1, y_f3, y_nI, y_nK, y_nZ, y_nL, y_nR, y_k1i, y_k1r, y_k1l, y_k1n, y_tl, y_tn, y_s, y_ss, List.getElem?_cons_zero, List.getElem?_cons_succ, List.set_cons_zero, List.set_cons_succ, List.length_cons, List.length_nil, true_and, and_true]
  refine s_cheapest (wo := woW S.W) (l := soW S.W) (by decide) hB hw hc.1.1 n9 m2 (fun i hi => ⟨hc.2.1 0 i (by omega) (by omega), (hv.2.1 i (by omega)).1⟩) (srt_p _) (srt_s _) (fun g' a' c' m' f' h1 h2 => ?_)
  simp only [q_X10_duke_29, y_is, y_gf, y_pf, y_f0, y_f1, y_f3, y_nI, y_nK, y_nZ, y_nL, y_nR, y_k1i, y_k1r, y_k1l, y_k1n, y_tl, y_tn, y_s, y_ss, List.getElem?_cons_zero, List.getElem?_cons_succ, List.set_cons_zero, List.set_cons_succ, List.length_cons, List.length_nil, true_and, and_true]
  exact hQ g' (hC.b h2 ⟨_, _, _, _, h1⟩) (h2.wide (by omega) (by omega))
end WIDE
