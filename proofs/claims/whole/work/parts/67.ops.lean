/-! ===== what the calls come to ===== -/
def inB (v : Int32) (a c : Nat) : Bool := decide (¬ v < nI a ∧ ¬ nI c < v)
def ck (v : Int32) : Nat := v.toNatClampNeg
theorem inB_t {v : Int32} {a c : Nat} (ha : a < 2147483648) (hc : c < 2147483648) (h : inR v a c) : inB v a c = true := decide_eq_true ((inR_lo ha hc).mp h)
theorem inB_f {v : Int32} {a c : Nat} (ha : a < 2147483648) (hc : c < 2147483648) (h : ¬ inR v a c) : inB v a c = false := decide_eq_false (fun z => h ((inR_lo ha hc).mpr z))
theorem inB_n {j a c : Nat} (hc : c < 2147483648) (h1 : a ≤ j) (h2 : j ≤ c) : inB (nI j) a c = true := inB_t (by omega) hc ⟨j, h1, h2, rfl⟩
theorem ck_n {j : Nat} (h : j < 2147483648) : ck (nI j) = j := cl (by omega)
theorem nin_lt {v : Int32} {a c : Nat} (ha : a < 2147483648) (hc : c < 2147483648) (h : v < nI a) : ¬ inR v a c := fun z => ((inR_lo ha hc).mp z).1 h
theorem nin_gt {v : Int32} {a c : Nat} (ha : a < 2147483648) (hc : c < 2147483648) (h : ¬ v ≤ nI c) : ¬ inR v a c := fun z => ((inR_lo ha hc).mp z).2 (Int32.not_le.mp h)
theorem in_of {v : Int32} {a c : Nat} (ha : a < 2147483648) (hc : c < 2147483648) (h : ¬ v < nI a) (h2 : v ≤ nI c) : inR v a c := (inR_lo ha hc).mpr ⟨h, Int32.not_lt.mpr h2⟩
def cO (g : mzG) (X : sT × Int32) (Q : mzQ) : Prop := ∀ g', CR g' X.1 → fr g g' 0 73 → Q (some (.int X.2)) g'
def mO (g : mzG) (X : sT × Int32) (Q : mzQ) : Prop := ∀ g', MR g' X.1 → fr g g' 73 86 → Q (some (.int X.2)) g'
/-! the calls -/
def oPosts (S : sT) (v : Int32) : sT × Int32 := if inB v 1 9 then (S.uW (layW S.W (ck v)), nI (S.W 0)) else (rfs S 0, -2)
def oPut (S : sT) (p i x : Int32) : sT × Int32 := if inB p 0 (S.W 0 - 1) && (inB i 0 2 && inB x 0 (mo (ck i))) then (S.uW (va_up S.W (1 + 9 * ck i + ck p) (ck x)), nI (S.W (1 + 9 * ck i + ck p))) else (rfs S 0, -2)
def oCaptain (S : sT) (k s t d : Int32) : sT × Int32 := if inB k 0 4 && (inB s 0 (S.W 0 - 1) && (inB t 0 9 && inB d 0 999999)) then (S.uW (va_up (va_up (va_up (va_up S.W 46 (ck k)) 47 (ck s)) 48 (ck t)) 49 (ck d)), 1) else (rfs S 0, -2)
def oClear (S : sT) : sT × Int32 := (S.uT S.tb 0, nI S.tl)
def oWrite (S : sT) (c : Int32) : sT × Int32 := if inB c 0 127 then (if S.W 100 = 40 then (rfs S 2, -4) else (S.uW (va_up (va_up S.W (101 + S.W 100) (ck c)) 100 (S.W 100 + 1)), nI (S.W 100 + 1))) else (rfs S 0, -2)
def oErase (S : sT) : sT × Int32 := (S.uW (va_up S.W 100 0), nI (S.W 100))
theorem cw_row {v : Nat → Int32} {A : Nat → Nat → Int32} {W : Nat → Nat} {i p x : Nat} (h : cw v A W) (hi : i < 5) (hp : p < 9) : cw v (va_up A i (upd (A i) p (nI x))) (va_up W (1 + 9 * i + p) x) := by
  obtain ⟨h1, h2, h3, h4⟩ := h
  have e : ∀ k, k ≠ 1 + 9 * i + p → va_up W (1 + 9 * i + p) x k = W k := fun k hk => by unfold va_up; rw [if_neg hk]
  have ea : ∀ k, k ≠ i → va_up A i (upd (A i) p (nI x)) k = A k := fun k hk => by unfold va_up; rw [if_neg hk]
  refine ⟨?_, fun j q hj hq => ?_, fun k hk => ?_, fun k hk => ?_⟩
  · rw [e 0 (by omega), e 46 (by omega), e 47 (by omega), e 48 (by omega), e 49 (by omega), e 50 (by omega), e 87 (by omega), e 100 (by omega)]; exact h1
  · by_cases c : j = i
    · subst c
      unfold va_up
      rw [if_pos rfl]
      by_cases d : q = p
      · subst d; rw [u_s, if_pos rfl]
      · rw [u_n d, if_neg (by omega)]; exact h2 j q hj hq
    · rw [ea j c, e _ (by omega)]; exact h2 j q hj hq
  · rw [ea 5 (by omega), ea 6 (by omega), ea 7 (by omega), ea 8 (by omega), e _ (by omega), e _ (by omega), e _ (by omega), e _ (by omega)]; exact h3 k hk
  · rw [ea 9 (by omega), e _ (by omega)]; exact h4 k hk
theorem lay_hi {W : Nat → Nat} {n k : Nat} (h : 51 ≤ k) (h2 : k ≠ 87) : layW W n k = W k := by
  unfold layW
  rw [if_neg (by omega), if_neg (by omega), if_neg (by omega), if_neg (by omega), if_neg (by omega)]
theorem cw_lay {v : Nat → Int32} {A : Nat → Nat → Int32} {W : Nat → Nat} {n : Nat} (h : cw v A W) : cw (layv v (nI n)) (lay5 A 5) (layW W n) := by
  obtain ⟨⟨a0, a1, a2, a3, a4, a5, a6, a7⟩, h2, h3, h4⟩ := h
  have hk : ∀ i : Fin 5, kz_at i.val = nI (if i.val = 0 then 10 else if i.val = 1 then 1 else 0) := by decide +kernel
  refine ⟨⟨rfl, a1, rfl, a3, a4, rfl, rfl, a7⟩, fun j q hj hq => ?_, fun k hk => ?_, fun k hk => ?_⟩
  · unfold lay5 layW
    rw [if_pos hj]
    simp only [if_pos hq]
    rw [hk ⟨j, hj⟩]
    show nI (if j = 0 then 10 else if j = 1 then 1 else 0) = _
    congr 1
    (repeat' split) <;> omega
  · rw [lay_hi (by omega) (by omega), lay_hi (by omega) (by omega), lay_hi (by omega) (by omega), lay_hi (by omega) (by omega)]
    exact h3 k hk
  · rw [lay_hi (by omega) (by omega)]
    exact h4 k hk
theorem f_lt {v : Int32} {a c : Nat} (ha : a < 2147483648) (hc : c < 2147483648) (h : v < nI a) : inB v a c = false := inB_f ha hc (nin_lt ha hc h)
theorem f_gt {v : Int32} {a c : Nat} (ha : a < 2147483648) (hc : c < 2147483648) (h : ¬ v ≤ nI c) : inB v a c = false := inB_f ha hc (nin_gt ha hc h)
theorem f_gt2 {v : Int32} {a c : Nat} (ha : a < 2147483648) (hc : c < 2147483648) (h : nI c < v) : inB v a c = false := inB_f ha hc (nin_gt ha hc (Int32.not_le.mpr h))
theorem cw_v {v v' : Nat → Int32} {A : Nat → Nat → Int32} {W W' : Nat → Nat} (h : cw v A W) (h0 : v' 0 = nI (W' 0) ∧ v' 1 = nI (W' 46) ∧ v' 2 = nI (W' 47) ∧ v' 3 = nI (W' 48) ∧ v' 4 = nI (W' 49) ∧ v' 5 = nI (W' 50) ∧ v' 6 = nI (W' 87) ∧ v' 7 = nI (W' 100)) (hW : ∀ k, k ≠ 0 → k < 46 ∨ 50 < k → k ≠ 87 → k ≠ 100 → W' k = W k) : cw v' A W' := by
  obtain ⟨-, h2, h3, h4⟩ := h
  refine ⟨h0, fun j q hj hq => ?_, fun k hk => ?_, fun k hk => ?_⟩
  · rw [hW _ (by omega) (by omega) (by omega) (by omega)]; exact h2 j q hj hq
  · rw [hW _ (by omega) (by omega) (by omega) (by omega), hW _ (by omega) (by omega) (by omega) (by omega), hW _ (by omega) (by omega) (by omega) (by omega), hW _ (by omega) (by omega) (by omega) (by omega)]; exact h3 k hk
  · rw [hW _ (by omega) (by omega) (by omega) (by omega)]; exact h4 k hk
section COPS
variable {b : mzB} {g : mzG} {Q : mzQ} {S : sT}
theorem c_ref {i : Nat} {c : Int32} (hC : CR g S) (hi : i < 3) (hv : -2 - c = nI i) (hQ : cO g (rfs S i, c) Q) : wp 129 b 0 [.ref 0, .int c, .null] [] g Q := by
  simp only [q_X10_refuse_0, q_X10_refuse_2, q_X10_refuse_3, q_X10_refuse_4, hv, y_is, y_gf, y_pf, y_f0, y_f1, y_f3, y_nI, y_nK, y_nZ, y_nL, y_nR, y_k1i, y_k1r, y_k1l, y_k1n, y_tl, y_tn, y_s, y_ss, List.getElem?_cons_zero, List.getElem?_cons_succ, List.set_cons_zero, List.set_cons_succ, List.length_cons, List.length_nil, true_and, and_true]
  simp (disch := omega) only [q_X10_refuse_5, q_X10_refuse_6, q_X10_refuse_9, q_X10_refuse_10, q_X10_refuse_11, q_X10_refuse_14, q_X10_refuse_15, q_X10_refuse_18, q_X10_refuse_19, q_X10_refuse_22, q_X10_refuse_23, q_X10_refuse_24, q_X10_refuse_25, q_X10_refuse_26, q_X10_refuse_27, q_X10_refuse_28, q_X10_refuse_29, hC.c0.1, hC.cR, y_is, y_gf, y_pf, y_f0, y_f1, y_f3, y_nI, y_nK, y_nZ, y_nL, y_nR, y_k1i, y_k1r, y_k1l, y_k1n, y_tl, y_tn, y_s, y_ss, List.getElem?_cons_zero, List.getElem?_cons_succ, List.set_cons_zero, List.set_cons_succ, List.length_cons, List.length_nil, true_and, and_true, y_lIn, y_lKn, y_lZn, y_lLn, y_wIn, y_wZn, y_wLn, lit, le_n, lt_n, eq_n]
  refine br0 (by omega) (br0 ?_ ?_)
  · show ¬ nI 3 ≤ nI i
    rw [le_n (by omega) (by omega)]
    omega
  exact hQ _ (hC.r (fr.rf.hs (by omega) (by omega)) y_s) (fr.rf.hs (by omega) (by omega))
theorem c_isPost {v : Int32} (hC : CR g S) (hS : sv S) (hQ : Q (some (.int (if inB v 0 (S.W 0 - 1) then 1 else 0))) g) : wp 128 b 0 [.ref 0, .int v] [] g Q := by
  obtain ⟨vv, A, hw, hc⟩ := hC.cW
  obtain ⟨⟨n1, n9⟩, -⟩ := hS.vW
  have no : ¬ inR v 0 (S.W 0 - 1) → wp 128 b 19 [.ref 0, .int v] [] g Q := by
    intro h
    rw [inB_f (by omega) (by omega) h] at hQ
    simp only [q_X10_isPost_19, q_X10_isPost_20, y_is, y_gf, y_pf, y_f0, y_f1, y_f3, y_nI, y_nK, y_nZ, y_nL, y_nR, y_k1i, y_k1r, y_k1l, y_k1n, y_tl, y_tn, y_s, y_ss, List.getElem?_cons_zero, List.getElem?_cons_succ, List.set_cons_zero, List.set_cons_succ, List.length_cons, List.length_nil, true_and, and_true]
    exact ⟨by decide, hQ⟩
  simp (disch := omega) only [q_X10_isPost_0, q_X10_isPost_1, q_X10_isPost_4, q_X10_isPost_5, q_X10_isPost_6, q_X10_isPost_9, q_X10_isPost_12, hC.c0.1, hw.1, hc.1.1, y_is, y_gf, y_pf, y_f0, y_f1, y_f3, y_nI, y_nK, y_nZ, y_nL, y_nR, y_k1i, y_k1r, y_k1l, y_k1n, y_tl, y_tn, y_s, y_ss, List.getElem?_cons_zero, List.getElem?_cons_succ, List.set_cons_zero, List.set_cons_succ, List.length_cons, List.length_nil, true_and, and_true]
  refine brs (fun z => no (nin_lt (by omega) (by omega) z)) (fun z => ?_)
  obtain ⟨j, hj, e⟩ := nI_of z
  subst e
  rw [le_n (by omega) (by omega)]
  refine brs (fun y => no ?_) (fun y => ?_)
  · rintro ⟨i, i1, i2, e⟩
    have := nI_inj (by omega) (by omega) e
    omega
  · rw [inB_n (by omega) (by omega) (by omega)] at hQ
    simp only [q_X10_isPost_15, q_X10_isPost_16, q_X10_isPost_19, q_X10_isPost_20, y_is, y_gf, y_pf, y_f0, y_f1, y_f3, y_nI, y_nK, y_nZ, y_nL, y_nR, y_k1i, y_k1r, y_k1l, y_k1n, y_tl, y_tn, y_s, y_ss, List.getElem?_cons_zero, List.getElem?_cons_succ, List.set_cons_zero, List.set_cons_succ, List.length_cons, List.length_nil, true_and, and_true]
    exact ⟨by decide, hQ⟩
theorem c_posts {v : Int32} (hC : CR g S) (hS : sv S) (hQ : cO g (oPosts S v) Q) : wp 89 b 0 [.ref 0, .int v, .null] [] g Q := by
  unfold oPosts at hQ
  have bad : ¬ inR v 1 9 → wp 89 b 11 [.ref 0, .int v, .null] [] g Q := by
    intro h
    rw [inB_f (by omega) (by omega) h] at hQ
    simp only [q_X10_posts_11, q_X10_posts_12, q_X10_posts_14, hC.c0.1, y_is, y_gf, y_pf, y_f0, y_f1, y_f3, y_nI, y_nK, y_nZ, y_nL, y_nR, y_k1i, y_k1r, y_k1l, y_k1n, y_tl, y_tn, y_s, y_ss, List.getElem?_cons_zero, List.getElem?_cons_succ, List.set_cons_zero, List.set_cons_succ, List.length_cons, List.length_nil, true_and, and_true]
    refine c_ref hC (i := 0) (by decide) (by decide) (fun g' h1 h2 => ?_)
    simp only [q_X10_posts_17, y_is, y_gf, y_pf, y_f0, y_f1, y_f3, y_nI, y_nK, y_nZ, y_nL, y_nR, y_k1i, y_k1r, y_k1l, y_k1n, y_tl, y_tn, y_s, y_ss, List.getElem?_cons_zero, List.getElem?_cons_succ, List.set_cons_zero, List.set_cons_succ, List.length_cons, List.length_nil, true_and, and_true]
    exact hQ g' h1 h2
  simp (disch := omega) only [q_X10_posts_0, q_X10_posts_1, q_X10_posts_2, q_X10_posts_5, q_X10_posts_6, q_X10_posts_8, y_is, y_gf, y_pf, y_f0, y_f1, y_f3, y_nI, y_nK, y_nZ, y_nL, y_nR, y_k1i, y_k1r, y_k1l, y_k1n, y_tl, y_tn, y_s, y_ss, List.getElem?_cons_zero, List.getElem?_cons_succ, List.set_cons_zero, List.set_cons_succ, List.length_cons, List.length_nil, true_and, and_true]
  refine brs (fun z => bad (nin_lt (by omega) (by omega) z)) (fun z => brs (fun y => ?_) (fun y => bad (nin_gt (by omega) (by omega) y)))
  obtain ⟨j, j1, j2, e⟩ := in_of (a := 1) (c := 9) (by omega) (by omega) z y
  subst e
  rw [inB_n (by omega) j1 j2, ck_n (by omega)] at hQ
  obtain ⟨vv, A, hw, hc⟩ := hC.cW
  simp (disch := omega) only [q_X10_posts_18, q_X10_posts_19, q_X10_posts_22, q_X10_posts_25, q_X10_posts_26, q_X10_posts_27, q_X10_posts_30, q_X10_posts_31, hC.c0.1, hw.1, hc.1.1, y_is, y_gf, y_pf, y_f0, y_f1, y_f3, y_nI, y_nK, y_nZ, y_nL, y_nR, y_k1i, y_k1r, y_k1l, y_k1n, y_tl, y_tn, y_s, y_ss, List.getElem?_cons_zero, List.getElem?_cons_succ, List.set_cons_zero, List.set_cons_succ, List.length_cons, List.length_nil, true_and, and_true]
  refine s_layOut (by decide) hw hC.cC.2.2.2.2.1 (fun g' h1 h2 => ?_)
  simp only [q_X10_posts_34, q_X10_posts_35, y_is, y_gf, y_pf, y_f0, y_f1, y_f3, y_nI, y_nK, y_nZ, y_nL, y_nR, y_k1i, y_k1r, y_k1l, y_k1n, y_tl, y_tn, y_s, y_ss, List.getElem?_cons_zero, List.getElem?_cons_succ, List.set_cons_zero, List.set_cons_succ, List.length_cons, List.length_nil, true_and, and_true]
  exact hQ g' (hC.w h2 ⟨_, _, h1, cw_lay hc⟩) (h2.wide (by omega) (by omega))
theorem c_put {p i x : Int32} (hC : CR g S) (hS : sv S) (hQ : cO g (oPut S p i x) Q) : wp 90 b 0 [.ref 0, .int p, .int i, .int x, .null] [] g Q := by
  unfold oPut at hQ
  obtain ⟨vv, A, hw, hc⟩ := hC.cW
  obtain ⟨⟨n1, n9⟩, -⟩ := hS.vW
  have bad : (inB p 0 (S.W 0 - 1) && (inB i 0 2 && inB x 0 (mo (ck i)))) = false → wp 90 b 30 [.ref 0, .int p, .int i, .int x, .null] [] g Q := by
    intro h
    rw [h] at hQ
    simp only [q_X10_put_30, q_X10_put_31, q_X10_put_33, hC.c0.1, y_is, y_gf, y_pf, y_f0, y_f1, y_f3, y_nI, y_nK, y_nZ, y_nL, y_nR, y_k1i, y_k1r, y_k1l, y_k1n, y_tl, y_tn, y_s, y_ss, List.getElem?_cons_zero, List.getElem?_cons_succ, List.set_cons_zero, List.set_cons_succ, List.length_cons, List.length_nil, true_and, and_true]
    refine c_ref hC (i := 0) (by decide) (by decide) (fun g' h1 h2 => ?_)
    simp only [q_X10_put_36, y_is, y_gf, y_pf, y_f0, y_f1, y_f3, y_nI, y_nK, y_nZ, y_nL, y_nR, y_k1i, y_k1r, y_k1l, y_k1n, y_tl, y_tn, y_s, y_ss, List.getElem?_cons_zero, List.getElem?_cons_succ, List.set_cons_zero, List.set_cons_succ, List.length_cons, List.length_nil, true_and, and_true]
    exact hQ g' h1 h2
  simp (disch := omega) only [q_X10_put_0, q_X10_put_1, q_X10_put_2, hC.c0.1, y_is, y_gf, y_pf, y_f0, y_f1, y_f3, y_nI, y_nK, y_nZ, y_nL, y_nR, y_k1i, y_k1r, y_k1l, y_k1n, y_tl, y_tn, y_s, y_ss, List.getElem?_cons_zero, List.getElem?_cons_succ, List.set_cons_zero, List.set_cons_succ, List.length_cons, List.length_nil, true_and, and_true]
  refine c_isPost hC hS ?_
  cases hp : inB p 0 (S.W 0 - 1) with
  | false =>
    rw [hp] at bad
    simp only [q_X10_put_5, y_is, y_gf, y_pf, y_f0, y_f1, y_f3, y_nI, y_nK, y_nZ, y_nL, y_nR, y_k1i, y_k1r, y_k1l, y_k1n, y_tl, y_tn, y_s, y_ss, List.getElem?_cons_zero, List.getElem?_cons_succ, List.set_cons_zero, List.set_cons_succ, List.length_cons, List.length_nil, true_and, and_true, Bool.false_eq_true, if_false]
    exact br1 (by first | decide | omega | trivial | simp) (bad rfl)
  | true =>
    rw [hp] at bad hQ
    simp only [Bool.true_and] at bad hQ
    simp only [q_X10_put_5, q_X10_put_8, q_X10_put_9, q_X10_put_12, q_X10_put_13, q_X10_put_14, y_is, y_gf, y_pf, y_f0, y_f1, y_f3, y_nI, y_nK, y_nZ, y_nL, y_nR, y_k1i, y_k1r, y_k1l, y_k1n, y_tl, y_tn, y_s, y_ss, List.getElem?_cons_zero, List.getElem?_cons_succ, List.set_cons_zero, List.set_cons_succ, List.length_cons, List.length_nil, true_and, and_true, if_true]
    refine br0 (by decide) (brs (fun z => bad (by rw [f_lt (a := 0) (c := 2) (by decide) (by decide) z, Bool.false_and])) (fun z => brs (fun y => bad (by rw [f_gt2 (a := 0) (c := 2) (by decide) (by decide) y, Bool.false_and])) (fun y => ?_)))
    obtain ⟨r, r1, r2, e⟩ := in_of (a := 0) (c := 2) (by omega) (by omega) z (Int32.not_lt.mp y)
    subst e
    rw [inB_n (by omega) r1 r2, ck_n (by omega), Bool.true_and] at bad hQ
    have hmo : mo r ≤ 99 := by unfold mo; split <;> omega
    have hmr := kz_mo_n ⟨r, by omega⟩
    simp (disch := omega) only [q_X10_put_17, q_X10_put_18, q_X10_put_21, q_X10_put_22, q_X10_put_25, q_X10_put_26, q_X10_put_27, hC.cC.2.2.2.2.2, hmr, y_is, y_gf, y_pf, y_f0, y_f1, y_f3, y_nI, y_nK, y_nZ, y_nL, y_nR, y_k1i, y_k1r, y_k1l, y_k1n, y_tl, y_tn, y_s, y_ss, List.getElem?_cons_zero, List.getElem?_cons_succ, List.set_cons_zero, List.set_cons_succ, List.length_cons, List.length_nil, true_and, and_true, y_lIn, y_lKn, y_lZn, y_lLn, y_wIn, y_wZn, y_wLn, lit, le_n, lt_n, eq_n]
    refine brs (fun z => bad (inB_f (by omega) (by omega) (nin_lt (by omega) (by omega) z))) (fun z => brs (fun y => ?_) (fun y => bad (inB_f (by omega) (by omega) (nin_gt (by omega) (by omega) y))))
    obtain ⟨m, m1, m2, e⟩ := in_of (a := 0) (c := mo r) (by omega) (by omega) z y
    subst e
    have hpp := of_decide_eq_true hp
    obtain ⟨q, q1, q2, e⟩ := (inR_lo (by omega) (by omega)).mpr hpp
    subst e
    rw [inB_n (by omega) m1 m2, ck_n (by omega), ck_n (by omega), if_pos rfl] at hQ
    obtain ⟨k0, k1, k2, -⟩ := id hw
    have e1 := hc.2.1 r q (by omega) (by omega)
    simp (disch := omega) only [q_X10_put_37, q_X10_put_38, q_X10_put_41, q_X10_put_44, q_X10_put_45, q_X10_put_46, q_X10_put_47, q_X10_put_48, q_X10_put_50, q_X10_put_51, q_X10_put_54, q_X10_put_57, q_X10_put_58, q_X10_put_59, q_X10_put_60, q_X10_put_61, q_X10_put_62, q_X10_put_64, hC.c0.1, k0, k1, k2, e1, y_is, y_gf, y_pf, y_f0, y_f1, y_f3, y_nI, y_nK, y_nZ, y_nL, y_nR, y_k1i, y_k1r, y_k1l, y_k1n, y_tl, y_tn, y_s, y_ss, List.getElem?_cons_zero, List.getElem?_cons_succ, List.set_cons_zero, List.set_cons_succ, List.length_cons, List.length_nil, true_and, and_true, y_lIn, y_lKn, y_lZn, y_lLn, y_wIn, y_wZn, y_wLn, lit, le_n, lt_n, eq_n, y_row]
    have hw3 := hw.row (i := r) (f := upd (A r) q (nI m)) (by omega)
    have hf3 : fr g (hs g (1 + 1 + 1 + r) (aI 9 (upd (A r) q (nI m)))) 1 13 := fr.rf.hs (by omega) (by omega)
    exact hQ _ (hC.w hf3 ⟨_, _, hw3, cw_row hc (by omega) (by omega)⟩) (hf3.wide (by omega) (by omega))
theorem c_captain {k s t d : Int32} (hC : CR g S) (hS : sv S) (hQ : cO g (oCaptain S k s t d) Q) : wp 91 b 0 [.ref 0, .int k, .int s, .int t, .int d, .null] [] g Q := by
  unfold oCaptain at hQ
  obtain ⟨vv, A, hw, hc⟩ := hC.cW
  obtain ⟨⟨n1, n9⟩, -⟩ := hS.vW
  have bad : ∀ x5, (inB k 0 4 && (inB s 0 (S.W 0 - 1) && (inB t 0 9 && inB d 0 999999))) = false → wp 91 b 51 [.ref 0, .int k, .int s, .int t, .int d, x5] [] g Q := by
    intro x5 h
    rw [h] at hQ
    simp only [q_X10_captain_51, q_X10_captain_52, q_X10_captain_54, hC.c0.1, y_is, y_gf, y_pf, y_f0, y_f1, y_f3, y_nI, y_nK, y_nZ, y_nL, y_nR, y_k1i, y_k1r, y_k1l, y_k1n, y_tl, y_tn, y_s, y_ss, List.getElem?_cons_zero, List.getElem?_cons_succ, List.set_cons_zero, List.set_cons_succ, List.length_cons, List.length_nil, true_and, and_true]
    refine c_ref hC (i := 0) (by decide) (by decide) (fun g' h1 h2 => ?_)
    simp only [q_X10_captain_57, y_is, y_gf, y_pf, y_f0, y_f1, y_f3, y_nI, y_nK, y_nZ, y_nL, y_nR, y_k1i, y_k1r, y_k1l, y_k1n, y_tl, y_tn, y_s, y_ss, List.getElem?_cons_zero, List.getElem?_cons_succ, List.set_cons_zero, List.set_cons_succ, List.length_cons, List.length_nil, true_and, and_true]
    exact hQ g' h1 h2
  have no : (inB k 0 4 && inB s 0 (S.W 0 - 1)) = false → wp 91 b 21 [.ref 0, .int k, .int s, .int t, .int d, .null] [] g Q := by
    intro h
    simp only [q_X10_captain_21, q_X10_captain_22, q_X10_captain_24, q_X10_captain_26, y_is, y_gf, y_pf, y_f0, y_f1, y_f3, y_nI, y_nK, y_nZ, y_nL, y_nR, y_k1i, y_k1r, y_k1l, y_k1n, y_tl, y_tn, y_s, y_ss, List.getElem?_cons_zero, List.getElem?_cons_succ, List.set_cons_zero, List.set_cons_succ, List.length_cons, List.length_nil, true_and, and_true]
    exact br1 (by first | decide | omega | trivial | simp) (bad _ (by rw [← Bool.and_assoc, h, Bool.false_and]))
  simp (disch := omega) only [q_X10_captain_0, q_X10_captain_1, q_X10_captain_4, q_X10_captain_5, q_X10_captain_6, y_is, y_gf, y_pf, y_f0, y_f1, y_f3, y_nI, y_nK, y_nZ, y_nL, y_nR, y_k1i, y_k1r, y_k1l, y_k1n, y_tl, y_tn, y_s, y_ss, List.getElem?_cons_zero, List.getElem?_cons_succ, List.set_cons_zero, List.set_cons_succ, List.length_cons, List.length_nil, true_and, and_true]
  refine brs (fun z => no (by rw [f_lt (a := 0) (c := 4) (by decide) (by decide) z, Bool.false_and])) (fun z => brs (fun y => no (by rw [f_gt2 (a := 0) (c := 4) (by decide) (by decide) y, Bool.false_and])) (fun y => ?_))
  obtain ⟨k', k1, k2, e⟩ := in_of (a := 0) (c := 4) (by omega) (by omega) z (Int32.not_lt.mp y)
  subst e
  rw [inB_n (by omega) k1 k2, Bool.true_and] at bad hQ no
  simp (disch := omega) only [q_X10_captain_9, q_X10_captain_10, q_X10_captain_11, hC.c0.1, y_is, y_gf, y_pf, y_f0, y_f1, y_f3, y_nI, y_nK, y_nZ, y_nL, y_nR, y_k1i, y_k1r, y_k1l, y_k1n, y_tl, y_tn, y_s, y_ss, List.getElem?_cons_zero, List.getElem?_cons_succ, List.set_cons_zero, List.set_cons_succ, List.length_cons, List.length_nil, true_and, and_true]
  refine c_isPost hC hS ?_
  cases hp : inB s 0 (S.W 0 - 1) with
  | false =>
    rw [hp] at no
    simp only [q_X10_captain_14, y_is, y_gf, y_pf, y_f0, y_f1, y_f3, y_nI, y_nK, y_nZ, y_nL, y_nR, y_k1i, y_k1r, y_k1l, y_k1n, y_tl, y_tn, y_s, y_ss, List.getElem?_cons_zero, List.getElem?_cons_succ, List.set_cons_zero, List.set_cons_succ, List.length_cons, List.length_nil, true_and, and_true, Bool.false_eq_true, if_false]
    exact br1 (by first | decide | omega | trivial | simp) (no rfl)
  | true =>
    rw [hp, Bool.true_and] at bad hQ
    simp only [q_X10_captain_14, q_X10_captain_17, q_X10_captain_18, q_X10_captain_21, q_X10_captain_22, q_X10_captain_24, q_X10_captain_26, q_X10_captain_29, q_X10_captain_30, q_X10_captain_33, q_X10_captain_34, q_X10_captain_36, y_is, y_gf, y_pf, y_f0, y_f1, y_f3, y_nI, y_nK, y_nZ, y_nL, y_nR, y_k1i, y_k1r, y_k1l, y_k1n, y_tl, y_tn, y_s, y_ss, List.getElem?_cons_zero, List.getElem?_cons_succ, List.set_cons_zero, List.set_cons_succ, List.length_cons, List.length_nil, true_and, and_true, if_true]
    refine br0 (by decide) (br0 (by decide) (brs (fun z => bad _ (by rw [f_lt (a := 0) (c := 9) (by decide) (by decide) z, Bool.false_and])) (fun z => brs (fun y => bad _ (by rw [f_gt2 (a := 0) (c := 9) (by decide) (by decide) y, Bool.false_and])) (fun y => ?_))))
    obtain ⟨t', t1, t2, e⟩ := in_of (a := 0) (c := 9) (by omega) (by omega) z (Int32.not_lt.mp y)
    subst e
    rw [inB_n (by omega) t1 t2, Bool.true_and] at bad hQ
    simp only [q_X10_captain_39, q_X10_captain_41, q_X10_captain_44, q_X10_captain_46, q_X10_captain_48, y_is, y_gf, y_pf, y_f0, y_f1, y_f3, y_nI, y_nK, y_nZ, y_nL, y_nR, y_k1i, y_k1r, y_k1l, y_k1n, y_tl, y_tn, y_s, y_ss, List.getElem?_cons_zero, List.getElem?_cons_succ, List.set_cons_zero, List.set_cons_succ, List.length_cons, List.length_nil, true_and, and_true]
    refine brs (fun z => bad _ (f_lt (by decide) (by decide) z)) (fun z => brs (fun y => ?_) (fun y => bad _ (f_gt (by decide) (by decide) y)))
    obtain ⟨d', d1, d2, e⟩ := in_of (a := 0) (c := 999999) (by omega) (by omega) z y
    subst e
    have hpp := of_decide_eq_true hp
    obtain ⟨s', s1, s2, e⟩ := (inR_lo (by omega) (by omega)).mpr hpp
    subst e
    rw [inB_n (by omega) d1 d2, ck_n (by omega), ck_n (by omega), ck_n (by omega), ck_n (by omega), if_pos rfl] at hQ
    simp (disch := omega) only [q_X10_captain_58, q_X10_captain_59, q_X10_captain_62, q_X10_captain_63, q_X10_captain_66, q_X10_captain_67, q_X10_captain_70, q_X10_captain_71, q_X10_captain_74, q_X10_captain_75, q_X10_captain_78, q_X10_captain_79, q_X10_captain_82, q_X10_captain_83, q_X10_captain_86, q_X10_captain_88, q_X10_captain_91, q_X10_captain_92, hC.c0.1, hw.1, y_is, y_gf, y_pf, y_f0, y_f1, y_f3, y_nI, y_nK, y_nZ, y_nL, y_nR, y_k1i, y_k1r, y_k1l, y_k1n, y_tl, y_tn, y_s, y_ss, List.getElem?_cons_zero, List.getElem?_cons_succ, List.set_cons_zero, List.set_cons_succ, List.length_cons, List.length_nil, true_and, and_true, y_ne]
    have hw3 := hw.nums (v' := va_up (va_up (va_up (va_up vv 1 (nI k')) 2 (nI s')) 3 (nI t')) 4 (nI d'))
    refine ⟨by decide, by decide, by decide, by decide, hQ _ (hC.w (fr.rf.hs (by omega) (by omega)) ⟨_, A, hw3, ?_⟩) (fr.rf.hs (by omega) (by omega))⟩
    refine cw_v hc ⟨hc.1.1, rfl, rfl, rfl, rfl, hc.1.2.2.2.2.2.1, hc.1.2.2.2.2.2.2.1, hc.1.2.2.2.2.2.2.2⟩ (fun k a1 a2 a3 a4 => ?_)
    unfold va_up
    rw [if_neg (by omega), if_neg (by omega), if_neg (by omega), if_neg (by omega)]
theorem c_clear (hC : CR g S) (hQ : cO g (oClear S) Q) : wp 93 b 0 [.ref 0, .null] [] g Q := by
  obtain ⟨⟨a, t, p, va, hT⟩, hD⟩ := id hC.cT
  simp (disch := omega) only [q_X10_clear_0, q_X10_clear_1, q_X10_clear_4, q_X10_clear_7, q_X10_clear_8, q_X10_clear_9, q_X10_clear_12, q_X10_clear_13, q_X10_clear_16, q_X10_clear_17, hC.c0.1, hT.1, y_is, y_gf, y_pf, y_f0, y_f1, y_f3, y_nI, y_nK, y_nZ, y_nL, y_nR, y_k1i, y_k1r, y_k1l, y_k1n, y_tl, y_tn, y_s, y_ss, List.getElem?_cons_zero, List.getElem?_cons_succ, List.set_cons_zero, List.set_cons_succ, List.length_cons, List.length_nil, true_and, and_true, y_ne]
  have hf : fr g (hs g 15 (ob 6 [.ref 16, .int 0, .ref 28, .int (nI a), .int (nI t), .int (nI p), .int va])) 15 29 := fr.rf.hs (by omega) (by omega)
  refine ⟨by decide, hQ _ (hC.t hf ⟨⟨a, t, p, va, ?_⟩, ?_⟩) (hf.wide (by omega) (by omega))⟩
  · obtain ⟨h1, ⟨f, h2, h3⟩, h4⟩ := hT
    exact ⟨y_s, ⟨f, by rw [y_ne (by decide)]; exact h2, fun i hi => by omega⟩, by omega⟩
  · obtain ⟨v, A, h⟩ := hD
    exact ⟨v, A, h.frm (fr.rf.hs (lo := 15) (hi := 16) (by omega) (by omega)) (by omega)⟩
theorem c_erase (hC : CR g S) (hQ : cO g (oErase S) Q) : wp 96 b 0 [.ref 0, .null] [] g Q := by
  obtain ⟨vv, A, hw, hc⟩ := hC.cW
  simp (disch := omega) only [q_X10_erase_0, q_X10_erase_1, q_X10_erase_4, q_X10_erase_7, q_X10_erase_8, q_X10_erase_9, q_X10_erase_12, q_X10_erase_13, q_X10_erase_16, q_X10_erase_17, hC.c0.1, hw.1, hc.1.2.2.2.2.2.2.2, y_is, y_gf, y_pf, y_f0, y_f1, y_f3, y_nI, y_nK, y_nZ, y_nL, y_nR, y_k1i, y_k1r, y_k1l, y_k1n, y_tl, y_tn, y_s, y_ss, List.getElem?_cons_zero, List.getElem?_cons_succ, List.set_cons_zero, List.set_cons_succ, List.length_cons, List.length_nil, true_and, and_true, y_ne]
  have hw3 := hw.nums (v' := va_up vv 7 0)
  refine ⟨by decide, hQ _ (hC.w (fr.rf.hs (by omega) (by omega)) ⟨_, A, hw3, ?_⟩) (fr.rf.hs (by omega) (by omega))⟩
  refine cw_v hc ⟨hc.1.1, hc.1.2.1, hc.1.2.2.1, hc.1.2.2.2.1, hc.1.2.2.2.2.1, hc.1.2.2.2.2.2.1, hc.1.2.2.2.2.2.2.1, rfl⟩ (fun k a1 a2 a3 a4 => ?_)
  unfold va_up
  rw [if_neg (by omega)]
theorem c_write {c : Int32} (hC : CR g S) (hS : sv S) (hQ : cO g (oWrite S c) Q) : wp 95 b 0 [.ref 0, .int c] [] g Q := by
  unfold oWrite at hQ
  obtain ⟨vv, A, hw, hc⟩ := hC.cW
  obtain ⟨-, -, -, -, ⟨-, l40⟩, -⟩ := hS.vW
  have bad : inB c 0 127 = false → wp 95 b 10 [.ref 0, .int c] [] g Q := by
    intro h
    rw [h] at hQ
    simp only [q_X10_write_10, q_X10_write_11, q_X10_write_13, hC.c0.1, y_is, y_gf, y_pf, y_f0, y_f1, y_f3, y_nI, y_nK, y_nZ, y_nL, y_nR, y_k1i, y_k1r, y_k1l, y_k1n, y_tl, y_tn, y_s, y_ss, List.getElem?_cons_zero, List.getElem?_cons_succ, List.set_cons_zero, List.set_cons_succ, List.length_cons, List.length_nil, true_and, and_true]
    refine c_ref hC (i := 0) (by decide) (by decide) (fun g' h1 h2 => ?_)
    simp only [q_X10_write_16, y_is, y_gf, y_pf, y_f0, y_f1, y_f3, y_nI, y_nK, y_nZ, y_nL, y_nR, y_k1i, y_k1r, y_k1l, y_k1n, y_tl, y_tn, y_s, y_ss, List.getElem?_cons_zero, List.getElem?_cons_succ, List.set_cons_zero, List.set_cons_succ, List.length_cons, List.length_nil, true_and, and_true]
    exact hQ g' h1 h2
  simp (disch := omega) only [q_X10_write_0, q_X10_write_1, q_X10_write_4, q_X10_write_5, q_X10_write_7, y_is, y_gf, y_pf, y_f0, y_f1, y_f3, y_nI, y_nK, y_nZ, y_nL, y_nR, y_k1i, y_k1r, y_k1l, y_k1n, y_tl, y_tn, y_s, y_ss, List.getElem?_cons_zero, List.getElem?_cons_succ, List.set_cons_zero, List.set_cons_succ, List.length_cons, List.length_nil, true_and, and_true]
  refine brs (fun z => bad (f_lt (by decide) (by decide) z)) (fun z => brs (fun y => ?_) (fun y => bad (f_gt (by decide) (by decide) y)))
  obtain ⟨d', d1, d2, e⟩ := in_of (a := 0) (c := 127) (by omega) (by omega) z y
  subst e
  rw [inB_n (by omega) d1 d2, ck_n (by omega), if_pos rfl] at hQ
  have e7 := hc.1.2.2.2.2.2.2.2
  simp (disch := omega) only [q_X10_write_17, q_X10_write_18, q_X10_write_21, q_X10_write_24, q_X10_write_26, hC.c0.1, hw.1, e7, y_is, y_gf, y_pf, y_f0, y_f1, y_f3, y_nI, y_nK, y_nZ, y_nL, y_nR, y_k1i, y_k1r, y_k1l, y_k1n, y_tl, y_tn, y_s, y_ss, List.getElem?_cons_zero, List.getElem?_cons_succ, List.set_cons_zero, List.set_cons_succ, List.length_cons, List.length_nil, true_and, and_true, y_lIn, y_lKn, y_lZn, y_lLn, y_wIn, y_wZn, y_wLn, lit, le_n, lt_n, eq_n]
  refine brs (fun y => ?_) (fun y => ?_)
  · rw [if_neg (show ¬ S.W 100 = 40 by omega)] at hQ
    obtain ⟨k0, -, -, -, -, -, -, k9⟩ := id hw
    simp (disch := omega) only [q_X10_write_36, q_X10_write_37, q_X10_write_40, q_X10_write_43, q_X10_write_44, q_X10_write_47, q_X10_write_50, q_X10_write_51, q_X10_write_52, q_X10_write_53, q_X10_write_56, q_X10_write_57, q_X10_write_60, q_X10_write_61, q_X10_write_62, q_X10_write_65, q_X10_write_66, q_X10_write_69, q_X10_write_72, hC.c0.1, k0, k9, e7, y_is, y_gf, y_pf, y_f0, y_f1, y_f3, y_nI, y_nK, y_nZ, y_nL, y_nR, y_k1i, y_k1r, y_k1l, y_k1n, y_tl, y_tn, y_s, y_ss, List.getElem?_cons_zero, List.getElem?_cons_succ, List.set_cons_zero, List.set_cons_succ, List.length_cons, List.length_nil, true_and, and_true, y_lIn, y_lKn, y_lZn, y_lLn, y_wIn, y_wZn, y_wLn, lit, le_n, lt_n, eq_n, y_ne, nI_add]
    have hw3 := (hw.s9 (f := upd (A 9) (S.W 100) (nI d'))).nums (v' := va_up vv 7 (nI (S.W 100 + 1)))
    have hf3 : fr g (hs (hs g (1 + 11) (aI 40 (upd (A 9) (S.W 100) (nI d')))) 1 (ob 7 [.int (vv 0), .ref (1 + 1), .int (vv 1), .int (vv 2), .int (vv 3), .int (vv 4), .ref (1 + 7), .ref (1 + 8), .ref (1 + 9), .int (vv 5), .ref (1 + 10), .int (vv 6), .ref (1 + 11), .int (nI (S.W 100 + 1))])) 1 13 := (fr.rf.hs (by omega) (by omega)).hs (by omega) (by omega)
    refine ⟨by decide, hQ _ (hC.w hf3 ⟨_, _, hw3, ?_⟩) (hf3.wide (by omega) (by omega))⟩
    obtain ⟨⟨a0, a1, a2, a3, a4, a5, a6, a7⟩, h2, h3, h4⟩ := hc
    have e : ∀ k, k < 100 → va_up (va_up S.W (101 + S.W 100) d') 100 (S.W 100 + 1) k = S.W k := fun k hk => by unfold va_up; rw [if_neg (by omega), if_neg (by omega)]
    refine ⟨⟨?_, ?_, ?_, ?_, ?_, ?_, ?_, rfl⟩, fun j q hj hq => ?_, fun k hk => ?_, fun k hk => ?_⟩
    · rw [e _ (by omega)]; exact a0
    · rw [e _ (by omega)]; exact a1
    · rw [e _ (by omega)]; exact a2
    · rw [e _ (by omega)]; exact a3
    · rw [e _ (by omega)]; exact a4
    · rw [e _ (by omega)]; exact a5
    · rw [e _ (by omega)]; exact a6
    · rw [e _ (by omega)]
      show (if j = 9 then _ else A j) q = _
      rw [if_neg (by omega)]
      exact h2 j q hj hq
    · rw [e _ (by omega), e _ (by omega), e _ (by omega), e _ (by omega)]
      exact h3 k hk
    · show upd (A 9) (S.W 100) (nI d') k = _
      unfold va_up
      rw [if_neg (by omega)]
      by_cases c : k = S.W 100
      · subst c; rw [u_s, if_pos rfl]
      · rw [u_n c, if_neg (by omega)]; exact h4 k hk
  · rw [if_pos (show S.W 100 = 40 by omega)] at hQ
    simp only [q_X10_write_29, q_X10_write_30, q_X10_write_32, hC.c0.1, y_is, y_gf, y_pf, y_f0, y_f1, y_f3, y_nI, y_nK, y_nZ, y_nL, y_nR, y_k1i, y_k1r, y_k1l, y_k1n, y_tl, y_tn, y_s, y_ss, List.getElem?_cons_zero, List.getElem?_cons_succ, List.set_cons_zero, List.set_cons_succ, List.length_cons, List.length_nil, true_and, and_true]
    refine c_ref hC (i := 2) (by decide) (by decide) (fun g' h1 h2 => ?_)
    simp only [q_X10_write_35, y_is, y_gf, y_pf, y_f0, y_f1, y_f3, y_nI, y_nK, y_nZ, y_nL, y_nR, y_k1i, y_k1r, y_k1l, y_k1n, y_tl, y_tn, y_s, y_ss, List.getElem?_cons_zero, List.getElem?_cons_succ, List.set_cons_zero, List.set_cons_succ, List.length_cons, List.length_nil, true_and, and_true]
    exact hQ g' h1 h2
end COPS
