/-! ===== calls that tell a fraction: the small ones ===== -/
def rdc (S : sT) (a c : Nat) : sT := S.uN (a / Nat.gcd a c) (c / Nat.gcd a c)
def whW (W : Nat → Nat) : Nat := sm (shW W) (W 0)
def oHas (S : sT) (p : Int32) : sT × Int32 := if inB p 0 (S.W 0 - 1) then (if whW S.W = 0 then (rfs S 1, -3) else (rdc S (hauW S.W (ck p)) (whW S.W), 1)) else (rfs S 0, -2)
def oTries (S : sT) : sT × Int32 := if whW S.W = 0 then (rfs S 1, -3) else (S, nI (hvN (hauW S.W) (S.W 0)))
def oTwo (S : sT) : sT × Int32 := if whW S.W = 0 ∨ S.W 0 = 1 then (rfs S 1, -3) else match pon (hauW S.W) (S.W 0) (S.W 0) with
  | some (i, j) => (rdc S (hauW S.W i + hauW S.W j) (whW S.W), nI (10 * i + j))
  | none => (S, 0)
def oKnows (S : sT) : sT × Int32 := if whW S.W = 0 then (rfs S 1, -3) else (rdc S (sm (hauW S.W) (S.W 0) - hauW S.W (hvN (hauW S.W) (S.W 0))) (whW S.W), 1)
def sbs (W : Nat → Nat) (s : Nat) : Nat := sm (fun i => bitN s i * shW W i) (W 0)
def crk (W : Nat → Nat) (s a c : Nat) : Nat := sbs W s * a + (whW W - sbs W s) * c
def oCreak (S : sT) (s a c : Int32) : sT × Int32 := if inB s 0 (2 ^ S.W 0 - 1) && (inB a 0 10 && inB c 0 10) then (if crk S.W (ck s) (ck a) (ck c) = 0 then (rfs S 1, -3) else (rdc S (sbs S.W (ck s) * ck a) (crk S.W (ck s) (ck a) (ck c)), 1)) else (rfs S 0, -2)
theorem i_shl : ∀ n : Fin 10, (1 : Int32) <<< (nI n.val &&& 31) = nI (2 ^ n.val) := by decide +kernel
theorem hau_le {W : Nat → Nat} (h : wv W) {i : Nat} (hi : i < 9) : hauW W i ≤ 9801 := Nat.mul_le_mul (h.2.1 i hi).2.1 (h.2.1 i hi).1
theorem whW_le {W : Nat → Nat} (h : wv W) : whW W ≤ 891 := by
  have := sm_le (f := shW W) (c := 99) (n := W 0) (fun i hi => (h.2.1 i (by have := h.1.2; omega)).2.1)
  have := h.1.2
  unfold whW
  omega
theorem smh_le {W : Nat → Nat} (h : wv W) : sm (hauW W) (W 0) ≤ 9 * 9801 := by
  have := sm_le (f := hauW W) (c := 9801) (n := W 0) (fun i hi => hau_le h (by have := h.1.2; omega))
  exact Nat.le_trans this (Nat.mul_le_mul_right _ h.1.2)
theorem sm_ge {f : Nat → Nat} : ∀ {n : Nat} {i : Nat}, i < n → f i ≤ sm f n
  | 0, i, h => by omega
  | n + 1, i, h => by
    rw [sm]
    by_cases c : i = n
    · subst c; omega
    · have := sm_ge (f := f) (n := n) (i := i) (by omega)
      omega
theorem sbs_le {W : Nat → Nat} {s : Nat} : sbs W s ≤ whW W := by
  have k : ∀ n, sm (fun i => bitN s i * shW W i) n ≤ sm (shW W) n := by
    intro n
    induction n with
    | zero => exact Nat.le_refl _
    | succ n ih =>
      rw [sm, sm]
      have : bitN s n * shW W n ≤ 1 * shW W n := Nat.mul_le_mul_right _ (by unfold bitN; omega)
      omega
  exact k _
theorem pon_some {f : Nat → Nat} {n : Nat} (h : 2 ≤ n) : ∃ i j, pon f n n = some (i, j) := by
  have pin_s : ∀ p k s, (∃ q, s = some q) → ∃ q, pin f p s k = some q := by
    intro p k
    induction k with
    | zero => intro s h; exact h
    | succ k ih =>
      intro s h
      obtain ⟨q, e⟩ := ih s h
      rw [pin, e]
      dsimp only
      split
      · exact ⟨_, rfl⟩
      · exact ⟨_, rfl⟩
  have pin_1 : ∀ p k s, 1 ≤ k → ∃ q, pin f p s k = some q := by
    intro p k
    induction k with
    | zero => intro s h; omega
    | succ k ih =>
      intro s _
      rw [pin]
      cases e : pin f p s k with
      | none => exact ⟨_, rfl⟩
      | some q =>
        dsimp only
        split
        · exact ⟨_, rfl⟩
        · exact ⟨_, rfl⟩
  have k : ∀ p, 1 ≤ p → p ≤ n → ∃ q, pon f n p = some q := by
    intro p
    induction p with
    | zero => intro h; omega
    | succ p ih =>
      intro _ hp
      rw [pon]
      by_cases c : p = 0
      · subst c
        exact pin_1 0 _ _ (by omega)
      · exact pin_s _ _ _ (ih (by omega) (by omega))
  obtain ⟨⟨i, j⟩, e⟩ := k n (by omega) (by omega)
  exact ⟨i, j, e⟩
section FRAC
variable {b : mzB} {g : mzG} {Q : mzQ} {S : sT}
/-- what the class's watch holds -/
theorem cw_hau {v : Nat → Int32} {A : Nat → Nat → Int32} {W : Nat → Nat} (hc : cw v A W) {i : Nat} (hi : i < 9) : A 1 i * A 0 i = nI (hauW W i) := by
  rw [hc.2.1 1 i (by omega) hi, hc.2.1 0 i (by omega) hi, pk_mul]
  rfl
theorem c_whole {W : Nat → Nat} {w : Nat} {v : Nat → Int32} {A : Nat → Nat → Int32} (hv : wv W) (hw : wt g w v A) (hc : cw v A W) (hQ : Q (some (.int (nI (whW W)))) g) : wp 82 b 0 [.ref w, .null, .null] [] g Q := by
  refine s_whole hw hc.1.1 hv.1.2 ?_
  rw [sm_l (f := shW W) (fun i hi => hc.2.1 1 i (by omega) (by have := hv.1.2; omega))]
  exact hQ
theorem c_weight {W : Nat → Nat} {w p : Nat} {v : Nat → Int32} {A : Nat → Nat → Int32} (hw : wt g w v A) (hc : cw v A W) (hp : p < 9) (hQ : Q (some (.int (nI (hauW W p)))) g) : wp 83 b 0 [.ref w, .int (nI p)] [] g Q := by
  refine s_weight hw hp ?_
  rw [cw_hau hc hp]
  exact hQ
theorem c_heaviest {W : Nat → Nat} {w : Nat} {v : Nat → Int32} {A : Nat → Nat → Int32} (hv : wv W) (hw : wt g w v A) (hc : cw v A W) (hQ : Q (some (.int (nI (hvN (hauW W) (W 0))))) g) : wp 84 b 0 [.ref w, .null, .null] [] g Q := by
  refine s_heaviest hw hc.1.1 hv.1.1 hv.1.2 ?_
  have n9 := hv.1.2
  rw [hv_N (h := hauW W) (n := W 0) (fun i hi => ⟨cw_hau hc (by omega), by have := hau_le hv (i := i) (by omega); omega⟩) _ (Nat.le_refl _)]
  exact hQ
theorem c_fset {a c : Nat} (hC : CR g S) (ha : a < 9223372036854775808) (hc : c < 9223372036854775808) (hc0 : 0 < c) (hQ : ∀ g', CR g' (rdc S a c) → fr g g' 0 73 → Q none g') : wp 18 b 0 [.ref 43, .long (lN a), .null, .long (lN c), .null, .null, .null] [] g Q := by
  refine s_fset hC.cF ha hc hc0 (fun g' h1 h2 => ?_)
  exact hQ g' (hC.f (h2.wide (by omega) (by omega)) h1) (h2.wide (by omega) (by omega))
theorem c_has {p : Int32} (hC : CR g S) (hS : sv S) (hQ : cO g (oHas S p) Q) : wp 99 b 0 [.ref 0, .int p, .null] [] g Q := by
  unfold oHas at hQ
  obtain ⟨vv, A, hw, hc⟩ := id hC.cW
  have hv := hS.vW
  have n9 := hv.1.2
  have hwl := whW_le hv
  simp only [q_X10_has_0, q_X10_has_1, q_X10_has_2, hC.c0.1, y_is, y_gf, y_pf, y_f0, y_f1, y_f3, y_nI, y_nK, y_nZ, y_nL, y_nR, y_k1i, y_k1r, y_k1l, y_k1n, y_tl, y_tn, y_s, y_ss, List.getElem?_cons_zero, List.getElem?_cons_succ, List.set_cons_zero, List.set_cons_succ, List.length_cons, List.length_nil, true_and, and_true]
  refine c_isPost hC hS ?_
  cases hp : inB p 0 (S.W 0 - 1) with
  | false =>
    rw [hp] at hQ
    simp only [q_X10_has_5, q_X10_has_8, q_X10_has_9, q_X10_has_11, hC.c0.1, y_is, y_gf, y_pf, y_f0, y_f1, y_f3, y_nI, y_nK, y_nZ, y_nL, y_nR, y_k1i, y_k1r, y_k1l, y_k1n, y_tl, y_tn, y_s, y_ss, List.getElem?_cons_zero, List.getElem?_cons_succ, List.set_cons_zero, List.set_cons_succ, List.length_cons, List.length_nil, true_and, and_true, Bool.false_eq_true, if_false]
    refine br0 (fun z => z (by first | decide | omega | trivial | simp)) (c_ref hC (i := 0) (by decide) (by decide) (fun g' h1 h2 => ?_))
    simp only [q_X10_has_14, y_is, y_gf, y_pf, y_f0, y_f1, y_f3, y_nI, y_nK, y_nZ, y_nL, y_nR, y_k1i, y_k1r, y_k1l, y_k1n, y_tl, y_tn, y_s, y_ss, List.getElem?_cons_zero, List.getElem?_cons_succ, List.set_cons_zero, List.set_cons_succ, List.length_cons, List.length_nil, true_and, and_true]
    exact hQ g' h1 h2
  | true =>
    rw [hp, if_pos rfl] at hQ
    obtain ⟨q, q1, q2, e⟩ := (inR_lo (by omega) (by omega)).mpr (of_decide_eq_true hp)
    subst e
    rw [ck_n (by omega)] at hQ
    have hq9 := hau_le hv (i := q) (by have := hv.1.1; omega)
    simp (disch := omega) only [q_X10_has_5, q_X10_has_15, q_X10_has_16, q_X10_has_19, hC.c0.1, hw.1, y_is, y_gf, y_pf, y_f0, y_f1, y_f3, y_nI, y_nK, y_nZ, y_nL, y_nR, y_k1i, y_k1r, y_k1l, y_k1n, y_tl, y_tn, y_s, y_ss, List.getElem?_cons_zero, List.getElem?_cons_succ, List.set_cons_zero, List.set_cons_succ, List.length_cons, List.length_nil, true_and, and_true, if_true]
    refine br1 (by decide) (c_whole hv hw hc ?_)
    simp (disch := omega) only [q_X10_has_22, q_X10_has_23, q_X10_has_24, y_is, y_gf, y_pf, y_f0, y_f1, y_f3, y_nI, y_nK, y_nZ, y_nL, y_nR, y_k1i, y_k1r, y_k1l, y_k1n, y_tl, y_tn, y_s, y_ss, List.getElem?_cons_zero, List.getElem?_cons_succ, List.set_cons_zero, List.set_cons_succ, List.length_cons, List.length_nil, true_and, and_true, lit, eq_n]
    by_cases c : whW S.W = 0
    · rw [bnt c]
      rw [if_pos c] at hQ
      simp only [q_X10_has_27, q_X10_has_28, q_X10_has_30, hC.c0.1, y_is, y_gf, y_pf, y_f0, y_f1, y_f3, y_nI, y_nK, y_nZ, y_nL, y_nR, y_k1i, y_k1r, y_k1l, y_k1n, y_tl, y_tn, y_s, y_ss, List.getElem?_cons_zero, List.getElem?_cons_succ, List.set_cons_zero, List.set_cons_succ, List.length_cons, List.length_nil, true_and, and_true]
      refine c_ref hC (i := 1) (by decide) (by decide) (fun g' h1 h2 => ?_)
      simp only [q_X10_has_33, y_is, y_gf, y_pf, y_f0, y_f1, y_f3, y_nI, y_nK, y_nZ, y_nL, y_nR, y_k1i, y_k1r, y_k1l, y_k1n, y_tl, y_tn, y_s, y_ss, List.getElem?_cons_zero, List.getElem?_cons_succ, List.set_cons_zero, List.set_cons_succ, List.length_cons, List.length_nil, true_and, and_true]
      exact hQ g' h1 h2
    · rw [bnf c]
      rw [if_neg c] at hQ
      simp (disch := omega) only [q_X10_has_34, q_X10_has_35, q_X10_has_38, q_X10_has_39, q_X10_has_42, q_X10_has_43, hC.c0.1, hw.1, y_is, y_gf, y_pf, y_f0, y_f1, y_f3, y_nI, y_nK, y_nZ, y_nL, y_nR, y_k1i, y_k1r, y_k1l, y_k1n, y_tl, y_tn, y_s, y_ss, List.getElem?_cons_zero, List.getElem?_cons_succ, List.set_cons_zero, List.set_cons_succ, List.length_cons, List.length_nil, true_and, and_true]
      refine c_weight hw hc (by have := hv.1.1; omega) ?_
      simp (disch := omega) only [q_X10_has_46, q_X10_has_47, q_X10_has_48, q_X10_has_49, hC.cF.1, y_is, y_gf, y_pf, y_f0, y_f1, y_f3, y_nI, y_nK, y_nZ, y_nL, y_nR, y_k1i, y_k1r, y_k1l, y_k1n, y_tl, y_tn, y_s, y_ss, List.getElem?_cons_zero, List.getElem?_cons_succ, List.set_cons_zero, List.set_cons_succ, List.length_cons, List.length_nil, true_and, and_true, i_l]
      refine c_fset hC (by omega) (by omega) (by omega) (fun g' h1 h2 => ?_)
      simp only [q_X10_has_52, q_X10_has_53, y_is, y_gf, y_pf, y_f0, y_f1, y_f3, y_nI, y_nK, y_nZ, y_nL, y_nR, y_k1i, y_k1r, y_k1l, y_k1n, y_tl, y_tn, y_s, y_ss, List.getElem?_cons_zero, List.getElem?_cons_succ, List.set_cons_zero, List.set_cons_succ, List.length_cons, List.length_nil, true_and, and_true]
      exact hQ g' h1 h2
theorem c_tries (hC : CR g S) (hS : sv S) (hQ : cO g (oTries S) Q) : wp 100 b 0 [.ref 0] [] g Q := by
  unfold oTries at hQ
  obtain ⟨vv, A, hw, hc⟩ := id hC.cW
  have hv := hS.vW
  have hwl := whW_le hv
  simp (disch := omega) only [q_X10_tries_0, q_X10_tries_1, q_X10_tries_4, hC.c0.1, hw.1, y_is, y_gf, y_pf, y_f0, y_f1, y_f3, y_nI, y_nK, y_nZ, y_nL, y_nR, y_k1i, y_k1r, y_k1l, y_k1n, y_tl, y_tn, y_s, y_ss, List.getElem?_cons_zero, List.getElem?_cons_succ, List.set_cons_zero, List.set_cons_succ, List.length_cons, List.length_nil, true_and, and_true]
  refine c_whole hv hw hc ?_
  simp (disch := omega) only [q_X10_tries_7, y_is, y_gf, y_pf, y_f0, y_f1, y_f3, y_nI, y_nK, y_nZ, y_nL, y_nR, y_k1i, y_k1r, y_k1l, y_k1n, y_tl, y_tn, y_s, y_ss, List.getElem?_cons_zero, List.getElem?_cons_succ, List.set_cons_zero, List.set_cons_succ, List.length_cons, List.length_nil, true_and, and_true, lit, eq_n]
  by_cases c : whW S.W = 0
  · rw [bnt c]
    rw [if_pos c] at hQ
    simp only [q_X10_tries_10, q_X10_tries_11, q_X10_tries_13, hC.c0.1, y_is, y_gf, y_pf, y_f0, y_f1, y_f3, y_nI, y_nK, y_nZ, y_nL, y_nR, y_k1i, y_k1r, y_k1l, y_k1n, y_tl, y_tn, y_s, y_ss, List.getElem?_cons_zero, List.getElem?_cons_succ, List.set_cons_zero, List.set_cons_succ, List.length_cons, List.length_nil, true_and, and_true]
    refine c_ref hC (i := 1) (by decide) (by decide) (fun g' h1 h2 => ?_)
    simp only [q_X10_tries_16, q_X10_tries_26, y_is, y_gf, y_pf, y_f0, y_f1, y_f3, y_nI, y_nK, y_nZ, y_nL, y_nR, y_k1i, y_k1r, y_k1l, y_k1n, y_tl, y_tn, y_s, y_ss, List.getElem?_cons_zero, List.getElem?_cons_succ, List.set_cons_zero, List.set_cons_succ, List.length_cons, List.length_nil, true_and, and_true]
    exact hQ g' h1 h2
  · rw [bnf c]
    rw [if_neg c] at hQ
    simp (disch := omega) only [q_X10_tries_19, q_X10_tries_20, q_X10_tries_23, hC.c0.1, hw.1, y_is, y_gf, y_pf, y_f0, y_f1, y_f3, y_nI, y_nK, y_nZ, y_nL, y_nR, y_k1i, y_k1r, y_k1l, y_k1n, y_tl, y_tn, y_s, y_ss, List.getElem?_cons_zero, List.getElem?_cons_succ, List.set_cons_zero, List.set_cons_succ, List.length_cons, List.length_nil, true_and, and_true]
    refine c_heaviest hv hw hc ?_
    simp only [q_X10_tries_26, y_is, y_gf, y_pf, y_f0, y_f1, y_f3, y_nI, y_nK, y_nZ, y_nL, y_nR, y_k1i, y_k1r, y_k1l, y_k1n, y_tl, y_tn, y_s, y_ss, List.getElem?_cons_zero, List.getElem?_cons_succ, List.set_cons_zero, List.set_cons_succ, List.length_cons, List.length_nil, true_and, and_true]
    exact hQ g hC fr.rf
theorem c_two (hC : CR g S) (hS : sv S) (hQ : cO g (oTwo S) Q) : wp 101 b 0 [.ref 0, .null, .null] [] g Q := by
  unfold oTwo at hQ
  obtain ⟨vv, A, hw, hc⟩ := id hC.cW
  have hv := hS.vW
  have hwl := whW_le hv
  have n1 := hv.1.1
  have n9 := hv.1.2
  have bad : ∀ x1, (whW S.W = 0 ∨ S.W 0 = 1) → wp 101 b 23 [.ref 0, .int x1, .null] [] g Q := by
    intro x1 h
    rw [if_pos h] at hQ
    simp only [q_X10_two_23, q_X10_two_24, q_X10_two_26, hC.c0.1, y_is, y_gf, y_pf, y_f0, y_f1, y_f3, y_nI, y_nK, y_nZ, y_nL, y_nR, y_k1i, y_k1r, y_k1l, y_k1n, y_tl, y_tn, y_s, y_ss, List.getElem?_cons_zero, List.getElem?_cons_succ, List.set_cons_zero, List.set_cons_succ, List.length_cons, List.length_nil, true_and, and_true]
    refine c_ref hC (i := 1) (by decide) (by decide) (fun g' h1 h2 => ?_)
    simp only [q_X10_two_29, y_is, y_gf, y_pf, y_f0, y_f1, y_f3, y_nI, y_nK, y_nZ, y_nL, y_nR, y_k1i, y_k1r, y_k1l, y_k1n, y_tl, y_tn, y_s, y_ss, List.getElem?_cons_zero, List.getElem?_cons_succ, List.set_cons_zero, List.set_cons_succ, List.length_cons, List.length_nil, true_and, and_true]
    exact hQ g' h1 h2
  simp (disch := omega) only [q_X10_two_0, q_X10_two_1, q_X10_two_4, hC.c0.1, hw.1, y_is, y_gf, y_pf, y_f0, y_f1, y_f3, y_nI, y_nK, y_nZ, y_nL, y_nR, y_k1i, y_k1r, y_k1l, y_k1n, y_tl, y_tn, y_s, y_ss, List.getElem?_cons_zero, List.getElem?_cons_succ, List.set_cons_zero, List.set_cons_succ, List.length_cons, List.length_nil, true_and, and_true]
  refine c_whole hv hw hc ?_
  simp (disch := omega) only [q_X10_two_7, q_X10_two_8, q_X10_two_9, q_X10_two_12, q_X10_two_13, q_X10_two_16, q_X10_two_19, q_X10_two_20, hC.c0.1, hw.1, hc.1.1, y_is, y_gf, y_pf, y_f0, y_f1, y_f3, y_nI, y_nK, y_nZ, y_nL, y_nR, y_k1i, y_k1r, y_k1l, y_k1n, y_tl, y_tn, y_s, y_ss, List.getElem?_cons_zero, List.getElem?_cons_succ, List.set_cons_zero, List.set_cons_succ, List.length_cons, List.length_nil, true_and, and_true, lit, eq_n, le_n]
  refine brs (fun c => bad _ (Or.inl c)) (fun c => brs (fun d => ?_) (fun d => bad _ (Or.inr (by omega))))
  rw [if_neg (by omega)] at hQ
  obtain ⟨i, j, hij⟩ := pon_some (f := hauW S.W) (n := S.W 0) d
  obtain ⟨hi, hj⟩ := pon_b (S.W 0) (Nat.le_refl _) i j hij
  rw [hij] at hQ
  simp (disch := omega) only [q_X10_two_30, q_X10_two_31, q_X10_two_34, hC.c0.1, hw.1, y_is, y_gf, y_pf, y_f0, y_f1, y_f3, y_nI, y_nK, y_nZ, y_nL, y_nR, y_k1i, y_k1r, y_k1l, y_k1n, y_tl, y_tn, y_s, y_ss, List.getElem?_cons_zero, List.getElem?_cons_succ, List.set_cons_zero, List.set_cons_succ, List.length_cons, List.length_nil, true_and, and_true]
  refine s_pair hw hc.1.1 n9 ?_
  rw [hpo_N (f := hauW S.W) (fun i hi => ⟨cw_hau hc (by omega), by have := hau_le hv (i := i) (by omega); omega⟩) _ (Nat.le_refl _), hij, pI]
  have hi9 := hau_le hv (i := i) (by omega)
  have hj9 := hau_le hv (i := j) (by omega)
  simp (disch := omega) only [q_X10_two_37, q_X10_two_38, q_X10_two_39, q_X10_two_42, q_X10_two_43, q_X10_two_46, q_X10_two_47, q_X10_two_49, q_X10_two_50, hC.c0.1, hw.1, y_is, y_gf, y_pf, y_f0, y_f1, y_f3, y_nI, y_nK, y_nZ, y_nL, y_nR, y_k1i, y_k1r, y_k1l, y_k1n, y_tl, y_tn, y_s, y_ss, List.getElem?_cons_zero, List.getElem?_cons_succ, List.set_cons_zero, List.set_cons_succ, List.length_cons, List.length_nil, true_and, and_true, lit, eq_n, pk_div]
  rw [show (10 * i + j) / 10 = i by omega]
  refine ⟨by decide, c_weight hw hc (by omega) ?_⟩
  simp (disch := omega) only [q_X10_two_53, q_X10_two_54, q_X10_two_57, q_X10_two_58, q_X10_two_60, q_X10_two_61, hC.c0.1, hw.1, y_is, y_gf, y_pf, y_f0, y_f1, y_f3, y_nI, y_nK, y_nZ, y_nL, y_nR, y_k1i, y_k1r, y_k1l, y_k1n, y_tl, y_tn, y_s, y_ss, List.getElem?_cons_zero, List.getElem?_cons_succ, List.set_cons_zero, List.set_cons_succ, List.length_cons, List.length_nil, true_and, and_true, lit, eq_n, i_rem1]
  rw [show (10 * i + j) % 10 = j by omega]
  refine ⟨by decide, c_weight hw hc (by omega) ?_⟩
  simp (disch := omega) only [q_X10_two_64, q_X10_two_65, q_X10_two_66, q_X10_two_67, q_X10_two_68, hC.cF.1, y_is, y_gf, y_pf, y_f0, y_f1, y_f3, y_nI, y_nK, y_nZ, y_nL, y_nR, y_k1i, y_k1r, y_k1l, y_k1n, y_tl, y_tn, y_s, y_ss, List.getElem?_cons_zero, List.getElem?_cons_succ, List.set_cons_zero, List.set_cons_succ, List.length_cons, List.length_nil, true_and, and_true, nI_add, i_l]
  refine c_fset hC (by omega) (by omega) (by omega) (fun g' h1 h2 => ?_)
  simp only [q_X10_two_71, q_X10_two_72, y_is, y_gf, y_pf, y_f0, y_f1, y_f3, y_nI, y_nK, y_nZ, y_nL, y_nR, y_k1i, y_k1r, y_k1l, y_k1n, y_tl, y_tn, y_s, y_ss, List.getElem?_cons_zero, List.getElem?_cons_succ, List.set_cons_zero, List.set_cons_succ, List.length_cons, List.length_nil, true_and, and_true]
  exact hQ g' h1 h2
theorem c_knows (hC : CR g S) (hS : sv S) (hQ : cO g (oKnows S) Q) : wp 103 b 0 [.ref 0, .null, .null, .null] [] g Q := by
  unfold oKnows at hQ
  obtain ⟨vv, A, hw, hc⟩ := id hC.cW
  have hv := hS.vW
  have hwl := whW_le hv
  have n1 := hv.1.1
  have n9 := hv.1.2
  have hsl := smh_le hv
  have hle := hvN_lt (hauW S.W) (S.W 0)
  have hge := sm_ge (f := hauW S.W) (n := S.W 0) (i := hvN (hauW S.W) (S.W 0)) (by omega)
  simp (disch := omega) only [q_X10_knows_0, q_X10_knows_1, q_X10_knows_4, hC.c0.1, hw.1, y_is, y_gf, y_pf, y_f0, y_f1, y_f3, y_nI, y_nK, y_nZ, y_nL, y_nR, y_k1i, y_k1r, y_k1l, y_k1n, y_tl, y_tn, y_s, y_ss, List.getElem?_cons_zero, List.getElem?_cons_succ, List.set_cons_zero, List.set_cons_succ, List.length_cons, List.length_nil, true_and, and_true]
  refine c_whole hv hw hc ?_
  simp (disch := omega) only [q_X10_knows_7, q_X10_knows_8, q_X10_knows_9, y_is, y_gf, y_pf, y_f0, y_f1, y_f3, y_nI, y_nK, y_nZ, y_nL, y_nR, y_k1i, y_k1r, y_k1l, y_k1n, y_tl, y_tn, y_s, y_ss, List.getElem?_cons_zero, List.getElem?_cons_succ, List.set_cons_zero, List.set_cons_succ, List.length_cons, List.length_nil, true_and, and_true, lit, eq_n]
  by_cases c : whW S.W = 0
  · rw [bnt c]
    rw [if_pos c] at hQ
    simp only [q_X10_knows_12, q_X10_knows_13, q_X10_knows_15, hC.c0.1, y_is, y_gf, y_pf, y_f0, y_f1, y_f3, y_nI, y_nK, y_nZ, y_nL, y_nR, y_k1i, y_k1r, y_k1l, y_k1n, y_tl, y_tn, y_s, y_ss, List.getElem?_cons_zero, List.getElem?_cons_succ, List.set_cons_zero, List.set_cons_succ, List.length_cons, List.length_nil, true_and, and_true]
    refine c_ref hC (i := 1) (by decide) (by decide) (fun g' h1 h2 => ?_)
    simp only [q_X10_knows_18, y_is, y_gf, y_pf, y_f0, y_f1, y_f3, y_nI, y_nK, y_nZ, y_nL, y_nR, y_k1i, y_k1r, y_k1l, y_k1n, y_tl, y_tn, y_s, y_ss, List.getElem?_cons_zero, List.getElem?_cons_succ, List.set_cons_zero, List.set_cons_succ, List.length_cons, List.length_nil, true_and, and_true]
    exact hQ g' h1 h2
  · rw [bnf c]
    rw [if_neg c] at hQ
    have loop : ∀ d i, i + d = S.W 0 → wp 103 b 23 [.ref 0, .int (nI (whW S.W)), .int (nI (sm (hauW S.W) i)), .int (nI i)] [] g Q := by
      intro d
      induction d with
      | zero =>
        intro i hi
        have hi : i = S.W 0 := by omega
        subst hi
        rw [q_X10_knows_23]
        simp (disch := omega) only [q_X10_knows_24, q_X10_knows_25, q_X10_knows_28, q_X10_knows_31, q_X10_knows_51, q_X10_knows_52, q_X10_knows_55, q_X10_knows_56, q_X10_knows_57, q_X10_knows_60, q_X10_knows_61, q_X10_knows_64, hC.c0.1, hw.1, hc.1.1, le_n, y_is, y_gf, y_pf, y_f0, y_f1, y_f3, y_nI, y_nK, y_nZ, y_nL, y_nR, y_k1i, y_k1r, y_k1l, y_k1n, y_tl, y_tn, y_s, y_ss, List.getElem?_cons_zero, List.getElem?_cons_succ, List.set_cons_zero, List.set_cons_succ, List.length_cons, List.length_nil, true_and, and_true, y_lIn, y_lKn, y_lZn, y_lLn, y_wIn, y_wZn, y_wLn, lit, le_n, lt_n, eq_n, lit, litL, le_n, lt_n, eq_n, nI_add, m_neg, pk_sub, pk_mul, i_l, l_i, l_add, l_mul, l_sub, lc_le, lc_ge, lc_lt, lc_gt, lc_eq, l_rem2, l_rem3, i_rem2, i_rem3]
        refine br1 (by first | decide | omega | trivial | simp) (c_heaviest hv hw hc ?_)
        simp (disch := omega) only [q_X10_knows_67, hw.1, y_is, y_gf, y_pf, y_f0, y_f1, y_f3, y_nI, y_nK, y_nZ, y_nL, y_nR, y_k1i, y_k1r, y_k1l, y_k1n, y_tl, y_tn, y_s, y_ss, List.getElem?_cons_zero, List.getElem?_cons_succ, List.set_cons_zero, List.set_cons_succ, List.length_cons, List.length_nil, true_and, and_true]
        refine c_weight hw hc (by omega) ?_
        simp (disch := omega) only [q_X10_knows_70, q_X10_knows_71, q_X10_knows_72, q_X10_knows_73, q_X10_knows_74, hC.cF.1, y_is, y_gf, y_pf, y_f0, y_f1, y_f3, y_nI, y_nK, y_nZ, y_nL, y_nR, y_k1i, y_k1r, y_k1l, y_k1n, y_tl, y_tn, y_s, y_ss, List.getElem?_cons_zero, List.getElem?_cons_succ, List.set_cons_zero, List.set_cons_succ, List.length_cons, List.length_nil, true_and, and_true, pk_sub, i_l]
        refine c_fset hC (by omega) (by omega) (by omega) (fun g' h1 h2 => ?_)
        simp only [q_X10_knows_77, q_X10_knows_78, y_is, y_gf, y_pf, y_f0, y_f1, y_f3, y_nI, y_nK, y_nZ, y_nL, y_nR, y_k1i, y_k1r, y_k1l, y_k1n, y_tl, y_tn, y_s, y_ss, List.getElem?_cons_zero, List.getElem?_cons_succ, List.set_cons_zero, List.set_cons_succ, List.length_cons, List.length_nil, true_and, and_true]
        exact hQ g' h1 h2
      | succ d ih =>
        intro i hi
        rw [q_X10_knows_23]
        simp (disch := omega) only [q_X10_knows_24, q_X10_knows_25, q_X10_knows_28, q_X10_knows_31, q_X10_knows_34, q_X10_knows_35, q_X10_knows_36, q_X10_knows_39, q_X10_knows_40, hC.c0.1, hw.1, hc.1.1, le_n, y_is, y_gf, y_pf, y_f0, y_f1, y_f3, y_nI, y_nK, y_nZ, y_nL, y_nR, y_k1i, y_k1r, y_k1l, y_k1n, y_tl, y_tn, y_s, y_ss, List.getElem?_cons_zero, List.getElem?_cons_succ, List.set_cons_zero, List.set_cons_succ, List.length_cons, List.length_nil, true_and, and_true, y_lIn, y_lKn, y_lZn, y_lLn, y_wIn, y_wZn, y_wLn, lit, le_n, lt_n, eq_n, lit, litL, le_n, lt_n, eq_n, nI_add, m_neg, pk_sub, pk_mul, i_l, l_i, l_add, l_mul, l_sub, lc_le, lc_ge, lc_lt, lc_gt, lc_eq, l_rem2, l_rem3, i_rem2, i_rem3]
        refine br0 (by omega) (c_weight hw hc (by omega) ?_)
        simp (disch := omega) only [q_X10_knows_43, q_X10_knows_44, q_X10_knows_45, q_X10_knows_48, y_is, y_gf, y_pf, y_f0, y_f1, y_f3, y_nI, y_nK, y_nZ, y_nL, y_nR, y_k1i, y_k1r, y_k1l, y_k1n, y_tl, y_tn, y_s, y_ss, List.getElem?_cons_zero, List.getElem?_cons_succ, List.set_cons_zero, List.set_cons_succ, List.length_cons, List.length_nil, true_and, and_true, lit, nI_add]
        exact ih (i + 1) (by omega)
    simp (disch := omega) only [q_X10_knows_19, q_X10_knows_20, q_X10_knows_21, q_X10_knows_22, y_is, y_gf, y_pf, y_f0, y_f1, y_f3, y_nI, y_nK, y_nZ, y_nL, y_nR, y_k1i, y_k1r, y_k1l, y_k1n, y_tl, y_tn, y_s, y_ss, List.getElem?_cons_zero, List.getElem?_cons_succ, List.set_cons_zero, List.set_cons_succ, List.length_cons, List.length_nil, true_and, and_true]
    exact loop (S.W 0) 0 (by omega)
theorem crk_le {W : Nat → Nat} (h : wv W) {s a c : Nat} (ha : a ≤ 10) (hc : c ≤ 10) : sbs W s * a ≤ 8910 ∧ (whW W - sbs W s) * c ≤ 8910 := by
  have h1 := whW_le h
  have h2 := sbs_le (W := W) (s := s)
  exact ⟨Nat.mul_le_mul (show sbs W s ≤ 891 by omega) ha, Nat.mul_le_mul (show whW W - sbs W s ≤ 891 by omega) hc⟩
theorem c_creak {s a c : Int32} (hC : CR g S) (hS : sv S) (hQ : cO g (oCreak S s a c) Q) : wp 107 b 0 [.ref 0, .int s, .int a, .int c, .null, .null, .null, .null] [] g Q := by
  unfold oCreak at hQ
  obtain ⟨vv, A, hw, hc⟩ := id hC.cW
  have hv := hS.vW
  have hwl := whW_le hv
  have n1 := hv.1.1
  have n9 := hv.1.2
  have hp2 : 2 ^ S.W 0 ≤ 512 := Nat.pow_le_pow_right (n := 2) (by decide) n9
  have hp1 : 0 < 2 ^ S.W 0 := Nat.pow_pos (by decide)
  have hshl := i_shl ⟨S.W 0, by omega⟩
  have bad : ∀ x4, (inB s 0 (2 ^ S.W 0 - 1) && (inB a 0 10 && inB c 0 10)) = false → wp 107 b 49 [.ref 0, .int s, .int a, .int c, x4, .null, .null, .null] [] g Q := by
    intro x4 h
    rw [h] at hQ
    simp only [q_X10_creak_49, q_X10_creak_50, q_X10_creak_52, hC.c0.1, y_is, y_gf, y_pf, y_f0, y_f1, y_f3, y_nI, y_nK, y_nZ, y_nL, y_nR, y_k1i, y_k1r, y_k1l, y_k1n, y_tl, y_tn, y_s, y_ss, List.getElem?_cons_zero, List.getElem?_cons_succ, List.set_cons_zero, List.set_cons_succ, List.length_cons, List.length_nil, true_and, and_true]
    refine c_ref hC (i := 0) (by decide) (by decide) (fun g' h1 h2 => ?_)
    simp only [q_X10_creak_55, y_is, y_gf, y_pf, y_f0, y_f1, y_f3, y_nI, y_nK, y_nZ, y_nL, y_nR, y_k1i, y_k1r, y_k1l, y_k1n, y_tl, y_tn, y_s, y_ss, List.getElem?_cons_zero, List.getElem?_cons_succ, List.set_cons_zero, List.set_cons_succ, List.length_cons, List.length_nil, true_and, and_true]
    exact hQ g' h1 h2
  have no : inB s 0 (2 ^ S.W 0 - 1) = false → wp 107 b 21 [.ref 0, .int s, .int a, .int c, .null, .null, .null, .null] [] g Q := by
    intro h
    simp only [q_X10_creak_21, q_X10_creak_22, q_X10_creak_24, q_X10_creak_26, y_is, y_gf, y_pf, y_f0, y_f1, y_f3, y_nI, y_nK, y_nZ, y_nL, y_nR, y_k1i, y_k1r, y_k1l, y_k1n, y_tl, y_tn, y_s, y_ss, List.getElem?_cons_zero, List.getElem?_cons_succ, List.set_cons_zero, List.set_cons_succ, List.length_cons, List.length_nil, true_and, and_true]
    exact br1 (by first | decide | omega | trivial | simp) (bad _ (by rw [h, Bool.false_and]))
  simp (disch := omega) only [q_X10_creak_0, q_X10_creak_1, q_X10_creak_4, q_X10_creak_5, q_X10_creak_6, q_X10_creak_7, q_X10_creak_10, q_X10_creak_13, q_X10_creak_14, hC.c0.1, hw.1, hc.1.1, hshl, y_is, y_gf, y_pf, y_f0, y_f1, y_f3, y_nI, y_nK, y_nZ, y_nL, y_nR, y_k1i, y_k1r, y_k1l, y_k1n, y_tl, y_tn, y_s, y_ss, List.getElem?_cons_zero, List.getElem?_cons_succ, List.set_cons_zero, List.set_cons_succ, List.length_cons, List.length_nil, true_and, and_true]
  refine brs (fun z => no (f_lt (by omega) (by omega) z)) (fun z => ?_)
  obtain ⟨s', hs, e⟩ := nI_of z
  subst e
  rw [le_n (by omega) (by omega)]
  refine brs (fun y => no (f_gt2 (by omega) (by omega) (by rw [lt_n (by omega) (by omega)]; omega))) (fun y => ?_)
  rw [inB_n (by omega) (by omega) (by omega), Bool.true_and] at bad hQ
  simp only [q_X10_creak_17, q_X10_creak_18, q_X10_creak_21, q_X10_creak_22, q_X10_creak_24, q_X10_creak_26, q_X10_creak_29, q_X10_creak_30, q_X10_creak_33, q_X10_creak_34, q_X10_creak_36, y_is, y_gf, y_pf, y_f0, y_f1, y_f3, y_nI, y_nK, y_nZ, y_nL, y_nR, y_k1i, y_k1r, y_k1l, y_k1n, y_tl, y_tn, y_s, y_ss, List.getElem?_cons_zero, List.getElem?_cons_succ, List.set_cons_zero, List.set_cons_succ, List.length_cons, List.length_nil, true_and, and_true]
  refine br0 (by decide) (brs (fun z => bad _ (by rw [f_lt (a := 0) (c := 10) (by decide) (by decide) z, Bool.false_and])) (fun z => brs (fun y => bad _ (by rw [f_gt2 (a := 0) (c := 10) (by decide) (by decide) y, Bool.false_and])) (fun y => ?_)))
  obtain ⟨a', a1, a2, e⟩ := in_of (a := 0) (c := 10) (by omega) (by omega) z (Int32.not_lt.mp y)
  subst e
  rw [inB_n (by omega) a1 a2, Bool.true_and] at bad hQ
  simp only [q_X10_creak_39, q_X10_creak_40, q_X10_creak_43, q_X10_creak_44, q_X10_creak_46, y_is, y_gf, y_pf, y_f0, y_f1, y_f3, y_nI, y_nK, y_nZ, y_nL, y_nR, y_k1i, y_k1r, y_k1l, y_k1n, y_tl, y_tn, y_s, y_ss, List.getElem?_cons_zero, List.getElem?_cons_succ, List.set_cons_zero, List.set_cons_succ, List.length_cons, List.length_nil, true_and, and_true]
  refine brs (fun z => bad _ (f_lt (by decide) (by decide) z)) (fun z => brs (fun y => ?_) (fun y => bad _ (f_gt (by decide) (by decide) y)))
  obtain ⟨c', c1, c2, e⟩ := in_of (a := 0) (c := 10) (by omega) (by omega) z y
  subst e
  rw [inB_n (by omega) c1 c2, if_pos rfl, ck_n (by omega), ck_n (by omega), ck_n (by omega)] at hQ
  have hb := crk_le hv (s := s') a2 c2
  have hsb := sbs_le (W := S.W) (s := s')
  obtain ⟨k0, k1, k2, -⟩ := id hw
  have w1 := k2 1 (by omega)
  have loop : ∀ d i, i + d = S.W 0 → wp 107 b 62 [.ref 0, .int (nI s'), .int (nI a'), .int (nI c'), .int 1, .int (nI (sm (fun i => bitN s' i * shW S.W i) i)), .int (nI i), .null] [] g Q := by
    intro d
    induction d with
    | zero =>
      intro i hi
      have hi : i = S.W 0 := by omega
      subst hi
      rw [q_X10_creak_62]
      show wp _ _ _ [_, _, _, _, _, .int (nI (sbs S.W s')), _, _] _ _ _
      simp (disch := omega) only [q_X10_creak_64, q_X10_creak_65, q_X10_creak_68, q_X10_creak_71, q_X10_creak_107, q_X10_creak_109, q_X10_creak_110, q_X10_creak_111, q_X10_creak_113, q_X10_creak_115, q_X10_creak_116, q_X10_creak_119, hC.c0.1, k0, hc.1.1, y_is, y_gf, y_pf, y_f0, y_f1, y_f3, y_nI, y_nK, y_nZ, y_nL, y_nR, y_k1i, y_k1r, y_k1l, y_k1n, y_tl, y_tn, y_s, y_ss, List.getElem?_cons_zero, List.getElem?_cons_succ, List.set_cons_zero, List.set_cons_succ, List.length_cons, List.length_nil, true_and, and_true, le_n, pk_mul]
      refine br1 (by first | decide | omega | trivial | simp) (c_whole hv hw hc ?_)
      unfold crk at hQ
      simp (disch := omega) only [q_X10_creak_122, q_X10_creak_124, q_X10_creak_125, q_X10_creak_126, q_X10_creak_127, q_X10_creak_128, q_X10_creak_130, q_X10_creak_132, y_is, y_gf, y_pf, y_f0, y_f1, y_f3, y_nI, y_nK, y_nZ, y_nL, y_nR, y_k1i, y_k1r, y_k1l, y_k1n, y_tl, y_tn, y_s, y_ss, List.getElem?_cons_zero, List.getElem?_cons_succ, List.set_cons_zero, List.set_cons_succ, List.length_cons, List.length_nil, true_and, and_true, lit, pk_sub, pk_mul, nI_add, eq_n]
      by_cases q : sbs S.W s' * a' + (whW S.W - sbs S.W s') * c' = 0
      · rw [bnt q]
        rw [if_pos q] at hQ
        simp only [q_X10_creak_135, q_X10_creak_136, q_X10_creak_138, hC.c0.1, y_is, y_gf, y_pf, y_f0, y_f1, y_f3, y_nI, y_nK, y_nZ, y_nL, y_nR, y_k1i, y_k1r, y_k1l, y_k1n, y_tl, y_tn, y_s, y_ss, List.getElem?_cons_zero, List.getElem?_cons_succ, List.set_cons_zero, List.set_cons_succ, List.length_cons, List.length_nil, true_and, and_true]
        refine c_ref hC (i := 1) (by decide) (by decide) (fun g' h1 h2 => ?_)
        simp only [q_X10_creak_141, y_is, y_gf, y_pf, y_f0, y_f1, y_f3, y_nI, y_nK, y_nZ, y_nL, y_nR, y_k1i, y_k1r, y_k1l, y_k1n, y_tl, y_tn, y_s, y_ss, List.getElem?_cons_zero, List.getElem?_cons_succ, List.set_cons_zero, List.set_cons_succ, List.length_cons, List.length_nil, true_and, and_true]
        exact hQ g' h1 h2
      · rw [bnf q]
        rw [if_neg q] at hQ
        simp (disch := omega) only [q_X10_creak_142, q_X10_creak_143, q_X10_creak_146, q_X10_creak_148, q_X10_creak_149, q_X10_creak_151, q_X10_creak_152, hC.c0.1, hC.cF.1, y_is, y_gf, y_pf, y_f0, y_f1, y_f3, y_nI, y_nK, y_nZ, y_nL, y_nR, y_k1i, y_k1r, y_k1l, y_k1n, y_tl, y_tn, y_s, y_ss, List.getElem?_cons_zero, List.getElem?_cons_succ, List.set_cons_zero, List.set_cons_succ, List.length_cons, List.length_nil, true_and, and_true, i_l]
        refine c_fset hC (by omega) (by omega) (by omega) (fun g' h1 h2 => ?_)
        simp only [q_X10_creak_155, q_X10_creak_156, y_is, y_gf, y_pf, y_f0, y_f1, y_f3, y_nI, y_nK, y_nZ, y_nL, y_nR, y_k1i, y_k1r, y_k1l, y_k1n, y_tl, y_tn, y_s, y_ss, List.getElem?_cons_zero, List.getElem?_cons_succ, List.set_cons_zero, List.set_cons_succ, List.length_cons, List.length_nil, true_and, and_true]
        exact hQ g' h1 h2
    | succ d ih =>
      intro i hi
      have hbt := i_bit (s := s') (p := i) (by omega) (by omega)
      have hb1 : bitN s' i ≤ 1 := by unfold bitN; omega
      have e1 := hc.2.1 1 i (by omega) (by omega)
      have ih := ih (i + 1) (by omega)
      rw [sm] at ih
      rw [q_X10_creak_62]
      simp (disch := omega) only [q_X10_creak_64, q_X10_creak_65, q_X10_creak_68, q_X10_creak_71, q_X10_creak_74, q_X10_creak_75, q_X10_creak_77, q_X10_creak_78, q_X10_creak_79, q_X10_creak_80, q_X10_creak_81, hC.c0.1, k0, hc.1.1, y_is, y_gf, y_pf, y_f0, y_f1, y_f3, y_nI, y_nK, y_nZ, y_nL, y_nR, y_k1i, y_k1r, y_k1l, y_k1n, y_tl, y_tn, y_s, y_ss, List.getElem?_cons_zero, List.getElem?_cons_succ, List.set_cons_zero, List.set_cons_succ, List.length_cons, List.length_nil, true_and, and_true, lit, le_n, hbt, eq_n]
      refine br0 (by omega) ?_
      by_cases q : bitN s' i = 1
      · rw [bnt q]
        rw [q, Nat.one_mul] at ih
        simp (disch := omega) only [q_X10_creak_84, q_X10_creak_86, q_X10_creak_87, q_X10_creak_90, q_X10_creak_93, q_X10_creak_94, q_X10_creak_95, q_X10_creak_97, q_X10_creak_98, q_X10_creak_99, q_X10_creak_101, q_X10_creak_104, hC.c0.1, k0, k1, w1, e1, y_is, y_gf, y_pf, y_f0, y_f1, y_f3, y_nI, y_nK, y_nZ, y_nL, y_nR, y_k1i, y_k1r, y_k1l, y_k1n, y_tl, y_tn, y_s, y_ss, List.getElem?_cons_zero, List.getElem?_cons_succ, List.set_cons_zero, List.set_cons_succ, List.length_cons, List.length_nil, true_and, and_true, y_lIn, y_lKn, y_lZn, y_lLn, y_wIn, y_wZn, y_wLn, lit, le_n, lt_n, eq_n, y_row, nI_add]
        exact ih
      · rw [bnf q]
        rw [show bitN s' i = 0 by unfold bitN at q ⊢; omega, Nat.zero_mul, Nat.add_zero] at ih
        simp (disch := omega) only [q_X10_creak_101, q_X10_creak_104, y_is, y_gf, y_pf, y_f0, y_f1, y_f3, y_nI, y_nK, y_nZ, y_nL, y_nR, y_k1i, y_k1r, y_k1l, y_k1n, y_tl, y_tn, y_s, y_ss, List.getElem?_cons_zero, List.getElem?_cons_succ, List.set_cons_zero, List.set_cons_succ, List.length_cons, List.length_nil, true_and, and_true, lit, nI_add]
        exact ih
  simp (disch := omega) only [q_X10_creak_56, q_X10_creak_57, q_X10_creak_59, q_X10_creak_60, y_is, y_gf, y_pf, y_f0, y_f1, y_f3, y_nI, y_nK, y_nZ, y_nL, y_nR, y_k1i, y_k1r, y_k1l, y_k1n, y_tl, y_tn, y_s, y_ss, List.getElem?_cons_zero, List.getElem?_cons_succ, List.set_cons_zero, List.set_cons_succ, List.length_cons, List.length_nil, true_and, and_true]
  exact loop (S.W 0) 0 (by omega)
end FRAC
