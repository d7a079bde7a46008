/-! ===== Balance: shares ===== -/
def pr : List Nat → Nat
  | [] => 1
  | w :: l => w * pr l
def hsm : List Nat → Nat
  | [] => 0
  | w :: l => pr l + w * hsm l
def hp : Nat → Nat → List Nat → Nat × Nat
  | s, p, [] => (s, p)
  | s, p, w :: l => hp (s * w + p) (p * w) l
theorem hp_eq : ∀ (l : List Nat) (s p : Nat), hp s p l = (s * pr l + p * hsm l, p * pr l)
  | [], s, p => by simp [hp, pr, hsm]
  | w :: l, s, p => by
    rw [hp, hp_eq l, pr, hsm, Nat.add_mul, Nat.mul_add]
    congr 1
    · rw [Nat.mul_assoc, Nat.mul_assoc, Nat.add_assoc]
    · rw [Nat.mul_assoc]
theorem pr_le : ∀ (l : List Nat), (∀ y, y ∈ l → y ≤ 99) → pr l ≤ 99 ^ l.length
  | [], _ => by simp [pr]
  | w :: l, h => by
    rw [pr, List.length_cons, Nat.pow_succ, Nat.mul_comm]
    exact Nat.mul_le_mul (pr_le l (fun y hy => h y (List.mem_cons_of_mem _ hy))) (h w List.mem_cons_self)
theorem hsm_le : ∀ (l : List Nat), (∀ y, y ∈ l → y ≤ 99) → hsm l * 99 ≤ l.length * 99 ^ l.length
  | [], _ => by simp [hsm]
  | w :: l, h => by
    have h1 := pr_le l (fun y hy => h y (List.mem_cons_of_mem _ hy))
    have h2 := hsm_le l (fun y hy => h y (List.mem_cons_of_mem _ hy))
    have h3 := h w List.mem_cons_self
    rw [hsm, List.length_cons, Nat.pow_succ, Nat.add_mul, Nat.add_mul, Nat.one_mul]
    have h4 : w * hsm l * 99 ≤ 99 * (l.length * 99 ^ l.length) := by
      rw [Nat.mul_assoc]; exact Nat.mul_le_mul h3 h2
    have h5 : l.length * (99 ^ l.length * 99) = 99 * (l.length * 99 ^ l.length) := by ac_rfl
    rw [h5]
    have h6 : pr l * 99 ≤ 99 ^ l.length * 99 := Nat.mul_le_mul_right _ h1
    omega
theorem pr_pos : ∀ (l : List Nat), (∀ y, y ∈ l → 0 < y) → 0 < pr l
  | [], _ => by decide
  | w :: l, h => by
    rw [pr]
    exact Nat.mul_pos (h w List.mem_cons_self) (pr_pos l (fun y hy => h y (List.mem_cons_of_mem _ hy)))
theorem hsm_pos {l : List Nat} (hl : l ≠ []) (h : ∀ y, y ∈ l → 0 < y) : 0 < hsm l := by
  cases l with
  | nil => exact absurd rfl hl
  | cons w l =>
    rw [hsm]
    have := pr_pos l (fun y hy => h y (List.mem_cons_of_mem _ hy))
    omega
theorem pr_b {l : List Nat} (hl : l.length ≤ 9) (h : ∀ y, y ∈ l → y ≤ 99) : pr l ≤ 99 ^ 9 := Nat.le_trans (pr_le l h) (Nat.pow_le_pow_right (by decide) hl)
theorem hsm_b {l : List Nat} (hl : l.length ≤ 9) (h : ∀ y, y ∈ l → y ≤ 99) : hsm l ≤ 9 * 99 ^ 8 := by
  have h1 := hsm_le l h
  have h2 : l.length * 99 ^ l.length ≤ 9 * 99 ^ 9 := Nat.mul_le_mul hl (Nat.pow_le_pow_right (by decide) hl)
  omega
section BALANCE2
variable {b : mzB} {Q : mzQ} {k w : Nat} {v : Nat → Int32} {A : Nat → Nat → Int32}
theorem s_share_loop {g : mzG} {a c : Int64} {f : Nat → Int32} {l : List Nat} {x1 x2 : Int32} (hB : bl g k a c l.length f) (hf : lsf f l) (hl : l.length ≤ 9) (h99 : ∀ y, y ∈ l → y ≤ 99) (F : Nat × Nat) (hQ : wp 4 b 49 [.ref k, .int x1, .int x2, .long (lN F.2), .null, .long (lN F.1), .null, .int (nI l.length)] [] g Q) : ∀ (d i s p : Nat), i + d = l.length → hp s p (l.drop i) = F → wp 4 b 8 [.ref k, .int x1, .int x2, .long (lN p), .null, .long (lN s), .null, .int (nI i)] [] g Q := by
  intro d
  induction d with
  | zero =>
    intro i s p hi hF
    have hi : i = l.length := by omega
    subst hi
    rw [List.drop_length, hp] at hF
    subst hF
    rw [q_X0_share_8]
    simp (disch := omega) only [q_X0_share_10, q_X0_share_11, q_X0_share_14, hB.1, y_is, y_gf, y_pf, y_f0, y_f1, y_f3, y_nI, y_nK, y_nZ, y_nL, y_nR, y_k1i, y_k1r, y_k1l, y_k1n, y_tl, y_tn, y_s, y_ss, List.getElem?_cons_zero, List.getElem?_cons_succ, List.set_cons_zero, List.set_cons_succ, List.length_cons, List.length_nil, true_and, and_true, le_n]
    exact br1 (by omega) hQ
  | succ d ih =>
    intro i s p hi hF
    have hil : i < l.length := by omega
    have e := hf i _ (List.getElem?_eq_getElem hil)
    have e9 := h99 _ (List.getElem_mem hil)
    rw [List.drop_eq_getElem_cons hil, hp] at hF
    rw [q_X0_share_8]
    simp (disch := omega) only [q_X0_share_10, q_X0_share_11, q_X0_share_14, q_X0_share_17, q_X0_share_19, q_X0_share_20, q_X0_share_23, q_X0_share_25, q_X0_share_26, q_X0_share_27, q_X0_share_28, q_X0_share_29, q_X0_share_30, q_X0_share_32, q_X0_share_33, q_X0_share_34, q_X0_share_37, q_X0_share_39, q_X0_share_40, q_X0_share_41, q_X0_share_42, q_X0_share_43, q_X0_share_46, hB.1, hB.2, y_is, y_gf, y_pf, y_f0, y_f1, y_f3, y_nI, y_nK, y_nZ, y_nL, y_nR, y_k1i, y_k1r, y_k1l, y_k1n, y_tl, y_tn, y_s, y_ss, List.getElem?_cons_zero, List.getElem?_cons_succ, List.set_cons_zero, List.set_cons_succ, List.length_cons, List.length_nil, true_and, and_true, y_lIn, y_lKn, y_lZn, y_lLn, y_wIn, y_wZn, y_wLn, lit, le_n, lt_n, eq_n, lit, e, i_l, l_mul, l_add, nI_add]
    exact br0 (by omega) (ih (i + 1) _ _ (by omega) hF)
theorem s_share {g : mzG} {a c : Int64} {f : Nat → Int32} {l : List Nat} {q i : Nat} (hB : bl g k a c l.length f) (hf : lsf f l) (hl : l.length ≤ 9) (h99 : ∀ y, y ∈ l → y ≤ 99) (h0 : ∀ y, y ∈ l → 0 < y) (hq : q ≤ 9) (hi : i < l.length) (hQ : ∀ g', bl g' k (lN (q * pr (l.drop i))) (lN (hsm (l.drop i))) l.length f → fr g g' k (k + 2) → Q none g') : wp 4 b 0 [.ref k, .int (nI q), .int (nI i), .null, .null, .null, .null, .null] [] g Q := by
  have hd0 : ∀ y, y ∈ l.drop i → 0 < y := fun y hy => h0 y (List.mem_of_mem_drop hy)
  have hd9 : ∀ y, y ∈ l.drop i → y ≤ 99 := fun y hy => h99 y (List.mem_of_mem_drop hy)
  have hdl : (l.drop i).length = l.length - i := List.length_drop
  have hne : l.drop i ≠ [] := by
    intro z
    rw [z] at hdl
    simp at hdl; omega
  have p1 := hsm_pos hne hd0
  have p2 := hsm_b (by omega) hd9
  simp (disch := omega) only [q_X0_share_0, q_X0_share_1, q_X0_share_2, q_X0_share_3, q_X0_share_5, q_X0_share_6, y_is, y_gf, y_pf, y_f0, y_f1, y_f3, y_nI, y_nK, y_nZ, y_nL, y_nR, y_k1i, y_k1r, y_k1l, y_k1n, y_tl, y_tn, y_s, y_ss, List.getElem?_cons_zero, List.getElem?_cons_succ, List.set_cons_zero, List.set_cons_succ, List.length_cons, List.length_nil, true_and, and_true, litL]
  refine s_share_loop hB hf hl h99 (hsm (l.drop i), pr (l.drop i)) ?_ (l.length - i) i 0 1 (by omega) (by rw [hp_eq, Nat.zero_mul, Nat.zero_add, Nat.one_mul, Nat.one_mul])
  simp (disch := omega) only [q_X0_share_49, q_X0_share_51, q_X0_share_52, q_X0_share_53, y_is, y_gf, y_pf, y_f0, y_f1, y_f3, y_nI, y_nK, y_nZ, y_nL, y_nR, y_k1i, y_k1r, y_k1l, y_k1n, y_tl, y_tn, y_s, y_ss, List.getElem?_cons_zero, List.getElem?_cons_succ, List.set_cons_zero, List.set_cons_succ, List.length_cons, List.length_nil, true_and, and_true, lit, litL, lc_ge]
  refine br1 (by omega) ?_
  simp (disch := omega) only [q_X0_share_57, q_X0_share_58, q_X0_share_59, q_X0_share_60, q_X0_share_61, q_X0_share_62, q_X0_share_65, q_X0_share_66, q_X0_share_68, q_X0_share_71, hB.1, y_is, y_gf, y_pf, y_f0, y_f1, y_f3, y_nI, y_nK, y_nZ, y_nL, y_nR, y_k1i, y_k1r, y_k1l, y_k1n, y_tl, y_tn, y_s, y_ss, List.getElem?_cons_zero, List.getElem?_cons_succ, List.set_cons_zero, List.set_cons_succ, List.length_cons, List.length_nil, true_and, and_true, i_l, l_mul]
  exact ⟨by decide, by decide, hQ _ hB.nu (fr.hs fr.rf (by omega) (by omega))⟩
def bs : Nat × Nat → Nat → List Nat → Nat × Nat
  | x, _, [] => x
  | x, 0, _ :: _ => x
  | _, q + 1, w :: l => if (q + 1) * pr (w :: l) ≤ w * hsm (w :: l) then ((q + 1) * pr (w :: l), hsm (w :: l)) else bs ((q + 1) * pr (w :: l), hsm (w :: l)) q l
theorem bs_b : ∀ (l : List Nat) (q : Nat) (x : Nat × Nat), q ≤ 9 → l.length ≤ 9 → (∀ y, y ∈ l → y ≤ 99) → (∀ y, y ∈ l → 0 < y) → (x.1 ≤ 9 * 99 ^ 9 ∧ 0 < x.2 ∧ x.2 ≤ 9 * 99 ^ 8) → (bs x q l).1 ≤ 9 * 99 ^ 9 ∧ 0 < (bs x q l).2 ∧ (bs x q l).2 ≤ 9 * 99 ^ 8
  | [], _, _, _, _, _, _, h => by rw [bs]; exact h
  | _ :: _, 0, _, _, _, _, _, h => by rw [bs]; exact h
  | w :: l, q + 1, _, hq, hl, h9, h0, _ => by
    have h1 : (q + 1) * pr (w :: l) ≤ 9 * 99 ^ 9 := Nat.mul_le_mul hq (pr_b hl h9)
    have h2 := hsm_pos (l := w :: l) (by simp) h0
    have h3 := hsm_b hl h9
    rw [bs]
    split
    · exact ⟨h1, h2, h3⟩
    · rw [List.length_cons] at hl
      exact bs_b l q _ (by omega) (by omega) (fun y hy => h9 y (List.mem_cons_of_mem _ hy)) (fun y hy => h0 y (List.mem_cons_of_mem _ hy)) ⟨h1, h2, h3⟩
theorem i_sub_le {a c : Nat} (h : a ≤ c) (hc : c ≤ 9) : nI a - nI c ≤ nI 0 := by
  have : ∀ a : Fin 10, ∀ c : Fin 10, a.val ≤ c.val → nI a.val - nI c.val ≤ nI 0 := by decide
  exact this ⟨a, by omega⟩ ⟨c, by omega⟩ h
theorem s_solve_loop (g0 : mzG) {f : Nat → Int32} {l : List Nat} {r asl : Nat} (hfl : lsf f l) (hl : l.length ≤ 9) (h99 : ∀ y, y ∈ l → y ≤ 99) (h0 : ∀ y, y ∈ l → 0 < y) (hr : r ≤ 9) (F : Nat × Nat) (hQ : ∀ g' x4, bl g' k (lN F.1) (lN F.2) l.length f → fr g0 g' k (k + 2) → wp 2 b 85 [.ref k, .ref w, .int (nI asl), .int (nI r), .int x4, .null] [] g' Q) : ∀ (q i : Nat) (g : mzG) (x : Nat × Nat), i + q = r → i ≤ l.length → bs x q (l.drop i) = F → bl g k (lN x.1) (lN x.2) l.length f → fr g0 g k (k + 2) → wp 2 b 30 [.ref k, .ref w, .int (nI asl), .int (nI r), .int (nI i), .null] [] g Q := by
  intro q
  induction q with
  | zero =>
    intro i g x hi hil hF hB hf
    have e : bs x 0 (l.drop i) = x := by
      cases l.drop i <;> rw [bs]
    rw [e] at hF
    subst hF
    rw [q_X0_solve_30]
    simp (disch := omega) only [q_X0_solve_32, q_X0_solve_33, y_is, y_gf, y_pf, y_f0, y_f1, y_f3, y_nI, y_nK, y_nZ, y_nL, y_nR, y_k1i, y_k1r, y_k1l, y_k1n, y_tl, y_tn, y_s, y_ss, List.getElem?_cons_zero, List.getElem?_cons_succ, List.set_cons_zero, List.set_cons_succ, List.length_cons, List.length_nil, true_and, and_true, le_n]
    exact br1 (by omega) (hQ g _ hB hf)
  | succ q ih =>
    intro i g x hi hil hF hB hf
    rw [q_X0_solve_30]
    rcases Nat.lt_or_ge i l.length with z | z
    · have hd := List.drop_eq_getElem_cons z
      have e := hfl i _ (List.getElem?_eq_getElem z)
      have e9 := h99 _ (List.getElem_mem z)
      have hdl : (l.drop i).length = l.length - i := List.length_drop
      have hd9 : ∀ y, y ∈ l.drop i → y ≤ 99 := fun y hy => h99 y (List.mem_of_mem_drop hy)
      have b1 : pr (l.drop i) ≤ 99 ^ 9 := pr_b (by omega) hd9
      have b2 : hsm (l.drop i) ≤ 9 * 99 ^ 8 := hsm_b (by omega) hd9
      have b3 : (q + 1) * pr (l.drop i) ≤ 9 * 99 ^ 9 := Nat.mul_le_mul (by omega) b1
      have b4 : l[i] * hsm (l.drop i) ≤ 99 * (9 * 99 ^ 8) := Nat.mul_le_mul e9 b2
      simp (disch := omega) only [q_X0_solve_32, q_X0_solve_33, q_X0_solve_36, q_X0_solve_38, q_X0_solve_39, q_X0_solve_42, q_X0_solve_45, q_X0_solve_46, q_X0_solve_47, q_X0_solve_49, q_X0_solve_50, q_X0_solve_52, hB.1, y_is, y_gf, y_pf, y_f0, y_f1, y_f3, y_nI, y_nK, y_nZ, y_nL, y_nR, y_k1i, y_k1r, y_k1l, y_k1n, y_tl, y_tn, y_s, y_ss, List.getElem?_cons_zero, List.getElem?_cons_succ, List.set_cons_zero, List.set_cons_succ, List.length_cons, List.length_nil, true_and, and_true, le_n, pk_sub, y_is]
      refine br0 (by omega) (br0 (by omega) ?_)
      rw [show r - i = q + 1 by omega]
      refine s_share hB hfl hl h99 h0 (by omega) z (fun g1 hB1 hf1 => ?_)
      simp (disch := omega) only [q_X0_solve_55, q_X0_solve_56, q_X0_solve_59, q_X0_solve_60, q_X0_solve_63, q_X0_solve_65, q_X0_solve_66, q_X0_solve_67, q_X0_solve_68, q_X0_solve_71, q_X0_solve_72, q_X0_solve_73, hB1.1, hB1.2, y_is, y_gf, y_pf, y_f0, y_f1, y_f3, y_nI, y_nK, y_nZ, y_nL, y_nR, y_k1i, y_k1r, y_k1l, y_k1n, y_tl, y_tn, y_s, y_ss, List.getElem?_cons_zero, List.getElem?_cons_succ, List.set_cons_zero, List.set_cons_succ, List.length_cons, List.length_nil, true_and, and_true, y_lIn, y_lKn, y_lZn, y_lLn, y_wIn, y_wZn, y_wLn, lit, le_n, lt_n, eq_n, e, i_l, l_mul, lit, lc_gt]
      rw [hd, bs, ← hd] at hF
      refine brs (fun c => ?_) (fun c => ?_)
      · rw [if_neg (by omega)] at hF
        simp (disch := omega) only [q_X0_solve_79, q_X0_solve_82, y_is, y_gf, y_pf, y_f0, y_f1, y_f3, y_nI, y_nK, y_nZ, y_nL, y_nR, y_k1i, y_k1r, y_k1l, y_k1n, y_tl, y_tn, y_s, y_ss, List.getElem?_cons_zero, List.getElem?_cons_succ, List.set_cons_zero, List.set_cons_succ, List.length_cons, List.length_nil, true_and, and_true, lit, nI_add]
        exact ih (i + 1) g1 _ (by omega) (by omega) hF hB1 (hf.tr hf1)
      · rw [if_pos (by omega)] at hF
        subst hF
        simp (disch := omega) only [q_X0_solve_76, y_is, y_gf, y_pf, y_f0, y_f1, y_f3, y_nI, y_nK, y_nZ, y_nL, y_nR, y_k1i, y_k1r, y_k1l, y_k1n, y_tl, y_tn, y_s, y_ss, List.getElem?_cons_zero, List.getElem?_cons_succ, List.set_cons_zero, List.set_cons_succ, List.length_cons, List.length_nil, true_and, and_true]
        exact hQ g1 _ hB1 (hf.tr hf1)
    · have hi' : i = l.length := by omega
      subst hi'
      rw [List.drop_length, bs] at hF
      subst hF
      simp (disch := omega) only [q_X0_solve_32, q_X0_solve_33, q_X0_solve_36, q_X0_solve_38, q_X0_solve_39, q_X0_solve_42, hB.1, y_is, y_gf, y_pf, y_f0, y_f1, y_f3, y_nI, y_nK, y_nZ, y_nL, y_nR, y_k1i, y_k1r, y_k1l, y_k1n, y_tl, y_tn, y_s, y_ss, List.getElem?_cons_zero, List.getElem?_cons_succ, List.set_cons_zero, List.set_cons_succ, List.length_cons, List.length_nil, true_and, and_true, le_n]
      exact br0 (by omega) (br1 (by omega) (hQ g _ hB hf))
theorem s_solve {g : mzG} {a c : Int64} {n m asl : Nat} {f : Nat → Int32} {wo : Nat → Nat} (hap : w + 12 ≤ k) (hB : bl g k a c m f) (hW : wt g w v A) (hv : v 0 = nI n) (hn : n ≤ 9) (hwo : ∀ i, i < n → A 0 i = nI (wo i) ∧ wo i ≤ 99) (has : asl ≤ 9) (hQ : ∀ g' f' l F, l.Perm (pw wo n) → l.Pairwise (· ≤ ·) → F = bs (0, 1) (asl - (n - l.length)) l → F.1 ≤ 9 * 99 ^ 9 → 0 < F.2 → F.2 ≤ 9 * 99 ^ 8 → bl g' k (lN (F.1 / Nat.gcd F.1 F.2)) (lN (F.2 / Nat.gcd F.1 F.2)) l.length f' → fr g g' k (k + 2) → Q none g') : wp 2 b 0 [.ref k, .ref w, .int (nI asl), .null, .null, .null] [] g Q := by
  simp (disch := omega) only [q_X0_solve_0, q_X0_solve_1, q_X0_solve_2, hB.1, y_is, y_gf, y_pf, y_f0, y_f1, y_f3, y_nI, y_nK, y_nZ, y_nL, y_nR, y_k1i, y_k1r, y_k1l, y_k1n, y_tl, y_tn, y_s, y_ss, List.getElem?_cons_zero, List.getElem?_cons_succ, List.set_cons_zero, List.set_cons_succ, List.length_cons, List.length_nil, true_and, and_true, y_is]
  refine s_sort hap hB hW hv hn hwo (fun g1 f1 l hB1 hl1 hpe hso hf1 => ?_)
  have hW1 := hW.frm hf1 (by omega)
  have hln : l.length ≤ n := by rw [hpe.length_eq]; exact pw_len wo n
  have hmem : ∀ q, q ≤ n → ∀ y, y ∈ pw wo q → y ≤ 99 ∧ 0 < y := by
    intro q
    induction q with
    | zero => intro _ y hy; rw [pw] at hy; cases hy
    | succ q ihq =>
      intro hq y hy
      rw [pw] at hy
      split at hy
      · rename_i hpos
        rcases List.mem_cons.mp hy with z | z
        · rw [z]; exact ⟨(hwo q (by omega)).2, hpos⟩
        · exact ihq (by omega) y z
      · exact ihq (by omega) y hy
  have h99 : ∀ y, y ∈ l → y ≤ 99 := fun y hy => (hmem n (Nat.le_refl _) y (hpe.mem_iff.mp hy)).1
  have h0 : ∀ y, y ∈ l → 0 < y := fun y hy => (hmem n (Nat.le_refl _) y (hpe.mem_iff.mp hy)).2
  have hFb := bs_b l (asl - (n - l.length)) (0, 1) (by omega) (by omega) h99 h0 ⟨by decide, by decide, by decide⟩
  -- the end, from 85
  have fin : ∀ (F : Nat × Nat) (g2 : mzG) (x3 x4 : Int32), F = bs (0, 1) (asl - (n - l.length)) l → bl g2 k (lN F.1) (lN F.2) l.length f1 → fr g g2 k (k + 2) → wp 2 b 85 [.ref k, .ref w, .int (nI asl), .int x3, .int x4, .null] [] g2 Q := by
    intro F g2 x3 x4 hF hB2 hf2
    rw [← hF] at hFb
    obtain ⟨b1, b2, b3⟩ := hFb
    simp (disch := omega) only [q_X0_solve_85, q_X0_solve_86, q_X0_solve_89, q_X0_solve_90, q_X0_solve_93, hB2.1, y_is, y_gf, y_pf, y_f0, y_f1, y_f3, y_nI, y_nK, y_nZ, y_nL, y_nR, y_k1i, y_k1r, y_k1l, y_k1n, y_tl, y_tn, y_s, y_ss, List.getElem?_cons_zero, List.getElem?_cons_succ, List.set_cons_zero, List.set_cons_succ, List.length_cons, List.length_nil, true_and, and_true]
    refine s_gcd (by omega) (by omega) ?_
    have hgp : 0 < Nat.gcd F.1 F.2 := Nat.gcd_pos_of_pos_right _ b2
    have hgl : Nat.gcd F.1 F.2 ≤ F.2 := Nat.le_of_dvd b2 (Nat.gcd_dvd_right _ _)
    simp (disch := omega) only [q_X0_solve_96, q_X0_solve_98, q_X0_solve_100, q_X0_solve_101, q_X0_solve_102, y_is, y_gf, y_pf, y_f0, y_f1, y_f3, y_nI, y_nK, y_nZ, y_nL, y_nR, y_k1i, y_k1r, y_k1l, y_k1n, y_tl, y_tn, y_s, y_ss, List.getElem?_cons_zero, List.getElem?_cons_succ, List.set_cons_zero, List.set_cons_succ, List.length_cons, List.length_nil, true_and, and_true, lit, litL, lc_le]
    refine brs (fun z => ?_) (fun z => ?_)
    · have z1 : Nat.gcd F.1 F.2 = 1 := by omega
      simp (disch := omega) only [q_X0_solve_127, y_is, y_gf, y_pf, y_f0, y_f1, y_f3, y_nI, y_nK, y_nZ, y_nL, y_nR, y_k1i, y_k1r, y_k1l, y_k1n, y_tl, y_tn, y_s, y_ss, List.getElem?_cons_zero, List.getElem?_cons_succ, List.set_cons_zero, List.set_cons_succ, List.length_cons, List.length_nil, true_and, and_true]
      refine hQ g2 f1 l F hpe hso hF b1 b2 b3 ?_ hf2
      rw [z1, Nat.div_one, Nat.div_one]; exact hB2
    · simp (disch := omega) only [q_X0_solve_105, q_X0_solve_106, q_X0_solve_107, q_X0_solve_110, q_X0_solve_112, q_X0_solve_113, q_X0_solve_116, q_X0_solve_117, q_X0_solve_118, q_X0_solve_121, q_X0_solve_123, q_X0_solve_124, q_X0_solve_127, hB2.1, y_is, y_gf, y_pf, y_f0, y_f1, y_f3, y_nI, y_nK, y_nZ, y_nL, y_nR, y_k1i, y_k1r, y_k1l, y_k1n, y_tl, y_tn, y_s, y_ss, List.getElem?_cons_zero, List.getElem?_cons_succ, List.set_cons_zero, List.set_cons_succ, List.length_cons, List.length_nil, true_and, and_true, litL, l_eq, l_div]
      refine ⟨by omega, by decide, by omega, by decide, ?_⟩
      exact hQ _ f1 l F hpe hso hF b1 b2 b3 hB2.nu (hf2.hs (by omega) (by omega))
  simp (disch := omega) only [q_X0_solve_5, q_X0_solve_6, q_X0_solve_7, q_X0_solve_10, q_X0_solve_11, q_X0_solve_14, q_X0_solve_15, q_X0_solve_16, q_X0_solve_17, q_X0_solve_18, q_X0_solve_19, q_X0_solve_22, q_X0_solve_23, q_X0_solve_24, q_X0_solve_27, q_X0_solve_28, hB1.1, hW1.1, hv, y_is, y_gf, y_pf, y_f0, y_f1, y_f3, y_nI, y_nK, y_nZ, y_nL, y_nR, y_k1i, y_k1r, y_k1l, y_k1n, y_tl, y_tn, y_s, y_ss, List.getElem?_cons_zero, List.getElem?_cons_succ, List.set_cons_zero, List.set_cons_succ, List.length_cons, List.length_nil, true_and, and_true, lit, litL, pk_sub]
  refine ⟨by decide, by decide, ?_⟩
  have hB2 := hB1.nu (a' := lN 0) (c' := lN 1) (m' := l.length)
  rcases Nat.lt_or_ge asl (n - l.length) with z | z
  · rw [q_X0_solve_30]
    simp (disch := omega) only [q_X0_solve_32, q_X0_solve_33, y_is, y_gf, y_pf, y_f0, y_f1, y_f3, y_nI, y_nK, y_nZ, y_nL, y_nR, y_k1i, y_k1r, y_k1l, y_k1n, y_tl, y_tn, y_s, y_ss, List.getElem?_cons_zero, List.getElem?_cons_succ, List.set_cons_zero, List.set_cons_succ, List.length_cons, List.length_nil, true_and, and_true]
    refine br1 (i_sub_le (by omega) (by omega)) (fin (0, 1) _ _ _ ?_ hB2 (hf1.hs (by omega) (by omega)))
    rw [show asl - (n - l.length) = 0 by omega]
    cases l <;> rw [bs]
  · rw [pk_sub (by omega)]
    exact s_solve_loop g hl1 (by omega) h99 h0 (by omega) (bs (0, 1) (asl - (n - l.length)) l) (fun g' x4 h1 h2 => fin _ g' _ x4 rfl h1 h2) (asl - (n - l.length)) 0 _ (0, 1) (by omega) (by omega) rfl hB2 (hf1.hs (by omega) (by omega))
end BALANCE2
