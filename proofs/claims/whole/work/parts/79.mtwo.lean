/-! ===== the reference: two ===== -/
section MTWO
variable {b : mzB} {g : mzG} {Q : mzQ} {S : sT}
theorem m_two (h : MR g S) (hS : sv S) (hQ : mO g (oTwo S) Q) : wp 181 b 0 [.ref 73, .null, .null, .null, .null] [] g Q := by
  unfold oTwo at hQ
  obtain ⟨x, r, hM, -⟩ := id h.mM
  obtain ⟨f, h74, hW⟩ := id h.mW
  have hv := hS.vW
  have hwl := whW_le hv
  have n1 := hv.1.1
  have n9 := hv.1.2
  have bad : (whW S.W = 0 ∨ S.W 0 = 1) → wp 181 b 15 [.ref 73, .null, .null, .null, .null] [] g Q := by
    intro e
    rw [if_pos e] at hQ
    simp only [q_X11_two_15, q_X11_two_16, hM, y_is, y_gf, y_pf, y_f0, y_f1, y_f3, y_nI, y_nK, y_nZ, y_nL, y_nR, y_k1i, y_k1r, y_k1l, y_k1n, y_tl, y_tn, y_s, y_ss, List.getElem?_cons_zero, List.getElem?_cons_succ, List.set_cons_zero, List.set_cons_succ, List.length_cons, List.length_nil, true_and, and_true]
    refine m_no h (fun g' a1 a2 => ?_)
    simp only [q_X11_two_19, y_is, y_gf, y_pf, y_f0, y_f1, y_f3, y_nI, y_nK, y_nZ, y_nL, y_nR, y_k1i, y_k1r, y_k1l, y_k1n, y_tl, y_tn, y_s, y_ss, List.getElem?_cons_zero, List.getElem?_cons_succ, List.set_cons_zero, List.set_cons_succ, List.length_cons, List.length_nil, true_and, and_true]
    exact hQ g' a1 a2
  simp only [q_X11_two_0, q_X11_two_1, hM, y_is, y_gf, y_pf, y_f0, y_f1, y_f3, y_nI, y_nK, y_nZ, y_nL, y_nR, y_k1i, y_k1r, y_k1l, y_k1n, y_tl, y_tn, y_s, y_ss, List.getElem?_cons_zero, List.getElem?_cons_succ, List.set_cons_zero, List.set_cons_succ, List.length_cons, List.length_nil, true_and, and_true]
  refine s_mwhole hM h74 hW rfl n9 ?_
  show wp _ _ _ _ [.int (nI (whW S.W))] _ _
  simp (disch := omega) only [q_X11_two_4, q_X11_two_7, q_X11_two_8, hM, y_is, y_gf, y_pf, y_f0, y_f1, y_f3, y_nI, y_nK, y_nZ, y_nL, y_nR, y_k1i, y_k1r, y_k1l, y_k1n, y_tl, y_tn, y_s, y_ss, List.getElem?_cons_zero, List.getElem?_cons_succ, List.set_cons_zero, List.set_cons_succ, List.length_cons, List.length_nil, true_and, and_true, lit, eq_n]
  refine brs (fun c => bad (Or.inl c)) (fun c => ?_)
  refine s_watched hM h74 hW ?_
  simp (disch := omega) only [q_X11_two_11, q_X11_two_12, y_is, y_gf, y_pf, y_f0, y_f1, y_f3, y_nI, y_nK, y_nZ, y_nL, y_nR, y_k1i, y_k1r, y_k1l, y_k1n, y_tl, y_tn, y_s, y_ss, List.getElem?_cons_zero, List.getElem?_cons_succ, List.set_cons_zero, List.set_cons_succ, List.length_cons, List.length_nil, true_and, and_true, lit, eq_n]
  by_cases c1 : S.W 0 = 1
  · rw [bnt c1]
    exact bad (Or.inr c1)
  rw [bnf c1]
  rw [if_neg (by omega)] at hQ
  obtain ⟨i, j, hij⟩ := pon_some (f := hauW S.W) (n := S.W 0) (by omega)
  obtain ⟨hi, hj⟩ := pon_b (S.W 0) (Nat.le_refl _) i j hij
  rw [hij] at hQ
  have hbd : ∀ a, a < S.W 0 → hauW S.W a ≤ 9801 := fun a ha => hau_le hv (by omega)
  have inner : ∀ (p : Nat), p < S.W 0 → ∀ (s0 : Option (Nat × Nat)), (∀ a c, s0 = some (a, c) → a < S.W 0 ∧ c < S.W 0) → (∀ x4, wp 181 b 91 [.ref 73, .int (pI (hauW S.W) (-1) (pin (hauW S.W) p s0 (S.W 0 - (p + 1)))).1, .int (pI (hauW S.W) (-1) (pin (hauW S.W) p s0 (S.W 0 - (p + 1)))).2, .int (nI p), x4] [] g Q) → ∀ d k, p + 1 + k + d = S.W 0 → wp 181 b 39 [.ref 73, .int (pI (hauW S.W) (-1) (pin (hauW S.W) p s0 k)).1, .int (pI (hauW S.W) (-1) (pin (hauW S.W) p s0 k)).2, .int (nI p), .int (nI (p + 1 + k))] [] g Q := by
    intro p hp s0 hs0 kk d
    induction d with
    | zero =>
      intro k hk
      have e : k = S.W 0 - (p + 1) := by omega
      subst e
      rw [q_X11_two_39]
      simp (disch := omega) only [q_X11_two_41, q_X11_two_42, hM, y_is, y_gf, y_pf, y_f0, y_f1, y_f3, y_nI, y_nK, y_nZ, y_nL, y_nR, y_k1i, y_k1r, y_k1l, y_k1n, y_tl, y_tn, y_s, y_ss, List.getElem?_cons_zero, List.getElem?_cons_succ, List.set_cons_zero, List.set_cons_succ, List.length_cons, List.length_nil, true_and, and_true]
      refine s_watched hM h74 hW ?_
      simp (disch := omega) only [q_X11_two_45, y_is, y_gf, y_pf, y_f0, y_f1, y_f3, y_nI, y_nK, y_nZ, y_nL, y_nR, y_k1i, y_k1r, y_k1l, y_k1n, y_tl, y_tn, y_s, y_ss, List.getElem?_cons_zero, List.getElem?_cons_succ, List.set_cons_zero, List.set_cons_succ, List.length_cons, List.length_nil, true_and, and_true, le_n]
      exact br1 (by omega) (kk _)
    | succ d ih =>
      intro k hk
      have ih := ih (k + 1) (by omega)
      have hpb := pin_b (f := hauW S.W) (p := p) hs0 k (by omega)
      have hb1 := hbd p hp
      have hb2 := hbd (p + 1 + k) (by omega)
      rw [pin] at ih
      rw [q_X11_two_39]
      simp (disch := omega) only [q_X11_two_41, q_X11_two_42, hM, y_is, y_gf, y_pf, y_f0, y_f1, y_f3, y_nI, y_nK, y_nZ, y_nL, y_nR, y_k1i, y_k1r, y_k1l, y_k1n, y_tl, y_tn, y_s, y_ss, List.getElem?_cons_zero, List.getElem?_cons_succ, List.set_cons_zero, List.set_cons_succ, List.length_cons, List.length_nil, true_and, and_true]
      refine s_watched hM h74 hW ?_
      simp (disch := omega) only [q_X11_two_45, q_X11_two_48, q_X11_two_49, q_X11_two_50, hM, y_is, y_gf, y_pf, y_f0, y_f1, y_f3, y_nI, y_nK, y_nZ, y_nL, y_nR, y_k1i, y_k1r, y_k1l, y_k1n, y_tl, y_tn, y_s, y_ss, List.getElem?_cons_zero, List.getElem?_cons_succ, List.set_cons_zero, List.set_cons_succ, List.length_cons, List.length_nil, true_and, and_true, le_n]
      refine br0 (by omega) (s_haul hM h74 hW (by omega) ?_)
      show wp _ _ _ _ [.int (nI (hauW S.W p))] _ _
      simp (disch := omega) only [q_X11_two_53, q_X11_two_54, q_X11_two_56, hM, y_is, y_gf, y_pf, y_f0, y_f1, y_f3, y_nI, y_nK, y_nZ, y_nL, y_nR, y_k1i, y_k1r, y_k1l, y_k1n, y_tl, y_tn, y_s, y_ss, List.getElem?_cons_zero, List.getElem?_cons_succ, List.set_cons_zero, List.set_cons_succ, List.length_cons, List.length_nil, true_and, and_true]
      refine s_haul hM h74 hW (by omega) ?_
      show wp _ _ _ _ [.int (nI (hauW S.W (p + 1 + k))), _] _ _
      have upd_ : (∀ x1 x2, wp 181 b 64 [.ref 73, .int x1, .int x2, .int (nI p), .int (nI (p + 1 + k))] [] g Q) ∨ True := Or.inr trivial
      have take : ∀ x1 x2 : Int32, wp 181 b 85 [.ref 73, .int (nI (10 * p + (p + 1 + k))), .int (nI (hauW S.W p + hauW S.W (p + 1 + k))), .int (nI p), .int (nI (p + 1 + k))] [] g Q → wp 181 b 64 [.ref 73, .int x1, .int x2, .int (nI p), .int (nI (p + 1 + k))] [] g Q := by
        intro x1 x2 kq
        simp (disch := omega) only [q_X11_two_64, q_X11_two_65, q_X11_two_66, hM, y_is, y_gf, y_pf, y_f0, y_f1, y_f3, y_nI, y_nK, y_nZ, y_nL, y_nR, y_k1i, y_k1r, y_k1l, y_k1n, y_tl, y_tn, y_s, y_ss, List.getElem?_cons_zero, List.getElem?_cons_succ, List.set_cons_zero, List.set_cons_succ, List.length_cons, List.length_nil, true_and, and_true]
        refine s_haul hM h74 hW (by omega) ?_
        show wp _ _ _ _ [.int (nI (hauW S.W p))] _ _
        simp (disch := omega) only [q_X11_two_69, q_X11_two_70, q_X11_two_72, hM, y_is, y_gf, y_pf, y_f0, y_f1, y_f3, y_nI, y_nK, y_nZ, y_nL, y_nR, y_k1i, y_k1r, y_k1l, y_k1n, y_tl, y_tn, y_s, y_ss, List.getElem?_cons_zero, List.getElem?_cons_succ, List.set_cons_zero, List.set_cons_succ, List.length_cons, List.length_nil, true_and, and_true]
        refine s_haul hM h74 hW (by omega) ?_
        show wp _ _ _ _ [.int (nI (hauW S.W (p + 1 + k))), _] _ _
        simp (disch := omega) only [q_X11_two_75, q_X11_two_76, q_X11_two_77, q_X11_two_79, q_X11_two_80, q_X11_two_81, q_X11_two_83, q_X11_two_84, y_is, y_gf, y_pf, y_f0, y_f1, y_f3, y_nI, y_nK, y_nZ, y_nL, y_nR, y_k1i, y_k1r, y_k1l, y_k1n, y_tl, y_tn, y_s, y_ss, List.getElem?_cons_zero, List.getElem?_cons_succ, List.set_cons_zero, List.set_cons_succ, List.length_cons, List.length_nil, true_and, and_true, lit, nI_add, pk_mul]
        exact kq
      cases hs : pin (hauW S.W) p s0 k with
      | none =>
        rw [hs] at ih
        simp only [pI] at ih
        simp (disch := omega) only [q_X11_two_59, q_X11_two_60, q_X11_two_61, y_is, y_gf, y_pf, y_f0, y_f1, y_f3, y_nI, y_nK, y_nZ, y_nL, y_nR, y_k1i, y_k1r, y_k1l, y_k1n, y_tl, y_tn, y_s, y_ss, List.getElem?_cons_zero, List.getElem?_cons_succ, List.set_cons_zero, List.set_cons_succ, List.length_cons, List.length_nil, true_and, and_true, pI, nI_add]
        refine br0 ?_ (take _ _ ?_)
        · intro z
          have : nI (hauW S.W p + hauW S.W (p + 1 + k)) < 0 := Int32.lt_of_le_of_lt z (by decide)
          exact nI_pos (by omega) this
        · simp (disch := omega) only [q_X11_two_85, q_X11_two_88, y_is, y_gf, y_pf, y_f0, y_f1, y_f3, y_nI, y_nK, y_nZ, y_nL, y_nR, y_k1i, y_k1r, y_k1l, y_k1n, y_tl, y_tn, y_s, y_ss, List.getElem?_cons_zero, List.getElem?_cons_succ, List.set_cons_zero, List.set_cons_succ, List.length_cons, List.length_nil, true_and, and_true, lit, nI_add]
          exact ih
      | some q =>
        obtain ⟨a, c⟩ := q
        obtain ⟨ha, hc⟩ := hpb a c hs
        have hb3 := hbd a ha
        have hb4 := hbd c hc
        rw [hs] at ih
        simp only at ih
        simp (disch := omega) only [q_X11_two_59, q_X11_two_60, q_X11_two_61, y_is, y_gf, y_pf, y_f0, y_f1, y_f3, y_nI, y_nK, y_nZ, y_nL, y_nR, y_k1i, y_k1r, y_k1l, y_k1n, y_tl, y_tn, y_s, y_ss, List.getElem?_cons_zero, List.getElem?_cons_succ, List.set_cons_zero, List.set_cons_succ, List.length_cons, List.length_nil, true_and, and_true, pI, nI_add, le_n]
        refine brs (fun z => ?_) (fun z => take _ _ ?_)
        · rw [if_pos z] at ih
          simp only [pI] at ih
          simp (disch := omega) only [q_X11_two_85, q_X11_two_88, y_is, y_gf, y_pf, y_f0, y_f1, y_f3, y_nI, y_nK, y_nZ, y_nL, y_nR, y_k1i, y_k1r, y_k1l, y_k1n, y_tl, y_tn, y_s, y_ss, List.getElem?_cons_zero, List.getElem?_cons_succ, List.set_cons_zero, List.set_cons_succ, List.length_cons, List.length_nil, true_and, and_true, lit, nI_add]
          exact ih
        · rw [if_neg z] at ih
          simp only [pI] at ih
          simp (disch := omega) only [q_X11_two_85, q_X11_two_88, y_is, y_gf, y_pf, y_f0, y_f1, y_f3, y_nI, y_nK, y_nZ, y_nL, y_nR, y_k1i, y_k1r, y_k1l, y_k1n, y_tl, y_tn, y_s, y_ss, List.getElem?_cons_zero, List.getElem?_cons_succ, List.set_cons_zero, List.set_cons_succ, List.length_cons, List.length_nil, true_and, and_true, lit, nI_add]
          exact ih
  have outer : ∀ d p (x4 : Value), p + d = S.W 0 → wp 181 b 26 [.ref 73, .int (pI (hauW S.W) (-1) (pon (hauW S.W) (S.W 0) p)).1, .int (pI (hauW S.W) (-1) (pon (hauW S.W) (S.W 0) p)).2, .int (nI p), x4] [] g Q := by
    intro d
    induction d with
    | zero =>
      intro p x4 hp
      have e : p = S.W 0 := by omega
      subst e
      have hi9 := hbd i hi
      have hj9 := hbd j hj
      rw [q_X11_two_26]
      simp (disch := omega) only [q_X11_two_27, q_X11_two_28, hM, y_is, y_gf, y_pf, y_f0, y_f1, y_f3, y_nI, y_nK, y_nZ, y_nL, y_nR, y_k1i, y_k1r, y_k1l, y_k1n, y_tl, y_tn, y_s, y_ss, List.getElem?_cons_zero, List.getElem?_cons_succ, List.set_cons_zero, List.set_cons_succ, List.length_cons, List.length_nil, true_and, and_true]
      refine s_watched hM h74 hW ?_
      rw [hij]
      simp (disch := omega) only [q_X11_two_31, q_X11_two_97, q_X11_two_98, q_X11_two_99, q_X11_two_100, q_X11_two_101, hM, y_is, y_gf, y_pf, y_f0, y_f1, y_f3, y_nI, y_nK, y_nZ, y_nL, y_nR, y_k1i, y_k1r, y_k1l, y_k1n, y_tl, y_tn, y_s, y_ss, List.getElem?_cons_zero, List.getElem?_cons_succ, List.set_cons_zero, List.set_cons_succ, List.length_cons, List.length_nil, true_and, and_true, le_n, pI, i_l]
      refine br1 (by first | decide | omega | trivial | simp) (s_mwhole hM h74 hW rfl n9 ?_)
      show wp _ _ _ _ [.int (nI (whW S.W)), _, _] _ _
      simp (disch := omega) only [q_X11_two_104, q_X11_two_105, hM, y_is, y_gf, y_pf, y_f0, y_f1, y_f3, y_nI, y_nK, y_nZ, y_nL, y_nR, y_k1i, y_k1r, y_k1l, y_k1n, y_tl, y_tn, y_s, y_ss, List.getElem?_cons_zero, List.getElem?_cons_succ, List.set_cons_zero, List.set_cons_succ, List.length_cons, List.length_nil, true_and, and_true, i_l]
      refine m_small h (by omega) (by omega) (by omega) (fun g' a1 a2 => ?_)
      simp only [q_X11_two_108, q_X11_two_109, q_X11_two_110, y_is, y_gf, y_pf, y_f0, y_f1, y_f3, y_nI, y_nK, y_nZ, y_nL, y_nR, y_k1i, y_k1r, y_k1l, y_k1n, y_tl, y_tn, y_s, y_ss, List.getElem?_cons_zero, List.getElem?_cons_succ, List.set_cons_zero, List.set_cons_succ, List.length_cons, List.length_nil, true_and, and_true]
      exact hQ g' a1 a2
    | succ d ih =>
      intro p x4 hp
      rw [q_X11_two_26]
      simp (disch := omega) only [q_X11_two_27, q_X11_two_28, hM, y_is, y_gf, y_pf, y_f0, y_f1, y_f3, y_nI, y_nK, y_nZ, y_nL, y_nR, y_k1i, y_k1r, y_k1l, y_k1n, y_tl, y_tn, y_s, y_ss, List.getElem?_cons_zero, List.getElem?_cons_succ, List.set_cons_zero, List.set_cons_succ, List.length_cons, List.length_nil, true_and, and_true]
      refine s_watched hM h74 hW ?_
      simp (disch := omega) only [q_X11_two_31, q_X11_two_34, q_X11_two_35, q_X11_two_36, q_X11_two_37, y_is, y_gf, y_pf, y_f0, y_f1, y_f3, y_nI, y_nK, y_nZ, y_nL, y_nR, y_k1i, y_k1r, y_k1l, y_k1n, y_tl, y_tn, y_s, y_ss, List.getElem?_cons_zero, List.getElem?_cons_succ, List.set_cons_zero, List.set_cons_succ, List.length_cons, List.length_nil, true_and, and_true, lit, le_n, nI_add]
      refine br0 (by omega) ?_
      refine inner p (by omega) (pon (hauW S.W) (S.W 0) p) (fun a c e => pon_b p (by omega) a c e) (fun x4 => ?_) (S.W 0 - (p + 1)) 0 (by omega)
      simp (disch := omega) only [q_X11_two_91, q_X11_two_94, y_is, y_gf, y_pf, y_f0, y_f1, y_f3, y_nI, y_nK, y_nZ, y_nL, y_nR, y_k1i, y_k1r, y_k1l, y_k1n, y_tl, y_tn, y_s, y_ss, List.getElem?_cons_zero, List.getElem?_cons_succ, List.set_cons_zero, List.set_cons_succ, List.length_cons, List.length_nil, true_and, and_true, lit, nI_add]
      exact ih (p + 1) x4 (by omega)
  simp (disch := omega) only [q_X11_two_20, q_X11_two_21, q_X11_two_22, q_X11_two_23, q_X11_two_24, q_X11_two_25, y_is, y_gf, y_pf, y_f0, y_f1, y_f3, y_nI, y_nK, y_nZ, y_nL, y_nR, y_k1i, y_k1r, y_k1l, y_k1n, y_tl, y_tn, y_s, y_ss, List.getElem?_cons_zero, List.getElem?_cons_succ, List.set_cons_zero, List.set_cons_succ, List.length_cons, List.length_nil, true_and, and_true]
  exact outer (S.W 0) 0 _ (by omega)
end MTWO
