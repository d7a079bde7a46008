/-! ===== THE WALL is read: both ===== -/
def oRead (S : sT) : sT × Int32 := match pal S.tb S.tl with
  | .inl f => (S, -10 - nI f)
  | .inr (n, r) => (S.uW (rdW S.W n r), nI n)
theorem cw_rd {v : Nat → Int32} {A B : Nat → Nat → Int32} {W : Nat → Nat} {n : Nat} {r : rowsT} (h : cw v A W) (hd : dr B r) : cw (layv v (nI n)) (cp5 (lay5 A 5) B 5) (rdW W n r) := by
  obtain ⟨a, a2, a3, a4⟩ := cw_lay (n := n) h
  obtain ⟨d1, d2⟩ := hd
  have e : ∀ k, k < 1 ∨ 28 ≤ k → rdW W n r k = layW W n k := fun k hk => by
    unfold rdW
    rw [if_neg (by omega), if_neg (by omega), if_neg (by omega)]
  refine ⟨?_, fun j q hj hq => ?_, fun k hk => ?_, fun k hk => ?_⟩
  · rw [e 0 (by omega), e 46 (by omega), e 47 (by omega), e 48 (by omega), e 49 (by omega), e 50 (by omega), e 87 (by omega), e 100 (by omega)]; exact a
  · unfold cp5
    rw [if_pos hj]
    simp only [if_pos hq]
    by_cases c3 : j < 3
    · rw [d1 j q c3 hq]
      congr 1
      unfold rdW
      by_cases c0 : j = 0
      · subst c0; rw [if_pos (by omega), show 1 + 9 * 0 + q - 1 = q by omega]
      rw [if_neg (by omega)]
      by_cases c1 : j = 1
      · subst c1; rw [if_pos (by omega), show 1 + 9 * 1 + q - 10 = q by omega]
      rw [if_neg (by omega)]
      have c2 : j = 2 := by omega
      subst c2
      rw [if_pos (by omega), show 1 + 9 * 2 + q - 19 = q by omega]
    · rw [e _ (by omega)]
      have k := d2 q hq
      have kz : B j q = nI 0 := by
        by_cases c : j = 3
        · rw [c]; exact k.1
        · rw [show j = 4 by omega]; exact k.2
      rw [kz]
      congr 1
      unfold layW
      (repeat' split) <;> omega
  · show lay5 A 5 5 k = _ ∧ lay5 A 5 6 k = _ ∧ lay5 A 5 7 k = _ ∧ lay5 A 5 8 k = _
    rw [e _ (by omega), e _ (by omega), e _ (by omega), e _ (by omega)]
    exact a3 k hk
  · show lay5 A 5 9 k = _
    rw [e _ (by omega)]
    exact a4 k hk
section READ
variable {b : mzB} {g : mzG} {Q : mzQ} {S : sT}
theorem c_read (hC : CR g S) (hS : sv S) (hQ : cO g (oRead S) Q) : wp 94 b 0 [.ref 0, .null] [] g Q := by
  unfold oRead at hQ
  obtain ⟨⟨a, t, p, va, hT⟩, vd, Ad, hD⟩ := id hC.cT
  simp only [q_X10_read_0, q_X10_read_1, q_X10_read_4, hC.c0.1, hT.1, y_is, y_gf, y_pf, y_f0, y_f1, y_f3, y_nI, y_nK, y_nZ, y_nL, y_nR, y_k1i, y_k1r, y_k1l, y_k1n, y_tl, y_tn, y_s, y_ss, List.getElem?_cons_zero, List.getElem?_cons_succ, List.set_cons_zero, List.set_cons_succ, List.length_cons, List.length_nil, true_and, and_true]
  refine s_parse hT hC.cC hD (fun f e hf g' a' t' va' v' A' h1 h2 h3 => ?_) (fun n r e n1 n9 g' a' t' p' va' v' A' h1 h2 h3 h4 h5 => ?_)
  · rw [e] at hQ
    have hC1 := hC.t (h3.wide (by omega) (by omega)) ⟨⟨_, _, _, _, h1⟩, _, _, h2⟩
    simp (disch := omega) only [q_X10_read_7, q_X10_read_8, q_X10_read_9, q_X10_read_10, q_X10_read_13, q_X10_read_15, q_X10_read_16, q_X10_read_17, y_is, y_gf, y_pf, y_f0, y_f1, y_f3, y_nI, y_nK, y_nZ, y_nL, y_nR, y_k1i, y_k1r, y_k1l, y_k1n, y_tl, y_tn, y_s, y_ss, List.getElem?_cons_zero, List.getElem?_cons_succ, List.set_cons_zero, List.set_cons_succ, List.length_cons, List.length_nil, true_and, and_true]
    refine br0 (fun z => (m1_ne (by omega)).mp z) ?_
    exact hQ g' hC1 (h3.wide (by omega) (by omega))
  · rw [e] at hQ
    have hC1 := hC.t (h5.wide (by omega) (by omega)) ⟨⟨_, _, _, _, h1⟩, _, _, h2⟩
    obtain ⟨vv, A, hw, hc⟩ := id hC1.cW
    simp (disch := omega) only [q_X10_read_7, q_X10_read_8, q_X10_read_9, q_X10_read_10, y_is, y_gf, y_pf, y_f0, y_f1, y_f3, y_nI, y_nK, y_nZ, y_nL, y_nR, y_k1i, y_k1r, y_k1l, y_k1n, y_tl, y_tn, y_s, y_ss, List.getElem?_cons_zero, List.getElem?_cons_succ, List.set_cons_zero, List.set_cons_succ, List.length_cons, List.length_nil, true_and, and_true]
    refine br1 (by first | decide | omega | trivial | simp) ?_
    simp (disch := omega) only [q_X10_read_18, q_X10_read_19, q_X10_read_22, q_X10_read_23, q_X10_read_26, q_X10_read_29, hC1.c0.1, h1.1, hw.1, y_is, y_gf, y_pf, y_f0, y_f1, y_f3, y_nI, y_nK, y_nZ, y_nL, y_nR, y_k1i, y_k1r, y_k1l, y_k1n, y_tl, y_tn, y_s, y_ss, List.getElem?_cons_zero, List.getElem?_cons_succ, List.set_cons_zero, List.set_cons_succ, List.length_cons, List.length_nil, true_and, and_true]
    refine s_takeWall (by omega) (by omega) hw h2 hC1.cC.2.2.2.2.1 (fun g2 k1 k2 => ?_)
    rw [h3] at k1
    have c0 : g2.2 0 = _ := (k2.2 0 (by omega)).trans hC1.c0.1
    simp (disch := omega) only [q_X10_read_32, q_X10_read_33, q_X10_read_36, q_X10_read_39, c0, k1.1, y_is, y_gf, y_pf, y_f0, y_f1, y_f3, y_nI, y_nK, y_nZ, y_nL, y_nR, y_k1i, y_k1r, y_k1l, y_k1n, y_tl, y_tn, y_s, y_ss, List.getElem?_cons_zero, List.getElem?_cons_succ, List.set_cons_zero, List.set_cons_succ, List.length_cons, List.length_nil, true_and, and_true]
    exact hQ g2 (hC1.w k2 ⟨_, _, k1, cw_rd hc h4⟩) ((h5.wide (by omega) (by omega)).tr (k2.wide (by omega) (by omega)))
theorem m_read (h : MR g S) (hS : sv S) (hQ : mO g (oRead S) Q) : wp 219 b 0 [.ref 73, .null] [] g Q := by
  unfold oRead at hQ
  obtain ⟨x, r, hM, x0, x5⟩ := id h.mM
  obtain ⟨f, h74, hW⟩ := id h.mW
  rw [x5] at hM
  refine s_mread hM h74 hW h.mB h.mO (fun p e g' q7 q8 q9 q10 k1 k2 k3 k4 => ?_) (fun n rr e n1 n9 g' f' q6 q7 q8 q9 k1 k2 k3 k4 k5 k6 => ?_)
  · rw [e] at hQ
    obtain ⟨x2, a1, a2, a3⟩ := mo_x k1
    refine hQ g' ?_ ⟨k4, fun k hk => k3 k (by omega) (by omega)⟩
    exact h.o (fun k b1 b2 b3 => k3 k b1 b3) ⟨x2, r, a1, a2.trans x0, a3⟩ ⟨f, by rw [k3 _ (by decide) (by decide)]; exact h74, hW⟩ k2
  · rw [e] at hQ
    obtain ⟨x2, a1, a2, a3⟩ := mo_x k1
    exact hQ g' (h.o k5 ⟨x2, r, a1, a2.trans x0, a3⟩ ⟨f', k2, k3⟩ k4) ⟨k6, fun k hk => k5 k (by omega) (by omega) (by omega)⟩
end READ
