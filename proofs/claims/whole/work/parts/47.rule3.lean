/-! ===== THE RULE: behind a UNIT; the whole text ===== -/
section RULE3
variable {b : mzB} {Q : mzQ}
theorem s_takeBeh {g : mzG} {c a op : Nat} {L : List stp} {w : List Nat} {lb : Bool} (hc : c < 128) (ha : a < 40) (hop : op ≤ 40) (hR : ru g (-1) (bI lb) 0 L w op) (hl : L.length + w.length ≤ 39) (hw : ∀ c, c ∈ w → c < 128) (h41 : c = 41 → 0 < op → ∀ g', ru g' (-1) (bI lb) 0 (rel 1 w L).2 (rel 1 w L).1.tail (op - 1) → fr g g' 30 34 → Q none g') (hno : ¬ (c = 41 ∧ 0 < op) → rk c = 0 ∨ rk c = 6 → ∀ g', ru g' (nI (10 * a + 1)) (bI lb) 0 L w op → fr g g' 30 34 → Q none g') (h3 : rk c = 3 → hd3 (rel 4 w L).1 = false → ∀ g', ru g' (-1) (bI lb) 1 (rel 4 w L).2 (c :: (rel 4 w L).1) op → fr g g' 30 34 → Q none g') (h3' : rk c = 3 → hd3 (rel 4 w L).1 = true → ∀ g', ru g' (nI (10 * a + 1)) (bI lb) 1 (rel 4 w L).2 (c :: (rel 4 w L).1) op → fr g g' 30 34 → Q none g') (hr : rk c ≠ 0 → rk c ≠ 6 → rk c ≠ 3 → ∀ g', ru g' (-1) (bI lb) 1 (rel (rk c) w L).2 (c :: (rel (rk c) w L).1) op → fr g g' 30 34 → Q none g') : wp 43 b 0 [.ref 30, .int (nI c), .int (nI a), .null] [] g Q := by
  have hk := rk_le c
  simp only [q_X5_takeBehind_0, q_X5_takeBehind_1, y_is, y_gf, y_pf, y_f0, y_f1, y_f3, y_nI, y_nK, y_nZ, y_nL, y_nR, y_k1i, y_k1r, y_k1l, y_k1n, y_tl, y_tn, y_s, y_ss, List.getElem?_cons_zero, List.getElem?_cons_succ, List.set_cons_zero, List.set_cons_succ, List.length_cons, List.length_nil, true_and, and_true]
  refine s_rankOf hc ?_
  simp (disch := omega) only [q_X5_takeBehind_4, q_X5_takeBehind_5, q_X5_takeBehind_6, q_X5_takeBehind_8, y_is, y_gf, y_pf, y_f0, y_f1, y_f3, y_nI, y_nK, y_nZ, y_nL, y_nR, y_k1i, y_k1r, y_k1l, y_k1n, y_tl, y_tn, y_s, y_ss, List.getElem?_cons_zero, List.getElem?_cons_succ, List.set_cons_zero, List.set_cons_succ, List.length_cons, List.length_nil, true_and, and_true, lit, eq_n]
  have big : ¬ (c = 41 ∧ 0 < op) → wp 43 b 50 [.ref 30, .int (nI c), .int (nI a), .int (nI (rk c))] [] g Q := by
    intro hn
    have bad : (rk c = 0 ∨ rk c = 6) → wp 43 b 61 [.ref 30, .int (nI c), .int (nI a), .int (nI (rk c))] [] g Q := by
      intro h
      simp (disch := omega) only [q_X5_takeBehind_61, q_X5_takeBehind_62, q_X5_takeBehind_64, q_X5_takeBehind_65, q_X5_takeBehind_66, q_X5_takeBehind_67, q_X5_takeBehind_68, q_X5_takeBehind_71, q_X5_takeBehind_149, hR.1, y_is, y_gf, y_pf, y_f0, y_f1, y_f3, y_nI, y_nK, y_nZ, y_nL, y_nR, y_k1i, y_k1r, y_k1l, y_k1n, y_tl, y_tn, y_s, y_ss, List.getElem?_cons_zero, List.getElem?_cons_succ, List.set_cons_zero, List.set_cons_succ, List.length_cons, List.length_nil, true_and, and_true, lit, pk_mul, nI_add]
      exact ⟨by decide, hno hn h _ hR.nu (fr.rf.hs (by omega) (by omega))⟩
    simp (disch := omega) only [q_X5_takeBehind_50, q_X5_takeBehind_51, q_X5_takeBehind_52, y_is, y_gf, y_pf, y_f0, y_f1, y_f3, y_nI, y_nK, y_nZ, y_nL, y_nR, y_k1i, y_k1r, y_k1l, y_k1n, y_tl, y_tn, y_s, y_ss, List.getElem?_cons_zero, List.getElem?_cons_succ, List.set_cons_zero, List.set_cons_succ, List.length_cons, List.length_nil, true_and, and_true, lit, lt_n]
    refine brs (fun z => bad (Or.inl (by omega))) (fun z => ?_)
    simp (disch := omega) only [q_X5_takeBehind_55, q_X5_takeBehind_56, q_X5_takeBehind_58, y_is, y_gf, y_pf, y_f0, y_f1, y_f3, y_nI, y_nK, y_nZ, y_nL, y_nR, y_k1i, y_k1r, y_k1l, y_k1n, y_tl, y_tn, y_s, y_ss, List.getElem?_cons_zero, List.getElem?_cons_succ, List.set_cons_zero, List.set_cons_succ, List.length_cons, List.length_nil, true_and, and_true, lit, eq_n]
    by_cases h6 : rk c = 6
    · rw [bnt h6]; exact bad (Or.inr h6)
    · rw [bnf h6]
      simp (disch := omega) only [q_X5_takeBehind_74, q_X5_takeBehind_75, q_X5_takeBehind_76, y_is, y_gf, y_pf, y_f0, y_f1, y_f3, y_nI, y_nK, y_nZ, y_nL, y_nR, y_k1i, y_k1r, y_k1l, y_k1n, y_tl, y_tn, y_s, y_ss, List.getElem?_cons_zero, List.getElem?_cons_succ, List.set_cons_zero, List.set_cons_succ, List.length_cons, List.length_nil, true_and, and_true, lit, eq_n]
      by_cases k3 : rk c = 3
      · rw [bnt k3]
        simp (disch := omega) only [q_X5_takeBehind_79, q_X5_takeBehind_80, q_X5_takeBehind_81, q_X5_takeBehind_82, q_X5_takeBehind_83, hR.1, y_is, y_gf, y_pf, y_f0, y_f1, y_f3, y_nI, y_nK, y_nZ, y_nL, y_nR, y_k1i, y_k1r, y_k1l, y_k1n, y_tl, y_tn, y_s, y_ss, List.getElem?_cons_zero, List.getElem?_cons_succ, List.set_cons_zero, List.set_cons_succ, List.length_cons, List.length_nil, true_and, and_true, lit, nI_add]
        rw [k3]
        refine s_release g (by omega) (rel 4 w L) (fun g1 hR1 hf1 => ?_) w L g hR (by omega) hw fr.rf rfl
        obtain ⟨l1, l2⟩ := rel_len 4 w L
        have hm := fun d hd => hw d (rel_mem 4 w L d hd)
        have go : ∀ fl, (∀ g', ru g' fl (bI lb) 1 (rel 4 w L).2 (c :: (rel 4 w L).1) op → fr g g' 30 34 → Q none g') → ∀ g2, ru g2 fl (bI lb) 0 (rel 4 w L).2 (rel 4 w L).1 op → fr g g2 30 34 → wp 43 b 121 [.ref 30, .int (nI c), .int (nI a), .int (nI 3)] [] g2 Q := by
          intro fl k g2 hR2 hf2
          simp (disch := omega) only [q_X5_takeBehind_121, q_X5_takeBehind_122, q_X5_takeBehind_123, hR2.1, y_is, y_gf, y_pf, y_f0, y_f1, y_f3, y_nI, y_nK, y_nZ, y_nL, y_nR, y_k1i, y_k1r, y_k1l, y_k1n, y_tl, y_tn, y_s, y_ss, List.getElem?_cons_zero, List.getElem?_cons_succ, List.set_cons_zero, List.set_cons_succ, List.length_cons, List.length_nil, true_and, and_true]
          refine s_hold hR2 (by omega) (fun g3 hR3 hf3 => ?_)
          simp (disch := omega) only [q_X5_takeBehind_126, q_X5_takeBehind_127, q_X5_takeBehind_128, q_X5_takeBehind_131, q_X5_takeBehind_149, hR3.1, y_is, y_gf, y_pf, y_f0, y_f1, y_f3, y_nI, y_nK, y_nZ, y_nL, y_nR, y_k1i, y_k1r, y_k1l, y_k1n, y_tl, y_tn, y_s, y_ss, List.getElem?_cons_zero, List.getElem?_cons_succ, List.set_cons_zero, List.set_cons_succ, List.length_cons, List.length_nil, true_and, and_true, y_f2]
          exact ⟨by decide, k _ hR3.nu ((hf2.tr hf3).hs (by omega) (by omega))⟩
        cases hq : (rel 4 w L).1 with
        | nil =>
          have hR1' := hR1
          rw [hq] at hR1'
          simp (disch := omega) only [q_X5_takeBehind_86, q_X5_takeBehind_87, q_X5_takeBehind_90, hR1'.1, y_is, y_gf, y_pf, y_f0, y_f1, y_f3, y_nI, y_nK, y_nZ, y_nL, y_nR, y_k1i, y_k1r, y_k1l, y_k1n, y_tl, y_tn, y_s, y_ss, List.getElem?_cons_zero, List.getElem?_cons_succ, List.set_cons_zero, List.set_cons_succ, List.length_cons, List.length_nil, true_and, and_true, lit, le_n]
          exact br1 (by first | decide | omega | trivial | simp) (go (-1) (h3 k3 (by rw [hq]; rfl)) g1 hR1 hf1)
        | cons d w1 =>
          have hR1' := hR1
          rw [hq] at hR1' l1 l2
          simp only [List.length_cons] at l1 l2
          have hdd := hm d (by rw [hq]; exact List.mem_cons_self)
          obtain ⟨i1, -, ⟨f3, i3, i3'⟩, -⟩ := id hR1'
          have t1 : f3 w1.length = nI d := by have := i3'.1; rw [List.length_map] at this; exact this
          simp (disch := omega) only [q_X5_takeBehind_86, q_X5_takeBehind_87, q_X5_takeBehind_90, q_X5_takeBehind_93, q_X5_takeBehind_94, q_X5_takeBehind_97, q_X5_takeBehind_98, q_X5_takeBehind_101, q_X5_takeBehind_102, q_X5_takeBehind_103, q_X5_takeBehind_104, i1, i3, y_is, y_gf, y_pf, y_f0, y_f1, y_f3, y_nI, y_nK, y_nZ, y_nL, y_nR, y_k1i, y_k1r, y_k1l, y_k1n, y_tl, y_tn, y_s, y_ss, List.getElem?_cons_zero, List.getElem?_cons_succ, List.set_cons_zero, List.set_cons_succ, List.length_cons, List.length_nil, true_and, and_true, y_lIn, y_lKn, y_lZn, y_lLn, y_wIn, y_wZn, y_wLn, lit, le_n, lt_n, eq_n, lit, pk_sub, Nat.add_sub_cancel, t1]
          refine br0 (by first | decide | omega | trivial | simp) (s_rankOf hdd ?_)
          have hkd := rk_le d
          simp (disch := omega) only [q_X5_takeBehind_107, q_X5_takeBehind_108, y_is, y_gf, y_pf, y_f0, y_f1, y_f3, y_nI, y_nK, y_nZ, y_nL, y_nR, y_k1i, y_k1r, y_k1l, y_k1n, y_tl, y_tn, y_s, y_ss, List.getElem?_cons_zero, List.getElem?_cons_succ, List.set_cons_zero, List.set_cons_succ, List.length_cons, List.length_nil, true_and, and_true, lit, eq_n]
          by_cases e3 : rk d = 3
          · rw [bnt e3]
            simp (disch := omega) only [q_X5_takeBehind_111, q_X5_takeBehind_112, q_X5_takeBehind_114, q_X5_takeBehind_115, q_X5_takeBehind_116, q_X5_takeBehind_117, q_X5_takeBehind_118, i1, y_is, y_gf, y_pf, y_f0, y_f1, y_f3, y_nI, y_nK, y_nZ, y_nL, y_nR, y_k1i, y_k1r, y_k1l, y_k1n, y_tl, y_tn, y_s, y_ss, List.getElem?_cons_zero, List.getElem?_cons_succ, List.set_cons_zero, List.set_cons_succ, List.length_cons, List.length_nil, true_and, and_true, lit, pk_mul, nI_add]
            refine ⟨by decide, go _ (h3' k3 (by rw [hq]; simp [hd3, e3])) _ ?_ (hf1.hs (by omega) (by omega))⟩
            have := hR1'.nu (fl' := nI (10 * a + 1)) (lb' := bI lb) (due' := 0) (op' := op)
            rw [hq]; exact this
          · rw [bnf e3]
            exact go (-1) (h3 k3 (by rw [hq]; simp [hd3, e3])) g1 hR1 hf1
      · rw [bnf k3]
        simp (disch := omega) only [q_X5_takeBehind_134, q_X5_takeBehind_135, q_X5_takeBehind_136, hR.1, y_is, y_gf, y_pf, y_f0, y_f1, y_f3, y_nI, y_nK, y_nZ, y_nL, y_nR, y_k1i, y_k1r, y_k1l, y_k1n, y_tl, y_tn, y_s, y_ss, List.getElem?_cons_zero, List.getElem?_cons_succ, List.set_cons_zero, List.set_cons_succ, List.length_cons, List.length_nil, true_and, and_true]
        refine s_release g (by omega) (rel (rk c) w L) (fun g1 hR1 hf1 => ?_) w L g hR (by omega) hw fr.rf rfl
        obtain ⟨l1, l2⟩ := rel_len (rk c) w L
        simp (disch := omega) only [q_X5_takeBehind_139, q_X5_takeBehind_140, q_X5_takeBehind_141, hR1.1, y_is, y_gf, y_pf, y_f0, y_f1, y_f3, y_nI, y_nK, y_nZ, y_nL, y_nR, y_k1i, y_k1r, y_k1l, y_k1n, y_tl, y_tn, y_s, y_ss, List.getElem?_cons_zero, List.getElem?_cons_succ, List.set_cons_zero, List.set_cons_succ, List.length_cons, List.length_nil, true_and, and_true]
        refine s_hold hR1 (by omega) (fun g3 hR3 hf3 => ?_)
        simp (disch := omega) only [q_X5_takeBehind_144, q_X5_takeBehind_145, q_X5_takeBehind_146, q_X5_takeBehind_149, hR3.1, y_is, y_gf, y_pf, y_f0, y_f1, y_f3, y_nI, y_nK, y_nZ, y_nL, y_nR, y_k1i, y_k1r, y_k1l, y_k1n, y_tl, y_tn, y_s, y_ss, List.getElem?_cons_zero, List.getElem?_cons_succ, List.set_cons_zero, List.set_cons_succ, List.length_cons, List.length_nil, true_and, and_true, y_f2]
        exact ⟨by decide, hr (by omega) h6 k3 _ hR3.nu ((hf1.tr hf3).hs (by omega) (by omega))⟩
  by_cases c41 : c = 41
  · rw [bnt c41]
    simp (disch := omega) only [q_X5_takeBehind_11, q_X5_takeBehind_12, q_X5_takeBehind_15, hR.1, y_is, y_gf, y_pf, y_f0, y_f1, y_f3, y_nI, y_nK, y_nZ, y_nL, y_nR, y_k1i, y_k1r, y_k1l, y_k1n, y_tl, y_tn, y_s, y_ss, List.getElem?_cons_zero, List.getElem?_cons_succ, List.set_cons_zero, List.set_cons_succ, List.length_cons, List.length_nil, true_and, and_true, lit, le_n]
    refine brs (fun z => big (fun q => by omega)) (fun z => ?_)
    simp (disch := omega) only [q_X5_takeBehind_18, q_X5_takeBehind_19, q_X5_takeBehind_20, hR.1, y_is, y_gf, y_pf, y_f0, y_f1, y_f3, y_nI, y_nK, y_nZ, y_nL, y_nR, y_k1i, y_k1r, y_k1l, y_k1n, y_tl, y_tn, y_s, y_ss, List.getElem?_cons_zero, List.getElem?_cons_succ, List.set_cons_zero, List.set_cons_succ, List.length_cons, List.length_nil, true_and, and_true, lit]
    refine s_release g (by omega) (rel 1 w L) (fun g1 hR1 hf1 => ?_) w L g hR (by omega) hw fr.rf rfl
    obtain ⟨l1, l2⟩ := rel_len 1 w L
    have k41 := h41 c41 (by omega)
    generalize rel 1 w L = RR at hR1 k41 l1 l2
    obtain ⟨w1, L1⟩ := RR
    cases w1 with
    | nil =>
      simp (disch := omega) only [q_X5_takeBehind_23, q_X5_takeBehind_24, q_X5_takeBehind_25, q_X5_takeBehind_26, q_X5_takeBehind_29, q_X5_takeBehind_30, q_X5_takeBehind_31, hR1.1, y_is, y_gf, y_pf, y_f0, y_f1, y_f3, y_nI, y_nK, y_nZ, y_nL, y_nR, y_k1i, y_k1r, y_k1l, y_k1n, y_tl, y_tn, y_s, y_ss, List.getElem?_cons_zero, List.getElem?_cons_succ, List.set_cons_zero, List.set_cons_succ, List.length_cons, List.length_nil, true_and, and_true, lit]
      rw [if_neg (by decide)]
      simp (disch := omega) only [q_X5_takeBehind_34, q_X5_takeBehind_37, q_X5_takeBehind_38, q_X5_takeBehind_39, q_X5_takeBehind_42, q_X5_takeBehind_43, q_X5_takeBehind_44, q_X5_takeBehind_47, q_X5_takeBehind_149, hR1.1, y_is, y_gf, y_pf, y_f0, y_f1, y_f3, y_nI, y_nK, y_nZ, y_nL, y_nR, y_k1i, y_k1r, y_k1l, y_k1n, y_tl, y_tn, y_s, y_ss, List.getElem?_cons_zero, List.getElem?_cons_succ, List.set_cons_zero, List.set_cons_succ, List.length_cons, List.length_nil, true_and, and_true, lit, pk_sub]
      exact ⟨by decide, by decide, k41 _ (hR1.nu (op' := op - 1)) (hf1.hs (by omega) (by omega))⟩
    | cons d w1 =>
      simp only [List.length_cons] at l1 l2
      simp (disch := omega) only [q_X5_takeBehind_23, q_X5_takeBehind_24, q_X5_takeBehind_25, q_X5_takeBehind_26, q_X5_takeBehind_29, q_X5_takeBehind_30, q_X5_takeBehind_31, hR1.1, y_is, y_gf, y_pf, y_f0, y_f1, y_f3, y_nI, y_nK, y_nZ, y_nL, y_nR, y_k1i, y_k1r, y_k1l, y_k1n, y_tl, y_tn, y_s, y_ss, List.getElem?_cons_zero, List.getElem?_cons_succ, List.set_cons_zero, List.set_cons_succ, List.length_cons, List.length_nil, true_and, and_true, lit, pk_sub, Nat.add_sub_cancel]
      rw [show (if nI 0 < nI w1.length then nI w1.length else nI 0) = nI w1.length by
        split
        · rfl
        · rename_i z
          rw [lt_n (by omega) (by omega)] at z
          rw [show w1.length = 0 by omega]]
      simp (disch := omega) only [q_X5_takeBehind_34, q_X5_takeBehind_37, q_X5_takeBehind_38, q_X5_takeBehind_39, q_X5_takeBehind_42, q_X5_takeBehind_43, q_X5_takeBehind_44, q_X5_takeBehind_47, q_X5_takeBehind_149, hR1.1, y_is, y_gf, y_pf, y_f0, y_f1, y_f3, y_nI, y_nK, y_nZ, y_nL, y_nR, y_k1i, y_k1r, y_k1l, y_k1n, y_tl, y_tn, y_s, y_ss, List.getElem?_cons_zero, List.getElem?_cons_succ, List.set_cons_zero, List.set_cons_succ, List.length_cons, List.length_nil, true_and, and_true, lit, pk_sub]
      refine ⟨by decide, by decide, k41 _ ?_ (hf1.hs (by omega) (by omega))⟩
      have := (hR1.pop).nu (fl' := -1) (lb' := bI lb) (due' := 0) (op' := op - 1)
      rw [y_ss] at this
      exact this
  · rw [bnf c41]
    exact big (fun q => c41 q.1)
/-- a step is in order -/
def sok (lb : Bool) (x : stp) : Prop := match x with
  | .inl v => v < 1000000
  | .inr c => 0 < c ∧ c < 128 ∧ (lb = false → c ≠ 108)
/-- a sign that waits -/
def wok (c : Nat) : Prop := c = 40 ∨ rk c ≠ 0
theorem wok_lt {c : Nat} (h : wok c) : 0 < c ∧ c < 128 ∧ c ≠ 108 := by
  rcases h with h | h
  · omega
  · unfold rk at h
    repeat' split at h
    all_goals omega
theorem rel_cnt {r : Nat} (hr : 1 ≤ r) : ∀ w L, (rel r w L).1.count 40 = w.count 40
  | [], L => by simp [rel]
  | c :: w, L => by
    rw [rel]
    split
    · rename_i h
      have hc : c ≠ 40 := fun e => by rw [e] at h; have : rk 40 = 0 := rfl; omega
      rw [rel_cnt hr w _, List.count_cons_of_ne hc]
    · rfl
theorem rel1_head : ∀ w L, (∀ c, c ∈ w → wok c) → (rel 1 w L).1 = [] ∨ ∃ w1, (rel 1 w L).1 = 40 :: w1
  | [], L, _ => Or.inl rfl
  | c :: w, L, h => by
    rw [rel]
    split
    · exact rel1_head w _ (fun d hd => h d (List.mem_cons_of_mem _ hd))
    · rename_i hc
      rcases h c List.mem_cons_self with e | e
      · exact Or.inr ⟨w, by rw [e]⟩
      · omega
theorem s_comp_loop {g0 : mzG} {r len : Nat} {f : Nat → Int32} {ch : Nat → Nat} (hr : 100 ≤ r ∨ r < 30) (hc : g0.2 r = aI 40 f) (hch : ∀ i, i < len → f i = nI (ch i) ∧ ch i < 128) (hlen : len ≤ 40) (R : cR) (hfl : ∀ fl x3 x4, R = .inl fl → ∀ g' lb due L w op, ru g' (nI fl) lb due L w op → L.length + w.length ≤ 40 → (∀ c, c ∈ w → c < 128) → fr g0 g' 30 34 → wp 40 b 133 [.ref 30, .ref r, .int (nI len), .int x3, .int x4] [] g' Q) (hok : ∀ L w op due lb x3 x4, R = .inr (L, w, op, due, lb) → ∀ g', ru g' (-1) (bI lb) (bI due) L w op → L.length + w.length ≤ 40 → op = w.count 40 → (∀ c, c ∈ w → wok c) → (∀ x, x ∈ L → sok lb x) → fr g0 g' 30 34 → wp 40 b 133 [.ref 30, .ref r, .int (nI len), .int x3, .int x4] [] g' Q) : ∀ (m a k d : Nat) (L : List stp) (w : List Nat) (op : Nat) (due lb : Bool) (g : mzG), a + m = len → k ≤ a → m ≤ d → crun ch len d a L w op due lb = R → ru g (-1) (bI lb) (bI due) L w op → L.length + w.length ≤ a → op = w.count 40 → (∀ c, c ∈ w → wok c) → (∀ x, x ∈ L → sok lb x) → fr g0 g 30 34 → wp 40 b 35 [.ref 30, .ref r, .int (nI len), .int (nI a), .int (nI k)] [] g Q := by
  intro m
  induction m using Nat.strongRecOn with
  | _ m ih =>
    intro a k d L w op due lb g ha hk hd hR hG hl hop hw hL hf
    have hcg : g.2 r = aI 40 f := by rw [hf.2 r (by omega)]; exact hc
    have hopl : op ≤ w.length := by rw [hop]; exact List.count_le_length
    cases m with
    | zero =>
      -- the end of the text
      have hR' : R = .inr (L, w, op, due, lb) := by
        cases d with
        | zero => rw [← hR]; rfl
        | succ d =>
          rw [← hR, crun, show len - a = 0 by omega, skp, cstep, if_pos (by omega)]
      have fin := hok L w op due lb (nI a) (nI k) hR' g hG (by omega) hop hw hL hf
      rw [q_X5_compile_35]
      simp (disch := omega) only [q_X5_compile_37, q_X5_compile_38, q_X5_compile_41, q_X5_compile_42, q_X5_compile_43, y_is, y_gf, y_pf, y_f0, y_f1, y_f3, y_nI, y_nK, y_nZ, y_nL, y_nR, y_k1i, y_k1r, y_k1l, y_k1n, y_tl, y_tn, y_s, y_ss, List.getElem?_cons_zero, List.getElem?_cons_succ, List.set_cons_zero, List.set_cons_succ, List.length_cons, List.length_nil, true_and, and_true, y_lIn, y_lKn, y_lZn, y_lLn, y_wIn, y_wZn, y_wLn, lit, le_n, lt_n, eq_n, lit, litL, le_n, lt_n, eq_n, nI_add, m_neg, pk_sub, pk_mul, i_l, l_i, l_add, l_mul, l_sub, lc_le, lc_ge, lc_lt, lc_gt, lc_eq, l_rem2, l_rem3, i_rem2, i_rem3]
      exact brs (fun _ => fin) (fun _ => br1 (by omega) fin)
    | succ m =>
      cases d with
      | zero => omega
      | succ d =>
        obtain ⟨e1, e2⟩ := hch a (by omega)
        rw [q_X5_compile_35]
        simp (disch := omega) only [q_X5_compile_37, q_X5_compile_38, q_X5_compile_41, q_X5_compile_42, q_X5_compile_43, q_X5_compile_46, q_X5_compile_47, q_X5_compile_50, q_X5_compile_51, hG.1, y_is, y_gf, y_pf, y_f0, y_f1, y_f3, y_nI, y_nK, y_nZ, y_nL, y_nR, y_k1i, y_k1r, y_k1l, y_k1n, y_tl, y_tn, y_s, y_ss, List.getElem?_cons_zero, List.getElem?_cons_succ, List.set_cons_zero, List.set_cons_succ, List.length_cons, List.length_nil, true_and, and_true, y_lIn, y_lKn, y_lZn, y_lLn, y_wIn, y_wZn, y_wLn, lit, le_n, lt_n, eq_n, lit, litL, le_n, lt_n, eq_n, nI_add, m_neg, pk_sub, pk_mul, i_l, l_i, l_add, l_mul, l_sub, lc_le, lc_ge, lc_lt, lc_gt, lc_eq, l_rem2, l_rem3, i_rem2, i_rem3]
        refine br0 (by omega) (br0 (by omega) ?_)
        refine br0 (fun z => z (by first | decide | omega | trivial | simp)) ?_
        simp (disch := omega) only [q_X5_compile_54, q_X5_compile_55, q_X5_compile_56, q_X5_compile_57, q_X5_compile_59, hcg, e1, y_is, y_gf, y_pf, y_f0, y_f1, y_f3, y_nI, y_nK, y_nZ, y_nL, y_nR, y_k1i, y_k1r, y_k1l, y_k1n, y_tl, y_tn, y_s, y_ss, List.getElem?_cons_zero, List.getElem?_cons_succ, List.set_cons_zero, List.set_cons_succ, List.length_cons, List.length_nil, true_and, and_true, y_lIn, y_lKn, y_lZn, y_lLn, y_wIn, y_wZn, y_wLn, lit, le_n, lt_n, eq_n]
        by_cases sp : ch a = 32
        · -- a space
          rw [bnt sp]
          simp (disch := omega) only [q_X5_compile_62, q_X5_compile_65, q_X5_compile_127, q_X5_compile_130, y_is, y_gf, y_pf, y_f0, y_f1, y_f3, y_nI, y_nK, y_nZ, y_nL, y_nR, y_k1i, y_k1r, y_k1l, y_k1n, y_tl, y_tn, y_s, y_ss, List.getElem?_cons_zero, List.getElem?_cons_succ, List.set_cons_zero, List.set_cons_succ, List.length_cons, List.length_nil, true_and, and_true, lit, nI_add]
          refine ih m (by omega) (a + 1) (k + 1) (d + 1) L w op due lb g (by omega) (by omega) (by omega) ?_ hG (by omega) hop hw hL hf
          rw [← hR, crun, crun, show len - a = (len - (a + 1)) + 1 by omega, skp, if_pos sp]
        · rw [bnf sp]
          rw [crun, show len - a = (len - (a + 1)) + 1 by omega, skp, if_neg sp, cstep, if_neg (by omega)] at hR
          -- on behind a sign
          have nx : ∀ x3, x3 = nI (a + 1) → ∀ L w op due lb (g : mzG), crun ch len d (a + 1) L w op due lb = R → ru g (-1) (bI lb) (bI due) L w op → L.length + w.length ≤ a + 1 → op = w.count 40 → (∀ c, c ∈ w → wok c) → (∀ x, x ∈ L → sok lb x) → fr g0 g 30 34 → wp 40 b 127 [.ref 30, .ref r, .int (nI len), .int x3, .int (nI k)] [] g Q := by
            intro x3 hx L w op due lb g q1 q2 q3 q4 q5 q6 q7
            subst hx
            simp (disch := omega) only [q_X5_compile_127, q_X5_compile_130, y_is, y_gf, y_pf, y_f0, y_f1, y_f3, y_nI, y_nK, y_nZ, y_nL, y_nR, y_k1i, y_k1r, y_k1l, y_k1n, y_tl, y_tn, y_s, y_ss, List.getElem?_cons_zero, List.getElem?_cons_succ, List.set_cons_zero, List.set_cons_succ, List.length_cons, List.length_nil, true_and, and_true, lit, nI_add]
            exact ih m (by omega) (a + 1) (k + 1) d L w op due lb g (by omega) (by omega) (by omega) q1 q2 q3 q4 q5 q6 q7
          -- a flaw: the loop ends
          have fw : ∀ fl x3, R = .inl fl → fl < 10000 → ∀ g' lb due L w op, ru g' (nI fl) lb due L w op → L.length + w.length ≤ 40 → (∀ c, c ∈ w → c < 128) → fr g0 g' 30 34 → wp 40 b 127 [.ref 30, .ref r, .int (nI len), .int x3, .int (nI k)] [] g' Q := by
            intro fl x3 hx hfl' g' lb' due' L' w' op' q1 q2 q3 q4
            have fin := fun x3 x4 => hfl fl x3 x4 hx g' lb' due' L' w' op' q1 q2 q3 q4
            simp (disch := omega) only [q_X5_compile_127, q_X5_compile_130, y_is, y_gf, y_pf, y_f0, y_f1, y_f3, y_nI, y_nK, y_nZ, y_nL, y_nR, y_k1i, y_k1r, y_k1l, y_k1n, y_tl, y_tn, y_s, y_ss, List.getElem?_cons_zero, List.getElem?_cons_succ, List.set_cons_zero, List.set_cons_succ, List.length_cons, List.length_nil, true_and, and_true, lit, nI_add]
            rw [q_X5_compile_35]
            simp (disch := omega) only [q_X5_compile_37, q_X5_compile_38, y_is, y_gf, y_pf, y_f0, y_f1, y_f3, y_nI, y_nK, y_nZ, y_nL, y_nR, y_k1i, y_k1r, y_k1l, y_k1n, y_tl, y_tn, y_s, y_ss, List.getElem?_cons_zero, List.getElem?_cons_succ, List.set_cons_zero, List.set_cons_succ, List.length_cons, List.length_nil, true_and, and_true]
            refine brs (fun _ => fin _ _) (fun _ => ?_)
            simp (disch := omega) only [q_X5_compile_41, q_X5_compile_42, q_X5_compile_43, y_is, y_gf, y_pf, y_f0, y_f1, y_f3, y_nI, y_nK, y_nZ, y_nL, y_nR, y_k1i, y_k1r, y_k1l, y_k1n, y_tl, y_tn, y_s, y_ss, List.getElem?_cons_zero, List.getElem?_cons_succ, List.set_cons_zero, List.set_cons_succ, List.length_cons, List.length_nil, true_and, and_true]
            refine brs (fun _ => fin _ _) (fun _ => ?_)
            simp (disch := omega) only [q_X5_compile_46, q_X5_compile_47, q_X5_compile_50, q_X5_compile_51, q1.1, y_is, y_gf, y_pf, y_f0, y_f1, y_f3, y_nI, y_nK, y_nZ, y_nL, y_nR, y_k1i, y_k1r, y_k1l, y_k1n, y_tl, y_tn, y_s, y_ss, List.getElem?_cons_zero, List.getElem?_cons_succ, List.set_cons_zero, List.set_cons_succ, List.length_cons, List.length_nil, true_and, and_true]
            exact br1 (fun z => (m1_ne (by omega)).mp z) (fin _ _)
          have hw8 : ∀ c, c ∈ w → c < 128 := fun c h => (wok_lt (hw c h)).2.1
          cases due with
          | true =>
            simp only [if_true] at hR
            simp (disch := omega) only [q_X5_compile_68, q_X5_compile_69, q_X5_compile_72, hG.1, y_is, y_gf, y_pf, y_f0, y_f1, y_f3, y_nI, y_nK, y_nZ, y_nL, y_nR, y_k1i, y_k1r, y_k1l, y_k1n, y_tl, y_tn, y_s, y_ss, List.getElem?_cons_zero, List.getElem?_cons_succ, List.set_cons_zero, List.set_cons_succ, List.length_cons, List.length_nil, true_and, and_true]
            refine br0 (by decide) ?_
            simp (disch := omega) only [q_X5_compile_75, q_X5_compile_76, q_X5_compile_77, q_X5_compile_78, hcg, e1, y_is, y_gf, y_pf, y_f0, y_f1, y_f3, y_nI, y_nK, y_nZ, y_nL, y_nR, y_k1i, y_k1r, y_k1l, y_k1n, y_tl, y_tn, y_s, y_ss, List.getElem?_cons_zero, List.getElem?_cons_succ, List.set_cons_zero, List.set_cons_succ, List.length_cons, List.length_nil, true_and, and_true, y_lIn, y_lKn, y_lZn, y_lLn, y_wIn, y_wZn, y_wLn, lit, le_n, lt_n, eq_n]
            refine s_isDigit (by omega) ?_
            cases hD : dg (ch a) with
            | true =>
              rw [if_pos hD] at hR
              simp only [if_true, q_X5_compile_81, y_is, y_gf, y_pf, y_f0, y_f1, y_f3, y_nI, y_nK, y_nZ, y_nL, y_nR, y_k1i, y_k1r, y_k1l, y_k1n, y_tl, y_tn, y_s, y_ss, List.getElem?_cons_zero, List.getElem?_cons_succ, List.set_cons_zero, List.set_cons_succ, List.length_cons, List.length_nil, true_and, and_true]
              refine br0 (by first | decide | omega | trivial | simp) ?_
              have hdl := dn_le ch (len - a) a
              have hdp := dn_pos (ch := ch) (d := len - a) (e := a) (by omega) hD
              simp (disch := omega) only [q_X5_compile_84, q_X5_compile_85, q_X5_compile_86, q_X5_compile_87, q_X5_compile_88, hG.1, y_is, y_gf, y_pf, y_f0, y_f1, y_f3, y_nI, y_nK, y_nZ, y_nL, y_nR, y_k1i, y_k1r, y_k1l, y_k1n, y_tl, y_tn, y_s, y_ss, List.getElem?_cons_zero, List.getElem?_cons_succ, List.set_cons_zero, List.set_cons_succ, List.length_cons, List.length_nil, true_and, and_true]
              refine s_takeDigits hr hcg hch hlen (by omega) hG (by omega) (fun h6 g' hR' hf' => ?_) (fun h6 g' hR' hf' => ?_)
              · rw [if_pos h6] at hR
                simp (disch := omega) only [q_X5_compile_91, q_X5_compile_92, y_is, y_gf, y_pf, y_f0, y_f1, y_f3, y_nI, y_nK, y_nZ, y_nL, y_nR, y_k1i, y_k1r, y_k1l, y_k1n, y_tl, y_tn, y_s, y_ss, List.getElem?_cons_zero, List.getElem?_cons_succ, List.set_cons_zero, List.set_cons_succ, List.length_cons, List.length_nil, true_and, and_true]
                exact fw _ _ hR.symm (by omega) g' _ _ _ _ _ hR' (by omega) hw8 (hf.tr hf')
              · rw [if_neg h6] at hR
                have hv := dv_le (ch := ch) (a := a) (k := dn ch (len - a) a) (fun j hj => dn_all hj)
                have hp : 10 ^ dn ch (len - a) a ≤ 10 ^ 6 := Nat.pow_le_pow_right (by decide) (by omega)
                simp (disch := omega) only [q_X5_compile_91, q_X5_compile_92, q_X5_compile_127, q_X5_compile_130, y_is, y_gf, y_pf, y_f0, y_f1, y_f3, y_nI, y_nK, y_nZ, y_nL, y_nR, y_k1i, y_k1r, y_k1l, y_k1n, y_tl, y_tn, y_s, y_ss, List.getElem?_cons_zero, List.getElem?_cons_succ, List.set_cons_zero, List.set_cons_succ, List.length_cons, List.length_nil, true_and, and_true, lit, nI_add]
                refine ih (len - (a + dn ch (len - a) a)) (by omega) _ (k + 1) d _ w op false lb g' (by omega) (by omega) (by omega) hR hR' (by simp only [List.length_cons]; omega) hop hw (fun x hx => ?_) (hf.tr hf')
                rcases List.mem_cons.mp hx with e | e
                · subst e; show _ < 1000000; omega
                · exact hL x e
            | false =>
              rw [if_neg (by rw [hD]; decide)] at hR
              simp only [Bool.false_eq_true, if_false, q_X5_compile_81, y_is, y_gf, y_pf, y_f0, y_f1, y_f3, y_nI, y_nK, y_nZ, y_nL, y_nR, y_k1i, y_k1r, y_k1l, y_k1n, y_tl, y_tn, y_s, y_ss, List.getElem?_cons_zero, List.getElem?_cons_succ, List.set_cons_zero, List.set_cons_succ, List.length_cons, List.length_nil, true_and, and_true]
              refine br1 (by first | decide | omega | trivial | simp) ?_
              simp (disch := omega) only [q_X5_compile_95, q_X5_compile_96, q_X5_compile_99, hG.1, y_is, y_gf, y_pf, y_f0, y_f1, y_f3, y_nI, y_nK, y_nZ, y_nL, y_nR, y_k1i, y_k1r, y_k1l, y_k1n, y_tl, y_tn, y_s, y_ss, List.getElem?_cons_zero, List.getElem?_cons_succ, List.set_cons_zero, List.set_cons_succ, List.length_cons, List.length_nil, true_and, and_true]
              refine br0 (by decide) ?_
              simp (disch := omega) only [q_X5_compile_102, q_X5_compile_103, q_X5_compile_104, q_X5_compile_105, q_X5_compile_106, q_X5_compile_107, hG.1, hcg, e1, y_is, y_gf, y_pf, y_f0, y_f1, y_f3, y_nI, y_nK, y_nZ, y_nL, y_nR, y_k1i, y_k1r, y_k1l, y_k1n, y_tl, y_tn, y_s, y_ss, List.getElem?_cons_zero, List.getElem?_cons_succ, List.set_cons_zero, List.set_cons_succ, List.length_cons, List.length_nil, true_and, and_true, y_lIn, y_lKn, y_lZn, y_lLn, y_wIn, y_wZn, y_wLn, lit, le_n, lt_n, eq_n]
              refine s_takeBeg e2 (by omega) (by omega) hG (by omega) ?_ ?_ ?_ ?_ ?_ ?_
              · intro c1 c2 g' hR' hf'
                rw [if_pos c1, if_neg c2] at hR
                simp (disch := omega) only [q_X5_compile_110, q_X5_compile_113, y_is, y_gf, y_pf, y_f0, y_f1, y_f3, y_nI, y_nK, y_nZ, y_nL, y_nR, y_k1i, y_k1r, y_k1l, y_k1n, y_tl, y_tn, y_s, y_ss, List.getElem?_cons_zero, List.getElem?_cons_succ, List.set_cons_zero, List.set_cons_succ, List.length_cons, List.length_nil, true_and, and_true, lit, nI_add]
                exact nx _ rfl L (40 :: w) (op + 1) true lb g' hR hR' (by simp only [List.length_cons]; omega) (by rw [List.count_cons_self, hop]) (fun c h => (List.mem_cons.mp h).elim (fun e => Or.inl e) (hw c)) hL (hf.tr hf')
              · intro c1 c2 g' hR' hf'
                rw [if_pos c1, if_pos c2] at hR
                simp (disch := omega) only [q_X5_compile_110, q_X5_compile_113, y_is, y_gf, y_pf, y_f0, y_f1, y_f3, y_nI, y_nK, y_nZ, y_nL, y_nR, y_k1i, y_k1r, y_k1l, y_k1n, y_tl, y_tn, y_s, y_ss, List.getElem?_cons_zero, List.getElem?_cons_succ, List.set_cons_zero, List.set_cons_succ, List.length_cons, List.length_nil, true_and, and_true, lit, nI_add]
                exact fw _ _ hR.symm (by omega) g' _ _ _ _ _ hR' (by omega) hw8 (hf.tr hf')
              · intro c1 g' hR' hf'
                rw [if_neg (by omega), if_pos c1] at hR
                simp (disch := omega) only [q_X5_compile_110, q_X5_compile_113, y_is, y_gf, y_pf, y_f0, y_f1, y_f3, y_nI, y_nK, y_nZ, y_nL, y_nR, y_k1i, y_k1r, y_k1l, y_k1n, y_tl, y_tn, y_s, y_ss, List.getElem?_cons_zero, List.getElem?_cons_succ, List.set_cons_zero, List.set_cons_succ, List.length_cons, List.length_nil, true_and, and_true, lit, nI_add]
                exact nx _ rfl L (33 :: w) op true lb g' hR hR' (by simp only [List.length_cons]; omega) (by rw [List.count_cons_of_ne (by decide)]; exact hop) (fun c h => (List.mem_cons.mp h).elim (fun e => Or.inr (by rw [e]; decide)) (hw c)) hL (hf.tr hf')
              · intro c1 g' hR' hf'
                rw [if_neg (by omega), if_neg (by omega), if_pos c1] at hR
                simp (disch := omega) only [q_X5_compile_110, q_X5_compile_113, y_is, y_gf, y_pf, y_f0, y_f1, y_f3, y_nI, y_nK, y_nZ, y_nL, y_nR, y_k1i, y_k1r, y_k1l, y_k1n, y_tl, y_tn, y_s, y_ss, List.getElem?_cons_zero, List.getElem?_cons_succ, List.set_cons_zero, List.set_cons_succ, List.length_cons, List.length_nil, true_and, and_true, lit, nI_add]
                exact nx _ rfl L (126 :: w) op true lb g' hR hR' (by simp only [List.length_cons]; omega) (by rw [List.count_cons_of_ne (by decide)]; exact hop) (fun c h => (List.mem_cons.mp h).elim (fun e => Or.inr (by rw [e]; decide)) (hw c)) hL (hf.tr hf')
              · intro c1 c2 c3 c4 g' hR' hf'
                rw [if_neg c1, if_neg c2, if_neg c3, if_pos c4] at hR
                simp (disch := omega) only [q_X5_compile_110, q_X5_compile_113, y_is, y_gf, y_pf, y_f0, y_f1, y_f3, y_nI, y_nK, y_nZ, y_nL, y_nR, y_k1i, y_k1r, y_k1l, y_k1n, y_tl, y_tn, y_s, y_ss, List.getElem?_cons_zero, List.getElem?_cons_succ, List.set_cons_zero, List.set_cons_succ, List.length_cons, List.length_nil, true_and, and_true, lit, nI_add]
                refine nx _ rfl (.inr (ch a) :: L) w op false (lb || ch a == 108) g' hR hR' (by simp only [List.length_cons]; omega) hop hw (fun x hx => ?_) (hf.tr hf')
                rcases List.mem_cons.mp hx with e | e
                · subst e
                  refine ⟨?_, e2, fun z => ?_⟩
                  · rcases Nat.eq_zero_or_pos (ch a) with y | y
                    · rw [y] at c4; exact absurd c4 (by decide)
                    · exact y
                  · simp at z; exact z.2
                · have := hL x e
                  cases x with
                  | inl v => exact this
                  | inr c => exact ⟨this.1, this.2.1, fun z => this.2.2 (by simp at z; exact z.1)⟩
              · intro c1 c2 c3 c4 g' hR' hf'
                rw [if_neg c1, if_neg c2, if_neg c3, if_neg (by rw [c4]; decide)] at hR
                simp (disch := omega) only [q_X5_compile_110, q_X5_compile_113, y_is, y_gf, y_pf, y_f0, y_f1, y_f3, y_nI, y_nK, y_nZ, y_nL, y_nR, y_k1i, y_k1r, y_k1l, y_k1n, y_tl, y_tn, y_s, y_ss, List.getElem?_cons_zero, List.getElem?_cons_succ, List.set_cons_zero, List.set_cons_succ, List.length_cons, List.length_nil, true_and, and_true, lit, nI_add]
                exact fw _ _ hR.symm (by omega) g' _ _ _ _ _ hR' (by omega) hw8 (hf.tr hf')
          | false =>
            simp only [Bool.false_eq_true, if_false] at hR
            simp (disch := omega) only [q_X5_compile_68, q_X5_compile_69, q_X5_compile_72, hG.1, y_is, y_gf, y_pf, y_f0, y_f1, y_f3, y_nI, y_nK, y_nZ, y_nL, y_nR, y_k1i, y_k1r, y_k1l, y_k1n, y_tl, y_tn, y_s, y_ss, List.getElem?_cons_zero, List.getElem?_cons_succ, List.set_cons_zero, List.set_cons_succ, List.length_cons, List.length_nil, true_and, and_true]
            refine br1 (by decide) ?_
            simp (disch := omega) only [q_X5_compile_95, q_X5_compile_96, q_X5_compile_99, hG.1, y_is, y_gf, y_pf, y_f0, y_f1, y_f3, y_nI, y_nK, y_nZ, y_nL, y_nR, y_k1i, y_k1r, y_k1l, y_k1n, y_tl, y_tn, y_s, y_ss, List.getElem?_cons_zero, List.getElem?_cons_succ, List.set_cons_zero, List.set_cons_succ, List.length_cons, List.length_nil, true_and, and_true]
            refine br1 (by decide) ?_
            simp (disch := omega) only [q_X5_compile_116, q_X5_compile_117, q_X5_compile_118, q_X5_compile_119, q_X5_compile_120, q_X5_compile_121, hG.1, hcg, e1, y_is, y_gf, y_pf, y_f0, y_f1, y_f3, y_nI, y_nK, y_nZ, y_nL, y_nR, y_k1i, y_k1r, y_k1l, y_k1n, y_tl, y_tn, y_s, y_ss, List.getElem?_cons_zero, List.getElem?_cons_succ, List.set_cons_zero, List.set_cons_succ, List.length_cons, List.length_nil, true_and, and_true, y_lIn, y_lKn, y_lZn, y_lLn, y_wIn, y_wZn, y_wLn, lit, le_n, lt_n, eq_n]
            have relL : ∀ q x, x ∈ (rel q w L).2 → sok lb x := fun q x hx => by
              rcases rel_mem2 q w L x hx with e | ⟨c, e1, e2⟩
              · exact hL x e
              · subst e2
                have := wok_lt (hw c e1)
                exact ⟨this.1, this.2.1, fun _ => this.2.2⟩
            have relw : ∀ q c, c ∈ (rel q w L).1 → wok c := fun q c hx => hw c (rel_mem q w L c hx)
            refine s_takeBeh e2 (by omega) (by omega) hG (by omega) hw8 ?_ ?_ ?_ ?_ ?_
            · intro c1 c2 g' hR' hf'
              rw [if_pos ⟨c1, c2⟩] at hR
              simp (disch := omega) only [q_X5_compile_124, y_is, y_gf, y_pf, y_f0, y_f1, y_f3, y_nI, y_nK, y_nZ, y_nL, y_nR, y_k1i, y_k1r, y_k1l, y_k1n, y_tl, y_tn, y_s, y_ss, List.getElem?_cons_zero, List.getElem?_cons_succ, List.set_cons_zero, List.set_cons_succ, List.length_cons, List.length_nil, true_and, and_true, lit, nI_add]
              obtain ⟨l1, l2⟩ := rel_len 1 w L
              refine nx _ rfl _ _ (op - 1) false lb g' hR hR' (by rw [List.length_tail]; omega) ?_ (fun c h => relw 1 c (List.mem_of_mem_tail h)) (relL 1) (hf.tr hf')
              have hcn := rel_cnt (r := 1) (by decide) w L
              rcases rel1_head w L hw with e | ⟨w1, e⟩
              · rw [e] at hcn; simp at hcn; omega
              · rw [e] at hcn ⊢
                rw [List.count_cons_self] at hcn
                show op - 1 = w1.count 40
                omega
            · intro c1 c2 g' hR' hf'
              rw [if_neg c1, if_pos c2] at hR
              simp (disch := omega) only [q_X5_compile_124, y_is, y_gf, y_pf, y_f0, y_f1, y_f3, y_nI, y_nK, y_nZ, y_nL, y_nR, y_k1i, y_k1r, y_k1l, y_k1n, y_tl, y_tn, y_s, y_ss, List.getElem?_cons_zero, List.getElem?_cons_succ, List.set_cons_zero, List.set_cons_succ, List.length_cons, List.length_nil, true_and, and_true, lit, nI_add]
              exact fw _ _ hR.symm (by omega) g' _ _ _ _ _ hR' (by omega) hw8 (hf.tr hf')
            · intro c1 c2 g' hR' hf'
              have n41 : ¬ (ch a = 41 ∧ 0 < op) := fun z => by rw [z.1] at c1; exact absurd c1 (by decide)
              rw [if_neg n41, if_neg (by omega), if_pos c1, if_neg (by rw [c2]; decide)] at hR
              simp (disch := omega) only [q_X5_compile_124, y_is, y_gf, y_pf, y_f0, y_f1, y_f3, y_nI, y_nK, y_nZ, y_nL, y_nR, y_k1i, y_k1r, y_k1l, y_k1n, y_tl, y_tn, y_s, y_ss, List.getElem?_cons_zero, List.getElem?_cons_succ, List.set_cons_zero, List.set_cons_succ, List.length_cons, List.length_nil, true_and, and_true, lit, nI_add]
              obtain ⟨l1, l2⟩ := rel_len 4 w L
              refine nx _ rfl _ _ op true lb g' hR hR' (by simp only [List.length_cons]; omega) ?_ (fun c h => (List.mem_cons.mp h).elim (fun e => Or.inr (by rw [e, c1]; decide)) (relw 4 c)) (relL 4) (hf.tr hf')
              rw [List.count_cons_of_ne (fun e => by rw [e] at c1; exact absurd c1 (by decide)), rel_cnt (by decide)]; exact hop
            · intro c1 c2 g' hR' hf'
              have n41 : ¬ (ch a = 41 ∧ 0 < op) := fun z => by rw [z.1] at c1; exact absurd c1 (by decide)
              rw [if_neg n41, if_neg (by omega), if_pos c1, if_pos c2] at hR
              simp (disch := omega) only [q_X5_compile_124, y_is, y_gf, y_pf, y_f0, y_f1, y_f3, y_nI, y_nK, y_nZ, y_nL, y_nR, y_k1i, y_k1r, y_k1l, y_k1n, y_tl, y_tn, y_s, y_ss, List.getElem?_cons_zero, List.getElem?_cons_succ, List.set_cons_zero, List.set_cons_succ, List.length_cons, List.length_nil, true_and, and_true, lit, nI_add]
              obtain ⟨l1, l2⟩ := rel_len 4 w L
              exact fw _ _ hR.symm (by omega) g' _ _ _ _ _ hR' (by simp only [List.length_cons]; omega) (fun c h => (List.mem_cons.mp h).elim (fun e => by rw [e]; exact e2) (fun h => (wok_lt (relw 4 c h)).2.1)) (hf.tr hf')
            · intro c1 c2 c3 g' hR' hf'
              have n41 : ¬ (ch a = 41 ∧ 0 < op) := fun z => by rw [z.1] at c1; exact absurd rfl c1
              rw [if_neg n41, if_neg (by omega), if_neg c3] at hR
              simp (disch := omega) only [q_X5_compile_124, y_is, y_gf, y_pf, y_f0, y_f1, y_f3, y_nI, y_nK, y_nZ, y_nL, y_nR, y_k1i, y_k1r, y_k1l, y_k1n, y_tl, y_tn, y_s, y_ss, List.getElem?_cons_zero, List.getElem?_cons_succ, List.set_cons_zero, List.set_cons_succ, List.length_cons, List.length_nil, true_and, and_true, lit, nI_add]
              obtain ⟨l1, l2⟩ := rel_len (rk (ch a)) w L
              refine nx _ rfl _ _ op true lb g' hR hR' (by simp only [List.length_cons]; omega) ?_ (fun c h => (List.mem_cons.mp h).elim (fun e => Or.inr (by rw [e]; exact c1)) (relw _ c)) (relL _) (hf.tr hf')
              rw [List.count_cons_of_ne (fun e => by rw [e] at c1; exact absurd rfl c1), rel_cnt (by omega)]; exact hop
theorem s_compile {g : mzG} {r len : Nat} {f : Nat → Int32} {ch : Nat → Nat} {fl0 lb0 due0 : Int32} {L0 : List stp} {w0 : List Nat} {op0 : Nat} (hr : 100 ≤ r ∨ r < 30) (hc : g.2 r = aI 40 f) (hch : ∀ i, i < len → f i = nI (ch i) ∧ ch i < 128) (hlen : len ≤ 40) (hG : ru g fl0 lb0 due0 L0 w0 op0) (hfl : ∀ fl, cres ch len = .inl fl → fl < 10000 → ∀ g' lb due L w op, ru g' (nI fl) lb due L w op → fr g g' 30 34 → Q none g') (hok : ∀ L lb, cres ch len = .inr (L, lb) → ∀ g' due w op, ru g' (-1) (bI lb) due L w op → L.length ≤ 40 → (∀ x, x ∈ L → sok lb x) → fr g g' 30 34 → Q none g') : wp 40 b 0 [.ref 30, .ref r, .int (nI len), .null, .null] [] g Q := by
  obtain ⟨h1, ⟨f2, h2, -⟩, ⟨f3, h3, -⟩, S, h4⟩ := id hG
  simp only [q_X5_compile_0, q_X5_compile_1, q_X5_compile_2, q_X5_compile_5, q_X5_compile_6, q_X5_compile_7, q_X5_compile_10, q_X5_compile_11, q_X5_compile_12, q_X5_compile_15, q_X5_compile_16, q_X5_compile_17, q_X5_compile_20, q_X5_compile_21, q_X5_compile_22, q_X5_compile_25, q_X5_compile_26, q_X5_compile_27, q_X5_compile_30, q_X5_compile_31, q_X5_compile_32, q_X5_compile_33, h1, y_is, y_gf, y_pf, y_f0, y_f1, y_f3, y_nI, y_nK, y_nZ, y_nL, y_nR, y_k1i, y_k1r, y_k1l, y_k1n, y_tl, y_tn, y_s, y_ss, List.getElem?_cons_zero, List.getElem?_cons_succ, List.set_cons_zero, List.set_cons_succ, List.length_cons, List.length_nil, true_and, and_true, y_f2]
  refine ⟨by decide, by decide, by decide, by decide, by decide, by decide, ?_⟩
  generalize hg1 : hs g 30 _ = g1
  have hf1 : fr g g1 30 34 := by rw [← hg1]; exact fr.rf.hs (by omega) (by omega)
  have hG1 : ru g1 (-1) (bI false) (bI true) [] [] 0 := by
    rw [← hg1]
    exact ⟨y_s, ⟨f2, by rw [y_ne (by decide)]; exact h2, trivial⟩, ⟨f3, by rw [y_ne (by decide)]; exact h3, trivial⟩, S, by rw [y_ne (by decide)]; exact h4⟩
  -- the last release
  have fin : ∀ (x3 x4 : Int32) (fl lb due : Int32) (L : List stp) (w : List Nat) (op : Nat) (g2 : mzG), ru g2 fl lb due L w op → L.length + w.length ≤ 40 → (∀ c, c ∈ w → c < 128) → (∀ g', ru g' fl lb due (rel 1 w L).2 (rel 1 w L).1 op → fr g2 g' 30 34 → Q none g') → wp 40 b 165 [.ref 30, .ref r, .int (nI len), .int x3, .int x4] [] g2 Q := by
    intro x3 x4 fl lb due L w op g2 q1 q2 q3 q4
    simp only [q_X5_compile_165, q_X5_compile_166, q_X5_compile_167, q1.1, y_is, y_gf, y_pf, y_f0, y_f1, y_f3, y_nI, y_nK, y_nZ, y_nL, y_nR, y_k1i, y_k1r, y_k1l, y_k1n, y_tl, y_tn, y_s, y_ss, List.getElem?_cons_zero, List.getElem?_cons_succ, List.set_cons_zero, List.set_cons_succ, List.length_cons, List.length_nil, true_and, and_true]
    refine s_release (r := 1) g2 (by omega) (rel 1 w L) (fun g3 hR3 hf3 => ?_) w L g2 q1 q2 q3 fr.rf rfl
    simp only [q_X5_compile_170, y_is, y_gf, y_pf, y_f0, y_f1, y_f3, y_nI, y_nK, y_nZ, y_nL, y_nR, y_k1i, y_k1r, y_k1l, y_k1n, y_tl, y_tn, y_s, y_ss, List.getElem?_cons_zero, List.getElem?_cons_succ, List.set_cons_zero, List.set_cons_succ, List.length_cons, List.length_nil, true_and, and_true]
    exact q4 g3 hR3 hf3
  have bnd : ∀ fl, cres ch len = .inl fl → fl < 10000 := by
    have cb : ∀ d a L w op due lb fl, crun ch len d a L w op due lb = .inl fl → a ≤ len → fl < 10 * len + 10 := by
      intro d
      induction d with
      | zero => intro a L w op due lb fl h; simp [crun] at h
      | succ d ih =>
        intro a L w op due lb fl h ha
        have hsk := skp_b ch (len - a) a
        rw [crun] at h
        generalize skp ch (len - a) a = a' at h hsk
        unfold cstep at h
        have hdl := dn_le ch (len - a') a'
        repeat' split at h
        all_goals first
          | (have := Sum.inl.inj h; omega)
          | exact absurd h (by simp)
          | exact ih _ _ _ _ _ _ _ h (by omega)
    intro fl h
    unfold cres at h
    split at h
    · rename_i f e
      have := Sum.inl.inj h
      have := cb _ _ _ _ _ _ _ _ e (by omega)
      omega
    · split at h
      · have := Sum.inl.inj h; omega
      · simp at h
  refine s_comp_loop (g0 := g1) hr (by rw [← hg1, y_ne (by omega)]; exact hc) hch hlen (crun ch len len 0 [] [] 0 true false) ?_ ?_ len 0 0 len [] [] 0 true false g1 (by omega) (by omega) (by omega) rfl hG1 (by simp) (by simp) (fun c h => by simp at h) (fun c h => by simp at h) fr.rf
  · intro fl x3 x4 hx g' lb due L w op q1 q2 q3 q4
    have hcr : cres ch len = .inl fl := by unfold cres; rw [hx]
    have hb := bnd fl hcr
    simp (disch := omega) only [q_X5_compile_133, q_X5_compile_134, q_X5_compile_137, q_X5_compile_138, q1.1, y_is, y_gf, y_pf, y_f0, y_f1, y_f3, y_nI, y_nK, y_nZ, y_nL, y_nR, y_k1i, y_k1r, y_k1l, y_k1n, y_tl, y_tn, y_s, y_ss, List.getElem?_cons_zero, List.getElem?_cons_succ, List.set_cons_zero, List.set_cons_succ, List.length_cons, List.length_nil, true_and, and_true]
    refine br1 (fun z => (m1_ne (by omega)).mp z) (fin _ _ _ _ _ _ _ _ g' q1 q2 q3 (fun g3 hR3 hf3 => hfl fl hcr hb g3 _ _ _ _ _ hR3 (hf1.tr (q4.tr hf3))))
  · intro L w op due lb x3 x4 hx g' q1 q2 q3 q4 q5 q6
    have hw8 : ∀ c, c ∈ w → c < 128 := fun c h => (wok_lt (q4 c h)).2.1
    have hopl : op ≤ w.length := by rw [q3]; exact List.count_le_length
    simp (disch := omega) only [q_X5_compile_133, q_X5_compile_134, q_X5_compile_137, q_X5_compile_138, q1.1, y_is, y_gf, y_pf, y_f0, y_f1, y_f3, y_nI, y_nK, y_nZ, y_nL, y_nR, y_k1i, y_k1r, y_k1l, y_k1n, y_tl, y_tn, y_s, y_ss, List.getElem?_cons_zero, List.getElem?_cons_succ, List.set_cons_zero, List.set_cons_succ, List.length_cons, List.length_nil, true_and, and_true]
    refine br0 (fun z => z (by first | decide | omega | trivial | simp)) ?_
    have bad : (due = true ∨ 0 < op) → wp 40 b 155 [.ref 30, .ref r, .int (nI len), .int x3, .int x4] [] g' Q := by
      intro h
      have hcr : cres ch len = .inl (10 * len + 1) := by unfold cres; rw [hx]; simp only; rw [if_pos h]
      simp (disch := omega) only [q_X5_compile_155, q_X5_compile_156, q_X5_compile_158, q_X5_compile_159, q_X5_compile_160, q_X5_compile_161, q_X5_compile_162, q1.1, y_is, y_gf, y_pf, y_f0, y_f1, y_f3, y_nI, y_nK, y_nZ, y_nL, y_nR, y_k1i, y_k1r, y_k1l, y_k1n, y_tl, y_tn, y_s, y_ss, List.getElem?_cons_zero, List.getElem?_cons_succ, List.set_cons_zero, List.set_cons_succ, List.length_cons, List.length_nil, true_and, and_true, lit, pk_mul, nI_add]
      exact ⟨by decide, fin _ _ _ _ _ _ _ _ _ q1.nu q2 hw8 (fun g3 hR3 hf3 => hfl _ hcr (bnd _ hcr) g3 _ _ _ _ _ hR3 (hf1.tr (q6.tr ((fr.rf.hs (by omega) (by omega)).tr hf3))))⟩
    simp (disch := omega) only [q_X5_compile_141, q_X5_compile_142, q_X5_compile_145, q1.1, y_is, y_gf, y_pf, y_f0, y_f1, y_f3, y_nI, y_nK, y_nZ, y_nL, y_nR, y_k1i, y_k1r, y_k1l, y_k1n, y_tl, y_tn, y_s, y_ss, List.getElem?_cons_zero, List.getElem?_cons_succ, List.set_cons_zero, List.set_cons_succ, List.length_cons, List.length_nil, true_and, and_true]
    cases due with
    | true => exact br1 (by decide) (bad (Or.inl rfl))
    | false =>
      refine br0 (by decide) ?_
      simp (disch := omega) only [q_X5_compile_148, q_X5_compile_149, q_X5_compile_152, q1.1, y_is, y_gf, y_pf, y_f0, y_f1, y_f3, y_nI, y_nK, y_nZ, y_nL, y_nR, y_k1i, y_k1r, y_k1l, y_k1n, y_tl, y_tn, y_s, y_ss, List.getElem?_cons_zero, List.getElem?_cons_succ, List.set_cons_zero, List.set_cons_succ, List.length_cons, List.length_nil, true_and, and_true, lit, le_n]
      refine brs (fun z => ?_) (fun z => bad (Or.inr (by omega)))
      have hcr : cres ch len = .inr ((rel 1 w L).2, lb) := by unfold cres; rw [hx]; simp only; rw [if_neg (by simp; omega)]
      refine fin _ _ _ _ _ _ _ _ g' q1 q2 hw8 (fun g3 hR3 hf3 => hok _ _ hcr g3 _ _ _ hR3 ?_ (fun x hx => ?_) (hf1.tr (q6.tr hf3)))
      · have := rel_len 1 w L; omega
      · rcases rel_mem2 1 w L x hx with e | ⟨c, e1, e2⟩
        · exact q5 x e
        · subst e2
          have := wok_lt (q4 c e1)
          exact ⟨this.1, this.2.1, fun _ => this.2.2⟩
/-! the steps worked -/
/-- the letters -/
def env6 (h n s t l x c : Nat) : Int64 := lN (if c = 104 then h else if c = 110 then n else if c = 115 then s else if c = 116 then t else if c = 108 then l else x)
theorem s_named {g : mzG} {w h n s t l x c : Nat} {v : Nat → Int32} {A : Nat → Nat → Int32} (hW : wt g w v A) (hv0 : v 0 = nI n) (hv2 : v 2 = nI s) (hv3 : v 3 = nI t) (hn : n ≤ 9) (hs : s ≤ 9) (ht : t ≤ 9) (hh : h ≤ 999) (hl : l ≤ 9) (hc : c < 128) (hnm : nm c = true) (hQ : Q (some (.long (env6 h n s t l x c))) g) : wp 51 b 0 [.int (nI c), .ref w, .int (nI h), .int (nI l), .long (lN x), .null] [] g Q := by
  unfold env6 at hQ
  simp only [q_X5_named_0, q_X5_named_1]
  have k : ∀ c : Fin 128, nm c.val = true → (mz_tsf 104 [68, 92, 92, 92, 89, 92, 71, 92, 92, 92, 92, 77, 83] 92) (nI c.val) = if c.val = 104 then 68 else if c.val = 110 then 71 else if c.val = 115 then 77 else if c.val = 116 then 83 else if c.val = 108 then 89 else 92 := by decide +kernel
  rw [k ⟨c, hc⟩ hnm]
  dsimp only
  by_cases q : c = 104
  · rw [if_pos q]; rw [if_pos q] at hQ
    simp (disch := omega) only [q_X5_named_68, q_X5_named_69, q_X5_named_70, y_is, y_gf, y_pf, y_f0, y_f1, y_f3, y_nI, y_nK, y_nZ, y_nL, y_nR, y_k1i, y_k1r, y_k1l, y_k1n, y_tl, y_tn, y_s, y_ss, List.getElem?_cons_zero, List.getElem?_cons_succ, List.set_cons_zero, List.set_cons_succ, List.length_cons, List.length_nil, true_and, and_true, i_l]
    exact hQ
  rw [if_neg q]; rw [if_neg q] at hQ
  by_cases q : c = 110
  · rw [if_pos q]; rw [if_pos q] at hQ
    simp (disch := omega) only [q_X5_named_71, q_X5_named_72, q_X5_named_75, q_X5_named_76, hW.1, hv0, y_is, y_gf, y_pf, y_f0, y_f1, y_f3, y_nI, y_nK, y_nZ, y_nL, y_nR, y_k1i, y_k1r, y_k1l, y_k1n, y_tl, y_tn, y_s, y_ss, List.getElem?_cons_zero, List.getElem?_cons_succ, List.set_cons_zero, List.set_cons_succ, List.length_cons, List.length_nil, true_and, and_true, i_l]
    exact hQ
  rw [if_neg q]; rw [if_neg q] at hQ
  by_cases q : c = 115
  · rw [if_pos q]; rw [if_pos q] at hQ
    simp (disch := omega) only [q_X5_named_77, q_X5_named_78, q_X5_named_81, q_X5_named_82, hW.1, hv2, y_is, y_gf, y_pf, y_f0, y_f1, y_f3, y_nI, y_nK, y_nZ, y_nL, y_nR, y_k1i, y_k1r, y_k1l, y_k1n, y_tl, y_tn, y_s, y_ss, List.getElem?_cons_zero, List.getElem?_cons_succ, List.set_cons_zero, List.set_cons_succ, List.length_cons, List.length_nil, true_and, and_true, i_l]
    exact hQ
  rw [if_neg q]; rw [if_neg q] at hQ
  by_cases q : c = 116
  · rw [if_pos q]; rw [if_pos q] at hQ
    simp (disch := omega) only [q_X5_named_83, q_X5_named_84, q_X5_named_87, q_X5_named_88, hW.1, hv3, y_is, y_gf, y_pf, y_f0, y_f1, y_f3, y_nI, y_nK, y_nZ, y_nL, y_nR, y_k1i, y_k1r, y_k1l, y_k1n, y_tl, y_tn, y_s, y_ss, List.getElem?_cons_zero, List.getElem?_cons_succ, List.set_cons_zero, List.set_cons_succ, List.length_cons, List.length_nil, true_and, and_true, i_l]
    exact hQ
  rw [if_neg q]; rw [if_neg q] at hQ
  by_cases q : c = 108
  · rw [if_pos q]; rw [if_pos q] at hQ
    simp (disch := omega) only [q_X5_named_89, q_X5_named_90, q_X5_named_91, y_is, y_gf, y_pf, y_f0, y_f1, y_f3, y_nI, y_nK, y_nZ, y_nL, y_nR, y_k1i, y_k1r, y_k1l, y_k1n, y_tl, y_tn, y_s, y_ss, List.getElem?_cons_zero, List.getElem?_cons_succ, List.set_cons_zero, List.set_cons_succ, List.length_cons, List.length_nil, true_and, and_true, i_l]
    exact hQ
  rw [if_neg q]; rw [if_neg q] at hQ
  simp (disch := omega) only [q_X5_named_92, q_X5_named_94, y_is, y_gf, y_pf, y_f0, y_f1, y_f3, y_nI, y_nK, y_nZ, y_nL, y_nR, y_k1i, y_k1r, y_k1l, y_k1n, y_tl, y_tn, y_s, y_ss, List.getElem?_cons_zero, List.getElem?_cons_succ, List.set_cons_zero, List.set_cons_succ, List.length_cons, List.length_nil, true_and, and_true]
  exact hQ
theorem ev_0 {env : Nat → Int64} {c : Nat} (h : nm c = false) : ev env (.inr c) [] = [] := by
  show (if nm c then _ else if rk c = 6 then _ else _) = _
  rw [if_neg (by rw [h]; decide)]
  split <;> rfl
theorem ev_n {env : Nat → Int64} {c : Nat} {E : List Int64} (h : nm c = true) : ev env (.inr c) E = env c :: E := by
  show (if nm c then _ else _) = _
  rw [if_pos h]
theorem ev_s {env : Nat → Int64} {c : Nat} {y : Int64} (h : nm c = false) (h6 : rk c ≠ 6) : ev env (.inr c) [y] = [y] := by
  show (if nm c then _ else if rk c = 6 then _ else _) = _
  rw [if_neg (by rw [h]; decide), if_neg h6]
theorem ev_1 {env : Nat → Int64} {c : Nat} {y : Int64} {r : List Int64} (h : nm c = false) (h6 : rk c = 6) : ev env (.inr c) (y :: r) = one c y :: r := by
  show (if nm c then _ else if rk c = 6 then _ else _) = _
  rw [if_neg (by rw [h]; decide), if_pos h6]
theorem ev_2 {env : Nat → Int64} {c : Nat} {y z : Int64} {r : List Int64} (h : nm c = false) (h6 : rk c ≠ 6) : ev env (.inr c) (y :: z :: r) = two c z y :: r := by
  show (if nm c then _ else if rk c = 6 then _ else _) = _
  rw [if_neg (by rw [h]; decide), if_neg h6]
theorem neg2 {c : Nat} : -(-(nI c)) = nI c := Int32.neg_neg
theorem neg_l0 : ∀ c : Fin 128, 0 < c.val → ¬ (0 : Int32) ≤ -(nI c.val) := by decide +kernel
theorem neg_lt0 : ∀ c : Fin 128, 0 < c.val → -(nI c.val) < (0 : Int32) := by decide +kernel
theorem s_work {g : mzG} {w h n s t l x : Nat} {v : Nat → Int32} {A : Nat → Nat → Int32} {fl lbI due : Int32} {lb : Bool} {L : List stp} {wa : List Nat} {op : Nat} (hap : w + 12 ≤ 30) (hW : wt g w v A) (hv0 : v 0 = nI n) (hv2 : v 2 = nI s) (hv3 : v 3 = nI t) (hn : n ≤ 9) (hs : s ≤ 9) (ht : t ≤ 9) (hh : h ≤ 999) (hl : l ≤ 9) (hG : ru g fl lbI due L wa op) (hLl : L.length ≤ 40) (hL : ∀ x, x ∈ L → sok lb x) (hQ : ∀ g', ru g' fl lbI due L wa op → fr g g' 33 34 → Q (some (.long ((ea (env6 h n s t l x) L).headD 0))) g') : wp 50 b 0 [.ref 30, .ref w, .int (nI h), .int (nI l), .long (lN x), .null, .null, .null, .null] [] g Q := by
  obtain ⟨h1, ⟨f2, h2, h2'⟩, ⟨f3, h3, h3'⟩, S0, h4⟩ := id hG
  have keep : ∀ g' S, fr g g' 33 34 → g'.2 33 = aL 40 S → ru g' fl lbI due L wa op := fun g' S hf hS => ⟨by rw [hf.2 _ (by omega)]; exact h1, ⟨f2, by rw [hf.2 _ (by omega)]; exact h2, h2'⟩, ⟨f3, by rw [hf.2 _ (by omega)]; exact h3, h3'⟩, S, hS⟩
  have loop : ∀ (d i : Nat) (g' : mzG) (S : Nat → Int64) (E : List Int64) (x8 : Value), i + d = L.length → fr g g' 33 34 → g'.2 33 = aL 40 S → E = ea (env6 h n s t l x) (L.drop (L.length - i)) → sfL S E → wp 50 b 6 [.ref 30, .ref w, .int (nI h), .int (nI l), .long (lN x), .null, .int (nI E.length), .int (nI i), x8] [] g' Q := by
    intro d
    induction d with
    | zero =>
      intro i g' S E x8 hi hf hS hE hst
      have hi : i = L.length := by omega
      subst hi
      rw [Nat.sub_self, List.drop_zero] at hE
      have hK := keep g' S hf hS
      have hle := ea_len (env6 h n s t l x) L
      have k := hQ g' hK hf
      rw [← hE] at k hle
      cases E with
      | nil =>
        rw [q_X5_work_6]
        simp (disch := omega) only [q_X5_work_8, q_X5_work_9, q_X5_work_12, q_X5_work_172, q_X5_work_174, hK.1, y_is, y_gf, y_pf, y_f0, y_f1, y_f3, y_nI, y_nK, y_nZ, y_nL, y_nR, y_k1i, y_k1r, y_k1l, y_k1n, y_tl, y_tn, y_s, y_ss, List.getElem?_cons_zero, List.getElem?_cons_succ, List.set_cons_zero, List.set_cons_succ, List.length_cons, List.length_nil, true_and, and_true, y_lIn, y_lKn, y_lZn, y_lLn, y_wIn, y_wZn, y_wLn, lit, le_n, lt_n, eq_n, lit, litL, le_n, lt_n, eq_n, nI_add, m_neg, pk_sub, pk_mul, i_l, l_i, l_add, l_mul, l_sub, lc_le, lc_ge, lc_lt, lc_gt, lc_eq, l_rem2, l_rem3, i_rem2, i_rem3]
        refine br1 (by omega) (br1 (by first | decide | omega | trivial | simp) ?_)
        simp only [q_X5_work_189, q_X5_work_190, y_is, y_gf, y_pf, y_f0, y_f1, y_f3, y_nI, y_nK, y_nZ, y_nL, y_nR, y_k1i, y_k1r, y_k1l, y_k1n, y_tl, y_tn, y_s, y_ss, List.getElem?_cons_zero, List.getElem?_cons_succ, List.set_cons_zero, List.set_cons_succ, List.length_cons, List.length_nil, true_and, and_true]
        exact k
      | cons y r =>
        simp only [List.length_cons] at hle
        rw [q_X5_work_6]
        simp (disch := omega) only [q_X5_work_8, q_X5_work_9, q_X5_work_12, q_X5_work_172, q_X5_work_174, hK.1, y_is, y_gf, y_pf, y_f0, y_f1, y_f3, y_nI, y_nK, y_nZ, y_nL, y_nR, y_k1i, y_k1r, y_k1l, y_k1n, y_tl, y_tn, y_s, y_ss, List.getElem?_cons_zero, List.getElem?_cons_succ, List.set_cons_zero, List.set_cons_succ, List.length_cons, List.length_nil, true_and, and_true, y_lIn, y_lKn, y_lZn, y_lLn, y_wIn, y_wZn, y_wLn, lit, le_n, lt_n, eq_n, lit, litL, le_n, lt_n, eq_n, nI_add, m_neg, pk_sub, pk_mul, i_l, l_i, l_add, l_mul, l_sub, lc_le, lc_ge, lc_lt, lc_gt, lc_eq, l_rem2, l_rem3, i_rem2, i_rem3]
        refine br1 (by omega) (br0 (by first | decide | omega | trivial | simp) ?_)
        simp (disch := omega) only [q_X5_work_177, q_X5_work_178, q_X5_work_181, q_X5_work_183, q_X5_work_184, q_X5_work_185, q_X5_work_186, q_X5_work_190, hK.1, hS, y_is, y_gf, y_pf, y_f0, y_f1, y_f3, y_nI, y_nK, y_nZ, y_nL, y_nR, y_k1i, y_k1r, y_k1l, y_k1n, y_tl, y_tn, y_s, y_ss, List.getElem?_cons_zero, List.getElem?_cons_succ, List.set_cons_zero, List.set_cons_succ, List.length_cons, List.length_nil, true_and, and_true, y_lIn, y_lKn, y_lZn, y_lLn, y_wIn, y_wZn, y_wLn, lit, le_n, lt_n, eq_n, lit, pk_sub, Nat.add_sub_cancel, hst.1]
        exact k
    | succ d ih =>
      intro i g' S E x8 hi hf hS hE hst
      have hK := keep g' S hf hS
      have hj : L.length - (i + 1) < L.length := by omega
      have hdr : L.drop (L.length - (i + 1)) = L[L.length - (i + 1)] :: L.drop (L.length - i) := by
        rw [List.drop_eq_getElem_cons hj, show L.length - (i + 1) + 1 = L.length - i by omega]
      have hmem : L[L.length - (i + 1)] ∈ L := List.getElem_mem hj
      have hf2 : f2 i = stI L[L.length - (i + 1)] := by
        have := sfI_get (j := L.length - (i + 1)) (x := stI L[L.length - (i + 1)]) h2' (by rw [List.getElem?_map, List.getElem?_eq_getElem hj]; rfl)
        rw [List.length_map, show L.length - 1 - (L.length - (i + 1)) = i by omega] at this
        exact this
      have hle : E.length ≤ i := by
        rw [hE]
        have := ea_len (env6 h n s t l x) (L.drop (L.length - i))
        rw [List.length_drop] at this
        omega
      have hok := hL _ hmem
      have hE' : ev (env6 h n s t l x) L[L.length - (i + 1)] E = ea (env6 h n s t l x) (L.drop (L.length - (i + 1))) := by rw [hdr, hE]; rfl
      generalize L[L.length - (i + 1)] = st at hf2 hok hE'
      have e31 : g'.2 31 = aI 40 f2 := by rw [hf.2 _ (by omega)]; exact h2
      have hW' : wt g' w v A := hW.frm hf (by omega)
      have fin : ∀ (g2 : mzG) (S2 : Nat → Int64) (E2 : List Int64) (x8 : Value), fr g g2 33 34 → g2.2 33 = aL 40 S2 → E2 = ev (env6 h n s t l x) st E → sfL S2 E2 → wp 50 b 166 [.ref 30, .ref w, .int (nI h), .int (nI l), .long (lN x), .null, .int (nI E2.length), .int (nI i), x8] [] g2 Q := by
        intro g2 S2 E2 x8 q1 q2 q3 q4
        simp (disch := omega) only [q_X5_work_166, q_X5_work_169, y_is, y_gf, y_pf, y_f0, y_f1, y_f3, y_nI, y_nK, y_nZ, y_nL, y_nR, y_k1i, y_k1r, y_k1l, y_k1n, y_tl, y_tn, y_s, y_ss, List.getElem?_cons_zero, List.getElem?_cons_succ, List.set_cons_zero, List.set_cons_succ, List.length_cons, List.length_nil, true_and, and_true, lit, nI_add]
        exact ih (i + 1) g2 S2 E2 x8 (by omega) q1 q2 (q3.trans hE') q4
      cases st with
      | inl v' =>
        have hv' : v' < 1000000 := hok
        have hf2 : f2 i = nI v' := hf2
        rw [q_X5_work_6]
        simp (disch := omega) only [q_X5_work_8, q_X5_work_9, q_X5_work_12, q_X5_work_15, q_X5_work_16, q_X5_work_19, q_X5_work_21, q_X5_work_22, q_X5_work_24, q_X5_work_26, hK.1, e31, hf2, y_is, y_gf, y_pf, y_f0, y_f1, y_f3, y_nI, y_nK, y_nZ, y_nL, y_nR, y_k1i, y_k1r, y_k1l, y_k1n, y_tl, y_tn, y_s, y_ss, List.getElem?_cons_zero, List.getElem?_cons_succ, List.set_cons_zero, List.set_cons_succ, List.length_cons, List.length_nil, true_and, and_true, y_lIn, y_lKn, y_lZn, y_lLn, y_wIn, y_wZn, y_wLn, lit, le_n, lt_n, eq_n, lit, litL, le_n, lt_n, eq_n, nI_add, m_neg, pk_sub, pk_mul, i_l, l_i, l_add, l_mul, l_sub, lc_le, lc_ge, lc_lt, lc_gt, lc_eq, l_rem2, l_rem3, i_rem2, i_rem3]
        refine br0 (by omega) (br1 (by first | decide | omega | trivial | simp) ?_)
        simp (disch := omega) only [q_X5_work_38, q_X5_work_40, q_X5_work_41, q_X5_work_44, q_X5_work_45, hK.1, hS, y_is, y_gf, y_pf, y_f0, y_f1, y_f3, y_nI, y_nK, y_nZ, y_nL, y_nR, y_k1i, y_k1r, y_k1l, y_k1n, y_tl, y_tn, y_s, y_ss, List.getElem?_cons_zero, List.getElem?_cons_succ, List.set_cons_zero, List.set_cons_succ, List.length_cons, List.length_nil, true_and, and_true, lit]
        refine br0 (by show ¬ nI 40 ≤ _; rw [le_n (by omega) (by omega)]; omega) ?_
        simp (disch := omega) only [q_X5_work_48, q_X5_work_49, q_X5_work_52, q_X5_work_54, q_X5_work_56, hK.1, hS, y_is, y_gf, y_pf, y_f0, y_f1, y_f3, y_nI, y_nK, y_nZ, y_nL, y_nR, y_k1i, y_k1r, y_k1l, y_k1n, y_tl, y_tn, y_s, y_ss, List.getElem?_cons_zero, List.getElem?_cons_succ, List.set_cons_zero, List.set_cons_succ, List.length_cons, List.length_nil, true_and, and_true, lit, lt_n]
        refine br0 (by first | decide | omega | trivial | simp) ?_
        simp (disch := omega) only [q_X5_work_59, q_X5_work_61, q_X5_work_62, q_X5_work_76, q_X5_work_77, q_X5_work_80, hS, y_is, y_gf, y_pf, y_f0, y_f1, y_f3, y_nI, y_nK, y_nZ, y_nL, y_nR, y_k1i, y_k1r, y_k1l, y_k1n, y_tl, y_tn, y_s, y_ss, List.getElem?_cons_zero, List.getElem?_cons_succ, List.set_cons_zero, List.set_cons_succ, List.length_cons, List.length_nil, true_and, and_true, y_lIn, y_lKn, y_lZn, y_lLn, y_wIn, y_wZn, y_wLn, lit, le_n, lt_n, eq_n, lit, nI_add, i_l]
        exact fin _ _ (lN v' :: E) _ (hf.hs (by omega) (by omega)) y_s rfl (sfL_push hst)
      | inr c =>
        obtain ⟨c0, c1, -⟩ := hok
        have hf2 : f2 i = -(nI c) := hf2
        rw [q_X5_work_6]
        simp (disch := omega) only [q_X5_work_8, q_X5_work_9, q_X5_work_12, q_X5_work_15, q_X5_work_16, q_X5_work_19, q_X5_work_21, q_X5_work_22, q_X5_work_24, q_X5_work_26, hK.1, e31, hf2, y_is, y_gf, y_pf, y_f0, y_f1, y_f3, y_nI, y_nK, y_nZ, y_nL, y_nR, y_k1i, y_k1r, y_k1l, y_k1n, y_tl, y_tn, y_s, y_ss, List.getElem?_cons_zero, List.getElem?_cons_succ, List.set_cons_zero, List.set_cons_succ, List.length_cons, List.length_nil, true_and, and_true, y_lIn, y_lKn, y_lZn, y_lLn, y_wIn, y_wZn, y_wLn, lit, le_n, lt_n, eq_n, lit, litL, le_n, lt_n, eq_n, nI_add, m_neg, pk_sub, pk_mul, i_l, l_i, l_add, l_mul, l_sub, lc_le, lc_ge, lc_lt, lc_gt, lc_eq, l_rem2, l_rem3, i_rem2, i_rem3]
        refine br0 (by omega) (br0 (neg_l0 ⟨c, c1⟩ c0) ?_)
        simp (disch := omega) only [q_X5_work_29, q_X5_work_31, q_X5_work_32, neg2, y_is, y_gf, y_pf, y_f0, y_f1, y_f3, y_nI, y_nK, y_nZ, y_nL, y_nR, y_k1i, y_k1r, y_k1l, y_k1n, y_tl, y_tn, y_s, y_ss, List.getElem?_cons_zero, List.getElem?_cons_succ, List.set_cons_zero, List.set_cons_succ, List.length_cons, List.length_nil, true_and, and_true]
        refine s_isName c1 ?_
        cases hnm : nm c with
        | true =>
          simp only [if_true, q_X5_work_35, y_is, y_gf, y_pf, y_f0, y_f1, y_f3, y_nI, y_nK, y_nZ, y_nL, y_nR, y_k1i, y_k1r, y_k1l, y_k1n, y_tl, y_tn, y_s, y_ss, List.getElem?_cons_zero, List.getElem?_cons_succ, List.set_cons_zero, List.set_cons_succ, List.length_cons, List.length_nil, true_and, and_true]
          refine br0 (by first | decide | omega | trivial | simp) ?_
          simp (disch := omega) only [q_X5_work_38, q_X5_work_40, q_X5_work_41, q_X5_work_44, q_X5_work_45, hK.1, hS, y_is, y_gf, y_pf, y_f0, y_f1, y_f3, y_nI, y_nK, y_nZ, y_nL, y_nR, y_k1i, y_k1r, y_k1l, y_k1n, y_tl, y_tn, y_s, y_ss, List.getElem?_cons_zero, List.getElem?_cons_succ, List.set_cons_zero, List.set_cons_succ, List.length_cons, List.length_nil, true_and, and_true, lit]
          refine br0 (by show ¬ nI 40 ≤ _; rw [le_n (by omega) (by omega)]; omega) ?_
          simp (disch := omega) only [q_X5_work_48, q_X5_work_49, q_X5_work_52, q_X5_work_54, q_X5_work_56, hK.1, hS, y_is, y_gf, y_pf, y_f0, y_f1, y_f3, y_nI, y_nK, y_nZ, y_nL, y_nR, y_k1i, y_k1r, y_k1l, y_k1n, y_tl, y_tn, y_s, y_ss, List.getElem?_cons_zero, List.getElem?_cons_succ, List.set_cons_zero, List.set_cons_succ, List.length_cons, List.length_nil, true_and, and_true]
          refine br1 (neg_lt0 ⟨c, c1⟩ c0) ?_
          simp (disch := omega) only [q_X5_work_65, q_X5_work_67, q_X5_work_68, q_X5_work_69, q_X5_work_70, q_X5_work_71, q_X5_work_73, neg2, y_is, y_gf, y_pf, y_f0, y_f1, y_f3, y_nI, y_nK, y_nZ, y_nL, y_nR, y_k1i, y_k1r, y_k1l, y_k1n, y_tl, y_tn, y_s, y_ss, List.getElem?_cons_zero, List.getElem?_cons_succ, List.set_cons_zero, List.set_cons_succ, List.length_cons, List.length_nil, true_and, and_true]
          refine s_named hW' hv0 hv2 hv3 hn hs ht hh hl c1 hnm ?_
          simp (disch := omega) only [q_X5_work_76, q_X5_work_77, q_X5_work_80, hS, y_is, y_gf, y_pf, y_f0, y_f1, y_f3, y_nI, y_nK, y_nZ, y_nL, y_nR, y_k1i, y_k1r, y_k1l, y_k1n, y_tl, y_tn, y_s, y_ss, List.getElem?_cons_zero, List.getElem?_cons_succ, List.set_cons_zero, List.set_cons_succ, List.length_cons, List.length_nil, true_and, and_true, y_lIn, y_lKn, y_lZn, y_lLn, y_wIn, y_wZn, y_wLn, lit, le_n, lt_n, eq_n, lit, nI_add]
          exact fin _ _ (env6 h n s t l x c :: E) _ (hf.hs (by omega) (by omega)) y_s (by show _ = if nm c then _ else _; rw [if_pos hnm]) (sfL_push hst)
        | false =>
          simp only [Bool.false_eq_true, if_false, q_X5_work_35, y_is, y_gf, y_pf, y_f0, y_f1, y_f3, y_nI, y_nK, y_nZ, y_nL, y_nR, y_k1i, y_k1r, y_k1l, y_k1n, y_tl, y_tn, y_s, y_ss, List.getElem?_cons_zero, List.getElem?_cons_succ, List.set_cons_zero, List.set_cons_succ, List.length_cons, List.length_nil, true_and, and_true]
          refine br1 (by first | decide | omega | trivial | simp) ?_
          simp (disch := omega) only [q_X5_work_83, q_X5_work_85, q_X5_work_86, neg2, y_is, y_gf, y_pf, y_f0, y_f1, y_f3, y_nI, y_nK, y_nZ, y_nL, y_nR, y_k1i, y_k1r, y_k1l, y_k1n, y_tl, y_tn, y_s, y_ss, List.getElem?_cons_zero, List.getElem?_cons_succ, List.set_cons_zero, List.set_cons_succ, List.length_cons, List.length_nil, true_and, and_true]
          refine s_rankOf c1 ?_
          have hk := rk_le c
          simp (disch := omega) only [q_X5_work_89, q_X5_work_91, y_is, y_gf, y_pf, y_f0, y_f1, y_f3, y_nI, y_nK, y_nZ, y_nL, y_nR, y_k1i, y_k1r, y_k1l, y_k1n, y_tl, y_tn, y_s, y_ss, List.getElem?_cons_zero, List.getElem?_cons_succ, List.set_cons_zero, List.set_cons_succ, List.length_cons, List.length_nil, true_and, and_true, lit, eq_n]
          by_cases r6 : rk c = 6
          · rw [bnt r6]
            cases E with
            | nil =>
              simp (disch := omega) only [q_X5_work_94, q_X5_work_96, y_is, y_gf, y_pf, y_f0, y_f1, y_f3, y_nI, y_nK, y_nZ, y_nL, y_nR, y_k1i, y_k1r, y_k1l, y_k1n, y_tl, y_tn, y_s, y_ss, List.getElem?_cons_zero, List.getElem?_cons_succ, List.set_cons_zero, List.set_cons_succ, List.length_cons, List.length_nil, true_and, and_true, lit, le_n]
              exact br1 (by first | decide | omega | trivial | simp) (fin g' S [] _ hf hS (ev_0 hnm).symm trivial)
            | cons y r =>
              simp only [List.length_cons] at hle
              simp (disch := omega) only [q_X5_work_94, q_X5_work_96, y_is, y_gf, y_pf, y_f0, y_f1, y_f3, y_nI, y_nK, y_nZ, y_nL, y_nR, y_k1i, y_k1r, y_k1l, y_k1n, y_tl, y_tn, y_s, y_ss, List.getElem?_cons_zero, List.getElem?_cons_succ, List.set_cons_zero, List.set_cons_succ, List.length_cons, List.length_nil, true_and, and_true, lit, le_n]
              refine br0 (by first | decide | omega | trivial | simp) ?_
              simp (disch := omega) only [q_X5_work_99, q_X5_work_100, q_X5_work_103, q_X5_work_105, q_X5_work_106, q_X5_work_107, q_X5_work_109, q_X5_work_110, q_X5_work_111, q_X5_work_114, q_X5_work_116, q_X5_work_117, q_X5_work_118, q_X5_work_119, hK.1, hS, neg2, y_is, y_gf, y_pf, y_f0, y_f1, y_f3, y_nI, y_nK, y_nZ, y_nL, y_nR, y_k1i, y_k1r, y_k1l, y_k1n, y_tl, y_tn, y_s, y_ss, List.getElem?_cons_zero, List.getElem?_cons_succ, List.set_cons_zero, List.set_cons_succ, List.length_cons, List.length_nil, true_and, and_true, y_lIn, y_lKn, y_lZn, y_lLn, y_wIn, y_wZn, y_wLn, lit, le_n, lt_n, eq_n, lit, pk_sub, Nat.add_sub_cancel, hst.1]
              refine s_ofOne c1 ?_
              simp (disch := omega) only [q_X5_work_122, q_X5_work_123, hS, y_is, y_gf, y_pf, y_f0, y_f1, y_f3, y_nI, y_nK, y_nZ, y_nL, y_nR, y_k1i, y_k1r, y_k1l, y_k1n, y_tl, y_tn, y_s, y_ss, List.getElem?_cons_zero, List.getElem?_cons_succ, List.set_cons_zero, List.set_cons_succ, List.length_cons, List.length_nil, true_and, and_true, y_lIn, y_lKn, y_lZn, y_lLn, y_wIn, y_wZn, y_wLn, lit, le_n, lt_n, eq_n]
              exact fin _ _ (one c y :: r) _ (hf.hs (by omega) (by omega)) y_s (ev_1 hnm r6).symm (sfL_push hst.2)
          · rw [bnf r6]
            cases E with
            | nil =>
              simp (disch := omega) only [q_X5_work_126, q_X5_work_128, q_X5_work_129, y_is, y_gf, y_pf, y_f0, y_f1, y_f3, y_nI, y_nK, y_nZ, y_nL, y_nR, y_k1i, y_k1r, y_k1l, y_k1n, y_tl, y_tn, y_s, y_ss, List.getElem?_cons_zero, List.getElem?_cons_succ, List.set_cons_zero, List.set_cons_succ, List.length_cons, List.length_nil, true_and, and_true, lit, le_n]
              exact br1 (by first | decide | omega | trivial | simp) (fin g' S [] _ hf hS (ev_0 hnm).symm trivial)
            | cons y r =>
              cases r with
              | nil =>
                simp (disch := omega) only [q_X5_work_126, q_X5_work_128, q_X5_work_129, y_is, y_gf, y_pf, y_f0, y_f1, y_f3, y_nI, y_nK, y_nZ, y_nL, y_nR, y_k1i, y_k1r, y_k1l, y_k1n, y_tl, y_tn, y_s, y_ss, List.getElem?_cons_zero, List.getElem?_cons_succ, List.set_cons_zero, List.set_cons_succ, List.length_cons, List.length_nil, true_and, and_true, lit, le_n]
                exact br1 (by first | decide | omega | trivial | simp) (fin g' S [y] _ hf hS (ev_s hnm r6).symm hst)
              | cons z r =>
                simp only [List.length_cons] at hle
                obtain ⟨t1, t2, t3⟩ := id hst
                simp only [List.length_cons] at t1
                simp (disch := omega) only [q_X5_work_126, q_X5_work_128, q_X5_work_129, y_is, y_gf, y_pf, y_f0, y_f1, y_f3, y_nI, y_nK, y_nZ, y_nL, y_nR, y_k1i, y_k1r, y_k1l, y_k1n, y_tl, y_tn, y_s, y_ss, List.getElem?_cons_zero, List.getElem?_cons_succ, List.set_cons_zero, List.set_cons_succ, List.length_cons, List.length_nil, true_and, and_true, lit, le_n]
                refine br0 (by first | decide | omega | trivial | simp) ?_
                simp (disch := omega) only [q_X5_work_132, q_X5_work_135, q_X5_work_136, q_X5_work_139, q_X5_work_141, q_X5_work_142, q_X5_work_143, q_X5_work_145, q_X5_work_146, q_X5_work_147, q_X5_work_150, q_X5_work_152, q_X5_work_153, q_X5_work_154, q_X5_work_155, q_X5_work_156, q_X5_work_159, q_X5_work_161, q_X5_work_162, hK.1, hS, neg2, y_is, y_gf, y_pf, y_f0, y_f1, y_f3, y_nI, y_nK, y_nZ, y_nL, y_nR, y_k1i, y_k1r, y_k1l, y_k1n, y_tl, y_tn, y_s, y_ss, List.getElem?_cons_zero, List.getElem?_cons_succ, List.set_cons_zero, List.set_cons_succ, List.length_cons, List.length_nil, true_and, and_true, y_lIn, y_lKn, y_lZn, y_lLn, y_wIn, y_wZn, y_wLn, lit, le_n, lt_n, eq_n, lit, m_neg, pk_sub, Nat.add_sub_cancel, t1, t2]
                refine s_ofTwo c1 ?_
                simp (disch := omega) only [q_X5_work_165, hS, y_is, y_gf, y_pf, y_f0, y_f1, y_f3, y_nI, y_nK, y_nZ, y_nL, y_nR, y_k1i, y_k1r, y_k1l, y_k1n, y_tl, y_tn, y_s, y_ss, List.getElem?_cons_zero, List.getElem?_cons_succ, List.set_cons_zero, List.set_cons_succ, List.length_cons, List.length_nil, true_and, and_true, y_lIn, y_lKn, y_lZn, y_lLn, y_wIn, y_wZn, y_wLn, lit, le_n, lt_n, eq_n]
                exact fin _ _ (two c z y :: r) _ (hf.hs (by omega) (by omega)) y_s (ev_2 hnm r6).symm (sfL_push t3)
  simp only [q_X5_work_0, q_X5_work_1, q_X5_work_3, q_X5_work_4, y_is, y_gf, y_pf, y_f0, y_f1, y_f3, y_nI, y_nK, y_nZ, y_nL, y_nR, y_k1i, y_k1r, y_k1l, y_k1n, y_tl, y_tn, y_s, y_ss, List.getElem?_cons_zero, List.getElem?_cons_succ, List.set_cons_zero, List.set_cons_succ, List.length_cons, List.length_nil, true_and, and_true]
  exact loop L.length 0 g S0 [] _ (by omega) fr.rf h4 (by rw [Nat.sub_zero, List.drop_length]; rfl) trivial
end RULE3
