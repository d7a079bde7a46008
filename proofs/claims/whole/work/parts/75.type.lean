/-! ===== typing ===== -/
theorem bv8 (x : BitVec 64) (s : Nat) (hs : s ≤ 56) : ((x >>> s) &&& 255#64).setWidth 32 = (x.sshiftRight s).setWidth 32 &&& 255#32 := by
  have c32 : ∀ j : Fin 32, (255#32).getLsbD j.val = decide (j.val < 8) := by decide +kernel
  have c64 : ∀ j : Fin 32, (255#64).getLsbD j.val = decide (j.val < 8) := by decide +kernel
  apply BitVec.eq_of_getLsbD_eq
  intro j hj
  rw [BitVec.getLsbD_setWidth, BitVec.getLsbD_and, BitVec.getLsbD_and, BitVec.getLsbD_setWidth, BitVec.getLsbD_ushiftRight, BitVec.getLsbD_sshiftRight, c32 ⟨j, hj⟩, c64 ⟨j, hj⟩]
  by_cases h8 : j < 8
  · have e1 : s + j < 64 := by omega
    have e2 : ¬ 64 ≤ j := by omega
    simp [e1, e2, h8, hj]
  · simp [h8]
theorem bv9 (x : BitVec 64) (s : Nat) (hs : s ≤ 56) : ((x >>> s) &&& 255#64).signExtend 32 = (x.sshiftRight s).signExtend 32 &&& 255#32 := by
  rw [BitVec.signExtend_eq_setWidth_of_le _ (by decide), BitVec.signExtend_eq_setWidth_of_le _ (by decide)]
  exact bv8 x s hs
def byt (l : Int64) (i : Nat) : Nat := ck ((l >>> ((nI (8 * i)).toInt64 &&& 63)).toInt32 &&& 255)
theorem and255 (y : Int32) : ∃ n, n < 256 ∧ y &&& 255 = nI n := by
  refine ⟨(y &&& 255).toBitVec.toNat, ?_, ?_⟩
  · have : (y &&& 255).toBitVec = y.toBitVec &&& 255#32 := rfl
    rw [this, BitVec.toNat_and]
    exact Nat.lt_of_le_of_lt Nat.and_le_right (by decide)
  · apply Int32.toBitVec_inj.mp
    show _ = BitVec.ofNat 32 _
    rw [BitVec.ofNat_toNat, BitVec.setWidth_eq]
theorem byt_1 (l : Int64) (i : Nat) : (l >>> ((nI (8 * i)).toInt64 &&& 63)).toInt32 &&& 255 = nI (byt l i) ∧ byt l i < 256 := by
  obtain ⟨n, h1, h2⟩ := and255 (l >>> ((nI (8 * i)).toInt64 &&& 63)).toInt32
  unfold byt
  rw [h2, ck_n (by omega)]
  exact ⟨rfl, h1⟩
theorem byt_2 (l : Int64) (i : Nat) (hi : i < 8) : ((l.toUInt64 >>> ((nI (8 * i)).toInt64.toUInt64 &&& Int64.toUInt64 63)).toInt64 &&& 255).toInt32 = nI (byt l i) := by
  rw [← (byt_1 l i).1]
  apply Int32.toBitVec_inj.mp
  match i, hi with
  | 0, _ => exact bv9 l.toBitVec 0 (by decide)
  | 1, _ => exact bv9 l.toBitVec 8 (by decide)
  | 2, _ => exact bv9 l.toBitVec 16 (by decide)
  | 3, _ => exact bv9 l.toBitVec 24 (by decide)
  | 4, _ => exact bv9 l.toBitVec 32 (by decide)
  | 5, _ => exact bv9 l.toBitVec 40 (by decide)
  | 6, _ => exact bv9 l.toBitVec 48 (by decide)
  | 7, _ => exact bv9 l.toBitVec 56 (by decide)
/-- the text with n bytes more -/
def tyB (tb : Nat → Nat) (tl : Nat) (l : Int64) (n : Nat) : Nat → Nat := fun k => if tl ≤ k ∧ k < tl + n then byt l (n - 1 - (k - tl)) else tb k
def oType (S : sT) (l : Int64) (n : Int32) : sT × Int32 := if inB n 1 8 then (if S.tl + ck n ≤ 200 then (S.uT (tyB S.tb S.tl l (ck n)) (S.tl + ck n), nI (S.tl + ck n)) else (rfs S 2, -4)) else (rfs S 0, -2)
section TYPE
variable {b : mzB} {g : mzG} {Q : mzQ} {S : sT}
theorem s_xadd {tb : Nat → Nat} {len a t p c : Nat} {va : Int32} (hT : tx g tb len a t p va) (hl : len < 200) (hc : c < 256) (hQ : ∀ g', tx g' (va_up tb len c) (len + 1) a t p va → fr g g' 15 29 → (∀ k, 16 ≤ k → k < 28 → g'.2 k = g.2 k) → Q none g') : wp 66 b 0 [.ref 15, .int (nI c)] [] g Q := by
  obtain ⟨h1, ⟨f, h2, h3⟩, h4⟩ := hT
  simp (disch := omega) only [q_X8_add_0, q_X8_add_1, q_X8_add_4, q_X8_add_5, q_X8_add_8, q_X8_add_9, h1, h2, y_is, y_gf, y_pf, y_f0, y_f1, y_f3, y_nI, y_nK, y_nZ, y_nL, y_nR, y_k1i, y_k1r, y_k1l, y_k1n, y_tl, y_tn, y_s, y_ss, List.getElem?_cons_zero, List.getElem?_cons_succ, List.set_cons_zero, List.set_cons_succ, List.length_cons, List.length_nil, true_and, and_true]
  refine br0 ?_ ?_
  · show ¬ nI 200 ≤ nI len
    rw [le_n (by omega) (by omega)]; omega
  simp (disch := omega) only [q_X8_add_12, q_X8_add_13, q_X8_add_16, q_X8_add_17, q_X8_add_20, q_X8_add_21, q_X8_add_22, q_X8_add_23, q_X8_add_24, q_X8_add_27, q_X8_add_28, q_X8_add_29, q_X8_add_32, h1, h2, y_is, y_gf, y_pf, y_f0, y_f1, y_f3, y_nI, y_nK, y_nZ, y_nL, y_nR, y_k1i, y_k1r, y_k1l, y_k1n, y_tl, y_tn, y_s, y_ss, List.getElem?_cons_zero, List.getElem?_cons_succ, List.set_cons_zero, List.set_cons_succ, List.length_cons, List.length_nil, true_and, and_true, y_lIn, y_lKn, y_lZn, y_lLn, y_wIn, y_wZn, y_wLn, lit, le_n, lt_n, eq_n, y_ne, nI_add]
  refine ⟨by decide, hQ _ ⟨y_s, ⟨_, by rw [y_ne (by decide), y_s], fun i hi => ?_⟩, by omega⟩ ((fr.rf.hs (by omega) (by omega)).hs (by omega) (by omega)) (fun k k1 k2 => by rw [y_ne (by omega), y_ne (by omega)])⟩
  unfold va_up
  by_cases e : i = len
  · subst e; rw [u_s, if_pos rfl]; exact ⟨rfl, hc⟩
  · rw [u_n e, if_neg e]; exact h3 i (by omega)
theorem c_type {l : Int64} {n : Int32} (hC : CR g S) (hS : sv S) (hQ : cO g (oType S l n) Q) : wp 92 b 0 [.ref 0, .long l, .null, .int n, .null] [] g Q := by
  unfold oType at hQ
  obtain ⟨⟨a, t, p, va, hT⟩, vd, Ad, hD⟩ := id hC.cT
  have hlen := hT.2.2
  have bad : inB n 1 8 = false → wp 92 b 11 [.ref 0, .long l, .null, .int n, .null] [] g Q := by
    intro h
    rw [h] at hQ
    simp only [q_X10_type_11, q_X10_type_12, q_X10_type_14, hC.c0.1, y_is, y_gf, y_pf, y_f0, y_f1, y_f3, y_nI, y_nK, y_nZ, y_nL, y_nR, y_k1i, y_k1r, y_k1l, y_k1n, y_tl, y_tn, y_s, y_ss, List.getElem?_cons_zero, List.getElem?_cons_succ, List.set_cons_zero, List.set_cons_succ, List.length_cons, List.length_nil, true_and, and_true]
    refine c_ref hC (i := 0) (by decide) (by decide) (fun g' h1 h2 => ?_)
    simp only [q_X10_type_17, y_is, y_gf, y_pf, y_f0, y_f1, y_f3, y_nI, y_nK, y_nZ, y_nL, y_nR, y_k1i, y_k1r, y_k1l, y_k1n, y_tl, y_tn, y_s, y_ss, List.getElem?_cons_zero, List.getElem?_cons_succ, List.set_cons_zero, List.set_cons_succ, List.length_cons, List.length_nil, true_and, and_true]
    exact hQ g' h1 h2
  simp (disch := omega) only [q_X10_type_0, q_X10_type_1, q_X10_type_2, q_X10_type_5, q_X10_type_6, q_X10_type_8, y_is, y_gf, y_pf, y_f0, y_f1, y_f3, y_nI, y_nK, y_nZ, y_nL, y_nR, y_k1i, y_k1r, y_k1l, y_k1n, y_tl, y_tn, y_s, y_ss, List.getElem?_cons_zero, List.getElem?_cons_succ, List.set_cons_zero, List.set_cons_succ, List.length_cons, List.length_nil, true_and, and_true]
  refine brs (fun z => bad (f_lt (by decide) (by decide) z)) (fun z => brs (fun y => ?_) (fun y => bad (f_gt (by decide) (by decide) y)))
  obtain ⟨m, m1, m2, e⟩ := in_of (a := 1) (c := 8) (by omega) (by omega) z y
  subst e
  rw [inB_n (by omega) m1 m2, ck_n (by omega), if_pos rfl] at hQ
  simp (disch := omega) only [q_X10_type_18, q_X10_type_19, q_X10_type_22, q_X10_type_25, q_X10_type_26, q_X10_type_27, q_X10_type_30, hC.c0.1, hT.1, y_is, y_gf, y_pf, y_f0, y_f1, y_f3, y_nI, y_nK, y_nZ, y_nL, y_nR, y_k1i, y_k1r, y_k1l, y_k1n, y_tl, y_tn, y_s, y_ss, List.getElem?_cons_zero, List.getElem?_cons_succ, List.set_cons_zero, List.set_cons_succ, List.length_cons, List.length_nil, true_and, and_true, lit, nI_add, le_n]
  refine brs (fun y => ?_) (fun y => ?_)
  · rw [if_pos y] at hQ
    have loop : ∀ (d : Nat) (g' : mzG) (tb' : Nat → Nat) (len' : Nat) (x4 : Int32), d ≤ m → len' = S.tl + (m - d) → x4 = nI d - 1 → (∀ k, k < len' → tb' k = tyB S.tb S.tl l m k) → tx g' tb' len' a t p va → wt g' 16 vd Ad → fr g g' 15 29 → wp 92 b 45 [.ref 0, .long l, .null, .int (nI m), .int x4] [] g' Q := by
      intro d
      induction d with
      | zero =>
        intro g' tb' len' x4 hd hl hx htb hT' hD' hf
        have c0 : g'.2 0 = _ := (hf.2 0 (by omega)).trans hC.c0.1
        subst hx
        rw [q_X10_type_45]
        simp (disch := omega) only [q_X10_type_47, q_X10_type_75, q_X10_type_76, q_X10_type_79, q_X10_type_82, c0, hT'.1, y_is, y_gf, y_pf, y_f0, y_f1, y_f3, y_nI, y_nK, y_nZ, y_nL, y_nR, y_k1i, y_k1r, y_k1l, y_k1n, y_tl, y_tn, y_s, y_ss, List.getElem?_cons_zero, List.getElem?_cons_succ, List.set_cons_zero, List.set_cons_succ, List.length_cons, List.length_nil, true_and, and_true]
        refine br1 (by decide) ?_
        rw [hl, show m - 0 = m by omega]
        refine hQ g' (hC.t hf ⟨⟨a, t, p, va, ?_⟩, vd, Ad, hD'⟩) (hf.wide (by omega) (by omega))
        obtain ⟨k1, ⟨f, k2, k3⟩, k4⟩ := hT'
        have hl' : len' = S.tl + m := by omega
        subst hl'
        refine ⟨k1, ⟨f, k2, fun i hi => ?_⟩, k4⟩
        rw [← htb i hi]
        exact k3 i hi
      | succ d ih =>
        intro g' tb' len' x4 hd hl hx htb hT' hD' hf
        have c0 : g'.2 0 = _ := (hf.2 0 (by omega)).trans hC.c0.1
        have hx : x4 = nI d := by
          rw [hx, nI_succ]
          exact Int32.add_sub_cancel _ _
        subst hx
        obtain ⟨b1, b2⟩ := byt_1 l d
        rw [q_X10_type_45]
        simp (disch := omega) only [q_X10_type_47, q_X10_type_50, q_X10_type_51, q_X10_type_54, q_X10_type_55, q_X10_type_57, q_X10_type_59, q_X10_type_60, q_X10_type_61, q_X10_type_62, q_X10_type_65, q_X10_type_66, c0, hT'.1, y_is, y_gf, y_pf, y_f0, y_f1, y_f3, y_nI, y_nK, y_nZ, y_nL, y_nR, y_k1i, y_k1r, y_k1l, y_k1n, y_tl, y_tn, y_s, y_ss, List.getElem?_cons_zero, List.getElem?_cons_succ, List.set_cons_zero, List.set_cons_succ, List.length_cons, List.length_nil, true_and, and_true, lit, pk_mul, lt_n]
        rw [show nI 255 = (255 : Int32) from rfl, b1]
        refine br0 (by omega) (s_xadd hT' (by omega) b2 (fun g2 hT2 hf2 hk2 => ?_))
        simp (disch := omega) only [q_X10_type_69, q_X10_type_72, y_is, y_gf, y_pf, y_f0, y_f1, y_f3, y_nI, y_nK, y_nZ, y_nL, y_nR, y_k1i, y_k1r, y_k1l, y_k1n, y_tl, y_tn, y_s, y_ss, List.getElem?_cons_zero, List.getElem?_cons_succ, List.set_cons_zero, List.set_cons_succ, List.length_cons, List.length_nil, true_and, and_true]
        refine ih g2 _ _ _ (by omega) (by omega) ?_ (fun k hk => ?_) hT2 (hD'.kept (fun k k1 k2 => hk2 k k1 (by omega))) (hf.tr hf2)
        · rw [Int32.sub_eq_add_neg]
        · unfold va_up
          by_cases c : k = len'
          · rw [if_pos c]
            unfold tyB
            rw [if_pos (by omega), show m - 1 - (k - S.tl) = d by omega]
          · rw [if_neg c]; exact htb k (by omega)
    simp (disch := omega) only [q_X10_type_40, q_X10_type_41, q_X10_type_42, q_X10_type_43, y_is, y_gf, y_pf, y_f0, y_f1, y_f3, y_nI, y_nK, y_nZ, y_nL, y_nR, y_k1i, y_k1r, y_k1l, y_k1n, y_tl, y_tn, y_s, y_ss, List.getElem?_cons_zero, List.getElem?_cons_succ, List.set_cons_zero, List.set_cons_succ, List.length_cons, List.length_nil, true_and, and_true, lit]
    refine loop m g S.tb S.tl _ (by omega) (by omega) rfl (fun k hk => ?_) hT hD fr.rf
    unfold tyB
    rw [if_neg (by omega)]
  · rw [if_neg y] at hQ
    simp only [q_X10_type_33, q_X10_type_34, q_X10_type_36, hC.c0.1, y_is, y_gf, y_pf, y_f0, y_f1, y_f3, y_nI, y_nK, y_nZ, y_nL, y_nR, y_k1i, y_k1r, y_k1l, y_k1n, y_tl, y_tn, y_s, y_ss, List.getElem?_cons_zero, List.getElem?_cons_succ, List.set_cons_zero, List.set_cons_succ, List.length_cons, List.length_nil, true_and, and_true]
    refine c_ref hC (i := 2) (by decide) (by decide) (fun g' h1 h2 => ?_)
    simp only [q_X10_type_39, y_is, y_gf, y_pf, y_f0, y_f1, y_f3, y_nI, y_nK, y_nZ, y_nL, y_nR, y_k1i, y_k1r, y_k1l, y_k1n, y_tl, y_tn, y_s, y_ss, List.getElem?_cons_zero, List.getElem?_cons_succ, List.set_cons_zero, List.set_cons_succ, List.length_cons, List.length_nil, true_and, and_true]
    exact hQ g' h1 h2
theorem m_type {l : Int64} {n : Int32} (h : MR g S) (hS : sv S) (hQ : mO g (oType S l n) Q) : wp 211 b 0 [.ref 73, .long l, .null, .int n, .null] [] g Q := by
  unfold oType at hQ
  obtain ⟨x, r, hM, x0, x5⟩ := id h.mM
  obtain ⟨⟨fb, h84, hfb⟩, hlen⟩ := id h.mB
  simp only [q_X11_type_0, q_X11_type_1, q_X11_type_2, q_X11_type_3, q_X11_type_6, y_is, y_gf, y_pf, y_f0, y_f1, y_f3, y_nI, y_nK, y_nZ, y_nL, y_nR, y_k1i, y_k1r, y_k1l, y_k1n, y_tl, y_tn, y_s, y_ss, List.getElem?_cons_zero, List.getElem?_cons_succ, List.set_cons_zero, List.set_cons_succ, List.length_cons, List.length_nil, true_and, and_true, litL]
  refine s_inI (by decide) (by decide) (fun z => ?_) (fun z => ?_)
  · obtain ⟨m, m1, m2, e⟩ := z
    subst e
    rw [inB_n (by omega) m1 m2, ck_n (by omega), if_pos rfl] at hQ
    simp (disch := omega) only [q_X11_type_9, q_X11_type_19, q_X11_type_20, q_X11_type_23, q_X11_type_24, q_X11_type_25, q_X11_type_28, hM, x5, y_is, y_gf, y_pf, y_f0, y_f1, y_f3, y_nI, y_nK, y_nZ, y_nL, y_nR, y_k1i, y_k1r, y_k1l, y_k1n, y_tl, y_tn, y_s, y_ss, List.getElem?_cons_zero, List.getElem?_cons_succ, List.set_cons_zero, List.set_cons_succ, List.length_cons, List.length_nil, true_and, and_true, lit, nI_add, le_n]
    refine br1 (by decide) (brs (fun y => ?_) (fun y => ?_))
    · rw [if_pos y] at hQ
      have loop : ∀ (d : Nat) (g' : mzG) (fb' : Nat → Int32) (len' : Nat) (x4 : Int32), d ≤ m → len' = S.tl + (m - d) → x4 = nI d - 1 → (∀ k, k < len' → fb' k = nI (tyB S.tb S.tl l m k) ∧ tyB S.tb S.tl l m k < 256) → g'.2 73 = ob 9 [.ref 74, .ref 75, .ref 76, .ref 77, .ref 78, .ref 79, .int (x 0), .int (x 1), .int (x 2), .ref 80, .int (x 3), .ref 81, .int (x 4), .ref 82, .long (r), .ref 83, .ref 84, .int (nI len'), .int (x 6), .int (x 7), .int (x 8), .int (x 9), .ref 85, .int (x 10)] → g'.2 84 = aI 200 fb' → (∀ k, k ≠ 73 → k ≠ 84 → g'.2 k = g.2 k) → g'.1 = g.1 → wp 211 b 41 [.ref 73, .long l, .null, .int (nI m), .int x4] [] g' Q := by
        intro d
        induction d with
        | zero =>
          intro g' fb' len' x4 hd hl hx htb hM' h84' hf h1
          subst hx
          rw [q_X11_type_41]
          simp (disch := omega) only [q_X11_type_43, q_X11_type_83, q_X11_type_84, q_X11_type_87, hM', y_is, y_gf, y_pf, y_f0, y_f1, y_f3, y_nI, y_nK, y_nZ, y_nL, y_nR, y_k1i, y_k1r, y_k1l, y_k1n, y_tl, y_tn, y_s, y_ss, List.getElem?_cons_zero, List.getElem?_cons_succ, List.set_cons_zero, List.set_cons_succ, List.length_cons, List.length_nil, true_and, and_true]
          refine br1 (by decide) ?_
          have hl' : len' = S.tl + m := by omega
          subst hl'
          obtain ⟨x2, k1, k2, k3⟩ := mo_x hM'
          exact hQ g' (h.t hf ⟨x2, r, k1, k2.trans x0, k3⟩ ⟨⟨fb', h84', htb⟩, y⟩) ⟨h1, fun k hk => hf k (by omega) (by omega)⟩
        | succ d ih =>
          intro g' fb' len' x4 hd hl hx htb hM' h84' hf h1
          have hx : x4 = nI d := by
            rw [hx, nI_succ]
            exact Int32.add_sub_cancel _ _
          subst hx
          have b2 := byt_2 l d (by omega)
          have b3 := (byt_1 l d).2
          rw [q_X11_type_41]
          simp (disch := omega) only [q_X11_type_43, q_X11_type_46, q_X11_type_47, q_X11_type_50, q_X11_type_51, q_X11_type_54, q_X11_type_55, q_X11_type_57, q_X11_type_59, q_X11_type_60, q_X11_type_61, q_X11_type_64, q_X11_type_65, hM', y_is, y_gf, y_pf, y_f0, y_f1, y_f3, y_nI, y_nK, y_nZ, y_nL, y_nR, y_k1i, y_k1r, y_k1l, y_k1n, y_tl, y_tn, y_s, y_ss, List.getElem?_cons_zero, List.getElem?_cons_succ, List.set_cons_zero, List.set_cons_succ, List.length_cons, List.length_nil, true_and, and_true, lit, pk_mul, lt_n]
          rw [b2]
          refine br0 (by omega) ?_
          simp (disch := omega) only [q_X11_type_66, q_X11_type_67, q_X11_type_68, q_X11_type_69, q_X11_type_72, q_X11_type_73, q_X11_type_74, q_X11_type_77, q_X11_type_80, hM', h84', y_is, y_gf, y_pf, y_f0, y_f1, y_f3, y_nI, y_nK, y_nZ, y_nL, y_nR, y_k1i, y_k1r, y_k1l, y_k1n, y_tl, y_tn, y_s, y_ss, List.getElem?_cons_zero, List.getElem?_cons_succ, List.set_cons_zero, List.set_cons_succ, List.length_cons, List.length_nil, true_and, and_true, y_lIn, y_lKn, y_lZn, y_lLn, y_wIn, y_wZn, y_wLn, lit, le_n, lt_n, eq_n, y_ne, nI_add]
          refine ⟨by decide, ih _ _ (len' + 1) _ (by omega) (by omega) (by show nI d + -(1 : Int32) = nI d - 1; rw [Int32.sub_eq_add_neg]) (fun k hk => ?_) y_s (by rw [y_ne (by decide), y_s]) (fun k k1 k2 => by rw [y_ne k1, y_ne k2]; exact hf k k1 k2) h1⟩
          by_cases c : k = len'
          · subst c
            rw [u_s]
            unfold tyB
            rw [if_pos (by omega), show m - 1 - (k - S.tl) = d by omega]
            exact ⟨rfl, b3⟩
          · rw [u_n c]; exact htb k (by omega)
      simp (disch := omega) only [q_X11_type_36, q_X11_type_37, q_X11_type_38, q_X11_type_39, y_is, y_gf, y_pf, y_f0, y_f1, y_f3, y_nI, y_nK, y_nZ, y_nL, y_nR, y_k1i, y_k1r, y_k1l, y_k1n, y_tl, y_tn, y_s, y_ss, List.getElem?_cons_zero, List.getElem?_cons_succ, List.set_cons_zero, List.set_cons_succ, List.length_cons, List.length_nil, true_and, and_true, lit]
      refine loop m g fb S.tl _ (by omega) (by omega) rfl (fun k hk => ?_) (by rw [hM, x5]) h84 (fun _ _ _ => rfl) rfl
      unfold tyB
      rw [if_neg (by omega)]
      exact hfb k hk
    · rw [if_neg y] at hQ
      simp only [q_X11_type_31, q_X11_type_32, hM, y_is, y_gf, y_pf, y_f0, y_f1, y_f3, y_nI, y_nK, y_nZ, y_nL, y_nR, y_k1i, y_k1r, y_k1l, y_k1n, y_tl, y_tn, y_s, y_ss, List.getElem?_cons_zero, List.getElem?_cons_succ, List.set_cons_zero, List.set_cons_succ, List.length_cons, List.length_nil, true_and, and_true]
      refine m_full h (fun g' a1 a2 => ?_)
      simp only [q_X11_type_35, y_is, y_gf, y_pf, y_f0, y_f1, y_f3, y_nI, y_nK, y_nZ, y_nL, y_nR, y_k1i, y_k1r, y_k1l, y_k1n, y_tl, y_tn, y_s, y_ss, List.getElem?_cons_zero, List.getElem?_cons_succ, List.set_cons_zero, List.set_cons_succ, List.length_cons, List.length_nil, true_and, and_true]
      exact hQ g' a1 a2
  · rw [inB_f (by omega) (by omega) z, if_neg (by decide)] at hQ
    simp only [q_X11_type_9, q_X11_type_12, q_X11_type_13, q_X11_type_15, hM, y_is, y_gf, y_pf, y_f0, y_f1, y_f3, y_nI, y_nK, y_nZ, y_nL, y_nR, y_k1i, y_k1r, y_k1l, y_k1n, y_tl, y_tn, y_s, y_ss, List.getElem?_cons_zero, List.getElem?_cons_succ, List.set_cons_zero, List.set_cons_succ, List.length_cons, List.length_nil, true_and, and_true]
    refine br0 (fun z => z (by first | decide | omega | trivial | simp)) (m_bad h (fun g' a1 a2 => ?_))
    simp only [q_X11_type_18, y_is, y_gf, y_pf, y_f0, y_f1, y_f3, y_nI, y_nK, y_nZ, y_nL, y_nR, y_k1i, y_k1r, y_k1l, y_k1n, y_tl, y_tn, y_s, y_ss, List.getElem?_cons_zero, List.getElem?_cons_succ, List.set_cons_zero, List.set_cons_succ, List.length_cons, List.length_nil, true_and, and_true]
    exact hQ g' a1 a2
end TYPE
