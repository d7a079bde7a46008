/-! ===== the digest, both ===== -/
def lm (M i : Nat) : Int32 := nI (M / BB ^ i % BB)
def dgW (W : Nat → Nat) (h : Int64) : Int64 := mx (mx (mx (mx (mrows (fun i p => nI (W (1 + 9 * i + p))) h (W 0)) (fun j => nI (W (46 + j))) 4) (fun j => nI (W (51 + j))) (3 * W 50)) (fun j => tI (W (88 + j))) (W 87)) (fun j => nI (W (101 + j))) (W 100)
def dgT (S : sT) (h : Int64) : Int64 := 31 * (31 * (31 * h + (sgN S.N).toInt64) + (nI (szN S.N)).toInt64) + (nI (szN S.D)).toInt64
def oDigest (S : sT) : sT × Int64 := (S, mx (mx (dgT S (dgW S.W (mx 739 (hm S) 5))) (lm S.N) (szN S.N)) (lm S.D) (szN S.D))
theorem mx_congr {h : Int64} {f f' : Nat → Int32} : ∀ {n : Nat}, (∀ i, i < n → f i = f' i) → mx h f n = mx h f' n
  | 0, _ => rfl
  | n + 1, e => by rw [mx, mx, mx_congr (fun i hi => e i (by omega)), e n (by omega)]
theorem cw_mix {v : Nat → Int32} {A : Nat → Nat → Int32} {W : Nat → Nat} (hc : cw v A W) (hv : wv W) {h : Int64} : mixW v A (W 0) (W 50) (W 87) (W 100) h = dgW W h := by
  obtain ⟨⟨a0, a1, a2, a3, a4, a5, a6, a7⟩, h2, h3, h4⟩ := hc
  obtain ⟨⟨n1, n9⟩, -, ⟨-, -, -, -, w50⟩, -, ⟨w87, w100⟩, -⟩ := hv
  have r1 : ∀ p h, p < 9 → ∀ k, k ≤ 5 → mrow A p h k = mrow (fun i p => nI (W (1 + 9 * i + p))) p h k := by
    intro p h hp k
    induction k with
    | zero => intro _; rfl
    | succ k ih => intro hk; rw [mrow, mrow, ih (by omega), h2 k p (by omega) hp]
  have r2 : ∀ p, p ≤ 9 → mrows A h p = mrows (fun i p => nI (W (1 + 9 * i + p))) h p := by
    intro p
    induction p with
    | zero => intro _; rfl
    | succ p ih => intro hp; rw [mrows, mrows, ih (by omega), r1 p _ (by omega) 5 (by omega)]
  have r3 : ∀ h k, k ≤ 12 → msig A h k = mx h (fun j => nI (W (51 + j))) (3 * k) := by
    intro h k
    induction k with
    | zero => intro _; rfl
    | succ k ih =>
      intro hk
      obtain ⟨b5, b6, b7, -⟩ := h3 k (by omega)
      rw [msig, ih (by omega), b5, b6, b7, show 3 * (k + 1) = 3 * k + 1 + 1 + 1 by omega, mx, mx, mx]
      rfl
  have r4 : ∀ h, mix4 v h = mx h (fun j => nI (W (46 + j))) 4 := by
    intro h
    unfold mix4
    rw [a1, a2, a3, a4]
    rfl
  unfold mixW dgW
  rw [r2 _ n9, r4, r3 _ _ w50, mx_congr (n := W 87) (f' := fun j => tI (W (88 + j))) (fun i hi => (h3 i (by omega)).2.2.2), mx_congr (n := W 100) (f' := fun j => nI (W (101 + j))) (fun i hi => h4 i (by omega))]
section DIGEST
variable {b : mzB} {g : mzG} {Q : mzQ} {S : sT}
theorem c_digest (hC : CR g S) (hS : sv S) (hQ : cO8 g (oDigest S) Q) : wp 126 b 0 [.ref 0, .null, .null, .null] [] g Q := by
  obtain ⟨vv, A, hw, hc⟩ := id hC.cW
  have hv := hS.vW
  obtain ⟨f0, hN, hD⟩ := hC.cF
  obtain ⟨fn, e1, e2, e3, e4⟩ := nv_sz hN
  obtain ⟨fd, d1, d2, d3, d4⟩ := nv_sz hD
  obtain ⟨a0, a1, a2, a3, a4, a5, a6, a7⟩ := id hc.1
  have loop : ∀ d k, k + d = 5 → wp 126 b 6 [.ref 0, .long (mx 739 (hm S) k), .null, .int (nI k)] [] g Q := by
    intro d
    induction d with
    | zero =>
      intro k hk
      have hk : k = 5 := by omega
      subst hk
      rw [q_X10_digest_6]
      simp (disch := omega) only [q_X10_digest_7, q_X10_digest_8, q_X10_digest_30, q_X10_digest_31, q_X10_digest_34, q_X10_digest_35, hC.c0.1, hw.1, y_is, y_gf, y_pf, y_f0, y_f1, y_f3, y_nI, y_nK, y_nZ, y_nL, y_nR, y_k1i, y_k1r, y_k1l, y_k1n, y_tl, y_tn, y_s, y_ss, List.getElem?_cons_zero, List.getElem?_cons_succ, List.set_cons_zero, List.set_cons_succ, List.length_cons, List.length_nil, true_and, and_true]
      refine br1 (by decide) (s_mix hw a0 hv.1.2 a5 hv.2.2.1.2.2.2.2 a6 hv.2.2.2.2.1.1 a7 hv.2.2.2.2.1.2 ?_)
      rw [cw_mix hc hv]
      have fin : ∀ s : Int32, s = sgN S.N → wp 126 b 62 [.ref 0, .long (dgW S.W (mx 739 (hm S) 5)), .null, .int (nI 5)] [.int s, .long (31 * dgW S.W (mx 739 (hm S) 5))] g Q := by
        intro s hs
        subst hs
        simp (disch := omega) only [q_X10_digest_62, q_X10_digest_63, q_X10_digest_64, q_X10_digest_65, q_X10_digest_68, q_X10_digest_69, q_X10_digest_70, q_X10_digest_71, q_X10_digest_74, q_X10_digest_77, q_X10_digest_80, q_X10_digest_81, q_X10_digest_82, q_X10_digest_83, q_X10_digest_86, q_X10_digest_87, q_X10_digest_88, q_X10_digest_89, q_X10_digest_92, q_X10_digest_95, q_X10_digest_98, q_X10_digest_99, q_X10_digest_100, q_X10_digest_101, q_X10_digest_102, q_X10_digest_103, q_X10_digest_106, q_X10_digest_109, q_X10_digest_112, q_X10_digest_113, q_X10_digest_116, q_X10_digest_119, q_X10_digest_122, hC.c0.1, f0, e1, d1, y_is, y_gf, y_pf, y_f0, y_f1, y_f3, y_nI, y_nK, y_nZ, y_nL, y_nR, y_k1i, y_k1r, y_k1l, y_k1n, y_tl, y_tn, y_s, y_ss, List.getElem?_cons_zero, List.getElem?_cons_succ, List.set_cons_zero, List.set_cons_succ, List.length_cons, List.length_nil, true_and, and_true]
        refine s_mixAll e2 e3 (by omega) ?_
        simp (disch := omega) only [q_X10_digest_125, q_X10_digest_126, q_X10_digest_127, q_X10_digest_128, q_X10_digest_131, q_X10_digest_134, q_X10_digest_137, q_X10_digest_138, q_X10_digest_141, q_X10_digest_144, q_X10_digest_147, hC.c0.1, f0, e1, d1, y_is, y_gf, y_pf, y_f0, y_f1, y_f3, y_nI, y_nK, y_nZ, y_nL, y_nR, y_k1i, y_k1r, y_k1l, y_k1n, y_tl, y_tn, y_s, y_ss, List.getElem?_cons_zero, List.getElem?_cons_succ, List.set_cons_zero, List.set_cons_succ, List.length_cons, List.length_nil, true_and, and_true]
        refine s_mixAll d2 d3 (by omega) ?_
        simp only [q_X10_digest_150, y_is, y_gf, y_pf, y_f0, y_f1, y_f3, y_nI, y_nK, y_nZ, y_nL, y_nR, y_k1i, y_k1r, y_k1l, y_k1n, y_tl, y_tn, y_s, y_ss, List.getElem?_cons_zero, List.getElem?_cons_succ, List.set_cons_zero, List.set_cons_succ, List.length_cons, List.length_nil, true_and, and_true]
        have k := hQ g hC fr.rf
        rw [mx_congr (f' := lm S.N) (fun i hi => e4 i hi), mx_congr (f' := lm S.D) (fun i hi => d4 i hi)]
        exact k
      simp (disch := omega) only [q_X10_digest_38, q_X10_digest_39, q_X10_digest_42, q_X10_digest_43, q_X10_digest_44, q_X10_digest_45, q_X10_digest_48, q_X10_digest_51, q_X10_digest_54, hC.c0.1, f0, e1, y_is, y_gf, y_pf, y_f0, y_f1, y_f3, y_nI, y_nK, y_nZ, y_nL, y_nR, y_k1i, y_k1r, y_k1l, y_k1n, y_tl, y_tn, y_s, y_ss, List.getElem?_cons_zero, List.getElem?_cons_succ, List.set_cons_zero, List.set_cons_succ, List.length_cons, List.length_nil, true_and, and_true, lit, le_n]
      refine brs (fun z => ?_) (fun z => ?_)
      · simp only [q_X10_digest_61, y_is, y_gf, y_pf, y_f0, y_f1, y_f3, y_nI, y_nK, y_nZ, y_nL, y_nR, y_k1i, y_k1r, y_k1l, y_k1n, y_tl, y_tn, y_s, y_ss, List.getElem?_cons_zero, List.getElem?_cons_succ, List.set_cons_zero, List.set_cons_succ, List.length_cons, List.length_nil, true_and, and_true]
        exact fin 0 (by unfold sgN; rw [if_pos (szN_0.mp (by omega))])
      · simp only [q_X10_digest_57, q_X10_digest_58, y_is, y_gf, y_pf, y_f0, y_f1, y_f3, y_nI, y_nK, y_nZ, y_nL, y_nR, y_k1i, y_k1r, y_k1l, y_k1n, y_tl, y_tn, y_s, y_ss, List.getElem?_cons_zero, List.getElem?_cons_succ, List.set_cons_zero, List.set_cons_succ, List.length_cons, List.length_nil, true_and, and_true]
        exact fin 1 (by unfold sgN; rw [if_neg (fun e => z (by rw [szN_0.mpr e]; exact Nat.le_refl _))])
    | succ d ih =>
      intro k hk
      have ih := ih (k + 1) (by omega)
      rw [mx] at ih
      rw [q_X10_digest_6]
      simp (disch := omega) only [q_X10_digest_7, q_X10_digest_8, q_X10_digest_11, q_X10_digest_14, q_X10_digest_15, q_X10_digest_16, q_X10_digest_17, q_X10_digest_18, hC.c0.1, y_is, y_gf, y_pf, y_f0, y_f1, y_f3, y_nI, y_nK, y_nZ, y_nL, y_nR, y_k1i, y_k1r, y_k1l, y_k1n, y_tl, y_tn, y_s, y_ss, List.getElem?_cons_zero, List.getElem?_cons_succ, List.set_cons_zero, List.set_cons_succ, List.length_cons, List.length_nil, true_and, and_true, lit, lt_n]
      refine br0 (by omega) (c_howMany hC (by omega) ?_)
      simp (disch := omega) only [q_X10_digest_21, q_X10_digest_22, q_X10_digest_23, q_X10_digest_24, q_X10_digest_27, y_is, y_gf, y_pf, y_f0, y_f1, y_f3, y_nI, y_nK, y_nZ, y_nL, y_nR, y_k1i, y_k1r, y_k1l, y_k1n, y_tl, y_tn, y_s, y_ss, List.getElem?_cons_zero, List.getElem?_cons_succ, List.set_cons_zero, List.set_cons_succ, List.length_cons, List.length_nil, true_and, and_true, lit, nI_add]
      exact ih
  simp (disch := omega) only [q_X10_digest_0, q_X10_digest_3, q_X10_digest_4, q_X10_digest_5, y_is, y_gf, y_pf, y_f0, y_f1, y_f3, y_nI, y_nK, y_nZ, y_nL, y_nR, y_k1i, y_k1r, y_k1l, y_k1n, y_tl, y_tn, y_s, y_ss, List.getElem?_cons_zero, List.getElem?_cons_succ, List.set_cons_zero, List.set_cons_succ, List.length_cons, List.length_nil, true_and, and_true]
  exact loop 5 0 rfl
theorem s_sums {x : Nat → Int32} {r : Int64} {f : Nat → Int32} {h : Int64} {a n : Nat} {F : Nat → Int32} (hM : g.2 73 = ob 9 [.ref 74, .ref 75, .ref 76, .ref 77, .ref 78, .ref 79, .int (x 0), .int (x 1), .int (x 2), .ref 80, .int (x 3), .ref 81, .int (x 4), .ref 82, .long (r), .ref 83, .ref 84, .int (x 5), .int (x 6), .int (x 7), .int (x 8), .int (x 9), .ref 85, .int (x 10)]) (h74 : g.2 74 = aI 141 f) (han : a + n ≤ 141) (hF : ∀ j, j < n → f (a + j) = F j) (hQ : Q (some (.long (mx h F n))) g) : wp 227 b 0 [.ref 73, .long h, .null, .int (nI a), .int (nI n), .null, .null, .null] [] g Q := by
  have loop : ∀ d i, i + d = n → wp 227 b 6 [.ref 73, .long h, .null, .int (nI a), .int (nI n), .long (mx h F i), .null, .int (nI i)] [] g Q := by
    intro d
    induction d with
    | zero =>
      intro i hi
      have hi : i = n := by omega
      subst hi
      rw [q_X11_sums_6]
      simp (disch := omega) only [q_X11_sums_8, q_X11_sums_10, q_X11_sums_38, q_X11_sums_40, y_is, y_gf, y_pf, y_f0, y_f1, y_f3, y_nI, y_nK, y_nZ, y_nL, y_nR, y_k1i, y_k1r, y_k1l, y_k1n, y_tl, y_tn, y_s, y_ss, List.getElem?_cons_zero, List.getElem?_cons_succ, List.set_cons_zero, List.set_cons_succ, List.length_cons, List.length_nil, true_and, and_true, le_n]
      exact br1 (by first | decide | omega | trivial | simp) hQ
    | succ d ih =>
      intro i hi
      have ih := ih (i + 1) (by omega)
      rw [mx] at ih
      have e := hF i (by omega)
      rw [q_X11_sums_6]
      simp (disch := omega) only [q_X11_sums_8, q_X11_sums_10, q_X11_sums_13, q_X11_sums_16, q_X11_sums_18, q_X11_sums_19, q_X11_sums_20, q_X11_sums_23, q_X11_sums_24, q_X11_sums_26, q_X11_sums_27, q_X11_sums_28, q_X11_sums_29, q_X11_sums_30, q_X11_sums_32, q_X11_sums_35, hM, h74, e, y_is, y_gf, y_pf, y_f0, y_f1, y_f3, y_nI, y_nK, y_nZ, y_nL, y_nR, y_k1i, y_k1r, y_k1l, y_k1n, y_tl, y_tn, y_s, y_ss, List.getElem?_cons_zero, List.getElem?_cons_succ, List.set_cons_zero, List.set_cons_succ, List.length_cons, List.length_nil, true_and, and_true, y_lIn, y_lKn, y_lZn, y_lLn, y_wIn, y_wZn, y_wLn, lit, le_n, lt_n, eq_n, nI_add]
      exact br0 (by omega) ih
  simp (disch := omega) only [q_X11_sums_0, q_X11_sums_1, q_X11_sums_3, q_X11_sums_4, y_is, y_gf, y_pf, y_f0, y_f1, y_f3, y_nI, y_nK, y_nZ, y_nL, y_nR, y_k1i, y_k1r, y_k1l, y_k1n, y_tl, y_tn, y_s, y_ss, List.getElem?_cons_zero, List.getElem?_cons_succ, List.set_cons_zero, List.set_cons_succ, List.length_cons, List.length_nil, true_and, and_true]
  exact loop n 0 (by omega)
theorem m_digest (h : MR g S) (hS : sv S) (hQ : mO8 g (oDigest S) Q) : wp 228 b 0 [.ref 73, .null, .null, .null, .null] [] g Q := by
  obtain ⟨x, r, hM, x0, x5⟩ := id h.mM
  obtain ⟨f, h74, hW⟩ := id h.mW
  obtain ⟨V, hV, v0, v1⟩ := id h.mV
  obtain ⟨F, Z, h78, h79, hZ⟩ := ms_sz hV
  have hv := hS.vW
  obtain ⟨⟨n1, n9⟩, -, ⟨-, -, -, -, w50⟩, -, ⟨w87, w100⟩, -⟩ := id hv
  obtain ⟨z0, z1, z2⟩ := hZ 0 (by decide)
  obtain ⟨y0, y1, y2⟩ := hZ 1 (by decide)
  rw [v0] at z0 z1 z2
  rw [v1] at y0 y1 y2
  have e50 := hW 50 (by omega)
  have e87 := hW 87 (by omega)
  have e100 := hW 100 (by omega)
  rw [wI_n (by omega)] at e50 e87 e100
  -- the limbs
  have limbs : ∀ (s M : Nat) (h0 : Int64), s < 2 → Z s = nI (szN M) → szN M ≤ 64 → (∀ i, i < szN M → F (64 * s + i) = lN (M / BB ^ i % BB)) → wp 228 b 177 [.ref 73, .long (mx h0 (lm M) (szN M)), .null, .int (nI (s + 1)), .int (nI (szN M))] [] g Q → ∀ d i, i + d = szN M → wp 228 b 185 [.ref 73, .long (mx h0 (lm M) i), .null, .int (nI s), .int (nI i)] [] g Q := by
    intro s M h0 hs a1 a2 a3 kk d
    induction d with
    | zero =>
      intro i hi
      have hi : i = szN M := by omega
      subst hi
      rw [q_X11_digest_185]
      simp (disch := omega) only [q_X11_digest_187, q_X11_digest_188, q_X11_digest_191, q_X11_digest_192, q_X11_digest_193, q_X11_digest_221, q_X11_digest_224, hM, h79, a1, y_is, y_gf, y_pf, y_f0, y_f1, y_f3, y_nI, y_nK, y_nZ, y_nL, y_nR, y_k1i, y_k1r, y_k1l, y_k1n, y_tl, y_tn, y_s, y_ss, List.getElem?_cons_zero, List.getElem?_cons_succ, List.set_cons_zero, List.set_cons_succ, List.length_cons, List.length_nil, true_and, and_true, y_lIn, y_lKn, y_lZn, y_lLn, y_wIn, y_wZn, y_wLn, lit, le_n, lt_n, eq_n, lit, nI_add]
      exact br1 (by first | decide | omega | trivial | simp) kk
    | succ d ih =>
      intro i hi
      have ih := ih (i + 1) (by omega)
      have hb : M / BB ^ i % BB < 2147483648 := Nat.lt_trans (Nat.mod_lt _ (by decide)) (by decide)
      rw [mx] at ih
      unfold lm at ih
      rw [i_l hb] at ih
      have e := a3 i (by omega)
      rw [q_X11_digest_185]
      simp (disch := omega) only [q_X11_digest_187, q_X11_digest_188, q_X11_digest_191, q_X11_digest_192, q_X11_digest_193, q_X11_digest_196, q_X11_digest_199, q_X11_digest_200, q_X11_digest_201, q_X11_digest_202, q_X11_digest_205, q_X11_digest_207, q_X11_digest_208, q_X11_digest_209, q_X11_digest_211, q_X11_digest_212, q_X11_digest_213, q_X11_digest_214, q_X11_digest_215, q_X11_digest_218, hM, h78, h79, a1, e, y_is, y_gf, y_pf, y_f0, y_f1, y_f3, y_nI, y_nK, y_nZ, y_nL, y_nR, y_k1i, y_k1r, y_k1l, y_k1n, y_tl, y_tn, y_s, y_ss, List.getElem?_cons_zero, List.getElem?_cons_succ, List.set_cons_zero, List.set_cons_succ, List.length_cons, List.length_nil, true_and, and_true, y_lIn, y_lKn, y_lZn, y_lLn, y_wIn, y_wZn, y_wLn, lit, le_n, lt_n, eq_n, pk_mul, nI_add]
      exact br0 (by omega) ih
  have tail : wp 228 b 83 [.ref 73, .long (mrows (fun i p => nI (S.W (1 + 9 * i + p))) (mx 739 (hm S) 5) (S.W 0)), .null, .int (nI (S.W 0)), .int (nI 5)] [] g Q := by
    simp (disch := omega) only [q_X11_digest_83, q_X11_digest_84, q_X11_digest_85, q_X11_digest_87, q_X11_digest_88, hM, y_is, y_gf, y_pf, y_f0, y_f1, y_f3, y_nI, y_nK, y_nZ, y_nL, y_nR, y_k1i, y_k1r, y_k1l, y_k1n, y_tl, y_tn, y_s, y_ss, List.getElem?_cons_zero, List.getElem?_cons_succ, List.set_cons_zero, List.set_cons_succ, List.length_cons, List.length_nil, true_and, and_true, lit]
    refine s_sums hM h74 (F := fun j => nI (S.W (46 + j))) (by omega) (fun j hj => by rw [hW _ (by omega), wI_n (by omega)]) ?_
    simp (disch := omega) only [q_X11_digest_91, q_X11_digest_92, q_X11_digest_93, q_X11_digest_94, q_X11_digest_96, q_X11_digest_97, q_X11_digest_98, q_X11_digest_101, q_X11_digest_103, q_X11_digest_104, q_X11_digest_105, hM, h74, e50, y_is, y_gf, y_pf, y_f0, y_f1, y_f3, y_nI, y_nK, y_nZ, y_nL, y_nR, y_k1i, y_k1r, y_k1l, y_k1n, y_tl, y_tn, y_s, y_ss, List.getElem?_cons_zero, List.getElem?_cons_succ, List.set_cons_zero, List.set_cons_succ, List.length_cons, List.length_nil, true_and, and_true, y_lIn, y_lKn, y_lZn, y_lLn, y_wIn, y_wZn, y_wLn, lit, le_n, lt_n, eq_n, pk_mul]
    refine s_sums hM h74 (F := fun j => nI (S.W (51 + j))) (by omega) (fun j hj => by rw [hW _ (by omega), wI_n (by omega)]) ?_
    simp (disch := omega) only [q_X11_digest_108, q_X11_digest_109, q_X11_digest_110, q_X11_digest_111, q_X11_digest_113, q_X11_digest_114, q_X11_digest_117, q_X11_digest_119, q_X11_digest_120, hM, h74, e87, y_is, y_gf, y_pf, y_f0, y_f1, y_f3, y_nI, y_nK, y_nZ, y_nL, y_nR, y_k1i, y_k1r, y_k1l, y_k1n, y_tl, y_tn, y_s, y_ss, List.getElem?_cons_zero, List.getElem?_cons_succ, List.set_cons_zero, List.set_cons_succ, List.length_cons, List.length_nil, true_and, and_true, y_lIn, y_lKn, y_lZn, y_lLn, y_wIn, y_wZn, y_wLn, lit, le_n, lt_n, eq_n]
    refine s_sums hM h74 (F := fun j => tI (S.W (88 + j))) (by omega) (fun j hj => by rw [hW _ (by omega), wI_t (by omega) (by omega)]) ?_
    simp (disch := omega) only [q_X11_digest_123, q_X11_digest_124, q_X11_digest_125, q_X11_digest_126, q_X11_digest_128, q_X11_digest_129, q_X11_digest_132, q_X11_digest_134, q_X11_digest_135, hM, h74, e100, y_is, y_gf, y_pf, y_f0, y_f1, y_f3, y_nI, y_nK, y_nZ, y_nL, y_nR, y_k1i, y_k1r, y_k1l, y_k1n, y_tl, y_tn, y_s, y_ss, List.getElem?_cons_zero, List.getElem?_cons_succ, List.set_cons_zero, List.set_cons_succ, List.length_cons, List.length_nil, true_and, and_true, y_lIn, y_lKn, y_lZn, y_lLn, y_wIn, y_wZn, y_wLn, lit, le_n, lt_n, eq_n]
    refine s_sums hM h74 (F := fun j => nI (S.W (101 + j))) (by omega) (fun j hj => by rw [hW _ (by omega), wI_n (by omega)]) ?_
    simp (disch := omega) only [q_X11_digest_138, q_X11_digest_139, q_X11_digest_142, q_X11_digest_145, q_X11_digest_148, q_X11_digest_149, q_X11_digest_150, q_X11_digest_151, q_X11_digest_154, q_X11_digest_155, q_X11_digest_156, q_X11_digest_157, q_X11_digest_158, q_X11_digest_161, q_X11_digest_162, q_X11_digest_163, q_X11_digest_164, q_X11_digest_165, q_X11_digest_166, q_X11_digest_167, q_X11_digest_170, q_X11_digest_171, q_X11_digest_172, q_X11_digest_173, q_X11_digest_174, q_X11_digest_175, q_X11_digest_176, hM, h79, x0, z0, y0, y_is, y_gf, y_pf, y_f0, y_f1, y_f3, y_nI, y_nK, y_nZ, y_nL, y_nR, y_k1i, y_k1r, y_k1l, y_k1n, y_tl, y_tn, y_s, y_ss, List.getElem?_cons_zero, List.getElem?_cons_succ, List.set_cons_zero, List.set_cons_succ, List.length_cons, List.length_nil, true_and, and_true, y_lIn, y_lKn, y_lZn, y_lLn, y_wIn, y_wZn, y_wLn, lit, le_n, lt_n, eq_n]
    show wp _ _ _ [_, .long (dgT S (dgW S.W (mx 739 (hm S) 5))), _, _, _] _ _ _
    have k := hQ g h fr.rf
    have k : Q (some (.long (mx (mx (dgT S (dgW S.W (mx 739 (hm S) 5))) (lm S.N) (szN S.N)) (lm S.D) (szN S.D)))) g := k
    generalize dgT S (dgW S.W (mx 739 (hm S) 5)) = h0 at k ⊢
    have at2 : wp 228 b 177 [.ref 73, .long (mx (mx h0 (lm S.N) (szN S.N)) (lm S.D) (szN S.D)), .null, .int (nI (1 + 1)), .int (nI (szN S.D))] [] g Q := by
      rw [q_X11_digest_177]
      simp (disch := omega) only [q_X11_digest_178, q_X11_digest_179, q_X11_digest_227, q_X11_digest_228, y_is, y_gf, y_pf, y_f0, y_f1, y_f3, y_nI, y_nK, y_nZ, y_nL, y_nR, y_k1i, y_k1r, y_k1l, y_k1n, y_tl, y_tn, y_s, y_ss, List.getElem?_cons_zero, List.getElem?_cons_succ, List.set_cons_zero, List.set_cons_succ, List.length_cons, List.length_nil, true_and, and_true]
      exact br1 (by decide) k
    have at1 : wp 228 b 177 [.ref 73, .long (mx h0 (lm S.N) (szN S.N)), .null, .int (nI (0 + 1)), .int (nI (szN S.N))] [] g Q := by
      rw [q_X11_digest_177]
      simp (disch := omega) only [q_X11_digest_178, q_X11_digest_179, q_X11_digest_182, q_X11_digest_183, y_is, y_gf, y_pf, y_f0, y_f1, y_f3, y_nI, y_nK, y_nZ, y_nL, y_nR, y_k1i, y_k1r, y_k1l, y_k1n, y_tl, y_tn, y_s, y_ss, List.getElem?_cons_zero, List.getElem?_cons_succ, List.set_cons_zero, List.set_cons_succ, List.length_cons, List.length_nil, true_and, and_true]
      exact br0 (by decide) (limbs 1 S.D _ (by decide) y0 y1 y2 at2 (szN S.D) 0 (by omega))
    rw [q_X11_digest_177]
    simp (disch := omega) only [q_X11_digest_178, q_X11_digest_179, q_X11_digest_182, q_X11_digest_183, y_is, y_gf, y_pf, y_f0, y_f1, y_f3, y_nI, y_nK, y_nZ, y_nL, y_nR, y_k1i, y_k1r, y_k1l, y_k1n, y_tl, y_tn, y_s, y_ss, List.getElem?_cons_zero, List.getElem?_cons_succ, List.set_cons_zero, List.set_cons_succ, List.length_cons, List.length_nil, true_and, and_true]
    exact br0 (by decide) (limbs 0 S.N _ (by decide) z0 z1 z2 at1 (szN S.N) 0 (by omega))
  have inner : ∀ (p : Nat) (h0 : Int64), p < S.W 0 → (wp 228 b 32 [.ref 73, .long (mrow (fun i p => nI (S.W (1 + 9 * i + p))) p h0 5), .null, .int (nI (p + 1)), .int (nI 5)] [] g Q) → ∀ d k, k + d = 5 → wp 228 b 43 [.ref 73, .long (mrow (fun i p => nI (S.W (1 + 9 * i + p))) p h0 k), .null, .int (nI p), .int (nI k)] [] g Q := by
    intro p h0 hp kk d
    induction d with
    | zero =>
      intro k hk
      have hk : k = 5 := by omega
      subst hk
      rw [q_X11_digest_43]
      simp (disch := omega) only [q_X11_digest_45, q_X11_digest_46, q_X11_digest_77, q_X11_digest_80, y_is, y_gf, y_pf, y_f0, y_f1, y_f3, y_nI, y_nK, y_nZ, y_nL, y_nR, y_k1i, y_k1r, y_k1l, y_k1n, y_tl, y_tn, y_s, y_ss, List.getElem?_cons_zero, List.getElem?_cons_succ, List.set_cons_zero, List.set_cons_succ, List.length_cons, List.length_nil, true_and, and_true, lit, nI_add]
      exact br1 (by first | decide | omega | trivial | simp) kk
    | succ d ih =>
      intro k hk
      have ih := ih (k + 1) (by omega)
      rw [mrow] at ih
      have e : f (1 + 9 * k + p) = nI (S.W (1 + 9 * k + p)) := by rw [hW _ (by omega), wI_n (by omega)]
      rw [q_X11_digest_43]
      simp (disch := omega) only [q_X11_digest_45, q_X11_digest_46, q_X11_digest_49, q_X11_digest_52, q_X11_digest_53, q_X11_digest_54, q_X11_digest_55, q_X11_digest_58, q_X11_digest_59, q_X11_digest_61, q_X11_digest_63, q_X11_digest_64, q_X11_digest_65, q_X11_digest_66, q_X11_digest_67, q_X11_digest_68, q_X11_digest_69, q_X11_digest_70, q_X11_digest_71, q_X11_digest_74, hM, h74, e, y_is, y_gf, y_pf, y_f0, y_f1, y_f3, y_nI, y_nK, y_nZ, y_nL, y_nR, y_k1i, y_k1r, y_k1l, y_k1n, y_tl, y_tn, y_s, y_ss, List.getElem?_cons_zero, List.getElem?_cons_succ, List.set_cons_zero, List.set_cons_succ, List.length_cons, List.length_nil, true_and, and_true, y_lIn, y_lKn, y_lZn, y_lLn, y_wIn, y_wZn, y_wLn, lit, le_n, lt_n, eq_n, pk_mul, nI_add]
      exact br0 (by omega) ih
  have outer : ∀ d p (x4 : Value), p + d = S.W 0 → (p = S.W 0 → x4 = .int (nI 5)) → wp 228 b 32 [.ref 73, .long (mrows (fun i p => nI (S.W (1 + 9 * i + p))) (mx 739 (hm S) 5) p), .null, .int (nI p), x4] [] g Q := by
    intro d
    induction d with
    | zero =>
      intro p x4 hp hx
      have hp : p = S.W 0 := by omega
      subst hp
      rw [hx rfl]
      rw [q_X11_digest_32]
      simp (disch := omega) only [q_X11_digest_33, q_X11_digest_34, hM, y_is, y_gf, y_pf, y_f0, y_f1, y_f3, y_nI, y_nK, y_nZ, y_nL, y_nR, y_k1i, y_k1r, y_k1l, y_k1n, y_tl, y_tn, y_s, y_ss, List.getElem?_cons_zero, List.getElem?_cons_succ, List.set_cons_zero, List.set_cons_succ, List.length_cons, List.length_nil, true_and, and_true]
      refine s_watched hM h74 hW ?_
      simp (disch := omega) only [q_X11_digest_37, y_is, y_gf, y_pf, y_f0, y_f1, y_f3, y_nI, y_nK, y_nZ, y_nL, y_nR, y_k1i, y_k1r, y_k1l, y_k1n, y_tl, y_tn, y_s, y_ss, List.getElem?_cons_zero, List.getElem?_cons_succ, List.set_cons_zero, List.set_cons_succ, List.length_cons, List.length_nil, true_and, and_true, le_n]
      exact br1 (Nat.le_refl _) tail
    | succ d ih =>
      intro p x4 hp hx
      rw [q_X11_digest_32]
      simp (disch := omega) only [q_X11_digest_33, q_X11_digest_34, hM, y_is, y_gf, y_pf, y_f0, y_f1, y_f3, y_nI, y_nK, y_nZ, y_nL, y_nR, y_k1i, y_k1r, y_k1l, y_k1n, y_tl, y_tn, y_s, y_ss, List.getElem?_cons_zero, List.getElem?_cons_succ, List.set_cons_zero, List.set_cons_succ, List.length_cons, List.length_nil, true_and, and_true]
      refine s_watched hM h74 hW ?_
      simp (disch := omega) only [q_X11_digest_37, q_X11_digest_40, q_X11_digest_41, y_is, y_gf, y_pf, y_f0, y_f1, y_f3, y_nI, y_nK, y_nZ, y_nL, y_nR, y_k1i, y_k1r, y_k1l, y_k1n, y_tl, y_tn, y_s, y_ss, List.getElem?_cons_zero, List.getElem?_cons_succ, List.set_cons_zero, List.set_cons_succ, List.length_cons, List.length_nil, true_and, and_true, le_n]
      refine br0 (by omega) (inner p _ (by omega) ?_ 5 0 rfl)
      exact ih (p + 1) _ (by omega) (fun _ => rfl)
  have loop : ∀ d k, k + d = 5 → wp 228 b 6 [.ref 73, .long (mx 739 (hm S) k), .null, .int (nI k), .null] [] g Q := by
    intro d
    induction d with
    | zero =>
      intro k hk
      have hk : k = 5 := by omega
      subst hk
      rw [q_X11_digest_6]
      simp (disch := omega) only [q_X11_digest_7, q_X11_digest_8, q_X11_digest_30, q_X11_digest_31, y_is, y_gf, y_pf, y_f0, y_f1, y_f3, y_nI, y_nK, y_nZ, y_nL, y_nR, y_k1i, y_k1r, y_k1l, y_k1n, y_tl, y_tn, y_s, y_ss, List.getElem?_cons_zero, List.getElem?_cons_succ, List.set_cons_zero, List.set_cons_succ, List.length_cons, List.length_nil, true_and, and_true]
      exact br1 (by decide) (outer (S.W 0) 0 _ (by omega) (fun z => by omega))
    | succ d ih =>
      intro k hk
      have ih := ih (k + 1) (by omega)
      rw [mx] at ih
      rw [q_X11_digest_6]
      simp (disch := omega) only [q_X11_digest_7, q_X11_digest_8, q_X11_digest_11, q_X11_digest_14, q_X11_digest_15, q_X11_digest_16, q_X11_digest_17, q_X11_digest_18, hM, y_is, y_gf, y_pf, y_f0, y_f1, y_f3, y_nI, y_nK, y_nZ, y_nL, y_nR, y_k1i, y_k1r, y_k1l, y_k1n, y_tl, y_tn, y_s, y_ss, List.getElem?_cons_zero, List.getElem?_cons_succ, List.set_cons_zero, List.set_cons_succ, List.length_cons, List.length_nil, true_and, and_true, lit, le_n]
      refine br0 (by omega) (m_counted h (by omega) ?_)
      simp (disch := omega) only [q_X11_digest_21, q_X11_digest_22, q_X11_digest_23, q_X11_digest_24, q_X11_digest_27, y_is, y_gf, y_pf, y_f0, y_f1, y_f3, y_nI, y_nK, y_nZ, y_nL, y_nR, y_k1i, y_k1r, y_k1l, y_k1n, y_tl, y_tn, y_s, y_ss, List.getElem?_cons_zero, List.getElem?_cons_succ, List.set_cons_zero, List.set_cons_succ, List.length_cons, List.length_nil, true_and, and_true, lit, nI_add]
      exact ih
  simp (disch := omega) only [q_X11_digest_0, q_X11_digest_3, q_X11_digest_4, q_X11_digest_5, y_is, y_gf, y_pf, y_f0, y_f1, y_f3, y_nI, y_nK, y_nZ, y_nL, y_nR, y_k1i, y_k1r, y_k1l, y_k1n, y_tl, y_tn, y_s, y_ss, List.getElem?_cons_zero, List.getElem?_cons_succ, List.set_cons_zero, List.set_cons_succ, List.length_cons, List.length_nil, true_and, and_true]
  exact loop 5 0 rfl
end DIGEST
