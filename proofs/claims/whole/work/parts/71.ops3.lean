/-! ===== more calls: images, counts, numbers ===== -/
/-- how many limbs -/
def szF : Nat → Nat → Nat
  | 0, _ => 0
  | f + 1, N => if N = 0 then 0 else szF f (N / BB) + 1
def szN (N : Nat) : Nat := szF 64 N
theorem szF_z : ∀ (f z N : Nat), z ≤ f → N < BB ^ z → (z = 0 ∨ BB ^ (z - 1) ≤ N) → szF f N = z
  | 0, z, N, h, _, _ => by have : z = 0 := by omega
                           rw [szF, this]
  | f + 1, 0, N, _, h1, _ => by
    rw [Nat.pow_zero] at h1
    rw [szF, if_pos (by omega)]
  | f + 1, z + 1, N, h, h1, h2 => by
    have hb : 0 < BB := by decide
    have h3 : BB ^ z ≤ N := by
      have := h2.resolve_left (by omega)
      rw [Nat.add_sub_cancel] at this
      exact this
    have h4 : 0 < BB ^ z := Nat.pow_pos hb
    rw [szF, if_neg (by omega)]
    rw [szF_z f z (N / BB) (by omega) ?_ ?_]
    · rw [Nat.div_lt_iff_lt_mul hb, ← Nat.pow_succ]; exact h1
    · by_cases c : z = 0
      · exact Or.inl c
      · right
        rw [Nat.le_div_iff_mul_le hb, ← Nat.pow_succ]
        show BB ^ (z - 1 + 1) ≤ N
        rw [show z - 1 + 1 = z by omega]
        exact h3
theorem szN_z {z N : Nat} (h : z ≤ 64) (h1 : N < BB ^ z) (h2 : z = 0 ∨ BB ^ (z - 1) ≤ N) : szN N = z := szF_z 64 z N h h1 h2
theorem szN_0 {N : Nat} : szN N = 0 ↔ N = 0 := by
  unfold szN
  rw [szF]
  by_cases c : N = 0
  · rw [if_pos c]; exact ⟨fun _ => c, fun _ => rfl⟩
  · rw [if_neg c]; exact ⟨fun e => by omega, fun e => absurd e c⟩
def hm (S : sT) (i : Nat) : Int32 := if i = 0 then nI (S.W 0) else if i = 1 then nI (S.W 50) else if i = 2 then nI (S.W 87) else if i = 3 then nI S.tl else nI (S.W 100)
def oImage (S : sT) (v : Int32) : sT × Int32 := if inB v 0 1 then (S.uI (va_up S.I (ck v) (some S.W)), 1) else (rfs S 0, -2)
def oFrom (S : sT) (v : Int32) : sT × Int32 := if inB v 0 1 then (match S.I (ck v) with
  | none => (rfs S 1, -3)
  | some X => (S.uW X, 1)) else (rfs S 0, -2)
def oStatus (S : sT) (v : Int32) : sT × Int32 := if inB v 0 2 then (S, S.R (ck v)) else (rfs S 0, -1)
def oCount (S : sT) (v : Int32) : sT × Int32 := if inB v 0 4 then (S, hm S (ck v)) else (rfs S 0, -2)
def oSign (S : sT) (v : Int32) : sT × Int32 := if v = 0 then (S, sgN S.N) else if v = 1 then (S, nI (szN S.N)) else if v = 2 then (S, nI (szN S.D)) else (rfs S 0, -2)
def lmb (M i : Nat) : Int32 := if i < szN M then nI (M / BB ^ i % BB) else -1
def oLimb (S : sT) (w i : Int32) : sT × Int32 := if inB w 0 1 && decide (¬ i < 0) then (S, lmb (if ck w = 0 then S.N else S.D) (ck i)) else (rfs S 0, -2)
theorem cw_cp {v2 : Nat → Int32} {A B : Nat → Nat → Int32} {W : Nat → Nat} (h : cw v2 B W) : cw v2 (cpA A B) W := by
  obtain ⟨h1, h2, h3, h4⟩ := h
  refine ⟨h1, fun j q hj hq => ?_, fun k hk => ?_, fun k hk => ?_⟩
  · unfold cpA
    rw [if_pos hj]
    simp only [if_pos hq]
    exact h2 j q hj hq
  · have e : ∀ r, 5 ≤ r → r < 9 → cpA A B r k = B r k := fun r a c => by
      unfold cpA
      rw [if_neg (by omega), if_pos c]
      simp only [if_pos hk]
    rw [e 5 (by omega) (by omega), e 6 (by omega) (by omega), e 7 (by omega) (by omega), e 8 (by omega) (by omega)]
    exact h3 k hk
  · have e : cpA A B 9 k = B 9 k := by
      unfold cpA
      rw [if_neg (by omega), if_neg (by omega), if_pos rfl]
      simp only [if_pos hk]
    rw [e]
    exact h4 k hk
theorem ltk {j k : Nat} (hj : j < 2147483648) (hk : k < 2147483648) (y : nI j < nI k) : j < k := by rw [lt_n hj hk] at y; exact y
theorem nltk {j k : Nat} (hj : j < 2147483648) (hk : k < 2147483648) (y : ¬ nI j < nI k) : ¬ j < k := by rw [lt_n hj hk] at y; exact y
theorem tsf_3 {v : Int32} {a c e d : Nat} : mz_tsf 0 [a, c, e] d v = if v = 0 then a else if v = 1 then c else if v = 2 then e else d := by
  unfold mz_tsf
  have h0 : (0 : Int32).toInt = 0 := by decide
  by_cases n : v < 0
  · have n' := n
    rw [Int32.lt_iff_toInt_lt, h0] at n'
    have e0 : ¬ v = 0 := fun z => by rw [z] at n; exact absurd n (by decide)
    have e1 : ¬ v = 1 := fun z => by rw [z] at n; exact absurd n (by decide)
    have e2 : ¬ v = 2 := fun z => by rw [z] at n; exact absurd n (by decide)
    rw [if_pos n', if_neg e0, if_neg e1, if_neg e2]
  · obtain ⟨j, hj, rfl⟩ := nI_of n
    rw [nI_toInt hj, if_neg (by omega)]
    have k : ∀ q, q < 2147483648 → (nI j = nI q ↔ j = q) := fun q hq => by rw [eq_n (by omega) hq]
    have k0 : nI j = 0 ↔ j = 0 := k 0 (by omega)
    have k1 : nI j = 1 ↔ j = 1 := k 1 (by omega)
    have k2 : nI j = 2 ↔ j = 2 := k 2 (by omega)
    simp only [k0, k1, k2, Int.sub_zero, Int.toNat_natCast]
    clear k0 k1 k2 k n
    match j with
    | 0 => rfl
    | 1 => rfl
    | 2 => rfl
    | j + 3 => rw [if_neg (by omega), if_neg (by omega), if_neg (by omega)]; rfl
section COPS3
variable {b : mzB} {g : mzG} {Q : mzQ} {S : sT}
theorem CR.k {g' : mzG} {I : Nat → Option (Nat → Nat)} {lo hi : Nat} (h : CR g S) (hf : fr g g' lo hi) (ha : (14 ≤ lo ∧ hi ≤ 15) ∨ (49 ≤ lo ∧ hi ≤ 73)) (hI : pI_ g' I) : CR g' (S.uI I) := ⟨h.c0.frm hf (by omega), h.cW.frm hf (by omega), hI, h.cT.frm hf (by omega), h.cU.frm hf (by omega), h.cB.frm hf (by omega), h.cH.frm hf (by omega), h.cF.frm hf (by omega), by rw [hf.2 _ (by omega)]; exact h.cR, h.cC.frm hf (by omega)⟩
theorem c_img {j : Nat} {KN : Nat → Prop} (hC : CR g S) (hj : j < 2) : mz_lR (g.2 13) (nI j) KN = KN (49 + 12 * j) := by
  obtain ⟨-, ⟨f, h1, h2, h3⟩, -⟩ := hC.c0
  have e : f j = some (49 + 12 * j) := by
    by_cases c : j = 0
    · subst c; exact h2
    · have : j = 1 := by omega
      subst this; exact h3
  rw [h1, y_lOn hj (by decide), e]
theorem c_image {v : Int32} (hC : CR g S) (hS : sv S) (hQ : cO g (oImage S v) Q) : wp 122 b 0 [.ref 0, .int v] [] g Q := by
  unfold oImage at hQ
  have bad : inB v 0 1 = false → wp 122 b 9 [.ref 0, .int v] [] g Q := by
    intro h
    rw [h] at hQ
    simp only [q_X10_image_9, q_X10_image_10, q_X10_image_12, hC.c0.1, y_is, y_gf, y_pf, y_f0, y_f1, y_f3, y_nI, y_nK, y_nZ, y_nL, y_nR, y_k1i, y_k1r, y_k1l, y_k1n, y_tl, y_tn, y_s, y_ss, List.getElem?_cons_zero, List.getElem?_cons_succ, List.set_cons_zero, List.set_cons_succ, List.length_cons, List.length_nil, true_and, and_true]
    refine c_ref hC (i := 0) (by decide) (by decide) (fun g' h1 h2 => ?_)
    simp only [q_X10_image_15, y_is, y_gf, y_pf, y_f0, y_f1, y_f3, y_nI, y_nK, y_nZ, y_nL, y_nR, y_k1i, y_k1r, y_k1l, y_k1n, y_tl, y_tn, y_s, y_ss, List.getElem?_cons_zero, List.getElem?_cons_succ, List.set_cons_zero, List.set_cons_succ, List.length_cons, List.length_nil, true_and, and_true]
    exact hQ g' h1 h2
  simp (disch := omega) only [q_X10_image_0, q_X10_image_1, q_X10_image_4, q_X10_image_5, q_X10_image_6, y_is, y_gf, y_pf, y_f0, y_f1, y_f3, y_nI, y_nK, y_nZ, y_nL, y_nR, y_k1i, y_k1r, y_k1l, y_k1n, y_tl, y_tn, y_s, y_ss, List.getElem?_cons_zero, List.getElem?_cons_succ, List.set_cons_zero, List.set_cons_succ, List.length_cons, List.length_nil, true_and, and_true]
  refine brs (fun z => bad (f_lt (by decide) (by decide) z)) (fun z => brs (fun y => ?_) (fun y => bad ?_))
  · obtain ⟨j, hj, e⟩ := nI_of z
    subst e
    have y := ltk (k := 2) (by omega) (by omega) y
    rw [inB_n (by omega) (by omega) (by omega), ck_n (by omega), if_pos rfl] at hQ
    obtain ⟨vv, A, hw, hc⟩ := id hC.cW
    obtain ⟨⟨kz, z1, z2⟩, z3⟩ := id hC.cI
    obtain ⟨v2, B, hw2, hc2⟩ := z3 j y
    simp only [q_X10_image_16, q_X10_image_17, q_X10_image_20, q_X10_image_21, hC.c0.1, c_img hC y, y_is, y_gf, y_pf, y_f0, y_f1, y_f3, y_nI, y_nK, y_nZ, y_nL, y_nR, y_k1i, y_k1r, y_k1l, y_k1n, y_tl, y_tn, y_s, y_ss, List.getElem?_cons_zero, List.getElem?_cons_succ, List.set_cons_zero, List.set_cons_succ, List.length_cons, List.length_nil, true_and, and_true]
    simp (disch := omega) only [q_X10_image_22, q_X10_image_23, q_X10_image_26, hC.c0.1, hw2.1, y_is, y_gf, y_pf, y_f0, y_f1, y_f3, y_nI, y_nK, y_nZ, y_nL, y_nR, y_k1i, y_k1r, y_k1l, y_k1n, y_tl, y_tn, y_s, y_ss, List.getElem?_cons_zero, List.getElem?_cons_succ, List.set_cons_zero, List.set_cons_succ, List.length_cons, List.length_nil, true_and, and_true]
    refine s_copy (by omega) hw2 hw (fun g' h1 h2 => ?_)
    have hC1 : CR g' (S.uI (fun i => if i = j then (S.I j).map (fun _ => S.W) else S.I i)) := by
      refine hC.k h2 (by omega) ⟨⟨kz, by rw [h2.2 _ (by omega)]; exact z1, fun i hi => ?_⟩, fun i hi => ?_⟩
      · by_cases c : i = j
        · subst c
          simp only [if_true]
          rw [z2 i hi]
          cases S.I i <;> rfl
        · simp only [if_neg c]
          exact z2 i hi
      · by_cases c : i = j
        · subst c
          refine ⟨_, _, h1, fun X e => ?_⟩
          simp only [if_true] at e
          cases h : S.I i with
          | none => rw [h] at e; simp at e
          | some Y =>
            rw [h] at e
            simp at e
            rw [← e]
            exact cw_cp hc
        · obtain ⟨v3, B3, k1, k2⟩ := z3 i hi
          refine ⟨v3, B3, k1.frm h2 (by omega), fun X e => ?_⟩
          simp only [if_neg c] at e
          exact k2 X e
    have z1' : g'.2 14 = aZ 2 kz := by rw [h2.2 _ (by omega)]; exact z1
    simp (disch := omega) only [q_X10_image_29, q_X10_image_30, q_X10_image_33, q_X10_image_34, q_X10_image_35, q_X10_image_36, q_X10_image_37, hC1.c0.1, z1', y_is, y_gf, y_pf, y_f0, y_f1, y_f3, y_nI, y_nK, y_nZ, y_nL, y_nR, y_k1i, y_k1r, y_k1l, y_k1n, y_tl, y_tn, y_s, y_ss, List.getElem?_cons_zero, List.getElem?_cons_succ, List.set_cons_zero, List.set_cons_succ, List.length_cons, List.length_nil, true_and, and_true, y_lIn, y_lKn, y_lZn, y_lLn, y_wIn, y_wZn, y_wLn, lit, le_n, lt_n, eq_n]
    have hf3 : fr g' (hs g' 14 (aZ 2 (upd kz j (vp_nar .boolean 1)))) 14 15 := fr.rf.hs (by omega) (by omega)
    refine hQ _ ?_ ((h2.wide (by omega) (by omega)).tr (hf3.wide (by omega) (by omega)))
    refine hC1.k hf3 (by omega) ⟨⟨_, y_s, fun i hi => ?_⟩, fun i hi => ?_⟩
    · unfold va_up
      by_cases c : i = j
      · subst c
        rw [u_s, if_pos rfl]
        show vp_nar .boolean 1 = (1 : Int32)
        decide
      · rw [u_n c, if_neg c]
        exact z2 i hi
    · by_cases c : i = j
      · subst c
        refine ⟨_, _, h1.frm hf3 (by omega), fun X e => ?_⟩
        unfold va_up at e
        rw [if_pos rfl] at e
        have e := Option.some.inj e
        rw [← e]
        exact cw_cp hc
      · obtain ⟨v3, B3, k1, k2⟩ := z3 i hi
        refine ⟨v3, B3, (k1.frm h2 (by omega)).frm hf3 (by omega), fun X e => ?_⟩
        unfold va_up at e
        rw [if_neg c] at e
        exact k2 X e
  · obtain ⟨j, hj, e⟩ := nI_of z
    subst e
    have y := nltk (k := 2) (by omega) (by omega) y
    refine f_gt2 (by decide) (by decide) ?_
    rw [lt_n (by omega) (by omega)]
    omega
theorem c_from {v : Int32} (hC : CR g S) (hS : sv S) (hQ : cO g (oFrom S v) Q) : wp 123 b 0 [.ref 0, .int v] [] g Q := by
  unfold oFrom at hQ
  have bad : inB v 0 1 = false → wp 123 b 9 [.ref 0, .int v] [] g Q := by
    intro h
    rw [h] at hQ
    simp only [q_X10_from_9, q_X10_from_10, q_X10_from_12, hC.c0.1, y_is, y_gf, y_pf, y_f0, y_f1, y_f3, y_nI, y_nK, y_nZ, y_nL, y_nR, y_k1i, y_k1r, y_k1l, y_k1n, y_tl, y_tn, y_s, y_ss, List.getElem?_cons_zero, List.getElem?_cons_succ, List.set_cons_zero, List.set_cons_succ, List.length_cons, List.length_nil, true_and, and_true]
    refine c_ref hC (i := 0) (by decide) (by decide) (fun g' h1 h2 => ?_)
    simp only [q_X10_from_15, y_is, y_gf, y_pf, y_f0, y_f1, y_f3, y_nI, y_nK, y_nZ, y_nL, y_nR, y_k1i, y_k1r, y_k1l, y_k1n, y_tl, y_tn, y_s, y_ss, List.getElem?_cons_zero, List.getElem?_cons_succ, List.set_cons_zero, List.set_cons_succ, List.length_cons, List.length_nil, true_and, and_true]
    exact hQ g' h1 h2
  simp (disch := omega) only [q_X10_from_0, q_X10_from_1, q_X10_from_4, q_X10_from_5, q_X10_from_6, y_is, y_gf, y_pf, y_f0, y_f1, y_f3, y_nI, y_nK, y_nZ, y_nL, y_nR, y_k1i, y_k1r, y_k1l, y_k1n, y_tl, y_tn, y_s, y_ss, List.getElem?_cons_zero, List.getElem?_cons_succ, List.set_cons_zero, List.set_cons_succ, List.length_cons, List.length_nil, true_and, and_true]
  refine brs (fun z => bad (f_lt (by decide) (by decide) z)) (fun z => brs (fun y => ?_) (fun y => bad ?_))
  · obtain ⟨j, hj, e⟩ := nI_of z
    subst e
    have y := ltk (k := 2) (by omega) (by omega) y
    rw [inB_n (by omega) (by omega) (by omega), ck_n (by omega), if_pos rfl] at hQ
    obtain ⟨vv, A, hw, hc⟩ := id hC.cW
    obtain ⟨⟨kz, z1, z2⟩, z3⟩ := id hC.cI
    obtain ⟨v2, B, hw2, hc2⟩ := z3 j y
    have hkz := z2 j y
    cases hI : S.I j with
    | none =>
      rw [hI] at hQ hkz
      simp (disch := omega) only [q_X10_from_16, q_X10_from_17, q_X10_from_20, q_X10_from_21, q_X10_from_22, hC.c0.1, z1, hkz, y_is, y_gf, y_pf, y_f0, y_f1, y_f3, y_nI, y_nK, y_nZ, y_nL, y_nR, y_k1i, y_k1r, y_k1l, y_k1n, y_tl, y_tn, y_s, y_ss, List.getElem?_cons_zero, List.getElem?_cons_succ, List.set_cons_zero, List.set_cons_succ, List.length_cons, List.length_nil, true_and, and_true, y_lIn, y_lKn, y_lZn, y_lLn, y_wIn, y_wZn, y_wLn, lit, le_n, lt_n, eq_n]
      refine br0 (by decide) ?_
      simp only [q_X10_from_25, q_X10_from_26, q_X10_from_28, hC.c0.1, y_is, y_gf, y_pf, y_f0, y_f1, y_f3, y_nI, y_nK, y_nZ, y_nL, y_nR, y_k1i, y_k1r, y_k1l, y_k1n, y_tl, y_tn, y_s, y_ss, List.getElem?_cons_zero, List.getElem?_cons_succ, List.set_cons_zero, List.set_cons_succ, List.length_cons, List.length_nil, true_and, and_true]
      refine c_ref hC (i := 1) (by decide) (by decide) (fun g' h1 h2 => ?_)
      simp only [q_X10_from_31, y_is, y_gf, y_pf, y_f0, y_f1, y_f3, y_nI, y_nK, y_nZ, y_nL, y_nR, y_k1i, y_k1r, y_k1l, y_k1n, y_tl, y_tn, y_s, y_ss, List.getElem?_cons_zero, List.getElem?_cons_succ, List.set_cons_zero, List.set_cons_succ, List.length_cons, List.length_nil, true_and, and_true]
      exact hQ g' h1 h2
    | some X =>
      rw [hI] at hQ hkz
      simp (disch := omega) only [q_X10_from_16, q_X10_from_17, q_X10_from_20, q_X10_from_21, q_X10_from_22, hC.c0.1, z1, hkz, y_is, y_gf, y_pf, y_f0, y_f1, y_f3, y_nI, y_nK, y_nZ, y_nL, y_nR, y_k1i, y_k1r, y_k1l, y_k1n, y_tl, y_tn, y_s, y_ss, List.getElem?_cons_zero, List.getElem?_cons_succ, List.set_cons_zero, List.set_cons_succ, List.length_cons, List.length_nil, true_and, and_true, y_lIn, y_lKn, y_lZn, y_lLn, y_wIn, y_wZn, y_wLn, lit, le_n, lt_n, eq_n]
      refine br1 (by show ¬ (1 : Int32) = 0; decide) ?_
      simp only [q_X10_from_32, q_X10_from_33, q_X10_from_36, q_X10_from_37, q_X10_from_40, q_X10_from_41, hC.c0.1, c_img hC y, y_is, y_gf, y_pf, y_f0, y_f1, y_f3, y_nI, y_nK, y_nZ, y_nL, y_nR, y_k1i, y_k1r, y_k1l, y_k1n, y_tl, y_tn, y_s, y_ss, List.getElem?_cons_zero, List.getElem?_cons_succ, List.set_cons_zero, List.set_cons_succ, List.length_cons, List.length_nil, true_and, and_true]
      simp (disch := omega) only [q_X10_from_42, hw.1, y_is, y_gf, y_pf, y_f0, y_f1, y_f3, y_nI, y_nK, y_nZ, y_nL, y_nR, y_k1i, y_k1r, y_k1l, y_k1n, y_tl, y_tn, y_s, y_ss, List.getElem?_cons_zero, List.getElem?_cons_succ, List.set_cons_zero, List.set_cons_succ, List.length_cons, List.length_nil, true_and, and_true]
      refine s_copy (by omega) hw hw2 (fun g' h1 h2 => ?_)
      simp only [q_X10_from_45, q_X10_from_46, y_is, y_gf, y_pf, y_f0, y_f1, y_f3, y_nI, y_nK, y_nZ, y_nL, y_nR, y_k1i, y_k1r, y_k1l, y_k1n, y_tl, y_tn, y_s, y_ss, List.getElem?_cons_zero, List.getElem?_cons_succ, List.set_cons_zero, List.set_cons_succ, List.length_cons, List.length_nil, true_and, and_true]
      exact hQ g' (hC.w h2 ⟨_, _, h1, cw_cp (hc2 X hI)⟩) (h2.wide (by omega) (by omega))
  · obtain ⟨j, hj, e⟩ := nI_of z
    subst e
    have y := nltk (k := 2) (by omega) (by omega) y
    refine f_gt2 (by decide) (by decide) ?_
    rw [lt_n (by omega) (by omega)]
    omega
theorem c_status {v : Int32} (hC : CR g S) (hQ : cO g (oStatus S v) Q) : wp 124 b 0 [.ref 0, .int v] [] g Q := by
  unfold oStatus at hQ
  have bad : inB v 0 2 = false → wp 124 b 13 [.ref 0, .int v] [] g Q := by
    intro h
    rw [h] at hQ
    simp only [q_X10_status_13, q_X10_status_14, q_X10_status_16, hC.c0.1, y_is, y_gf, y_pf, y_f0, y_f1, y_f3, y_nI, y_nK, y_nZ, y_nL, y_nR, y_k1i, y_k1r, y_k1l, y_k1n, y_tl, y_tn, y_s, y_ss, List.getElem?_cons_zero, List.getElem?_cons_succ, List.set_cons_zero, List.set_cons_succ, List.length_cons, List.length_nil, true_and, and_true]
    refine c_ref hC (i := 0) (by decide) (by decide) (fun g' h1 h2 => ?_)
    simp only [q_X10_status_19, q_X10_status_20, q_X10_status_21, y_is, y_gf, y_pf, y_f0, y_f1, y_f3, y_nI, y_nK, y_nZ, y_nL, y_nR, y_k1i, y_k1r, y_k1l, y_k1n, y_tl, y_tn, y_s, y_ss, List.getElem?_cons_zero, List.getElem?_cons_succ, List.set_cons_zero, List.set_cons_succ, List.length_cons, List.length_nil, true_and, and_true]
    exact hQ g' h1 h2
  simp (disch := omega) only [q_X10_status_0, q_X10_status_1, q_X10_status_4, q_X10_status_5, q_X10_status_6, q_X10_status_9, q_X10_status_10, hC.c0.1, hC.cR, y_is, y_gf, y_pf, y_f0, y_f1, y_f3, y_nI, y_nK, y_nZ, y_nL, y_nR, y_k1i, y_k1r, y_k1l, y_k1n, y_tl, y_tn, y_s, y_ss, List.getElem?_cons_zero, List.getElem?_cons_succ, List.set_cons_zero, List.set_cons_succ, List.length_cons, List.length_nil, true_and, and_true]
  refine brs (fun z => bad (f_lt (by decide) (by decide) z)) (fun z => ?_)
  obtain ⟨j, hj, e⟩ := nI_of z
  subst e
  refine brs (fun y => ?_) (fun y => bad ?_)
  · have y : j < 3 := by
      have y : nI j < nI 3 := y
      rw [lt_n (by omega) (by omega)] at y
      exact y
    rw [inB_n (by omega) (by omega) (by omega), ck_n (by omega), if_pos rfl] at hQ
    simp (disch := omega) only [q_X10_status_22, q_X10_status_23, q_X10_status_26, q_X10_status_27, q_X10_status_28, hC.c0.1, hC.cR, y_is, y_gf, y_pf, y_f0, y_f1, y_f3, y_nI, y_nK, y_nZ, y_nL, y_nR, y_k1i, y_k1r, y_k1l, y_k1n, y_tl, y_tn, y_s, y_ss, List.getElem?_cons_zero, List.getElem?_cons_succ, List.set_cons_zero, List.set_cons_succ, List.length_cons, List.length_nil, true_and, and_true, y_lIn, y_lKn, y_lZn, y_lLn, y_wIn, y_wZn, y_wLn, lit, le_n, lt_n, eq_n]
    exact hQ g hC fr.rf
  · have y : ¬ j < 3 := by
      have y : ¬ nI j < nI 3 := y
      rw [lt_n (by omega) (by omega)] at y
      exact y
    refine f_gt2 (by decide) (by decide) ?_
    rw [lt_n (by omega) (by omega)]
    omega
theorem c_howMany {i : Nat} (hC : CR g S) (hi : i < 5) (hQ : Q (some (.int (hm S i))) g) : wp 127 b 0 [.ref 0, .int (nI i)] [] g Q := by
  obtain ⟨vv, A, hw, hc⟩ := id hC.cW
  obtain ⟨⟨a, t, p, va, hT⟩, -⟩ := id hC.cT
  obtain ⟨a0, -, -, -, -, a5, a6, a7⟩ := id hc.1
  have k : ∀ c : Fin 5, (mz_tsf 0 [32, 40, 48, 56] 64) (nI c.val) = if c.val = 0 then 32 else if c.val = 1 then 40 else if c.val = 2 then 48 else if c.val = 3 then 56 else 64 := by decide +kernel
  have k := k ⟨i, hi⟩
  simp only [] at k
  unfold hm at hQ
  simp only [q_X10_howMany_0, q_X10_howMany_1, y_is, y_gf, y_pf, y_f0, y_f1, y_f3, y_nI, y_nK, y_nZ, y_nL, y_nR, y_k1i, y_k1r, y_k1l, y_k1n, y_tl, y_tn, y_s, y_ss, List.getElem?_cons_zero, List.getElem?_cons_succ, List.set_cons_zero, List.set_cons_succ, List.length_cons, List.length_nil, true_and, and_true]
  rw [k]
  by_cases c0 : i = 0
  · rw [if_pos c0] at hQ ⊢
    simp only [q_X10_howMany_32, q_X10_howMany_33, q_X10_howMany_36, q_X10_howMany_39, hC.c0.1, hw.1, a0, y_is, y_gf, y_pf, y_f0, y_f1, y_f3, y_nI, y_nK, y_nZ, y_nL, y_nR, y_k1i, y_k1r, y_k1l, y_k1n, y_tl, y_tn, y_s, y_ss, List.getElem?_cons_zero, List.getElem?_cons_succ, List.set_cons_zero, List.set_cons_succ, List.length_cons, List.length_nil, true_and, and_true]
    exact hQ
  rw [if_neg c0] at hQ ⊢
  by_cases c1 : i = 1
  · rw [if_pos c1] at hQ ⊢
    simp only [q_X10_howMany_40, q_X10_howMany_41, q_X10_howMany_44, q_X10_howMany_47, hC.c0.1, hw.1, a5, y_is, y_gf, y_pf, y_f0, y_f1, y_f3, y_nI, y_nK, y_nZ, y_nL, y_nR, y_k1i, y_k1r, y_k1l, y_k1n, y_tl, y_tn, y_s, y_ss, List.getElem?_cons_zero, List.getElem?_cons_succ, List.set_cons_zero, List.set_cons_succ, List.length_cons, List.length_nil, true_and, and_true]
    exact hQ
  rw [if_neg c1] at hQ ⊢
  by_cases c2 : i = 2
  · rw [if_pos c2] at hQ ⊢
    simp only [q_X10_howMany_48, q_X10_howMany_49, q_X10_howMany_52, q_X10_howMany_55, hC.c0.1, hw.1, a6, y_is, y_gf, y_pf, y_f0, y_f1, y_f3, y_nI, y_nK, y_nZ, y_nL, y_nR, y_k1i, y_k1r, y_k1l, y_k1n, y_tl, y_tn, y_s, y_ss, List.getElem?_cons_zero, List.getElem?_cons_succ, List.set_cons_zero, List.set_cons_succ, List.length_cons, List.length_nil, true_and, and_true]
    exact hQ
  rw [if_neg c2] at hQ ⊢
  by_cases c3 : i = 3
  · rw [if_pos c3] at hQ ⊢
    simp only [q_X10_howMany_56, q_X10_howMany_57, q_X10_howMany_60, q_X10_howMany_63, hC.c0.1, hT.1, y_is, y_gf, y_pf, y_f0, y_f1, y_f3, y_nI, y_nK, y_nZ, y_nL, y_nR, y_k1i, y_k1r, y_k1l, y_k1n, y_tl, y_tn, y_s, y_ss, List.getElem?_cons_zero, List.getElem?_cons_succ, List.set_cons_zero, List.set_cons_succ, List.length_cons, List.length_nil, true_and, and_true]
    exact hQ
  rw [if_neg c3] at hQ ⊢
  simp only [q_X10_howMany_64, q_X10_howMany_65, q_X10_howMany_68, q_X10_howMany_71, hC.c0.1, hw.1, a7, y_is, y_gf, y_pf, y_f0, y_f1, y_f3, y_nI, y_nK, y_nZ, y_nL, y_nR, y_k1i, y_k1r, y_k1l, y_k1n, y_tl, y_tn, y_s, y_ss, List.getElem?_cons_zero, List.getElem?_cons_succ, List.set_cons_zero, List.set_cons_succ, List.length_cons, List.length_nil, true_and, and_true]
  exact hQ
theorem c_count {v : Int32} (hC : CR g S) (hQ : cO g (oCount S v) Q) : wp 125 b 0 [.ref 0, .int v] [] g Q := by
  unfold oCount at hQ
  have bad : inB v 0 4 = false → wp 125 b 9 [.ref 0, .int v] [] g Q := by
    intro h
    rw [h] at hQ
    simp only [q_X10_count_9, q_X10_count_10, q_X10_count_12, hC.c0.1, y_is, y_gf, y_pf, y_f0, y_f1, y_f3, y_nI, y_nK, y_nZ, y_nL, y_nR, y_k1i, y_k1r, y_k1l, y_k1n, y_tl, y_tn, y_s, y_ss, List.getElem?_cons_zero, List.getElem?_cons_succ, List.set_cons_zero, List.set_cons_succ, List.length_cons, List.length_nil, true_and, and_true]
    refine c_ref hC (i := 0) (by decide) (by decide) (fun g' h1 h2 => ?_)
    simp only [q_X10_count_15, q_X10_count_23, y_is, y_gf, y_pf, y_f0, y_f1, y_f3, y_nI, y_nK, y_nZ, y_nL, y_nR, y_k1i, y_k1r, y_k1l, y_k1n, y_tl, y_tn, y_s, y_ss, List.getElem?_cons_zero, List.getElem?_cons_succ, List.set_cons_zero, List.set_cons_succ, List.length_cons, List.length_nil, true_and, and_true]
    exact hQ g' h1 h2
  simp (disch := omega) only [q_X10_count_0, q_X10_count_1, q_X10_count_4, q_X10_count_5, q_X10_count_6, y_is, y_gf, y_pf, y_f0, y_f1, y_f3, y_nI, y_nK, y_nZ, y_nL, y_nR, y_k1i, y_k1r, y_k1l, y_k1n, y_tl, y_tn, y_s, y_ss, List.getElem?_cons_zero, List.getElem?_cons_succ, List.set_cons_zero, List.set_cons_succ, List.length_cons, List.length_nil, true_and, and_true]
  refine brs (fun z => bad (f_lt (by decide) (by decide) z)) (fun z => brs (fun y => ?_) (fun y => bad (f_gt (by decide) (by decide) y)))
  obtain ⟨j, j1, j2, e⟩ := in_of (a := 0) (c := 4) (by omega) (by omega) z y
  subst e
  rw [inB_n (by omega) j1 j2, ck_n (by omega), if_pos rfl] at hQ
  simp only [q_X10_count_18, q_X10_count_19, q_X10_count_20, hC.c0.1, y_is, y_gf, y_pf, y_f0, y_f1, y_f3, y_nI, y_nK, y_nZ, y_nL, y_nR, y_k1i, y_k1r, y_k1l, y_k1n, y_tl, y_tn, y_s, y_ss, List.getElem?_cons_zero, List.getElem?_cons_succ, List.set_cons_zero, List.set_cons_succ, List.length_cons, List.length_nil, true_and, and_true]
  refine c_howMany hC (by omega) ?_
  simp only [q_X10_count_23, y_is, y_gf, y_pf, y_f0, y_f1, y_f3, y_nI, y_nK, y_nZ, y_nL, y_nR, y_k1i, y_k1r, y_k1l, y_k1n, y_tl, y_tn, y_s, y_ss, List.getElem?_cons_zero, List.getElem?_cons_succ, List.set_cons_zero, List.set_cons_succ, List.length_cons, List.length_nil, true_and, and_true]
  exact hQ g hC fr.rf
theorem nv_sz {k N : Nat} (h : nv g k N) : ∃ f, g.2 k = ob 3 [.ref (k + 1), .int (nI (szN N))] ∧ g.2 (k + 1) = aI 16 f ∧ szN N ≤ 16 ∧ ∀ i, i < szN N → f i = nI (N / BB ^ i % BB) := by
  obtain ⟨f, z, ⟨h1, h2⟩, h3, ⟨h4, h5⟩, h6⟩ := h
  rw [szN_z (by omega) h5 h6]
  exact ⟨f, h1, h2, h3, h4⟩
theorem c_sign {v : Int32} (hC : CR g S) (hQ : cO g (oSign S v) Q) : wp 120 b 0 [.ref 0, .int v] [] g Q := by
  unfold oSign at hQ
  obtain ⟨f0, hN, hD⟩ := hC.cF
  obtain ⟨fn, n1, n2, n3, n4⟩ := nv_sz hN
  obtain ⟨fd, d1, d2, d3, d4⟩ := nv_sz hD
  have k : (mz_tsf 0 [28, 47, 58] 69) v = if v = 0 then 28 else if v = 1 then 47 else if v = 2 then 58 else 69 := tsf_3
  simp only [q_X10_sign_0, q_X10_sign_1, y_is, y_gf, y_pf, y_f0, y_f1, y_f3, y_nI, y_nK, y_nZ, y_nL, y_nR, y_k1i, y_k1r, y_k1l, y_k1n, y_tl, y_tn, y_s, y_ss, List.getElem?_cons_zero, List.getElem?_cons_succ, List.set_cons_zero, List.set_cons_succ, List.length_cons, List.length_nil, true_and, and_true]
  rw [k]
  by_cases c0 : v = 0
  · rw [if_pos c0] at hQ ⊢
    simp (disch := omega) only [q_X10_sign_28, q_X10_sign_29, q_X10_sign_32, q_X10_sign_35, q_X10_sign_38, hC.c0.1, f0, n1, y_is, y_gf, y_pf, y_f0, y_f1, y_f3, y_nI, y_nK, y_nZ, y_nL, y_nR, y_k1i, y_k1r, y_k1l, y_k1n, y_tl, y_tn, y_s, y_ss, List.getElem?_cons_zero, List.getElem?_cons_succ, List.set_cons_zero, List.set_cons_succ, List.length_cons, List.length_nil, true_and, and_true, lit, le_n]
    unfold sgN at hQ
    refine brs (fun z => ?_) (fun z => ?_)
    · rw [if_pos (szN_0.mp (by omega))] at hQ
      simp only [q_X10_sign_45, q_X10_sign_46, y_is, y_gf, y_pf, y_f0, y_f1, y_f3, y_nI, y_nK, y_nZ, y_nL, y_nR, y_k1i, y_k1r, y_k1l, y_k1n, y_tl, y_tn, y_s, y_ss, List.getElem?_cons_zero, List.getElem?_cons_succ, List.set_cons_zero, List.set_cons_succ, List.length_cons, List.length_nil, true_and, and_true]
      exact hQ g hC fr.rf
    · rw [if_neg (fun e => z (by rw [szN_0.mpr e]; exact Nat.le_refl _))] at hQ
      simp only [q_X10_sign_41, q_X10_sign_42, q_X10_sign_46, y_is, y_gf, y_pf, y_f0, y_f1, y_f3, y_nI, y_nK, y_nZ, y_nL, y_nR, y_k1i, y_k1r, y_k1l, y_k1n, y_tl, y_tn, y_s, y_ss, List.getElem?_cons_zero, List.getElem?_cons_succ, List.set_cons_zero, List.set_cons_succ, List.length_cons, List.length_nil, true_and, and_true]
      exact hQ g hC fr.rf
  rw [if_neg c0] at hQ ⊢
  by_cases c1 : v = 1
  · rw [if_pos c1] at hQ ⊢
    simp (disch := omega) only [q_X10_sign_47, q_X10_sign_48, q_X10_sign_51, q_X10_sign_54, q_X10_sign_57, hC.c0.1, f0, n1, y_is, y_gf, y_pf, y_f0, y_f1, y_f3, y_nI, y_nK, y_nZ, y_nL, y_nR, y_k1i, y_k1r, y_k1l, y_k1n, y_tl, y_tn, y_s, y_ss, List.getElem?_cons_zero, List.getElem?_cons_succ, List.set_cons_zero, List.set_cons_succ, List.length_cons, List.length_nil, true_and, and_true]
    exact hQ g hC fr.rf
  rw [if_neg c1] at hQ ⊢
  by_cases c2 : v = 2
  · rw [if_pos c2] at hQ ⊢
    simp (disch := omega) only [q_X10_sign_58, q_X10_sign_59, q_X10_sign_62, q_X10_sign_65, q_X10_sign_68, hC.c0.1, f0, d1, y_is, y_gf, y_pf, y_f0, y_f1, y_f3, y_nI, y_nK, y_nZ, y_nL, y_nR, y_k1i, y_k1r, y_k1l, y_k1n, y_tl, y_tn, y_s, y_ss, List.getElem?_cons_zero, List.getElem?_cons_succ, List.set_cons_zero, List.set_cons_succ, List.length_cons, List.length_nil, true_and, and_true]
    exact hQ g hC fr.rf
  rw [if_neg c2] at hQ ⊢
  simp only [q_X10_sign_69, q_X10_sign_70, q_X10_sign_72, hC.c0.1, y_is, y_gf, y_pf, y_f0, y_f1, y_f3, y_nI, y_nK, y_nZ, y_nL, y_nR, y_k1i, y_k1r, y_k1l, y_k1n, y_tl, y_tn, y_s, y_ss, List.getElem?_cons_zero, List.getElem?_cons_succ, List.set_cons_zero, List.set_cons_succ, List.length_cons, List.length_nil, true_and, and_true]
  refine c_ref hC (i := 0) (by decide) (by decide) (fun g' h1 h2 => ?_)
  simp only [q_X10_sign_75, y_is, y_gf, y_pf, y_f0, y_f1, y_f3, y_nI, y_nK, y_nZ, y_nL, y_nR, y_k1i, y_k1r, y_k1l, y_k1n, y_tl, y_tn, y_s, y_ss, List.getElem?_cons_zero, List.getElem?_cons_succ, List.set_cons_zero, List.set_cons_succ, List.length_cons, List.length_nil, true_and, and_true]
  exact hQ g' h1 h2
theorem c_limb {w i : Int32} (hC : CR g S) (hQ : cO g (oLimb S w i) Q) : wp 121 b 0 [.ref 0, .int w, .int i, .null] [] g Q := by
  unfold oLimb at hQ
  obtain ⟨f0, hN, hD⟩ := hC.cF
  have bad : (inB w 0 1 && decide (¬ i < 0)) = false → wp 121 b 13 [.ref 0, .int w, .int i, .null] [] g Q := by
    intro h
    rw [h] at hQ
    simp only [q_X10_limb_13, q_X10_limb_14, q_X10_limb_16, hC.c0.1, y_is, y_gf, y_pf, y_f0, y_f1, y_f3, y_nI, y_nK, y_nZ, y_nL, y_nR, y_k1i, y_k1r, y_k1l, y_k1n, y_tl, y_tn, y_s, y_ss, List.getElem?_cons_zero, List.getElem?_cons_succ, List.set_cons_zero, List.set_cons_succ, List.length_cons, List.length_nil, true_and, and_true]
    refine c_ref hC (i := 0) (by decide) (by decide) (fun g' h1 h2 => ?_)
    simp only [q_X10_limb_19, y_is, y_gf, y_pf, y_f0, y_f1, y_f3, y_nI, y_nK, y_nZ, y_nL, y_nR, y_k1i, y_k1r, y_k1l, y_k1n, y_tl, y_tn, y_s, y_ss, List.getElem?_cons_zero, List.getElem?_cons_succ, List.set_cons_zero, List.set_cons_succ, List.length_cons, List.length_nil, true_and, and_true]
    exact hQ g' h1 h2
  simp (disch := omega) only [q_X10_limb_0, q_X10_limb_1, q_X10_limb_4, q_X10_limb_5, q_X10_limb_6, q_X10_limb_9, q_X10_limb_10, y_is, y_gf, y_pf, y_f0, y_f1, y_f3, y_nI, y_nK, y_nZ, y_nL, y_nR, y_k1i, y_k1r, y_k1l, y_k1n, y_tl, y_tn, y_s, y_ss, List.getElem?_cons_zero, List.getElem?_cons_succ, List.set_cons_zero, List.set_cons_succ, List.length_cons, List.length_nil, true_and, and_true]
  refine brs (fun z => bad (by rw [f_lt (a := 0) (c := 1) (by decide) (by decide) z, Bool.false_and])) (fun z => brs (fun y => bad (by rw [f_gt2 (a := 0) (c := 1) (by decide) (by decide) y, Bool.false_and])) (fun y => ?_))
  obtain ⟨j, j1, j2, e⟩ := in_of (a := 0) (c := 1) (by omega) (by omega) z (Int32.not_lt.mp y)
  subst e
  rw [inB_n (by omega) j1 j2, ck_n (by omega), Bool.true_and] at hQ
  rw [inB_n (by omega) j1 j2, Bool.true_and] at bad
  refine brs (fun u => ?_) (fun u => bad (decide_eq_false (fun q => u (Int32.not_lt.mp q))))
  have u : ¬ i < 0 := Int32.not_lt.mpr u
  rw [decide_eq_true u, if_pos rfl] at hQ
  obtain ⟨m, hm, e⟩ := nI_of u
  subst e
  rw [ck_n (by omega)] at hQ
  have at42 : ∀ k M, nv g k M → lmb M m = lmb (if j = 0 then S.N else S.D) m → wp 121 b 42 [.ref 0, .int (nI j), .int (nI m), .ref k] [] g Q := by
    intro k M hk e
    rw [← e] at hQ
    unfold lmb at hQ
    obtain ⟨f, n1, n2, n3, n4⟩ := nv_sz hk
    simp (disch := omega) only [q_X10_limb_42, q_X10_limb_43, q_X10_limb_44, q_X10_limb_47, n1, y_is, y_gf, y_pf, y_f0, y_f1, y_f3, y_nI, y_nK, y_nZ, y_nL, y_nR, y_k1i, y_k1r, y_k1l, y_k1n, y_tl, y_tn, y_s, y_ss, List.getElem?_cons_zero, List.getElem?_cons_succ, List.set_cons_zero, List.set_cons_succ, List.length_cons, List.length_nil, true_and, and_true, le_n]
    refine brs (fun a => ?_) (fun a => ?_)
    · rw [if_neg (by omega)] at hQ
      simp only [q_X10_limb_59, q_X10_limb_60, y_is, y_gf, y_pf, y_f0, y_f1, y_f3, y_nI, y_nK, y_nZ, y_nL, y_nR, y_k1i, y_k1r, y_k1l, y_k1n, y_tl, y_tn, y_s, y_ss, List.getElem?_cons_zero, List.getElem?_cons_succ, List.set_cons_zero, List.set_cons_succ, List.length_cons, List.length_nil, true_and, and_true]
      exact hQ g hC fr.rf
    · rw [if_pos (by omega)] at hQ
      have e4 := n4 m (by omega)
      simp (disch := omega) only [q_X10_limb_50, q_X10_limb_51, q_X10_limb_54, q_X10_limb_55, q_X10_limb_56, q_X10_limb_59, q_X10_limb_60, n1, n2, e4, y_is, y_gf, y_pf, y_f0, y_f1, y_f3, y_nI, y_nK, y_nZ, y_nL, y_nR, y_k1i, y_k1r, y_k1l, y_k1n, y_tl, y_tn, y_s, y_ss, List.getElem?_cons_zero, List.getElem?_cons_succ, List.set_cons_zero, List.set_cons_succ, List.length_cons, List.length_nil, true_and, and_true, y_lIn, y_lKn, y_lZn, y_lLn, y_wIn, y_wZn, y_wLn, lit, le_n, lt_n, eq_n]
      exact hQ g hC fr.rf
  simp (disch := omega) only [q_X10_limb_20, q_X10_limb_21, y_is, y_gf, y_pf, y_f0, y_f1, y_f3, y_nI, y_nK, y_nZ, y_nL, y_nR, y_k1i, y_k1r, y_k1l, y_k1n, y_tl, y_tn, y_s, y_ss, List.getElem?_cons_zero, List.getElem?_cons_succ, List.set_cons_zero, List.set_cons_succ, List.length_cons, List.length_nil, true_and, and_true, lit, eq_n]
  by_cases c0 : j = 0
  · rw [bnt c0]
    simp only [q_X10_limb_24, q_X10_limb_25, q_X10_limb_28, q_X10_limb_31, q_X10_limb_34, q_X10_limb_35, q_X10_limb_38, q_X10_limb_41, hC.c0.1, f0, y_is, y_gf, y_pf, y_f0, y_f1, y_f3, y_nI, y_nK, y_nZ, y_nL, y_nR, y_k1i, y_k1r, y_k1l, y_k1n, y_tl, y_tn, y_s, y_ss, List.getElem?_cons_zero, List.getElem?_cons_succ, List.set_cons_zero, List.set_cons_succ, List.length_cons, List.length_nil, true_and, and_true]
    exact at42 _ _ hN (by rw [if_pos c0])
  · rw [bnf c0]
    simp only [q_X10_limb_34, q_X10_limb_35, q_X10_limb_38, q_X10_limb_41, hC.c0.1, f0, y_is, y_gf, y_pf, y_f0, y_f1, y_f3, y_nI, y_nK, y_nZ, y_nL, y_nR, y_k1i, y_k1r, y_k1l, y_k1n, y_tl, y_tn, y_s, y_ss, List.getElem?_cons_zero, List.getElem?_cons_succ, List.set_cons_zero, List.set_cons_succ, List.length_cons, List.length_nil, true_and, and_true]
    exact at42 _ _ hD (by rw [if_neg c0])
end COPS3
