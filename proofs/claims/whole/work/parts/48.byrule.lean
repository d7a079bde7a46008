/-! ===== Captain: by the rule ===== -/
theorem bm64 {x : Int} (h1 : -9223372036854775808 ≤ x) (h2 : x < 9223372036854775808) : x.bmod (2 ^ 64) = x := Int.bmod_eq_of_le (by omega) (by omega)
theorem lrem_t {v : Int64} {n : Nat} (h1 : 1 ≤ n) (hn : n ≤ 9) : (v - v / lN n * lN n).toInt = v.toInt.tmod n := by
  have hm : (lN n).toInt = (n : Int) := pk_lT (by omega)
  have b1 : -9223372036854775808 ≤ v.toInt := Int64.le_toInt v
  have b2 : v.toInt < 9223372036854775808 := Int64.toInt_lt v
  have hdef : v.toInt.tmod n = v.toInt - n * v.toInt.tdiv n := Int.tmod_def _ _
  have hn0 : (0 : Int) < n := by omega
  have tb := tmod_bounds (a := v.toInt) hn0
  have sg : (0 ≤ v.toInt → 0 ≤ v.toInt.tmod n ∧ 0 ≤ v.toInt.tdiv n) ∧ (v.toInt ≤ 0 → v.toInt.tmod n ≤ 0 ∧ v.toInt.tdiv n ≤ 0) := by
    constructor
    · intro h
      rw [Int.tmod_eq_emod_of_nonneg h, Int.tdiv_eq_ediv_of_nonneg h]
      exact ⟨Int.emod_nonneg _ (by omega), Int.ediv_nonneg h (by omega)⟩
    · intro h
      have h' : 0 ≤ -v.toInt := by omega
      have e1 : v.toInt.tmod n = -((-v.toInt).tmod n) := by rw [Int.neg_tmod, Int.neg_neg]
      have e2 : v.toInt.tdiv n = -((-v.toInt).tdiv n) := by rw [Int.neg_tdiv, Int.neg_neg]
      rw [e1, e2, Int.tmod_eq_emod_of_nonneg h', Int.tdiv_eq_ediv_of_nonneg h']
      have := Int.emod_nonneg (-v.toInt) (show (n : Int) ≠ 0 by omega)
      have := Int.ediv_nonneg h' (show (0 : Int) ≤ n by omega)
      omega
  generalize hq : v.toInt.tdiv n = q at *
  generalize hr : v.toInt.tmod n = r at *
  have hqb : -9223372036854775808 ≤ q ∧ q < 9223372036854775808 ∧ -9223372036854775808 ≤ q * n ∧ q * n < 9223372036854775808 := by
    rw [Int.mul_comm] at hdef
    rcases Int.le_total 0 v.toInt with h | h
    · have s := sg.1 h
      have : q ≤ q * n := by
        have := Int.mul_le_mul_of_nonneg_left (show (1 : Int) ≤ n by omega) s.2
        omega
      omega
    · have s := sg.2 h
      have : q * n ≤ q := by
        have := Int.mul_le_mul_of_nonneg_left (show (1 : Int) ≤ n by omega) (show 0 ≤ -q by omega)
        rw [Int.neg_mul, Int.neg_mul] at this
        omega
      omega
  have hd : (v / lN n).toInt = q := by
    rw [Int64.toInt_div, hm, hq]; exact bm64 hqb.1 hqb.2.1
  have hmul : (v / lN n * lN n).toInt = q * n := by
    rw [Int64.toInt_mul, hd, hm]; exact bm64 hqb.2.2.1 hqb.2.2.2
  rw [Int64.toInt_sub, hmul, Int.mul_comm q, ← hdef]
  exact bm64 (by omega) (by omega)
/-- a number told, by the POSTS -/
def md (n : Nat) (v : Int64) : Nat := (v.toInt.emod n).toNat
theorem md_lt {n : Nat} {v : Int64} (h1 : 1 ≤ n) : md n v < n := by
  have h2 := Int.emod_lt_of_pos v.toInt (show (0 : Int) < n by omega)
  have h3 := Int.emod_nonneg v.toInt (show (n : Int) ≠ 0 by omega)
  show (v.toInt % (n : Int)).toNat < n
  omega
theorem md_lt0 {n : Nat} {v : Int64} (h1 : 1 ≤ n) (hn : n ≤ 9) (h : v - v / lN n * lN n < 0) : v - v / lN n * lN n + lN n = lN (md n v) := by
  have t := lrem_t (v := v) h1 hn
  have hl : (v - v / lN n * lN n).toInt < 0 := Int64.lt_iff_toInt_lt.mp h
  generalize v - v / lN n * lN n = z at t hl ⊢
  have tb := tmod_bounds (a := v.toInt) (show (0 : Int) < n by omega)
  have h3 := Int.emod_nonneg v.toInt (show (n : Int) ≠ 0 by omega)
  have h2 := Int.emod_lt_of_pos v.toInt (show (0 : Int) < n by omega)
  have hv : v.toInt < 0 := by
    rcases Int.lt_or_le v.toInt 0 with q | q
    · exact q
    · rw [Int.tmod_eq_emod_of_nonneg q] at t; omega
  have e : v.toInt % (n : Int) = v.toInt.tmod n + n := by
    have d1 : v.toInt.tmod n = v.toInt - n * v.toInt.tdiv n := Int.tmod_def _ _
    have : (v.toInt.tmod n + n) % (n : Int) = v.toInt % (n : Int) := by
      rw [Int.add_emod_right, d1, Int.sub_mul_emod_self_left]
    rw [← this, Int.emod_eq_of_lt (by omega) (by omega)]
  apply Int64.toInt_inj.mp
  have hmd : ((md n v : Nat) : Int) = v.toInt % (n : Int) := by
    show (((v.toInt % (n : Int)).toNat : Nat) : Int) = _
    omega
  have := md_lt (v := v) h1
  rw [Int64.toInt_add, pk_lT (by omega), pk_lT (by omega), hmd, e, t]
  exact bm64 (by omega) (by omega)
theorem md_ge0 {n : Nat} {v : Int64} (h1 : 1 ≤ n) (hn : n ≤ 9) (h : ¬ v - v / lN n * lN n < 0) : v - v / lN n * lN n = lN (md n v) := by
  have t := lrem_t (v := v) h1 hn
  have hl : ¬ (v - v / lN n * lN n).toInt < 0 := fun q => h (Int64.lt_iff_toInt_lt.mpr q)
  generalize v - v / lN n * lN n = z at t hl ⊢
  have tb := tmod_bounds (a := v.toInt) (show (0 : Int) < n by omega)
  have h3 := Int.emod_nonneg v.toInt (show (n : Int) ≠ 0 by omega)
  have h2 := Int.emod_lt_of_pos v.toInt (show (0 : Int) < n by omega)
  have e : v.toInt % (n : Int) = v.toInt.tmod n := by
    have d1 : v.toInt.tmod n = v.toInt - n * v.toInt.tdiv n := Int.tmod_def _ _
    have : (v.toInt.tmod n) % (n : Int) = v.toInt % (n : Int) := by
      rw [d1, Int.sub_mul_emod_self_left]
    rw [← this, Int.emod_eq_of_lt (by omega) (by omega)]
  apply Int64.toInt_inj.mp
  have hmd : ((md n v : Nat) : Int) = v.toInt % (n : Int) := by
    show (((v.toInt % (n : Int)).toNat : Nat) : Int) = _
    omega
  have := md_lt (v := v) h1
  rw [pk_lT (by omega), hmd, e, t]
/-- who sleeps by steps, hour after hour from 0 on -/
def rwho (L : List stp) (n s t seed : Nat) : Nat → Nat
  | 0 => s
  | h + 1 => md n ((ea (env6 h n s t (rwho L n s t seed h) (drw seed (h + 1) / 65536)) L).headD 0)
theorem rwho_le {L : List stp} {n s t seed : Nat} (h1 : 1 ≤ n) (hn : n ≤ 9) (hs : s ≤ 9) : ∀ h, rwho L n s t seed h ≤ 9
  | 0 => hs
  | h + 1 => by
    have := md_lt (v := ((ea (env6 h n s t (rwho L n s t seed h) (drw seed (h + 1) / 65536)) L).headD 0)) h1
    show md n _ ≤ 9
    omega
theorem ea_last {h n s t l1 l2 x : Nat} : ∀ {L : List stp}, (∀ y, y ∈ L → sok false y) → ea (env6 h n s t l1 x) L = ea (env6 h n s t l2 x) L
  | [], _ => rfl
  | y :: r, hL => by
    show ev _ y (ea _ r) = ev _ y (ea _ r)
    rw [ea_last (L := r) (l2 := l2) (fun z hz => hL z (List.mem_cons_of_mem _ hz))]
    cases y with
    | inl v => rfl
    | inr c =>
      have := (hL _ List.mem_cons_self).2.2 rfl
      unfold ev env6
      simp only [if_neg this]
section BYRULE
variable {b : mzB} {Q : mzQ} {g : mzG} {w : Nat} {v : Nat → Int32} {A : Nat → Nat → Int32}
theorem s_byRule_loop {n s t seed hour : Nat} {lb : Bool} {due : Int32} {L : List stp} {wa : List Nat} {op from_ : Nat} (g0 : mzG) (hap : w + 12 ≤ 30) (hW : wt g0 w v A) (hv0 : v 0 = nI n) (hv2 : v 2 = nI s) (hv3 : v 3 = nI t) (h1 : 1 ≤ n) (hn : n ≤ 9) (hs : s ≤ 9) (ht : t ≤ 9) (hsd : seed < 2147483648) (hh : hour ≤ 999) (hLl : L.length ≤ 40) (hL : ∀ x, x ∈ L → sok lb x) (h29 : g0.2 29 = ob 1 [.ref 30]) (hQ : ∀ g', ru g' (-1) (bI lb) due L wa op → fr g0 g' 33 34 → Q (some (.int (nI (rwho L n s t seed (hour + 1))))) g') : ∀ (d h : Nat) (g : mzG) (who : Nat) (x8 x9 : Value), h + d = hour + 1 → who ≤ 9 → (who = rwho L n s t seed h ∨ (d ≠ 0 ∧ lb = false)) → ru g (-1) (bI lb) due L wa op → fr g0 g 33 34 → wp 14 b 83 [.ref 29, .ref w, .int (nI hour), .int (nI from_), .long (lN (drw seed h)), .null, .int (nI who), .int (nI h), x8, x9] [] g Q := by
  intro d
  induction d with
  | zero =>
    intro h g who x8 x9 hd hwh hwe hG hf
    have hd : h = hour + 1 := by omega
    subst hd
    have e : who = rwho L n s t seed (hour + 1) := hwe.resolve_right (fun z => z.1 rfl)
    rw [e]
    have := rwho_le (L := L) (t := t) (seed := seed) h1 hn hs (hour + 1)
    rw [q_X1_byRule_83]
    simp (disch := omega) only [q_X1_byRule_85, q_X1_byRule_86, q_X1_byRule_151, q_X1_byRule_153, y_is, y_gf, y_pf, y_f0, y_f1, y_f3, y_nI, y_nK, y_nZ, y_nL, y_nR, y_k1i, y_k1r, y_k1l, y_k1n, y_tl, y_tn, y_s, y_ss, List.getElem?_cons_zero, List.getElem?_cons_succ, List.set_cons_zero, List.set_cons_succ, List.length_cons, List.length_nil, true_and, and_true, y_lIn, y_lKn, y_lZn, y_lLn, y_wIn, y_wZn, y_wLn, lit, le_n, lt_n, eq_n, lit, litL, le_n, lt_n, eq_n, nI_add, m_neg, pk_sub, pk_mul, i_l, l_i, l_add, l_mul, l_sub, lc_le, lc_ge, lc_lt, lc_gt, lc_eq, l_rem2, l_rem3, i_rem2, i_rem3]
    exact br1 (by omega) (hQ g hG hf)
  | succ d ih =>
    intro h g who x8 x9 hd hwh hwe hG hf
    have hdr := drw_lt hsd h
    have hnx := nxd_lt (drw seed h)
    have hnd : nxd (drw seed h) / 65536 ≤ nxd (drw seed h) := Nat.div_le_self _ _
    have h29' : g.2 29 = ob 1 [.ref 30] := by rw [hf.2 _ (by omega)]; exact h29
    have hW' := hW.frm hf (by omega)
    rw [q_X1_byRule_83]
    simp (disch := omega) only [q_X1_byRule_85, q_X1_byRule_86, q_X1_byRule_89, q_X1_byRule_91, y_is, y_gf, y_pf, y_f0, y_f1, y_f3, y_nI, y_nK, y_nZ, y_nL, y_nR, y_k1i, y_k1r, y_k1l, y_k1n, y_tl, y_tn, y_s, y_ss, List.getElem?_cons_zero, List.getElem?_cons_succ, List.set_cons_zero, List.set_cons_succ, List.length_cons, List.length_nil, true_and, and_true, y_lIn, y_lKn, y_lZn, y_lLn, y_wIn, y_wZn, y_wLn, lit, le_n, lt_n, eq_n, lit, litL, le_n, lt_n, eq_n, nI_add, m_neg, pk_sub, pk_mul, i_l, l_i, l_add, l_mul, l_sub, lc_le, lc_ge, lc_lt, lc_gt, lc_eq, l_rem2, l_rem3, i_rem2, i_rem3]
    refine br0 (by omega) (s_nextDraw hdr ?_)
    simp (disch := omega) only [q_X1_byRule_94, q_X1_byRule_96, q_X1_byRule_97, q_X1_byRule_100, q_X1_byRule_101, q_X1_byRule_103, q_X1_byRule_105, q_X1_byRule_107, q_X1_byRule_110, q_X1_byRule_111, h29', hG.1, y_is, y_gf, y_pf, y_f0, y_f1, y_f3, y_nI, y_nK, y_nZ, y_nL, y_nR, y_k1i, y_k1r, y_k1l, y_k1n, y_tl, y_tn, y_s, y_ss, List.getElem?_cons_zero, List.getElem?_cons_succ, List.set_cons_zero, List.set_cons_succ, List.length_cons, List.length_nil, true_and, and_true, lit, litL, l_eq, l_div]
    refine ⟨by omega, s_work hap hW' hv0 hv2 hv3 hn hs ht (by omega) hwh hG hLl hL (fun g1 hG1 hf1 => ?_)⟩
    have hW1 := hW'.frm hf1 (by omega)
    have hval : ea (env6 h n s t who (nxd (drw seed h) / 65536)) L = ea (env6 h n s t (rwho L n s t seed h) (drw seed (h + 1) / 65536)) L := by
      rcases hwe with e | ⟨-, e⟩
      · rw [e]; rfl
      · rw [e] at hL; exact ea_last hL
    rw [hval]
    have hrw : rwho L n s t seed (h + 1) = md n ((ea (env6 h n s t (rwho L n s t seed h) (drw seed (h + 1) / 65536)) L).headD 0) := rfl
    generalize (ea (env6 h n s t (rwho L n s t seed h) (drw seed (h + 1) / 65536)) L).headD 0 = val at hrw ⊢
    have hml := md_lt (v := val) h1
    simp (disch := omega) only [q_X1_byRule_114, q_X1_byRule_115, q_X1_byRule_118, q_X1_byRule_119, hW1.1, hv0, y_is, y_gf, y_pf, y_f0, y_f1, y_f3, y_nI, y_nK, y_nZ, y_nL, y_nR, y_k1i, y_k1r, y_k1l, y_k1n, y_tl, y_tn, y_s, y_ss, List.getElem?_cons_zero, List.getElem?_cons_succ, List.set_cons_zero, List.set_cons_succ, List.length_cons, List.length_nil, true_and, and_true, i_l]
    refine ⟨by rw [show (0 : Int64) = lN 0 from rfl, l_eq (by omega) (by omega)]; omega, ?_⟩
    simp only [q_X1_byRule_120, q_X1_byRule_122, q_X1_byRule_124, q_X1_byRule_125, q_X1_byRule_126, y_is, y_gf, y_pf, y_f0, y_f1, y_f3, y_nI, y_nK, y_nZ, y_nL, y_nR, y_k1i, y_k1r, y_k1l, y_k1n, y_tl, y_tn, y_s, y_ss, List.getElem?_cons_zero, List.getElem?_cons_succ, List.set_cons_zero, List.set_cons_succ, List.length_cons, List.length_nil, true_and, and_true, lcg]
    have nx : ∀ x8 x9, wp 14 b 143 [.ref 29, .ref w, .int (nI hour), .int (nI from_), .long (lN (nxd (drw seed h))), .null, .int (nI who), .int (nI h), x8, x9] [.int (nI (md n val))] g1 Q := by
      intro x8 x9
      simp (disch := omega) only [q_X1_byRule_143, q_X1_byRule_145, q_X1_byRule_148, y_is, y_gf, y_pf, y_f0, y_f1, y_f3, y_nI, y_nK, y_nZ, y_nL, y_nR, y_k1i, y_k1r, y_k1l, y_k1n, y_tl, y_tn, y_s, y_ss, List.getElem?_cons_zero, List.getElem?_cons_succ, List.set_cons_zero, List.set_cons_succ, List.length_cons, List.length_nil, true_and, and_true, lit, nI_add]
      exact ih (h + 1) g1 (md n val) _ _ (by omega) (by omega) (Or.inl hrw.symm) hG1 (hf.tr hf1)
    refine brs (fun z => ?_) (fun z => ?_)
    · have e := md_ge0 (v := val) h1 hn (Int64.not_lt.mpr z)
      simp only [q_X1_byRule_140, q_X1_byRule_142, y_is, y_gf, y_pf, y_f0, y_f1, y_f3, y_nI, y_nK, y_nZ, y_nL, y_nR, y_k1i, y_k1r, y_k1l, y_k1n, y_tl, y_tn, y_s, y_ss, List.getElem?_cons_zero, List.getElem?_cons_succ, List.set_cons_zero, List.set_cons_succ, List.length_cons, List.length_nil, true_and, and_true]
      rw [e, l_i]
      exact nx _ _
    · have e := md_lt0 (v := val) h1 hn (Int64.not_le.mp z)
      simp (disch := omega) only [q_X1_byRule_129, q_X1_byRule_131, q_X1_byRule_132, q_X1_byRule_135, q_X1_byRule_136, q_X1_byRule_137, q_X1_byRule_142, hW1.1, hv0, y_is, y_gf, y_pf, y_f0, y_f1, y_f3, y_nI, y_nK, y_nZ, y_nL, y_nR, y_k1i, y_k1r, y_k1l, y_k1n, y_tl, y_tn, y_s, y_ss, List.getElem?_cons_zero, List.getElem?_cons_succ, List.set_cons_zero, List.set_cons_succ, List.length_cons, List.length_nil, true_and, and_true, i_l]
      rw [e, l_i]
      exact nx _ _
/-- by the rule: -3 where it has a flaw -/
def ruleW (ch : Nat → Nat) (len n s t seed hour : Nat) : Int32 := match cres ch len with
  | .inl _ => -3
  | .inr (L, _) => nI (rwho L n s t seed (hour + 1))
theorem s_byRule {n s t seed hour len : Nat} {ch : Nat → Nat} {fl0 lb0 due0 : Int32} {L0 : List stp} {w0 : List Nat} {op0 : Nat} (hap : w + 12 ≤ 29) (hW : wt g w v A) (hv0 : v 0 = nI n) (hv2 : v 2 = nI s) (hv3 : v 3 = nI t) (hv4 : v 4 = nI seed) (hv7 : v 7 = nI len) (h1 : 1 ≤ n) (hn : n ≤ 9) (hs : s ≤ 9) (ht : t ≤ 9) (hsd : seed < 2147483648) (hh : hour ≤ 999) (hch : ∀ i, i < len → A 9 i = nI (ch i) ∧ ch i < 128) (hlen : len ≤ 40) (h29 : g.2 29 = ob 1 [.ref 30]) (hG : ru g fl0 lb0 due0 L0 w0 op0) (hQ : ∀ g' fl lb due L wa op, ru g' fl lb due L wa op → fr g g' 30 34 → Q (some (.int (ruleW ch len n s t seed hour))) g') : wp 14 b 0 [.ref 29, .ref w, .int (nI hour), .null, .null, .null, .null, .null, .null, .null] [] g Q := by
  obtain ⟨k0, -, -, -, -, -, -, k9⟩ := id hW
  simp (disch := omega) only [q_X1_byRule_0, q_X1_byRule_1, q_X1_byRule_4, q_X1_byRule_5, q_X1_byRule_8, q_X1_byRule_9, q_X1_byRule_12, h29, k0, hG.1, hv7, y_is, y_gf, y_pf, y_f0, y_f1, y_f3, y_nI, y_nK, y_nZ, y_nL, y_nR, y_k1i, y_k1r, y_k1l, y_k1n, y_tl, y_tn, y_s, y_ss, List.getElem?_cons_zero, List.getElem?_cons_succ, List.set_cons_zero, List.set_cons_succ, List.length_cons, List.length_nil, true_and, and_true]
  refine s_compile (by omega) k9 hch hlen hG ?_ ?_
  · intro fl hc hfl g' lb due L wa op hG' hf'
    have h29' : g'.2 29 = ob 1 [.ref 30] := by rw [hf'.2 _ (by omega)]; exact h29
    simp (disch := omega) only [q_X1_byRule_15, q_X1_byRule_16, q_X1_byRule_19, q_X1_byRule_22, q_X1_byRule_23, h29', hG'.1, y_is, y_gf, y_pf, y_f0, y_f1, y_f3, y_nI, y_nK, y_nZ, y_nL, y_nR, y_k1i, y_k1r, y_k1l, y_k1n, y_tl, y_tn, y_s, y_ss, List.getElem?_cons_zero, List.getElem?_cons_succ, List.set_cons_zero, List.set_cons_succ, List.length_cons, List.length_nil, true_and, and_true]
    refine br1 (fun z => (m1_ne (by omega)).mp z) ?_
    simp only [q_X1_byRule_34, q_X1_byRule_36, y_is, y_gf, y_pf, y_f0, y_f1, y_f3, y_nI, y_nK, y_nZ, y_nL, y_nR, y_k1i, y_k1r, y_k1l, y_k1n, y_tl, y_tn, y_s, y_ss, List.getElem?_cons_zero, List.getElem?_cons_succ, List.set_cons_zero, List.set_cons_succ, List.length_cons, List.length_nil, true_and, and_true]
    have := hQ g' _ _ _ _ _ _ hG' hf'
    unfold ruleW at this
    rw [hc] at this
    exact this
  · intro L lb hc g' due wa op hG' hLl hL hf'
    have h29' : g'.2 29 = ob 1 [.ref 30] := by rw [hf'.2 _ (by omega)]; exact h29
    have hW' := hW.frm hf' (by omega)
    have k0' := hW'.1
    have fin : ∀ g2, ru g2 (-1) (bI lb) due L wa op → fr g' g2 33 34 → Q (some (.int (nI (rwho L n s t seed (hour + 1))))) g2 := by
      intro g2 q1 q2
      have := hQ g2 _ _ _ _ _ _ q1 (hf'.tr (q2.wide (by omega) (by omega)))
      unfold ruleW at this
      rw [hc] at this
      exact this
    simp (disch := omega) only [q_X1_byRule_15, q_X1_byRule_16, q_X1_byRule_19, q_X1_byRule_22, q_X1_byRule_23, h29', hG'.1, y_is, y_gf, y_pf, y_f0, y_f1, y_f3, y_nI, y_nK, y_nZ, y_nL, y_nR, y_k1i, y_k1r, y_k1l, y_k1n, y_tl, y_tn, y_s, y_ss, List.getElem?_cons_zero, List.getElem?_cons_succ, List.set_cons_zero, List.set_cons_succ, List.length_cons, List.length_nil, true_and, and_true]
    refine br0 (fun z => z (by first | decide | omega | trivial | simp)) ?_
    simp (disch := omega) only [q_X1_byRule_26, q_X1_byRule_27, q_X1_byRule_30, q_X1_byRule_31, k0', hv0, y_is, y_gf, y_pf, y_f0, y_f1, y_f3, y_nI, y_nK, y_nZ, y_nL, y_nR, y_k1i, y_k1r, y_k1l, y_k1n, y_tl, y_tn, y_s, y_ss, List.getElem?_cons_zero, List.getElem?_cons_succ, List.set_cons_zero, List.set_cons_succ, List.length_cons, List.length_nil, true_and, and_true, lit, le_n]
    refine br1 (by omega) ?_
    simp (disch := omega) only [q_X1_byRule_37, q_X1_byRule_38, q_X1_byRule_41, q_X1_byRule_44, h29', hG'.1, y_is, y_gf, y_pf, y_f0, y_f1, y_f3, y_nI, y_nK, y_nZ, y_nL, y_nR, y_k1i, y_k1r, y_k1l, y_k1n, y_tl, y_tn, y_s, y_ss, List.getElem?_cons_zero, List.getElem?_cons_succ, List.set_cons_zero, List.set_cons_succ, List.length_cons, List.length_nil, true_and, and_true]
    have from0 : ∀ (x7 x8 x9 : Value), wp 14 b 80 [.ref 29, .ref w, .int (nI hour), .int (nI 0), .long (lN (drw seed 0)), .null, .int (nI s), x7, x8, x9] [] g' Q := by
      intro x7 x8 x9
      simp (disch := omega) only [q_X1_byRule_80, q_X1_byRule_81, y_is, y_gf, y_pf, y_f0, y_f1, y_f3, y_nI, y_nK, y_nZ, y_nL, y_nR, y_k1i, y_k1r, y_k1l, y_k1n, y_tl, y_tn, y_s, y_ss, List.getElem?_cons_zero, List.getElem?_cons_succ, List.set_cons_zero, List.set_cons_succ, List.length_cons, List.length_nil, true_and, and_true]
      exact s_byRule_loop g' (by omega) hW' hv0 hv2 hv3 h1 hn hs ht hsd hh hLl hL h29' fin (hour + 1) 0 g' s _ _ (by omega) hs (Or.inl rfl) hG' fr.rf
    have zero : wp 14 b 52 [.ref 29, .ref w, .int (nI hour), .null, .null, .null, .null, .null, .null, .null] [.int (nI 0)] g' Q := by
      simp (disch := omega) only [q_X1_byRule_52, q_X1_byRule_53, q_X1_byRule_54, y_is, y_gf, y_pf, y_f0, y_f1, y_f3, y_nI, y_nK, y_nZ, y_nL, y_nR, y_k1i, y_k1r, y_k1l, y_k1n, y_tl, y_tn, y_s, y_ss, List.getElem?_cons_zero, List.getElem?_cons_succ, List.set_cons_zero, List.set_cons_succ, List.length_cons, List.length_nil, true_and, and_true, lit, eq_n]
      refine br0 (by first | decide | omega | trivial | simp) ?_
      simp (disch := omega) only [q_X1_byRule_57, q_X1_byRule_58, q_X1_byRule_61, q_X1_byRule_62, q_X1_byRule_72, q_X1_byRule_74, q_X1_byRule_75, q_X1_byRule_78, k0', hv4, hv2, y_is, y_gf, y_pf, y_f0, y_f1, y_f3, y_nI, y_nK, y_nZ, y_nL, y_nR, y_k1i, y_k1r, y_k1l, y_k1n, y_tl, y_tn, y_s, y_ss, List.getElem?_cons_zero, List.getElem?_cons_succ, List.set_cons_zero, List.set_cons_succ, List.length_cons, List.length_nil, true_and, and_true, i_l]
      exact from0 _ _ _
    cases lb with
    | true =>
      refine br0 (by decide) ?_
      simp (disch := omega) only [q_X1_byRule_47, q_X1_byRule_48, y_is, y_gf, y_pf, y_f0, y_f1, y_f3, y_nI, y_nK, y_nZ, y_nL, y_nR, y_k1i, y_k1r, y_k1l, y_k1n, y_tl, y_tn, y_s, y_ss, List.getElem?_cons_zero, List.getElem?_cons_succ, List.set_cons_zero, List.set_cons_succ, List.length_cons, List.length_nil, true_and, and_true, lit]
      exact zero
    | false =>
      refine br1 (by decide) ?_
      by_cases h0 : hour = 0
      · subst h0
        simp (disch := omega) only [q_X1_byRule_51, y_is, y_gf, y_pf, y_f0, y_f1, y_f3, y_nI, y_nK, y_nZ, y_nL, y_nR, y_k1i, y_k1r, y_k1l, y_k1n, y_tl, y_tn, y_s, y_ss, List.getElem?_cons_zero, List.getElem?_cons_succ, List.set_cons_zero, List.set_cons_succ, List.length_cons, List.length_nil, true_and, and_true]
        exact zero
      · simp (disch := omega) only [q_X1_byRule_51, q_X1_byRule_52, q_X1_byRule_53, q_X1_byRule_54, y_is, y_gf, y_pf, y_f0, y_f1, y_f3, y_nI, y_nK, y_nZ, y_nL, y_nR, y_k1i, y_k1r, y_k1l, y_k1n, y_tl, y_tn, y_s, y_ss, List.getElem?_cons_zero, List.getElem?_cons_succ, List.set_cons_zero, List.set_cons_succ, List.length_cons, List.length_nil, true_and, and_true, lit, eq_n]
        refine br1 (by first | decide | omega | trivial | simp) ?_
        simp (disch := omega) only [q_X1_byRule_65, q_X1_byRule_66, q_X1_byRule_67, q_X1_byRule_68, q_X1_byRule_69, y_is, y_gf, y_pf, y_f0, y_f1, y_f3, y_nI, y_nK, y_nZ, y_nL, y_nR, y_k1i, y_k1r, y_k1l, y_k1n, y_tl, y_tn, y_s, y_ss, List.getElem?_cons_zero, List.getElem?_cons_succ, List.set_cons_zero, List.set_cons_succ, List.length_cons, List.length_nil, true_and, and_true, lit, pk_sub]
        refine s_drawnAt hW' hv4 hsd (by omega) ?_
        rw [show hour - 1 + 1 = hour by omega]
        simp (disch := omega) only [q_X1_byRule_72, q_X1_byRule_74, q_X1_byRule_75, q_X1_byRule_78, q_X1_byRule_80, q_X1_byRule_81, k0', hv2, y_is, y_gf, y_pf, y_f0, y_f1, y_f3, y_nI, y_nK, y_nZ, y_nL, y_nR, y_k1i, y_k1r, y_k1l, y_k1n, y_tl, y_tn, y_s, y_ss, List.getElem?_cons_zero, List.getElem?_cons_succ, List.set_cons_zero, List.set_cons_succ, List.length_cons, List.length_nil, true_and, and_true]
        exact s_byRule_loop g' (by omega) hW' hv0 hv2 hv3 h1 hn hs ht hsd hh hLl hL h29' fin 1 hour g' s _ _ (by omega) hs (Or.inr ⟨by decide, rfl⟩) hG' fr.rf
/-- who sleeps: by the captain's kind -/
def slW (ch sh : Nat → Nat) (len n kind s t seed hour : Nat) : Int32 :=
  if kind = 1 then nI (trn n s t hour) else if kind = 4 then nI (trn n s t (hour - hour % 2)) else if kind = 2 then ruleW ch len n s t seed hour
  else if sm sh n = 0 then -3 else match lot sh (lotR sh n seed hour) n 0 with
    | some p => nI p
    | none => -3
theorem s_sleeper {n kind s t seed hour len : Nat} {ch sh : Nat → Nat} {fl0 lb0 due0 : Int32} {L0 : List stp} {w0 : List Nat} {op0 : Nat} (hap : w + 12 ≤ 29) (hW : wt g w v A) (hv0 : v 0 = nI n) (hv1 : v 1 = nI kind) (hv2 : v 2 = nI s) (hv3 : v 3 = nI t) (hv4 : v 4 = nI seed) (hv7 : v 7 = nI len) (hk : kind ≤ 4) (h1 : 1 ≤ n) (hn : n ≤ 9) (hs : s ≤ 9) (ht : t ≤ 9) (hsd : seed < 2147483648) (hh : hour ≤ 999) (hch : ∀ i, i < len → A 9 i = nI (ch i) ∧ ch i < 128) (hsh : ∀ i, i < n → A 1 i = nI (sh i) ∧ sh i ≤ 99) (hlen : len ≤ 40) (h29 : g.2 29 = ob 1 [.ref 30]) (hG : ru g fl0 lb0 due0 L0 w0 op0) (hQ : ∀ g' fl lb due L wa op, ru g' fl lb due L wa op → fr g g' 30 34 → Q (some (.int (slW ch sh len n kind s t seed hour))) g') : wp 9 b 0 [.ref 29, .ref w, .int (nI hour)] [] g Q := by
  simp (disch := omega) only [q_X1_sleeper_0, q_X1_sleeper_1, q_X1_sleeper_4, hW.1, hv1, y_is, y_gf, y_pf, y_f0, y_f1, y_f3, y_nI, y_nK, y_nZ, y_nL, y_nR, y_k1i, y_k1r, y_k1l, y_k1n, y_tl, y_tn, y_s, y_ss, List.getElem?_cons_zero, List.getElem?_cons_succ, List.set_cons_zero, List.set_cons_succ, List.length_cons, List.length_nil, true_and, and_true]
  have k : ∀ c : Fin 5, (mz_tsf 1 [36, 42, 59, 49] 59) (nI c.val) = if c.val = 1 then 36 else if c.val = 4 then 49 else if c.val = 2 then 42 else 59 := by decide +kernel
  rw [k ⟨kind, by omega⟩]
  dsimp only
  unfold slW at hQ
  by_cases q1 : kind = 1
  · rw [if_pos q1]
    simp only [if_pos q1] at hQ
    simp (disch := omega) only [q_X1_sleeper_36, q_X1_sleeper_37, q_X1_sleeper_38, y_is, y_gf, y_pf, y_f0, y_f1, y_f3, y_nI, y_nK, y_nZ, y_nL, y_nR, y_k1i, y_k1r, y_k1l, y_k1n, y_tl, y_tn, y_s, y_ss, List.getElem?_cons_zero, List.getElem?_cons_succ, List.set_cons_zero, List.set_cons_succ, List.length_cons, List.length_nil, true_and, and_true]
    refine s_inTurn hW hv0 hv2 hv3 h1 hn (by omega) (by omega) (by omega) ?_
    simp only [q_X1_sleeper_41, y_is, y_gf, y_pf, y_f0, y_f1, y_f3, y_nI, y_nK, y_nZ, y_nL, y_nR, y_k1i, y_k1r, y_k1l, y_k1n, y_tl, y_tn, y_s, y_ss, List.getElem?_cons_zero, List.getElem?_cons_succ, List.set_cons_zero, List.set_cons_succ, List.length_cons, List.length_nil, true_and, and_true]
    exact hQ g _ _ _ _ _ _ hG fr.rf
  rw [if_neg q1]
  simp only [if_neg q1] at hQ
  by_cases q4 : kind = 4
  · rw [if_pos q4]
    simp only [if_pos q4] at hQ
    have hm : hour % 2 ≤ hour := Nat.mod_le _ _
    simp (disch := omega) only [q_X1_sleeper_49, q_X1_sleeper_50, q_X1_sleeper_51, q_X1_sleeper_52, q_X1_sleeper_53, q_X1_sleeper_54, q_X1_sleeper_55, y_is, y_gf, y_pf, y_f0, y_f1, y_f3, y_nI, y_nK, y_nZ, y_nL, y_nR, y_k1i, y_k1r, y_k1l, y_k1n, y_tl, y_tn, y_s, y_ss, List.getElem?_cons_zero, List.getElem?_cons_succ, List.set_cons_zero, List.set_cons_succ, List.length_cons, List.length_nil, true_and, and_true, lit, eq_n, i_rem1, pk_sub]
    refine ⟨by decide, s_inTurn hW hv0 hv2 hv3 h1 hn (by omega) (by omega) (by omega) ?_⟩
    simp only [q_X1_sleeper_58, y_is, y_gf, y_pf, y_f0, y_f1, y_f3, y_nI, y_nK, y_nZ, y_nL, y_nR, y_k1i, y_k1r, y_k1l, y_k1n, y_tl, y_tn, y_s, y_ss, List.getElem?_cons_zero, List.getElem?_cons_succ, List.set_cons_zero, List.set_cons_succ, List.length_cons, List.length_nil, true_and, and_true]
    exact hQ g _ _ _ _ _ _ hG fr.rf
  rw [if_neg q4]
  simp only [if_neg q4] at hQ
  by_cases q2 : kind = 2
  · rw [if_pos q2]
    simp only [if_pos q2] at hQ
    simp (disch := omega) only [q_X1_sleeper_42, q_X1_sleeper_43, q_X1_sleeper_44, q_X1_sleeper_45, h29, y_is, y_gf, y_pf, y_f0, y_f1, y_f3, y_nI, y_nK, y_nZ, y_nL, y_nR, y_k1i, y_k1r, y_k1l, y_k1n, y_tl, y_tn, y_s, y_ss, List.getElem?_cons_zero, List.getElem?_cons_succ, List.set_cons_zero, List.set_cons_succ, List.length_cons, List.length_nil, true_and, and_true]
    refine s_byRule hap hW hv0 hv2 hv3 hv4 hv7 h1 hn hs ht hsd hh hch hlen h29 hG (fun g' fl lb due L wa op q3 q5 => ?_)
    simp only [q_X1_sleeper_48, y_is, y_gf, y_pf, y_f0, y_f1, y_f3, y_nI, y_nK, y_nZ, y_nL, y_nR, y_k1i, y_k1r, y_k1l, y_k1n, y_tl, y_tn, y_s, y_ss, List.getElem?_cons_zero, List.getElem?_cons_succ, List.set_cons_zero, List.set_cons_succ, List.length_cons, List.length_nil, true_and, and_true]
    exact hQ g' _ _ _ _ _ _ q3 q5
  rw [if_neg q2]
  simp only [if_neg q2] at hQ
  simp (disch := omega) only [q_X1_sleeper_59, q_X1_sleeper_60, q_X1_sleeper_61, y_is, y_gf, y_pf, y_f0, y_f1, y_f3, y_nI, y_nK, y_nZ, y_nL, y_nR, y_k1i, y_k1r, y_k1l, y_k1n, y_tl, y_tn, y_s, y_ss, List.getElem?_cons_zero, List.getElem?_cons_succ, List.set_cons_zero, List.set_cons_succ, List.length_cons, List.length_nil, true_and, and_true]
  by_cases q0 : sm sh n = 0
  · simp only [if_pos q0] at hQ
    refine s_byLot0 hW hv0 hn hsh q0 ?_
    simp only [q_X1_sleeper_64, y_is, y_gf, y_pf, y_f0, y_f1, y_f3, y_nI, y_nK, y_nZ, y_nL, y_nR, y_k1i, y_k1r, y_k1l, y_k1n, y_tl, y_tn, y_s, y_ss, List.getElem?_cons_zero, List.getElem?_cons_succ, List.set_cons_zero, List.set_cons_succ, List.length_cons, List.length_nil, true_and, and_true]
    exact hQ g _ _ _ _ _ _ hG fr.rf
  · simp only [if_neg q0] at hQ
    obtain ⟨p, e1, e2, e3⟩ := lot_ex (sh := sh) (r := lotR sh n seed hour) n 0 (by rw [Nat.zero_add]; exact Nat.mod_lt _ (by omega)) (Nat.zero_le _)
    rw [e1] at hQ
    refine s_byLot hW hv0 hv4 hsd (by omega) hn hsh (by omega) e1 ?_
    simp only [q_X1_sleeper_64, y_is, y_gf, y_pf, y_f0, y_f1, y_f3, y_nI, y_nK, y_nZ, y_nL, y_nR, y_k1i, y_k1r, y_k1l, y_k1n, y_tl, y_tn, y_s, y_ss, List.getElem?_cons_zero, List.getElem?_cons_succ, List.set_cons_zero, List.set_cons_succ, List.length_cons, List.length_nil, true_and, and_true]
    exact hQ g _ _ _ _ _ _ hG fr.rf
end BYRULE
