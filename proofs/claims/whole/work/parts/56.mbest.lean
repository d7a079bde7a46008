/-! ===== the reference: BEST ===== -/
theorem pr_perm {l1 l2 : List Nat} (h : l1.Perm l2) : pr l1 = pr l2 := by
  induction h with
  | nil => rfl
  | cons x _ ih => rw [pr, pr, ih]
  | swap x y l => rw [pr, pr, pr, pr]; ac_rfl
  | trans _ _ i1 i2 => exact i1.trans i2
theorem hsm_perm {l1 l2 : List Nat} (h : l1.Perm l2) : hsm l1 = hsm l2 := by
  induction h with
  | nil => rfl
  | cons x p ih => rw [hsm, hsm, ih, pr_perm p]
  | swap x y l =>
    rw [hsm, hsm, hsm, hsm, pr, pr, Nat.mul_add, Nat.mul_add]
    have : x * (y * hsm l) = y * (x * hsm l) := by ac_rfl
    omega
  | trans _ _ i1 i2 => exact i1.trans i2
/-- those of more worth -/
def fl (wo : Nat → Nat) (t p : Nat) : List Nat := (pw wo p).filter (fun y => decide (t < y))
theorem fl_s1 {wo : Nat → Nat} {t p : Nat} (h : t < wo p) : fl wo t (p + 1) = wo p :: fl wo t p := by
  unfold fl
  rw [pw, if_pos (by omega), List.filter_cons_of_pos (by simpa using h)]
theorem fl_s0 {wo : Nat → Nat} {t p : Nat} (h : ¬ t < wo p) : fl wo t (p + 1) = fl wo t p := by
  unfold fl
  rw [pw]
  split
  · rw [List.filter_cons_of_neg (by simpa using h)]
  · rfl
def nou (wo : Nat → Nat) : Nat → Nat
  | 0 => 0
  | p + 1 => nou wo p + (if wo p = 0 then 1 else 0)
theorem nou_pw (wo : Nat → Nat) : ∀ p, nou wo p + (pw wo p).length = p
  | 0 => rfl
  | p + 1 => by
    have := nou_pw wo p
    rw [nou, pw]
    by_cases h : wo p = 0
    · rw [if_pos h, if_neg (by omega)]; omega
    · rw [if_neg h, if_pos (by omega), List.length_cons]; omega
def mny (wo : Nat → Nat) (t : Nat) : Nat → Nat
  | 0 => 0
  | p + 1 => mny wo t p + (if t < wo p then 0 else if 0 < wo p then 1 else 0)
theorem mny_fl (wo : Nat → Nat) (t : Nat) : ∀ p, mny wo t p + (fl wo t p).length = (pw wo p).length
  | 0 => rfl
  | p + 1 => by
    have := mny_fl wo t p
    rw [mny, pw]
    by_cases h : t < wo p
    · rw [fl_s1 h, if_pos h, if_pos (by omega), List.length_cons, List.length_cons]; omega
    · rw [fl_s0 h, if_neg h]
      by_cases h0 : 0 < wo p
      · rw [if_pos h0, if_pos h0, List.length_cons]; omega
      · rw [if_neg h0, if_neg h0]; omega
def gq (wo : Nat → Nat) (t p : Nat) : Nat → Nat
  | 0 => 1
  | q + 1 => gq wo t p q * (if q ≠ p ∧ t < wo q then wo q else 1)
def ns (wo : Nat → Nat) (t n : Nat) : Nat → Nat
  | 0 => 0
  | p + 1 => ns wo t n p + (if t < wo p then gq wo t p n else 0)
theorem gq_far {wo : Nat → Nat} {t p : Nat} : ∀ q, q ≤ p → gq wo t p q = pr (fl wo t q)
  | 0, _ => rfl
  | q + 1, h => by
    rw [gq, gq_far q (by omega)]
    by_cases c : t < wo q
    · rw [if_pos ⟨by omega, c⟩, fl_s1 c, pr, Nat.mul_comm]
    · rw [if_neg (fun z => c z.2), fl_s0 c, Nat.mul_one]
theorem ns_s {wo : Nat → Nat} {t n : Nat} : ∀ p, p ≤ n → ns wo t (n + 1) p = ns wo t n p * (if t < wo n then wo n else 1)
  | 0, _ => by simp [ns]
  | p + 1, h => by
    rw [ns, ns, ns_s p (by omega), Nat.add_mul]
    by_cases c : t < wo p
    · rw [if_pos c, if_pos c]
      have : gq wo t p (n + 1) = gq wo t p n * (if t < wo n then wo n else 1) := by
        rw [gq]
        by_cases z : t < wo n
        · rw [if_pos ⟨by omega, z⟩, if_pos z]
        · rw [if_neg (fun y => z y.2), if_neg z]
      rw [this]
    · rw [if_neg c, if_neg c, Nat.zero_mul]
theorem ns_hsm (wo : Nat → Nat) (t : Nat) : ∀ n, ns wo t n n = hsm (fl wo t n)
  | 0 => rfl
  | n + 1 => by
    rw [ns, ns_s n (Nat.le_refl _), ns_hsm wo t n]
    have hg : gq wo t n (n + 1) = pr (fl wo t n) := by
      rw [gq, gq_far n (Nat.le_refl _), if_neg (fun z => z.1 rfl), Nat.mul_one]
    by_cases c : t < wo n
    · rw [if_pos c, if_pos c, hg, fl_s1 c, hsm, Nat.mul_comm, Nat.add_comm]
    · rw [if_neg c, if_neg c, fl_s0 c, Nat.mul_one, Nat.add_zero]
theorem gq_le {wo : Nat → Nat} {t p : Nat} (h : ∀ i, i < 9 → wo i ≤ 99) : ∀ q, q ≤ 9 → gq wo t p q ≤ 99 ^ q
  | 0, _ => Nat.le_refl _
  | q + 1, hq => by
    rw [gq, Nat.pow_succ]
    refine Nat.mul_le_mul (gq_le h q (by omega)) ?_
    split
    · exact h q (by omega)
    · omega
theorem ns_le {wo : Nat → Nat} {t n : Nat} (h : ∀ i, i < 9 → wo i ≤ 99) (hn : n ≤ 9) : ∀ p, ns wo t n p ≤ p * 99 ^ 9
  | 0 => Nat.zero_le _
  | p + 1 => by
    rw [ns, Nat.add_mul]
    have h1 := ns_le h hn p (wo := wo) (t := t)
    have h2 := gq_le (t := t) (p := p) h n hn
    have h3 : 99 ^ n ≤ 99 ^ 9 := Nat.pow_le_pow_right (by decide) hn
    have h4 := Nat.le_trans h2 h3
    generalize 99 ^ 9 = K at *
    rw [Nat.one_mul]
    split
    · exact Nat.add_le_add h1 h4
    · exact Nat.le_trans h1 (Nat.le_add_right _ _)
theorem prfl_le {wo : Nat → Nat} {t : Nat} (h : ∀ i, i < 9 → wo i ≤ 99) : ∀ p, p ≤ 9 → pr (fl wo t p) ≤ 99 ^ p
  | 0, _ => Nat.le_refl _
  | p + 1, hp => by
    have ih := prfl_le (t := t) h p (by omega)
    rw [Nat.pow_succ]
    by_cases c : t < wo p
    · rw [fl_s1 c, pr, Nat.mul_comm]; exact Nat.mul_le_mul ih (h p (by omega))
    · rw [fl_s0 c]; omega
def nxw (wo : Nat → Nat) (t : Nat) : Nat → Option Nat
  | 0 => none
  | p + 1 => if t < wo p then (match nxw wo t p with
      | none => some (wo p)
      | some y => if wo p < y then some (wo p) else some y) else nxw wo t p
theorem nxw_s (wo : Nat → Nat) (t : Nat) : ∀ p, (nxw wo t p = none → fl wo t p = []) ∧ (∀ y, nxw wo t p = some y → y ∈ fl wo t p ∧ ∀ z, z ∈ fl wo t p → y ≤ z)
  | 0 => ⟨fun _ => rfl, fun y h => by simp [nxw] at h⟩
  | p + 1 => by
    have ih := nxw_s wo t p
    rw [nxw]
    by_cases c : t < wo p
    · rw [if_pos c, fl_s1 c]
      cases h : nxw wo t p with
      | none =>
        refine ⟨fun e => by simp at e, fun y e => ?_⟩
        have := Option.some.inj e
        subst this
        refine ⟨List.mem_cons_self, fun z hz => ?_⟩
        rw [ih.1 h] at hz
        rcases List.mem_cons.mp hz with q | q
        · omega
        · simp at q
      | some u =>
        obtain ⟨i1, i2⟩ := ih.2 u h
        simp only
        by_cases d : wo p < u
        · rw [if_pos d]
          refine ⟨fun e => by simp at e, fun y e => ?_⟩
          have := Option.some.inj e
          subst this
          refine ⟨List.mem_cons_self, fun z hz => ?_⟩
          rcases List.mem_cons.mp hz with q | q
          · omega
          · have := i2 z q; omega
        · rw [if_neg d]
          refine ⟨fun e => by simp at e, fun y e => ?_⟩
          have := Option.some.inj e
          subst this
          refine ⟨List.mem_cons_of_mem _ i1, fun z hz => ?_⟩
          rcases List.mem_cons.mp hz with q | q
          · omega
          · exact i2 z q
    · rw [if_neg c, fl_s0 c]; exact ih
/-- the next worth is the first of the sorted rest -/
theorem nxw_head {wo : Nat → Nat} {t n y : Nat} {l r : List Nat} (hl : l.Perm (pw wo n)) (hs : l.Pairwise (· ≤ ·)) (he : l.filter (fun y => decide (t < y)) = y :: r) : nxw wo t n = some y := by
  have hp : (y :: r).Perm (fl wo t n) := by rw [← he]; exact hl.filter _
  have hs2 : (y :: r).Pairwise (· ≤ ·) := by rw [← he]; exact hs.filter _
  rw [List.pairwise_cons] at hs2
  have h := nxw_s wo t n
  cases e : nxw wo t n with
  | none =>
    rw [h.1 e] at hp
    have := hp.length_eq
    simp at this
  | some u =>
    obtain ⟨i1, i2⟩ := h.2 u e
    have h1 := i2 y (hp.mem_iff.mp List.mem_cons_self)
    rcases List.mem_cons.mp (hp.mem_iff.mpr i1) with q | q
    · rw [q]
    · have := hs2.1 u q
      rw [show u = y by omega]
/-- where a share is too large for the least, it is so for its likes -/
theorem bs_t {q w : Nat} {l : List Nat} (hw : 0 < w) : ((q + 1) * pr (w :: l) ≤ w * hsm (w :: l)) ↔ q * pr l ≤ w * hsm l := by
  rw [pr, hsm, show (q + 1) * (w * pr l) = w * ((q + 1) * pr l) by ac_rfl]
  constructor
  · intro h
    have := Nat.le_of_mul_le_mul_left h hw
    rw [Nat.add_mul] at this
    omega
  · intro h
    refine Nat.mul_le_mul_left _ ?_
    rw [Nat.add_mul]
    omega
theorem bs_x {x x' : Nat × Nat} {q : Nat} {l : List Nat} (hq : 1 ≤ q) (hl : l ≠ []) : bs x q l = bs x' q l := by
  cases l with
  | nil => exact absurd rfl hl
  | cons w l =>
    cases q with
    | zero => omega
    | succ q => rw [bs, bs]
theorem bs_run : ∀ (r : List Nat) (w q : Nat) (x : Nat × Nat), 0 < w → (w :: r).Pairwise (· ≤ ·) → 1 ≤ q → q ≤ r.length + 1 → ¬ (q * pr (w :: r) ≤ w * hsm (w :: r)) → 1 ≤ q - (r.length + 1 - (r.filter (fun y => decide (w < y))).length) ∧ q - (r.length + 1 - (r.filter (fun y => decide (w < y))).length) ≤ (r.filter (fun y => decide (w < y))).length ∧ bs x q (w :: r) = bs (0, 1) (q - (r.length + 1 - (r.filter (fun y => decide (w < y))).length)) (r.filter (fun y => decide (w < y)))
  | [], w, q, x, hw, hs, hq, hql, hf => by
    exfalso
    apply hf
    simp at hql
    have : q = 0 + 1 := by omega
    rw [this, bs_t hw]
    omega
  | v :: r, w, q, x, hw, hs, hq, hql, hf => by
    obtain ⟨p, rfl⟩ : ∃ p, q = p + 1 := ⟨q - 1, by omega⟩
    have hf' := hf
    rw [bs_t hw] at hf'
    rw [List.length_cons] at hql
    have hp1 : 1 ≤ p := by
      rcases Nat.eq_zero_or_pos p with e | e
      · rw [e] at hf'; omega
      · exact e
    rw [List.pairwise_cons] at hs
    have hwv := hs.1 v List.mem_cons_self
    rw [bs, if_neg hf]
    by_cases e : v = w
    · subst e
      have := bs_run r v p ((p + 1) * pr (v :: v :: r), hsm (v :: v :: r)) hw hs.2 hp1 (by omega) hf'
      rw [List.filter_cons_of_neg (by simp), List.length_cons]
      have hfl : (r.filter (fun y => decide (v < y))).length ≤ r.length := List.length_filter_le _ _
      rw [show p + 1 - (r.length + 1 + 1 - (r.filter (fun y => decide (v < y))).length) = p - (r.length + 1 - (r.filter (fun y => decide (v < y))).length) by omega]
      exact this
    · have hall : (v :: r).filter (fun y => decide (w < y)) = v :: r := by
        rw [List.filter_eq_self]
        intro z hz
        have : v ≤ z := by
          rcases List.mem_cons.mp hz with q | q
          · omega
          · exact (List.pairwise_cons.mp hs.2).1 z q
        simp; omega
      rw [hall, List.length_cons, show p + 1 - (r.length + 1 + 1 - (r.length + 1)) = p by omega]
      exact ⟨hp1, by omega, bs_x hp1 (by simp)⟩
theorem filt2 {l : List Nat} {t w : Nat} (h : t ≤ w) : (l.filter (fun y => decide (t < y))).filter (fun y => decide (w < y)) = l.filter (fun y => decide (w < y)) := by
  rw [List.filter_filter]
  congr 1
  funext y
  by_cases c : w < y
  · simp [c, show t < y by omega]
  · simp [c]
section MBEST
variable {b : mzB} {Q : mzQ} {x : Nat → Int32} {r : Int64} {f : Nat → Int32} {W : Nat → Nat}
theorem s_noughts {g : mzG} {n : Nat} (hM : g.2 73 = ob 9 [.ref 74, .ref 75, .ref 76, .ref 77, .ref 78, .ref 79, .int (x 0), .int (x 1), .int (x 2), .ref 80, .int (x 3), .ref 81, .int (x 4), .ref 82, .long (r), .ref 83, .ref 84, .int (x 5), .int (x 6), .int (x 7), .int (x 8), .int (x 9), .ref 85, .int (x 10)]) (h74 : g.2 74 = aI 141 f) (hW : nwf f W) (hn0 : W 0 = n) (hn : n ≤ 9) (hv : wv W) (hQ : Q (some (.int (nI (nou (woW W) n)))) g) : wp 185 b 0 [.ref 73, .null, .null] [] g Q := by
  have loop : ∀ d i, i + d = n → wp 185 b 4 [.ref 73, .int (nI (nou (woW W) i)), .int (nI i)] [] g Q := by
    intro d
    induction d with
    | zero =>
      intro i hi
      have hi : i = n := by omega
      subst hi
      rw [q_X11_noughts_4]
      simp (disch := omega) only [q_X11_noughts_5, q_X11_noughts_6, hM, y_is, y_gf, y_pf, y_f0, y_f1, y_f3, y_nI, y_nK, y_nZ, y_nL, y_nR, y_k1i, y_k1r, y_k1l, y_k1n, y_tl, y_tn, y_s, y_ss, List.getElem?_cons_zero, List.getElem?_cons_succ, List.set_cons_zero, List.set_cons_succ, List.length_cons, List.length_nil, true_and, and_true]
      refine s_watched hM h74 hW ?_
      rw [hn0]
      simp (disch := omega) only [q_X11_noughts_9, q_X11_noughts_37, q_X11_noughts_38, y_is, y_gf, y_pf, y_f0, y_f1, y_f3, y_nI, y_nK, y_nZ, y_nL, y_nR, y_k1i, y_k1r, y_k1l, y_k1n, y_tl, y_tn, y_s, y_ss, List.getElem?_cons_zero, List.getElem?_cons_succ, List.set_cons_zero, List.set_cons_succ, List.length_cons, List.length_nil, true_and, and_true, le_n]
      exact br1 (by omega) hQ
    | succ d ih =>
      intro i hi
      have e := hW (1 + i) (by omega)
      rw [wI_n (by omega)] at e
      have hb := (hv.2.1 i (by omega)).1
      have := ih (i + 1) (by omega)
      rw [nou] at this
      rw [q_X11_noughts_4]
      simp (disch := omega) only [q_X11_noughts_5, q_X11_noughts_6, hM, y_is, y_gf, y_pf, y_f0, y_f1, y_f3, y_nI, y_nK, y_nZ, y_nL, y_nR, y_k1i, y_k1r, y_k1l, y_k1n, y_tl, y_tn, y_s, y_ss, List.getElem?_cons_zero, List.getElem?_cons_succ, List.set_cons_zero, List.set_cons_succ, List.length_cons, List.length_nil, true_and, and_true]
      refine s_watched hM h74 hW ?_
      rw [hn0]
      simp (disch := omega) only [q_X11_noughts_9, q_X11_noughts_12, q_X11_noughts_13, q_X11_noughts_14, q_X11_noughts_17, q_X11_noughts_18, q_X11_noughts_19, q_X11_noughts_20, q_X11_noughts_21, hM, h74, e, y_is, y_gf, y_pf, y_f0, y_f1, y_f3, y_nI, y_nK, y_nZ, y_nL, y_nR, y_k1i, y_k1r, y_k1l, y_k1n, y_tl, y_tn, y_s, y_ss, List.getElem?_cons_zero, List.getElem?_cons_succ, List.set_cons_zero, List.set_cons_succ, List.length_cons, List.length_nil, true_and, and_true, y_lIn, y_lKn, y_lZn, y_lLn, y_wIn, y_wZn, y_wLn, lit, le_n, lt_n, eq_n, lit, le_n, nI_add]
      refine br0 (by omega) ?_
      by_cases z : W (1 + i) = 0
      · rw [bnt z]
        rw [if_pos (show woW W i = 0 from z)] at this
        simp (disch := omega) only [q_X11_noughts_24, q_X11_noughts_25, q_X11_noughts_29, q_X11_noughts_30, q_X11_noughts_31, q_X11_noughts_34, y_is, y_gf, y_pf, y_f0, y_f1, y_f3, y_nI, y_nK, y_nZ, y_nL, y_nR, y_k1i, y_k1r, y_k1l, y_k1n, y_tl, y_tn, y_s, y_ss, List.getElem?_cons_zero, List.getElem?_cons_succ, List.set_cons_zero, List.set_cons_succ, List.length_cons, List.length_nil, true_and, and_true, lit, nI_add]
        exact this
      · rw [bnf z]
        rw [if_neg (show ¬ woW W i = 0 from z)] at this
        simp (disch := omega) only [q_X11_noughts_28, q_X11_noughts_29, q_X11_noughts_30, q_X11_noughts_31, q_X11_noughts_34, y_is, y_gf, y_pf, y_f0, y_f1, y_f3, y_nI, y_nK, y_nZ, y_nL, y_nR, y_k1i, y_k1r, y_k1l, y_k1n, y_tl, y_tn, y_s, y_ss, List.getElem?_cons_zero, List.getElem?_cons_succ, List.set_cons_zero, List.set_cons_succ, List.length_cons, List.length_nil, true_and, and_true, lit, nI_add]
        exact this
  simp only [q_X11_noughts_0, q_X11_noughts_1, q_X11_noughts_2, q_X11_noughts_3, y_is, y_gf, y_pf, y_f0, y_f1, y_f3, y_nI, y_nK, y_nZ, y_nL, y_nR, y_k1i, y_k1r, y_k1l, y_k1n, y_tl, y_tn, y_s, y_ss, List.getElem?_cons_zero, List.getElem?_cons_succ, List.set_cons_zero, List.set_cons_succ, List.length_cons, List.length_nil, true_and, and_true, lit]
  exact loop n 0 (by omega)
theorem s_nextWorth {g : mzG} {n t : Nat} (hM : g.2 73 = ob 9 [.ref 74, .ref 75, .ref 76, .ref 77, .ref 78, .ref 79, .int (x 0), .int (x 1), .int (x 2), .ref 80, .int (x 3), .ref 81, .int (x 4), .ref 82, .long (r), .ref 83, .ref 84, .int (x 5), .int (x 6), .int (x 7), .int (x 8), .int (x 9), .ref 85, .int (x 10)]) (h74 : g.2 74 = aI 141 f) (hW : nwf f W) (hn0 : W 0 = n) (hn : n ≤ 9) (ht : t ≤ 99) (hv : wv W) (hQ : Q (some (.int (oI (nxw (woW W) t n)))) g) : wp 188 b 0 [.ref 73, .int (nI t), .null, .null, .null] [] g Q := by
  have nb : ∀ p, p ≤ 9 → ∀ y, nxw (woW W) t p = some y → y ≤ 99 := by
    intro p
    induction p with
    | zero => intro _ y h; simp [nxw] at h
    | succ p ih =>
      intro hp y h
      have hb : woW W p ≤ 99 := (hv.2.1 p (by omega)).1
      rw [nxw] at h
      split at h
      · cases e : nxw (woW W) t p with
        | none => rw [e] at h; have := Option.some.inj h; omega
        | some u =>
          rw [e] at h
          have := ih (by omega) u e
          simp only at h
          split at h
          · have := Option.some.inj h; omega
          · have := Option.some.inj h; omega
      · exact ih (by omega) y h
  have loop : ∀ d i (x4 : Value), i + d = n → wp 188 b 4 [.ref 73, .int (nI t), .int (oI (nxw (woW W) t i)), .int (nI i), x4] [] g Q := by
    intro d
    induction d with
    | zero =>
      intro i x4 hi
      have hi : i = n := by omega
      subst hi
      rw [q_X11_nextWorth_4]
      simp (disch := omega) only [q_X11_nextWorth_5, q_X11_nextWorth_6, hM, y_is, y_gf, y_pf, y_f0, y_f1, y_f3, y_nI, y_nK, y_nZ, y_nL, y_nR, y_k1i, y_k1r, y_k1l, y_k1n, y_tl, y_tn, y_s, y_ss, List.getElem?_cons_zero, List.getElem?_cons_succ, List.set_cons_zero, List.set_cons_succ, List.length_cons, List.length_nil, true_and, and_true]
      refine s_watched hM h74 hW ?_
      rw [hn0]
      simp (disch := omega) only [q_X11_nextWorth_9, q_X11_nextWorth_52, q_X11_nextWorth_53, y_is, y_gf, y_pf, y_f0, y_f1, y_f3, y_nI, y_nK, y_nZ, y_nL, y_nR, y_k1i, y_k1r, y_k1l, y_k1n, y_tl, y_tn, y_s, y_ss, List.getElem?_cons_zero, List.getElem?_cons_succ, List.set_cons_zero, List.set_cons_succ, List.length_cons, List.length_nil, true_and, and_true, le_n]
      exact br1 (by omega) hQ
    | succ d ih =>
      intro i x4 hi
      have e := hW (1 + i) (by omega)
      rw [wI_n (by omega)] at e
      have hb := (hv.2.1 i (by omega)).1
      have ihn := fun x4 => ih (i + 1) x4 (by omega)
      rw [nxw] at ihn
      have hwo : woW W i = W (1 + i) := rfl
      rw [hwo] at ihn
      rw [q_X11_nextWorth_4]
      simp (disch := omega) only [q_X11_nextWorth_5, q_X11_nextWorth_6, hM, y_is, y_gf, y_pf, y_f0, y_f1, y_f3, y_nI, y_nK, y_nZ, y_nL, y_nR, y_k1i, y_k1r, y_k1l, y_k1n, y_tl, y_tn, y_s, y_ss, List.getElem?_cons_zero, List.getElem?_cons_succ, List.set_cons_zero, List.set_cons_succ, List.length_cons, List.length_nil, true_and, and_true]
      refine s_watched hM h74 hW ?_
      rw [hn0]
      simp (disch := omega) only [q_X11_nextWorth_9, q_X11_nextWorth_12, q_X11_nextWorth_13, q_X11_nextWorth_16, q_X11_nextWorth_17, q_X11_nextWorth_18, q_X11_nextWorth_19, q_X11_nextWorth_20, q_X11_nextWorth_22, q_X11_nextWorth_24, q_X11_nextWorth_25, hM, h74, e, y_is, y_gf, y_pf, y_f0, y_f1, y_f3, y_nI, y_nK, y_nZ, y_nL, y_nR, y_k1i, y_k1r, y_k1l, y_k1n, y_tl, y_tn, y_s, y_ss, List.getElem?_cons_zero, List.getElem?_cons_succ, List.set_cons_zero, List.set_cons_succ, List.length_cons, List.length_nil, true_and, and_true, y_lIn, y_lKn, y_lZn, y_lLn, y_wIn, y_wZn, y_wLn, lit, le_n, lt_n, eq_n, lit, le_n, nI_add]
      refine br0 (by omega) (brs (fun z => ?_) (fun z => ?_))
      · rw [if_neg (by omega)] at ihn
        simp (disch := omega) only [q_X11_nextWorth_44, q_X11_nextWorth_45, q_X11_nextWorth_46, q_X11_nextWorth_49, y_is, y_gf, y_pf, y_f0, y_f1, y_f3, y_nI, y_nK, y_nZ, y_nL, y_nR, y_k1i, y_k1r, y_k1l, y_k1n, y_tl, y_tn, y_s, y_ss, List.getElem?_cons_zero, List.getElem?_cons_succ, List.set_cons_zero, List.set_cons_succ, List.length_cons, List.length_nil, true_and, and_true, lit, nI_add]
        exact ihn _
      · rw [if_pos (by omega)] at ihn
        simp (disch := omega) only [q_X11_nextWorth_28, q_X11_nextWorth_29, q_X11_nextWorth_30, y_is, y_gf, y_pf, y_f0, y_f1, y_f3, y_nI, y_nK, y_nZ, y_nL, y_nR, y_k1i, y_k1r, y_k1l, y_k1n, y_tl, y_tn, y_s, y_ss, List.getElem?_cons_zero, List.getElem?_cons_succ, List.set_cons_zero, List.set_cons_succ, List.length_cons, List.length_nil, true_and, and_true]
        cases c : nxw (woW W) t i with
        | none =>
          rw [c] at ihn
          refine br1 rfl ?_
          simp (disch := omega) only [q_X11_nextWorth_39, q_X11_nextWorth_41, q_X11_nextWorth_45, q_X11_nextWorth_46, q_X11_nextWorth_49, y_is, y_gf, y_pf, y_f0, y_f1, y_f3, y_nI, y_nK, y_nZ, y_nL, y_nR, y_k1i, y_k1r, y_k1l, y_k1n, y_tl, y_tn, y_s, y_ss, List.getElem?_cons_zero, List.getElem?_cons_succ, List.set_cons_zero, List.set_cons_succ, List.length_cons, List.length_nil, true_and, and_true, lit, nI_add]
          exact ihn _
        | some y =>
          rw [c] at ihn
          simp only at ihn
          have hy := nb i (by omega) y c
          refine br0 (fun q => (m1_ne (show y < 2147483648 by omega)).mp q) ?_
          simp (disch := omega) only [q_X11_nextWorth_33, q_X11_nextWorth_35, q_X11_nextWorth_36, y_is, y_gf, y_pf, y_f0, y_f1, y_f3, y_nI, y_nK, y_nZ, y_nL, y_nR, y_k1i, y_k1r, y_k1l, y_k1n, y_tl, y_tn, y_s, y_ss, List.getElem?_cons_zero, List.getElem?_cons_succ, List.set_cons_zero, List.set_cons_succ, List.length_cons, List.length_nil, true_and, and_true, oI, le_n]
          refine brs (fun q => ?_) (fun q => ?_)
          · rw [if_neg (by omega)] at ihn
            simp (disch := omega) only [q_X11_nextWorth_44, q_X11_nextWorth_45, q_X11_nextWorth_46, q_X11_nextWorth_49, y_is, y_gf, y_pf, y_f0, y_f1, y_f3, y_nI, y_nK, y_nZ, y_nL, y_nR, y_k1i, y_k1r, y_k1l, y_k1n, y_tl, y_tn, y_s, y_ss, List.getElem?_cons_zero, List.getElem?_cons_succ, List.set_cons_zero, List.set_cons_succ, List.length_cons, List.length_nil, true_and, and_true, lit, nI_add]
            exact ihn _
          · rw [if_pos (by omega)] at ihn
            simp (disch := omega) only [q_X11_nextWorth_39, q_X11_nextWorth_41, q_X11_nextWorth_45, q_X11_nextWorth_46, q_X11_nextWorth_49, y_is, y_gf, y_pf, y_f0, y_f1, y_f3, y_nI, y_nK, y_nZ, y_nL, y_nR, y_k1i, y_k1r, y_k1l, y_k1n, y_tl, y_tn, y_s, y_ss, List.getElem?_cons_zero, List.getElem?_cons_succ, List.set_cons_zero, List.set_cons_succ, List.length_cons, List.length_nil, true_and, and_true, lit, nI_add]
            exact ihn _
  simp only [q_X11_nextWorth_0, q_X11_nextWorth_1, q_X11_nextWorth_2, q_X11_nextWorth_3, y_is, y_gf, y_pf, y_f0, y_f1, y_f3, y_nI, y_nK, y_nZ, y_nL, y_nR, y_k1i, y_k1r, y_k1l, y_k1n, y_tl, y_tn, y_s, y_ss, List.getElem?_cons_zero, List.getElem?_cons_succ, List.set_cons_zero, List.set_cons_succ, List.length_cons, List.length_nil, true_and, and_true, lit]
  exact loop n 0 _ (by omega)
theorem s_layOver {g : mzG} {V : Nat → Nat} {n t : Nat} (hM : g.2 73 = ob 9 [.ref 74, .ref 75, .ref 76, .ref 77, .ref 78, .ref 79, .int (x 0), .int (x 1), .int (x 2), .ref 80, .int (x 3), .ref 81, .int (x 4), .ref 82, .long (r), .ref 83, .ref 84, .int (x 5), .int (x 6), .int (x 7), .int (x 8), .int (x 9), .ref 85, .int (x 10)]) (h74 : g.2 74 = aI 141 f) (hW : nwf f W) (hn0 : W 0 = n) (hn : n ≤ 9) (ht : t ≤ 99) (hv : wv W) (hV : ms g E0 V) (hQ : ∀ g' V', g'.2 73 = ob 9 [.ref 74, .ref 75, .ref 76, .ref 77, .ref 78, .ref 79, .int (x 0), .int (x 1), .int (x 2), .ref 80, .int (x 3), .ref 81, .int (x 4), .ref 82, .long (r), .ref 83, .ref 84, .int (x 5), .int (x 6), .int (x 7), .int (x 8), .int (x 9), .ref 85, .int (x 10)] → ms g' E0 V' → V' 6 = pr (fl (woW W) t n) → V' 7 = hsm (fl (woW W) t n) → (∀ s, s ≠ 6 → s ≠ 7 → s ≠ 8 → V' s = V s) → fr g g' 78 80 → Q (some (.int (nI (mny (woW W) t n)))) g') : wp 186 b 0 [.ref 73, .int (nI t), .null, .null, .null] [] g Q := by
  have hwb : ∀ i, i < 9 → woW W i ≤ 99 := fun i hi => (hv.2.1 i hi).1
  have pB : 9 * 99 ^ 9 * 99 < BB ^ 63 := by decide +kernel
  have e74 : ∀ g', fr g g' 78 80 → g'.2 74 = aI 141 f := fun g' hf => by rw [hf.2 _ (by omega)]; exact h74
  -- the sum of products
  have l3 : ∀ (p : Nat) (m : Int32), p < n → t < woW W p → (∀ g' V' (x4 : Value), g'.2 73 = ob 9 [.ref 74, .ref 75, .ref 76, .ref 77, .ref 78, .ref 79, .int (x 0), .int (x 1), .int (x 2), .ref 80, .int (x 3), .ref 81, .int (x 4), .ref 82, .long (r), .ref 83, .ref 84, .int (x 5), .int (x 6), .int (x 7), .int (x 8), .int (x 9), .ref 85, .int (x 10)] → ms g' E0 V' → V' 6 = pr (fl (woW W) t n) → V' 7 = ns (woW W) t n (p + 1) → (∀ s, s ≠ 6 → s ≠ 7 → s ≠ 8 → V' s = V s) → fr g g' 78 80 → wp 186 b 171 [.ref 73, .int (nI t), .int m, .int (nI p), x4] [] g' Q) → ∀ (d q : Nat) (g' : mzG) (V' : Nat → Nat), q + d = n → g'.2 73 = ob 9 [.ref 74, .ref 75, .ref 76, .ref 77, .ref 78, .ref 79, .int (x 0), .int (x 1), .int (x 2), .ref 80, .int (x 3), .ref 81, .int (x 4), .ref 82, .long (r), .ref 83, .ref 84, .int (x 5), .int (x 6), .int (x 7), .int (x 8), .int (x 9), .ref 85, .int (x 10)] → ms g' E0 V' → V' 6 = pr (fl (woW W) t n) → V' 7 = ns (woW W) t n p → V' 8 = gq (woW W) t p q → (∀ s, s ≠ 6 → s ≠ 7 → s ≠ 8 → V' s = V s) → fr g g' 78 80 → wp 186 b 113 [.ref 73, .int (nI t), .int m, .int (nI p), .int (nI q)] [] g' Q := by
    intro p m hp htp hnext d
    induction d with
    | zero =>
      intro q g' V' hq q1 q2 q3 q4 q5 q6 q7
      have hq : q = n := by omega
      subst hq
      have h74' := e74 g' q7
      rw [q_X11_layOver_113]
      simp (disch := omega) only [q_X11_layOver_115, q_X11_layOver_116, q1, y_is, y_gf, y_pf, y_f0, y_f1, y_f3, y_nI, y_nK, y_nZ, y_nL, y_nR, y_k1i, y_k1r, y_k1l, y_k1n, y_tl, y_tn, y_s, y_ss, List.getElem?_cons_zero, List.getElem?_cons_succ, List.set_cons_zero, List.set_cons_succ, List.length_cons, List.length_nil, true_and, and_true]
      refine s_watched q1 h74' hW ?_
      rw [hn0]
      simp (disch := omega) only [q_X11_layOver_119, q_X11_layOver_163, q_X11_layOver_164, q_X11_layOver_166, q_X11_layOver_168, q1, y_is, y_gf, y_pf, y_f0, y_f1, y_f3, y_nI, y_nK, y_nZ, y_nL, y_nR, y_k1i, y_k1r, y_k1l, y_k1n, y_tl, y_tn, y_s, y_ss, List.getElem?_cons_zero, List.getElem?_cons_succ, List.set_cons_zero, List.set_cons_succ, List.length_cons, List.length_nil, true_and, and_true, lit, le_n]
      have b1 := ns_le (t := t) hwb hn p
      have b2 := gq_le (t := t) (p := p) hwb q hn
      have b3 : 99 ^ q ≤ 99 ^ 9 := Nat.pow_le_pow_right (by decide) hn
      have b4 : p * 99 ^ 9 ≤ 8 * 99 ^ 9 := Nat.mul_le_mul_right _ (by omega)
      refine br1 (by omega) (s_madd q1 q2 (by decide) (E0n _) (by decide) (E0n _) (by decide) (by rw [q4, q5]; omega) (fun g2 hM2 hV2 hf2 => ?_))
      refine hnext g2 _ _ hM2 hV2 (by rw [up_n (by decide)]; exact q3) ?_ (fun s s6 s7 s8 => by rw [up_n s7]; exact q6 s s6 s7 s8) (q7.tr hf2)
      rw [up_s, q4, q5, ns, if_pos htp]
    | succ d ih =>
      intro q g' V' hq q1 q2 q3 q4 q5 q6 q7
      have h74' := e74 g' q7
      have e := hW (1 + q) (by omega)
      rw [wI_n (by omega)] at e
      have hb := hwb q (by omega)
      have hb' : W (1 + q) ≤ 99 := hb
      have g9 : gq (woW W) t p (q + 1) = gq (woW W) t p q * (if q ≠ p ∧ t < woW W q then woW W q else 1) := rfl
      have nx : ∀ g2 V2, g2.2 73 = ob 9 [.ref 74, .ref 75, .ref 76, .ref 77, .ref 78, .ref 79, .int (x 0), .int (x 1), .int (x 2), .ref 80, .int (x 3), .ref 81, .int (x 4), .ref 82, .long (r), .ref 83, .ref 84, .int (x 5), .int (x 6), .int (x 7), .int (x 8), .int (x 9), .ref 85, .int (x 10)] → ms g2 E0 V2 → V2 6 = pr (fl (woW W) t n) → V2 7 = ns (woW W) t n p → V2 8 = gq (woW W) t p (q + 1) → (∀ s, s ≠ 6 → s ≠ 7 → s ≠ 8 → V2 s = V s) → fr g g2 78 80 → wp 186 b 157 [.ref 73, .int (nI t), .int m, .int (nI p), .int (nI q)] [] g2 Q := by
        intro g2 V2 r1 r2 r3 r4 r5 r6 r7
        simp (disch := omega) only [q_X11_layOver_157, q_X11_layOver_160, y_is, y_gf, y_pf, y_f0, y_f1, y_f3, y_nI, y_nK, y_nZ, y_nL, y_nR, y_k1i, y_k1r, y_k1l, y_k1n, y_tl, y_tn, y_s, y_ss, List.getElem?_cons_zero, List.getElem?_cons_succ, List.set_cons_zero, List.set_cons_succ, List.length_cons, List.length_nil, true_and, and_true, lit, nI_add]
        exact ih (q + 1) g2 V2 (by omega) r1 r2 r3 r4 r5 r6 r7
      rw [q_X11_layOver_113]
      simp (disch := omega) only [q_X11_layOver_115, q_X11_layOver_116, q1, y_is, y_gf, y_pf, y_f0, y_f1, y_f3, y_nI, y_nK, y_nZ, y_nL, y_nR, y_k1i, y_k1r, y_k1l, y_k1n, y_tl, y_tn, y_s, y_ss, List.getElem?_cons_zero, List.getElem?_cons_succ, List.set_cons_zero, List.set_cons_succ, List.length_cons, List.length_nil, true_and, and_true]
      refine s_watched q1 h74' hW ?_
      rw [hn0]
      simp (disch := omega) only [q_X11_layOver_119, q_X11_layOver_122, q_X11_layOver_124, q_X11_layOver_125, y_is, y_gf, y_pf, y_f0, y_f1, y_f3, y_nI, y_nK, y_nZ, y_nL, y_nR, y_k1i, y_k1r, y_k1l, y_k1n, y_tl, y_tn, y_s, y_ss, List.getElem?_cons_zero, List.getElem?_cons_succ, List.set_cons_zero, List.set_cons_succ, List.length_cons, List.length_nil, true_and, and_true, lit, le_n, eq_n]
      refine br0 (by omega) (brs (fun z => ?_) (fun z => ?_))
      · exact nx g' V' q1 q2 q3 q4 (by rw [q5, g9, if_neg (fun y => y.1 z), Nat.mul_one]) q6 q7
      · simp (disch := omega) only [q_X11_layOver_128, q_X11_layOver_129, q_X11_layOver_132, q_X11_layOver_133, q_X11_layOver_135, q_X11_layOver_136, q_X11_layOver_137, q_X11_layOver_138, q1, h74', e, y_is, y_gf, y_pf, y_f0, y_f1, y_f3, y_nI, y_nK, y_nZ, y_nL, y_nR, y_k1i, y_k1r, y_k1l, y_k1n, y_tl, y_tn, y_s, y_ss, List.getElem?_cons_zero, List.getElem?_cons_succ, List.set_cons_zero, List.set_cons_succ, List.length_cons, List.length_nil, true_and, and_true, y_lIn, y_lKn, y_lZn, y_lLn, y_wIn, y_wZn, y_wLn, lit, le_n, lt_n, eq_n, lit, nI_add, le_n]
        refine brs (fun y => ?_) (fun y => ?_)
        · exact nx g' V' q1 q2 q3 q4 (by rw [q5, g9, if_neg (fun u => by have : t < W (1 + q) := u.2; omega), Nat.mul_one]) q6 q7
        · simp (disch := omega) only [q_X11_layOver_141, q_X11_layOver_142, q_X11_layOver_144, q_X11_layOver_145, q_X11_layOver_148, q_X11_layOver_149, q_X11_layOver_151, q_X11_layOver_152, q_X11_layOver_153, q_X11_layOver_154, q1, h74', e, y_is, y_gf, y_pf, y_f0, y_f1, y_f3, y_nI, y_nK, y_nZ, y_nL, y_nR, y_k1i, y_k1r, y_k1l, y_k1n, y_tl, y_tn, y_s, y_ss, List.getElem?_cons_zero, List.getElem?_cons_succ, List.set_cons_zero, List.set_cons_succ, List.length_cons, List.length_nil, true_and, and_true, y_lIn, y_lKn, y_lZn, y_lLn, y_wIn, y_wZn, y_wLn, lit, le_n, lt_n, eq_n, lit, nI_add, i_l]
          have b2 := gq_le (t := t) (p := p) hwb q (by omega)
          have b3 : 99 ^ q ≤ 99 ^ 9 := Nat.pow_le_pow_right (by decide) (by omega)
          have b5 : gq (woW W) t p q * W (1 + q) ≤ 99 ^ 9 * 99 := Nat.mul_le_mul (by omega) hb'
          refine s_mtimes q1 q2 (by decide) (E0n _) (by omega) (by rw [q5]; omega) (fun g2 hM2 hV2 hf2 => ?_)
          refine nx g2 _ hM2 hV2 (by rw [up_n (by decide)]; exact q3) (by rw [up_n (by decide)]; exact q4) ?_ (fun s s6 s7 s8 => by rw [up_n s8]; exact q6 s s6 s7 s8) (q7.tr hf2)
          rw [up_s, q5, g9, if_pos ⟨z, by show t < W (1 + q); omega⟩]
          rfl
  have l2 : ∀ (d p : Nat) (g' : mzG) (V' : Nat → Nat) (x4 : Value), p + d = n → g'.2 73 = ob 9 [.ref 74, .ref 75, .ref 76, .ref 77, .ref 78, .ref 79, .int (x 0), .int (x 1), .int (x 2), .ref 80, .int (x 3), .ref 81, .int (x 4), .ref 82, .long (r), .ref 83, .ref 84, .int (x 5), .int (x 6), .int (x 7), .int (x 8), .int (x 9), .ref 85, .int (x 10)] → ms g' E0 V' → V' 6 = pr (fl (woW W) t n) → V' 7 = ns (woW W) t n p → (∀ s, s ≠ 6 → s ≠ 7 → s ≠ 8 → V' s = V s) → fr g g' 78 80 → wp 186 b 83 [.ref 73, .int (nI t), .int (nI (mny (woW W) t n)), .int (nI p), x4] [] g' Q := by
    intro d
    induction d with
    | zero =>
      intro p g' V' x4 hp q1 q2 q3 q4 q6 q7
      have hp : p = n := by omega
      subst hp
      have h74' := e74 g' q7
      rw [q_X11_layOver_83]
      simp (disch := omega) only [q_X11_layOver_84, q_X11_layOver_85, q1, y_is, y_gf, y_pf, y_f0, y_f1, y_f3, y_nI, y_nK, y_nZ, y_nL, y_nR, y_k1i, y_k1r, y_k1l, y_k1n, y_tl, y_tn, y_s, y_ss, List.getElem?_cons_zero, List.getElem?_cons_succ, List.set_cons_zero, List.set_cons_succ, List.length_cons, List.length_nil, true_and, and_true]
      refine s_watched q1 h74' hW ?_
      rw [hn0]
      simp (disch := omega) only [q_X11_layOver_88, q_X11_layOver_177, q_X11_layOver_178, y_is, y_gf, y_pf, y_f0, y_f1, y_f3, y_nI, y_nK, y_nZ, y_nL, y_nR, y_k1i, y_k1r, y_k1l, y_k1n, y_tl, y_tn, y_s, y_ss, List.getElem?_cons_zero, List.getElem?_cons_succ, List.set_cons_zero, List.set_cons_succ, List.length_cons, List.length_nil, true_and, and_true, le_n]
      exact br1 (by omega) (hQ g' V' q1 q2 q3 (by rw [q4, ns_hsm]) q6 q7)
    | succ d ih =>
      intro p g' V' x4 hp q1 q2 q3 q4 q6 q7
      have h74' := e74 g' q7
      have e := hW (1 + p) (by omega)
      rw [wI_n (by omega)] at e
      have hb' : W (1 + p) ≤ 99 := hwb p (by omega)
      have g9 : ns (woW W) t n (p + 1) = ns (woW W) t n p + (if t < woW W p then gq (woW W) t p n else 0) := rfl
      have nx : ∀ g2 V2 (x4 : Value), g2.2 73 = ob 9 [.ref 74, .ref 75, .ref 76, .ref 77, .ref 78, .ref 79, .int (x 0), .int (x 1), .int (x 2), .ref 80, .int (x 3), .ref 81, .int (x 4), .ref 82, .long (r), .ref 83, .ref 84, .int (x 5), .int (x 6), .int (x 7), .int (x 8), .int (x 9), .ref 85, .int (x 10)] → ms g2 E0 V2 → V2 6 = pr (fl (woW W) t n) → V2 7 = ns (woW W) t n (p + 1) → (∀ s, s ≠ 6 → s ≠ 7 → s ≠ 8 → V2 s = V s) → fr g g2 78 80 → wp 186 b 171 [.ref 73, .int (nI t), .int (nI (mny (woW W) t n)), .int (nI p), x4] [] g2 Q := by
        intro g2 V2 x4 r1 r2 r3 r4 r6 r7
        simp (disch := omega) only [q_X11_layOver_171, q_X11_layOver_174, y_is, y_gf, y_pf, y_f0, y_f1, y_f3, y_nI, y_nK, y_nZ, y_nL, y_nR, y_k1i, y_k1r, y_k1l, y_k1n, y_tl, y_tn, y_s, y_ss, List.getElem?_cons_zero, List.getElem?_cons_succ, List.set_cons_zero, List.set_cons_succ, List.length_cons, List.length_nil, true_and, and_true, lit, nI_add]
        exact ih (p + 1) g2 V2 x4 (by omega) r1 r2 r3 r4 r6 r7
      rw [q_X11_layOver_83]
      simp (disch := omega) only [q_X11_layOver_84, q_X11_layOver_85, q1, y_is, y_gf, y_pf, y_f0, y_f1, y_f3, y_nI, y_nK, y_nZ, y_nL, y_nR, y_k1i, y_k1r, y_k1l, y_k1n, y_tl, y_tn, y_s, y_ss, List.getElem?_cons_zero, List.getElem?_cons_succ, List.set_cons_zero, List.set_cons_succ, List.length_cons, List.length_nil, true_and, and_true]
      refine s_watched q1 h74' hW ?_
      rw [hn0]
      simp (disch := omega) only [q_X11_layOver_88, q_X11_layOver_91, q_X11_layOver_92, q_X11_layOver_95, q_X11_layOver_96, q_X11_layOver_97, q_X11_layOver_98, q_X11_layOver_99, q_X11_layOver_100, q1, h74', e, y_is, y_gf, y_pf, y_f0, y_f1, y_f3, y_nI, y_nK, y_nZ, y_nL, y_nR, y_k1i, y_k1r, y_k1l, y_k1n, y_tl, y_tn, y_s, y_ss, List.getElem?_cons_zero, List.getElem?_cons_succ, List.set_cons_zero, List.set_cons_succ, List.length_cons, List.length_nil, true_and, and_true, y_lIn, y_lKn, y_lZn, y_lLn, y_wIn, y_wZn, y_wLn, lit, le_n, lt_n, eq_n, lit, nI_add, le_n]
      refine br0 (by omega) (brs (fun y => ?_) (fun y => ?_))
      · exact nx g' V' _ q1 q2 q3 (by rw [q4, g9, if_neg (by show ¬ t < W (1 + p); omega), Nat.add_zero]) q6 q7
      · simp (disch := omega) only [q_X11_layOver_103, q_X11_layOver_104, q_X11_layOver_106, q_X11_layOver_107, q1, y_is, y_gf, y_pf, y_f0, y_f1, y_f3, y_nI, y_nK, y_nZ, y_nL, y_nR, y_k1i, y_k1r, y_k1l, y_k1n, y_tl, y_tn, y_s, y_ss, List.getElem?_cons_zero, List.getElem?_cons_succ, List.set_cons_zero, List.set_cons_succ, List.length_cons, List.length_nil, true_and, and_true, lit, litL]
        refine s_mset q1 q2 (by decide) (E0n _) (by decide) (fun g2 hM2 hV2 hf2 => ?_)
        simp (disch := omega) only [q_X11_layOver_110, q_X11_layOver_111, y_is, y_gf, y_pf, y_f0, y_f1, y_f3, y_nI, y_nK, y_nZ, y_nL, y_nR, y_k1i, y_k1r, y_k1l, y_k1n, y_tl, y_tn, y_s, y_ss, List.getElem?_cons_zero, List.getElem?_cons_succ, List.set_cons_zero, List.set_cons_succ, List.length_cons, List.length_nil, true_and, and_true, lit]
        exact l3 p _ (by omega) (by show t < W (1 + p); omega) (fun g3 V3 x4 r1 r2 r3 r4 r5 r6 => nx g3 V3 x4 r1 r2 r3 r4 r5 r6) n 0 g2 _ (by omega) hM2 hV2 (by rw [up_n (by decide)]; exact q3) (by rw [up_n (by decide)]; exact q4) (by rw [up_s]; rfl) (fun s s6 s7 s8 => by rw [up_n s8]; exact q6 s s6 s7 s8) (q7.tr hf2)
  have l1 : ∀ (d p : Nat) (g' : mzG) (V' : Nat → Nat), p + d = n → g'.2 73 = ob 9 [.ref 74, .ref 75, .ref 76, .ref 77, .ref 78, .ref 79, .int (x 0), .int (x 1), .int (x 2), .ref 80, .int (x 3), .ref 81, .int (x 4), .ref 82, .long (r), .ref 83, .ref 84, .int (x 5), .int (x 6), .int (x 7), .int (x 8), .int (x 9), .ref 85, .int (x 10)] → ms g' E0 V' → V' 6 = pr (fl (woW W) t p) → (∀ s, s ≠ 6 → s ≠ 7 → s ≠ 8 → V' s = V s) → fr g g' 78 80 → wp 186 b 11 [.ref 73, .int (nI t), .int (nI (mny (woW W) t p)), .int (nI p), .null] [] g' Q := by
    intro d
    induction d with
    | zero =>
      intro p g' V' hp q1 q2 q3 q6 q7
      have hp : p = n := by omega
      subst hp
      have h74' := e74 g' q7
      rw [q_X11_layOver_11]
      simp (disch := omega) only [q_X11_layOver_12, q_X11_layOver_13, q1, y_is, y_gf, y_pf, y_f0, y_f1, y_f3, y_nI, y_nK, y_nZ, y_nL, y_nR, y_k1i, y_k1r, y_k1l, y_k1n, y_tl, y_tn, y_s, y_ss, List.getElem?_cons_zero, List.getElem?_cons_succ, List.set_cons_zero, List.set_cons_succ, List.length_cons, List.length_nil, true_and, and_true]
      refine s_watched q1 h74' hW ?_
      rw [hn0]
      simp (disch := omega) only [q_X11_layOver_16, q_X11_layOver_74, q_X11_layOver_75, q_X11_layOver_77, q_X11_layOver_78, q1, y_is, y_gf, y_pf, y_f0, y_f1, y_f3, y_nI, y_nK, y_nZ, y_nL, y_nR, y_k1i, y_k1r, y_k1l, y_k1n, y_tl, y_tn, y_s, y_ss, List.getElem?_cons_zero, List.getElem?_cons_succ, List.set_cons_zero, List.set_cons_succ, List.length_cons, List.length_nil, true_and, and_true, lit, litL, le_n]
      refine br1 (by omega) (s_mset q1 q2 (by decide) (E0n _) (by decide) (fun g2 hM2 hV2 hf2 => ?_))
      simp (disch := omega) only [q_X11_layOver_81, q_X11_layOver_82, y_is, y_gf, y_pf, y_f0, y_f1, y_f3, y_nI, y_nK, y_nZ, y_nL, y_nR, y_k1i, y_k1r, y_k1l, y_k1n, y_tl, y_tn, y_s, y_ss, List.getElem?_cons_zero, List.getElem?_cons_succ, List.set_cons_zero, List.set_cons_succ, List.length_cons, List.length_nil, true_and, and_true, lit]
      exact l2 p 0 g2 _ _ (by omega) hM2 hV2 (by rw [up_n (by decide)]; exact q3) (by rw [up_s]; rfl) (fun s s6 s7 s8 => by rw [up_n s7]; exact q6 s s6 s7 s8) (q7.tr hf2)
    | succ d ih =>
      intro p g' V' hp q1 q2 q3 q6 q7
      have h74' := e74 g' q7
      have e := hW (1 + p) (by omega)
      rw [wI_n (by omega)] at e
      have hb' : W (1 + p) ≤ 99 := hwb p (by omega)
      have ihn := fun g2 V2 => ih (p + 1) g2 V2 (by omega)
      rw [mny] at ihn
      have hwo : woW W p = W (1 + p) := rfl
      rw [q_X11_layOver_11]
      simp (disch := omega) only [q_X11_layOver_12, q_X11_layOver_13, q1, y_is, y_gf, y_pf, y_f0, y_f1, y_f3, y_nI, y_nK, y_nZ, y_nL, y_nR, y_k1i, y_k1r, y_k1l, y_k1n, y_tl, y_tn, y_s, y_ss, List.getElem?_cons_zero, List.getElem?_cons_succ, List.set_cons_zero, List.set_cons_succ, List.length_cons, List.length_nil, true_and, and_true]
      refine s_watched q1 h74' hW ?_
      rw [hn0]
      simp (disch := omega) only [q_X11_layOver_16, q_X11_layOver_19, q_X11_layOver_20, q_X11_layOver_23, q_X11_layOver_24, q_X11_layOver_25, q_X11_layOver_26, q_X11_layOver_27, q_X11_layOver_28, q1, h74', e, y_is, y_gf, y_pf, y_f0, y_f1, y_f3, y_nI, y_nK, y_nZ, y_nL, y_nR, y_k1i, y_k1r, y_k1l, y_k1n, y_tl, y_tn, y_s, y_ss, List.getElem?_cons_zero, List.getElem?_cons_succ, List.set_cons_zero, List.set_cons_succ, List.length_cons, List.length_nil, true_and, and_true, y_lIn, y_lKn, y_lZn, y_lLn, y_wIn, y_wZn, y_wLn, lit, le_n, lt_n, eq_n, lit, nI_add, le_n]
      refine br0 (by omega) (brs (fun y => ?_) (fun y => ?_))
      · rw [if_neg (by omega), fl_s0 (by omega)] at ihn
        simp (disch := omega) only [q_X11_layOver_49, q_X11_layOver_50, q_X11_layOver_51, q_X11_layOver_54, q_X11_layOver_55, q_X11_layOver_56, q_X11_layOver_57, q_X11_layOver_58, q1, h74', e, y_is, y_gf, y_pf, y_f0, y_f1, y_f3, y_nI, y_nK, y_nZ, y_nL, y_nR, y_k1i, y_k1r, y_k1l, y_k1n, y_tl, y_tn, y_s, y_ss, List.getElem?_cons_zero, List.getElem?_cons_succ, List.set_cons_zero, List.set_cons_succ, List.length_cons, List.length_nil, true_and, and_true, y_lIn, y_lKn, y_lZn, y_lLn, y_wIn, y_wZn, y_wLn, lit, le_n, lt_n, eq_n, lit, nI_add, le_n]
        refine brs (fun z => ?_) (fun z => ?_)
        · rw [if_neg (by omega)] at ihn
          simp (disch := omega) only [q_X11_layOver_65, q_X11_layOver_66, q_X11_layOver_67, q_X11_layOver_68, q_X11_layOver_71, y_is, y_gf, y_pf, y_f0, y_f1, y_f3, y_nI, y_nK, y_nZ, y_nL, y_nR, y_k1i, y_k1r, y_k1l, y_k1n, y_tl, y_tn, y_s, y_ss, List.getElem?_cons_zero, List.getElem?_cons_succ, List.set_cons_zero, List.set_cons_succ, List.length_cons, List.length_nil, true_and, and_true, lit, nI_add]
          exact ihn g' V' q1 q2 q3 q6 q7
        · rw [if_pos (by omega)] at ihn
          simp (disch := omega) only [q_X11_layOver_61, q_X11_layOver_62, q_X11_layOver_66, q_X11_layOver_67, q_X11_layOver_68, q_X11_layOver_71, y_is, y_gf, y_pf, y_f0, y_f1, y_f3, y_nI, y_nK, y_nZ, y_nL, y_nR, y_k1i, y_k1r, y_k1l, y_k1n, y_tl, y_tn, y_s, y_ss, List.getElem?_cons_zero, List.getElem?_cons_succ, List.set_cons_zero, List.set_cons_succ, List.length_cons, List.length_nil, true_and, and_true, lit, nI_add]
          exact ihn g' V' q1 q2 q3 q6 q7
      · rw [if_pos (by omega), fl_s1 (by omega), pr, Nat.add_zero] at ihn
        simp (disch := omega) only [q_X11_layOver_31, q_X11_layOver_32, q_X11_layOver_34, q_X11_layOver_35, q_X11_layOver_38, q_X11_layOver_39, q_X11_layOver_40, q_X11_layOver_41, q_X11_layOver_42, q_X11_layOver_43, q1, h74', e, y_is, y_gf, y_pf, y_f0, y_f1, y_f3, y_nI, y_nK, y_nZ, y_nL, y_nR, y_k1i, y_k1r, y_k1l, y_k1n, y_tl, y_tn, y_s, y_ss, List.getElem?_cons_zero, List.getElem?_cons_succ, List.set_cons_zero, List.set_cons_succ, List.length_cons, List.length_nil, true_and, and_true, y_lIn, y_lKn, y_lZn, y_lLn, y_wIn, y_wZn, y_wLn, lit, le_n, lt_n, eq_n, lit, nI_add, i_l]
        have b2 := prfl_le (t := t) hwb p (by omega)
        have b3 : 99 ^ p ≤ 99 ^ 9 := Nat.pow_le_pow_right (by decide) (by omega)
        have b5 : pr (fl (woW W) t p) * W (1 + p) ≤ 99 ^ 9 * 99 := Nat.mul_le_mul (by omega) hb'
        refine s_mtimes q1 q2 (by decide) (E0n _) (by omega) (by rw [q3]; omega) (fun g2 hM2 hV2 hf2 => ?_)
        simp (disch := omega) only [q_X11_layOver_46, q_X11_layOver_68, q_X11_layOver_71, y_is, y_gf, y_pf, y_f0, y_f1, y_f3, y_nI, y_nK, y_nZ, y_nL, y_nR, y_k1i, y_k1r, y_k1l, y_k1n, y_tl, y_tn, y_s, y_ss, List.getElem?_cons_zero, List.getElem?_cons_succ, List.set_cons_zero, List.set_cons_succ, List.length_cons, List.length_nil, true_and, and_true, lit, nI_add]
        exact ihn g2 _ hM2 hV2 (by rw [up_s, q3, Nat.mul_comm]; rfl) (fun s s6 s7 s8 => by rw [up_n s6]; exact q6 s s6 s7 s8) (q7.tr hf2)
  simp (disch := omega) only [q_X11_layOver_0, q_X11_layOver_1, q_X11_layOver_2, q_X11_layOver_3, q_X11_layOver_5, q_X11_layOver_6, hM, y_is, y_gf, y_pf, y_f0, y_f1, y_f3, y_nI, y_nK, y_nZ, y_nL, y_nR, y_k1i, y_k1r, y_k1l, y_k1n, y_tl, y_tn, y_s, y_ss, List.getElem?_cons_zero, List.getElem?_cons_succ, List.set_cons_zero, List.set_cons_succ, List.length_cons, List.length_nil, true_and, and_true, lit, litL]
  refine s_mset hM hV (by decide) (E0n _) (by decide) (fun g1 hM1 hV1 hf1 => ?_)
  simp (disch := omega) only [q_X11_layOver_9, q_X11_layOver_10, y_is, y_gf, y_pf, y_f0, y_f1, y_f3, y_nI, y_nK, y_nZ, y_nL, y_nR, y_k1i, y_k1r, y_k1l, y_k1n, y_tl, y_tn, y_s, y_ss, List.getElem?_cons_zero, List.getElem?_cons_succ, List.set_cons_zero, List.set_cons_succ, List.length_cons, List.length_nil, true_and, and_true, lit]
  exact l1 n 0 g1 _ (by omega) hM1 hV1 (by rw [up_s]; rfl) (fun s s6 s7 s8 => up_n s6) hf1
theorem i_sub_gt {a c : Nat} (hc : c ≤ 9) (ha : a ≤ 9) : (nI 0 < nI a - nI c) = (c < a) := by
  have : ∀ a : Fin 10, ∀ c : Fin 10, (nI 0 < nI a.val - nI c.val) ↔ c.val < a.val := by decide +kernel
  exact propext (this ⟨a, by omega⟩ ⟨c, by omega⟩)
theorem s_layBest {g : mzG} {V : Nat → Nat} {n a : Nat} {l : List Nat} (hM : g.2 73 = ob 9 [.ref 74, .ref 75, .ref 76, .ref 77, .ref 78, .ref 79, .int (x 0), .int (x 1), .int (x 2), .ref 80, .int (x 3), .ref 81, .int (x 4), .ref 82, .long (r), .ref 83, .ref 84, .int (x 5), .int (x 6), .int (x 7), .int (x 8), .int (x 9), .ref 85, .int (x 10)]) (h74 : g.2 74 = aI 141 f) (hW : nwf f W) (hn0 : W 0 = n) (hn : n ≤ 9) (ha : a ≤ n) (hv : wv W) (hV : ms g E0 V) (hl : l.Perm (pw (woW W) n)) (hs : l.Pairwise (· ≤ ·)) (hQ : ∀ g' V', g'.2 73 = ob 9 [.ref 74, .ref 75, .ref 76, .ref 77, .ref 78, .ref 79, .int (x 0), .int (x 1), .int (x 2), .ref 80, .int (x 3), .ref 81, .int (x 4), .ref 82, .long (r), .ref 83, .ref 84, .int (x 5), .int (x 6), .int (x 7), .int (x 8), .int (x 9), .ref 85, .int (x 10)] → ms g' E0 V' → V' 6 = (bs (0, 1) (a - (n - l.length)) l).1 → V' 7 = (bs (0, 1) (a - (n - l.length)) l).2 → (∀ s, s ≠ 6 → s ≠ 7 → s ≠ 8 → V' s = V s) → fr g g' 78 80 → Q none g') : wp 187 b 0 [.ref 73, .int (nI a), .null, .null, .null, .null, .null] [] g Q := by
  have hwb : ∀ i, i < 9 → woW W i ≤ 99 := fun i hi => (hv.2.1 i hi).1
  have hnp := nou_pw (woW W) n
  have hll := hl.length_eq
  have e74 : ∀ g', fr g g' 78 80 → g'.2 74 = aI 141 f := fun g' hf => by rw [hf.2 _ (by omega)]; exact h74
  simp (disch := omega) only [q_X11_layBest_0, q_X11_layBest_1, q_X11_layBest_2, hM, y_is, y_gf, y_pf, y_f0, y_f1, y_f3, y_nI, y_nK, y_nZ, y_nL, y_nR, y_k1i, y_k1r, y_k1l, y_k1n, y_tl, y_tn, y_s, y_ss, List.getElem?_cons_zero, List.getElem?_cons_succ, List.set_cons_zero, List.set_cons_succ, List.length_cons, List.length_nil, true_and, and_true]
  refine s_noughts hM h74 hW hn0 hn hv ?_
  have hno : nou (woW W) n = n - l.length := by omega
  rw [hno]
  generalize hF : bs (0, 1) (a - (n - l.length)) l = F at hQ
  simp (disch := omega) only [q_X11_layBest_5, q_X11_layBest_6, q_X11_layBest_7, q_X11_layBest_8, y_is, y_gf, y_pf, y_f0, y_f1, y_f3, y_nI, y_nK, y_nZ, y_nL, y_nR, y_k1i, y_k1r, y_k1l, y_k1n, y_tl, y_tn, y_s, y_ss, List.getElem?_cons_zero, List.getElem?_cons_succ, List.set_cons_zero, List.set_cons_succ, List.length_cons, List.length_nil, true_and, and_true, lit]
  rw [i_sub_gt (by omega) (by omega)]
  refine brs (fun c => ?_) (fun c => ?_)
  · -- some are left
    have hpos : ∀ y, y ∈ l → 0 < y ∧ y ≤ 99 := by
      have : ∀ p, p ≤ 9 → ∀ y, y ∈ pw (woW W) p → 0 < y ∧ y ≤ 99 := by
        intro p
        induction p with
        | zero => intro _ y h; simp [pw] at h
        | succ p ih =>
          intro hp y h
          rw [pw] at h
          split at h
          · rcases List.mem_cons.mp h with q | q
            · have := hwb p (by omega); omega
            · exact ih (by omega) y q
          · exact ih (by omega) y h
      intro y hy
      exact this n hn y (hl.mem_iff.mp hy)
    have pB : 9 * 99 ^ 9 * 99 < BB ^ 63 := by decide +kernel
    rw [pk_sub (by omega)]
    generalize hq0 : a - (n - l.length) = q0 at *
    have hq0l : q0 ≤ l.length := by omega
    have loop : ∀ (m t : Nat) (g' : mzG) (V' : Nat → Nat) (x5 x6 : Value), (l.filter (fun y => decide (t < y))).length = m → t ≤ 99 → 1 ≤ q0 - (l.length - (l.filter (fun y => decide (t < y))).length) → q0 - (l.length - (l.filter (fun y => decide (t < y))).length) ≤ (l.filter (fun y => decide (t < y))).length → bs (0, 1) (q0 - (l.length - (l.filter (fun y => decide (t < y))).length)) (l.filter (fun y => decide (t < y))) = F → g'.2 73 = ob 9 [.ref 74, .ref 75, .ref 76, .ref 77, .ref 78, .ref 79, .int (x 0), .int (x 1), .int (x 2), .ref 80, .int (x 3), .ref 81, .int (x 4), .ref 82, .long (r), .ref 83, .ref 84, .int (x 5), .int (x 6), .int (x 7), .int (x 8), .int (x 9), .ref 85, .int (x 10)] → ms g' E0 V' → (∀ s, s ≠ 6 → s ≠ 7 → s ≠ 8 → V' s = V s) → fr g g' 78 80 → wp 187 b 31 [.ref 73, .int (nI a), .int (nI q0), .int (nI t), .int (nI 0), x5, x6] [] g' Q := by
      intro m
      induction m using Nat.strongRecOn with
      | _ m ih =>
        intro t g' V' x5 x6 hm ht h1 h2 h3 q1 q2 q6 q7
        have h74' := e74 g' q7
        have hperm : (l.filter (fun y => decide (t < y))).Perm (fl (woW W) t n) := hl.filter _
        have hmn := mny_fl (woW W) t n
        have hml := hperm.length_eq
        have hlfl : (l.filter (fun y => decide (t < y))).length ≤ l.length := List.length_filter_le _ _
        rw [q_X11_layBest_31]
        simp (disch := omega) only [q_X11_layBest_33, y_is, y_gf, y_pf, y_f0, y_f1, y_f3, y_nI, y_nK, y_nZ, y_nL, y_nR, y_k1i, y_k1r, y_k1l, y_k1n, y_tl, y_tn, y_s, y_ss, List.getElem?_cons_zero, List.getElem?_cons_succ, List.set_cons_zero, List.set_cons_succ, List.length_cons, List.length_nil, true_and, and_true, lit, eq_n]
        refine br0 (fun z => z (by first | decide | omega | trivial | simp)) ?_
        simp (disch := omega) only [q_X11_layBest_36, q_X11_layBest_37, q_X11_layBest_38, q1, y_is, y_gf, y_pf, y_f0, y_f1, y_f3, y_nI, y_nK, y_nZ, y_nL, y_nR, y_k1i, y_k1r, y_k1l, y_k1n, y_tl, y_tn, y_s, y_ss, List.getElem?_cons_zero, List.getElem?_cons_succ, List.set_cons_zero, List.set_cons_succ, List.length_cons, List.length_nil, true_and, and_true]
        refine s_layOver q1 h74' hW hn0 hn ht hv q2 (fun g2 V2 hM2 hV2 h6 h7 hs2 hf2 => ?_)
        have hmany : mny (woW W) t n = l.length - (l.filter (fun y => decide (t < y))).length := by omega
        rw [hmany]
        rw [← pr_perm hperm] at h6
        rw [← hsm_perm hperm] at h7
        have hf' := q7.tr hf2
        simp (disch := omega) only [q_X11_layBest_41, q_X11_layBest_43, q_X11_layBest_44, q_X11_layBest_45, hM2, y_is, y_gf, y_pf, y_f0, y_f1, y_f3, y_nI, y_nK, y_nZ, y_nL, y_nR, y_k1i, y_k1r, y_k1l, y_k1n, y_tl, y_tn, y_s, y_ss, List.getElem?_cons_zero, List.getElem?_cons_succ, List.set_cons_zero, List.set_cons_succ, List.length_cons, List.length_nil, true_and, and_true]
        refine s_nextWorth hM2 (e74 g2 hf') hW hn0 hn ht hv ?_
        cases hr : l.filter (fun y => decide (t < y)) with
        | nil =>
          exfalso
          rw [hr, List.length_nil] at h1 h2
          omega
        | cons w rr =>
          rw [nxw_head hl hs hr]
          have hw := hpos w ((List.mem_filter.mp (by rw [hr]; exact List.mem_cons_self)).1)
          have hwt : t < w := by
            have : w ∈ l.filter (fun y => decide (t < y)) := by rw [hr]; exact List.mem_cons_self
            simpa using (List.mem_filter.mp this).2
          rw [hr] at h1 h2 h3 h6 h7 hm hlfl
          rw [List.length_cons] at h1 h2 h3 hm hlfl
          generalize hqq : q0 - (l.length - (rr.length + 1)) = q at *
          have hsr : (w :: rr).Pairwise (· ≤ ·) := by rw [← hr]; exact hs.filter _
          have hrl : (w :: rr).length ≤ 9 := by rw [List.length_cons]; omega
          have hr9 : ∀ y, y ∈ w :: rr → y ≤ 99 := fun y hy => (hpos y ((List.mem_filter.mp (by rw [hr]; exact hy)).1)).2
          have b1 := pr_b hrl hr9
          have b2 := hsm_b hrl hr9
          have b1' : pr (w :: rr) * q ≤ 99 ^ 9 * 9 := Nat.mul_le_mul b1 (by omega)
          have b2' : hsm (w :: rr) * w ≤ 9 * 99 ^ 8 * 99 := Nat.mul_le_mul b2 hw.2
          have hsub : q0 - (l.length - (rr.length + 1)) = q := hqq
          have hqs : nI q0 - nI (l.length - (rr.length + 1)) = nI q := by rw [pk_sub (by omega), hsub]
          simp (disch := omega) only [q_X11_layBest_48, q_X11_layBest_50, q_X11_layBest_52, q_X11_layBest_53, y_is, y_gf, y_pf, y_f0, y_f1, y_f3, y_nI, y_nK, y_nZ, y_nL, y_nR, y_k1i, y_k1r, y_k1l, y_k1n, y_tl, y_tn, y_s, y_ss, List.getElem?_cons_zero, List.getElem?_cons_succ, List.set_cons_zero, List.set_cons_succ, List.length_cons, List.length_nil, true_and, and_true, oI]
          refine br1 (fun z => (m1_ne (by omega)).mp z) ?_
          simp (disch := omega) only [q_X11_layBest_72, q_X11_layBest_73, q_X11_layBest_75, q_X11_layBest_76, q_X11_layBest_78, q_X11_layBest_79, hM2, hqs, y_is, y_gf, y_pf, y_f0, y_f1, y_f3, y_nI, y_nK, y_nZ, y_nL, y_nR, y_k1i, y_k1r, y_k1l, y_k1n, y_tl, y_tn, y_s, y_ss, List.getElem?_cons_zero, List.getElem?_cons_succ, List.set_cons_zero, List.set_cons_succ, List.length_cons, List.length_nil, true_and, and_true, lit, le_n]
          refine br1 (by first | decide | omega | trivial | simp) ?_
          simp (disch := omega) only [q_X11_layBest_86, q_X11_layBest_87, q_X11_layBest_89, q_X11_layBest_90, q_X11_layBest_91, hM2, hqs, y_is, y_gf, y_pf, y_f0, y_f1, y_f3, y_nI, y_nK, y_nZ, y_nL, y_nR, y_k1i, y_k1r, y_k1l, y_k1n, y_tl, y_tn, y_s, y_ss, List.getElem?_cons_zero, List.getElem?_cons_succ, List.set_cons_zero, List.set_cons_succ, List.length_cons, List.length_nil, true_and, and_true, lit, i_l]
          refine s_mtimes hM2 hV2 (by decide) (E0n _) (by omega) (by rw [h6]; omega) (fun g3 hM3 hV3 hf3 => ?_)
          simp (disch := omega) only [q_X11_layBest_94, q_X11_layBest_95, q_X11_layBest_97, q_X11_layBest_99, hM3, y_is, y_gf, y_pf, y_f0, y_f1, y_f3, y_nI, y_nK, y_nZ, y_nL, y_nR, y_k1i, y_k1r, y_k1l, y_k1n, y_tl, y_tn, y_s, y_ss, List.getElem?_cons_zero, List.getElem?_cons_succ, List.set_cons_zero, List.set_cons_succ, List.length_cons, List.length_nil, true_and, and_true, lit]
          refine s_mcopy hM3 hV3 (by decide) (E0n _) (by decide) (E0n _) (by decide) (fun g4 hM4 hV4 hf4 => ?_)
          simp (disch := omega) only [q_X11_layBest_102, q_X11_layBest_103, q_X11_layBest_105, q_X11_layBest_107, q_X11_layBest_108, hM4, y_is, y_gf, y_pf, y_f0, y_f1, y_f3, y_nI, y_nK, y_nZ, y_nL, y_nR, y_k1i, y_k1r, y_k1l, y_k1n, y_tl, y_tn, y_s, y_ss, List.getElem?_cons_zero, List.getElem?_cons_succ, List.set_cons_zero, List.set_cons_succ, List.length_cons, List.length_nil, true_and, and_true, lit, i_l]
          have v8 : va_up (va_up V2 6 (V2 6 * q)) 8 (va_up V2 6 (V2 6 * q) 7) 8 = hsm (w :: rr) := by rw [up_s, up_n (by decide)]; exact h7
          refine s_mtimes hM4 hV4 (by decide) (E0n _) (by omega) (by rw [v8]; omega) (fun g5 hM5 hV5 hf5 => ?_)
          rw [v8] at hV5
          generalize hVV : va_up (va_up (va_up V2 6 (V2 6 * q)) 8 (va_up V2 6 (V2 6 * q) 7)) 8 (hsm (w :: rr) * w) = V5 at hV5
          have v56 : V5 6 = q * pr (w :: rr) := by rw [← hVV, up_n (by decide), up_n (by decide), up_s, h6, Nat.mul_comm]
          have v57 : V5 7 = hsm (w :: rr) := by rw [← hVV, up_n (by decide), up_n (by decide), up_n (by decide)]; exact h7
          have v58 : V5 8 = w * hsm (w :: rr) := by rw [← hVV, up_s, Nat.mul_comm]
          have v5s : ∀ s, s ≠ 6 → s ≠ 7 → s ≠ 8 → V5 s = V s := fun s s6 s7 s8 => by rw [← hVV, up_n s8, up_n s8, up_n s6, hs2 s s6 s7 s8]; exact q6 s s6 s7 s8
          have hf5' := ((hf'.tr hf3).tr hf4).tr hf5
          simp (disch := omega) only [q_X11_layBest_111, q_X11_layBest_112, q_X11_layBest_114, q_X11_layBest_116, hM5, y_is, y_gf, y_pf, y_f0, y_f1, y_f3, y_nI, y_nK, y_nZ, y_nL, y_nR, y_k1i, y_k1r, y_k1l, y_k1n, y_tl, y_tn, y_s, y_ss, List.getElem?_cons_zero, List.getElem?_cons_succ, List.set_cons_zero, List.set_cons_succ, List.length_cons, List.length_nil, true_and, and_true, lit]
          refine s_mcompare hM5 hV5 (by decide) (E0n _) (by decide) (E0n _) ?_
          rw [v56, v58]
          simp (disch := omega) only [q_X11_layBest_119, y_is, y_gf, y_pf, y_f0, y_f1, y_f3, y_nI, y_nK, y_nZ, y_nL, y_nR, y_k1i, y_k1r, y_k1l, y_k1n, y_tl, y_tn, y_s, y_ss, List.getElem?_cons_zero, List.getElem?_cons_succ, List.set_cons_zero, List.set_cons_succ, List.length_cons, List.length_nil, true_and, and_true]
          have hcg : ((0 : Int32) < cmpI (q * pr (w :: rr)) (w * hsm (w :: rr))) = ¬ (q * pr (w :: rr) ≤ w * hsm (w :: rr)) := by
            apply propext
            unfold cmpI
            rcases Nat.lt_trichotomy (q * pr (w :: rr)) (w * hsm (w :: rr)) with u | u | u
            · rw [if_pos u]; exact ⟨fun z => absurd z (by decide), fun z => by omega⟩
            · rw [if_neg (by omega), if_pos u]; exact ⟨fun z => absurd z (by decide), fun z => by omega⟩
            · rw [if_neg (by omega), if_neg (by omega)]; exact ⟨fun _ => by omega, fun _ => by decide⟩
          rw [hcg]
          by_cases u : q * pr (w :: rr) ≤ w * hsm (w :: rr)
          · rw [bnt u]
            have hFv : F = (q * pr (w :: rr), hsm (w :: rr)) := by
              rw [← h3]
              obtain ⟨p, rfl⟩ : ∃ p, q = p + 1 := ⟨q - 1, by omega⟩
              rw [bs, if_pos u]
            simp (disch := omega) only [q_X11_layBest_122, q_X11_layBest_123, q_X11_layBest_127, q_X11_layBest_129, q_X11_layBest_131, y_is, y_gf, y_pf, y_f0, y_f1, y_f3, y_nI, y_nK, y_nZ, y_nL, y_nR, y_k1i, y_k1r, y_k1l, y_k1n, y_tl, y_tn, y_s, y_ss, List.getElem?_cons_zero, List.getElem?_cons_succ, List.set_cons_zero, List.set_cons_succ, List.length_cons, List.length_nil, true_and, and_true, lit, eq_n]
            refine br0 (by first | decide | omega | trivial | simp) ?_
            simp (disch := omega) only [q_X11_layBest_134, q_X11_layBest_135, q_X11_layBest_140, q_X11_layBest_141, y_is, y_gf, y_pf, y_f0, y_f1, y_f3, y_nI, y_nK, y_nZ, y_nL, y_nR, y_k1i, y_k1r, y_k1l, y_k1n, y_tl, y_tn, y_s, y_ss, List.getElem?_cons_zero, List.getElem?_cons_succ, List.set_cons_zero, List.set_cons_succ, List.length_cons, List.length_nil, true_and, and_true]
            rw [q_X11_layBest_31]
            simp (disch := omega) only [q_X11_layBest_33, q_X11_layBest_144, y_is, y_gf, y_pf, y_f0, y_f1, y_f3, y_nI, y_nK, y_nZ, y_nL, y_nR, y_k1i, y_k1r, y_k1l, y_k1n, y_tl, y_tn, y_s, y_ss, List.getElem?_cons_zero, List.getElem?_cons_succ, List.set_cons_zero, List.set_cons_succ, List.length_cons, List.length_nil, true_and, and_true, lit, eq_n]
            refine br1 (by first | decide | omega | trivial | simp) (hQ g5 V5 hM5 hV5 (by rw [v56, hFv]) (by rw [v57, hFv]) v5s hf5')
          · rw [bnf u]
            obtain ⟨r1, r2, r3⟩ := bs_run rr w q (0, 1) hw.1 hsr h1 (by omega) u
            have hfw : l.filter (fun y => decide (w < y)) = rr.filter (fun y => decide (w < y)) := by
              have := filt2 (l := l) (Nat.le_of_lt hwt)
              rw [hr, List.filter_cons_of_neg (by simp)] at this
              exact this.symm
            have hfl : (rr.filter (fun y => decide (w < y))).length ≤ rr.length := List.length_filter_le _ _
            have hqe : q0 - (l.length - (rr.filter (fun y => decide (w < y))).length) = q - (rr.length + 1 - (rr.filter (fun y => decide (w < y))).length) := by omega
            simp (disch := omega) only [q_X11_layBest_126, q_X11_layBest_127, q_X11_layBest_129, q_X11_layBest_131, y_is, y_gf, y_pf, y_f0, y_f1, y_f3, y_nI, y_nK, y_nZ, y_nL, y_nR, y_k1i, y_k1r, y_k1l, y_k1n, y_tl, y_tn, y_s, y_ss, List.getElem?_cons_zero, List.getElem?_cons_succ, List.set_cons_zero, List.set_cons_succ, List.length_cons, List.length_nil, true_and, and_true, lit, eq_n]
            refine br1 (by first | decide | omega | trivial | simp) ?_
            simp (disch := omega) only [q_X11_layBest_138, q_X11_layBest_140, q_X11_layBest_141, y_is, y_gf, y_pf, y_f0, y_f1, y_f3, y_nI, y_nK, y_nZ, y_nL, y_nR, y_k1i, y_k1r, y_k1l, y_k1n, y_tl, y_tn, y_s, y_ss, List.getElem?_cons_zero, List.getElem?_cons_succ, List.set_cons_zero, List.set_cons_succ, List.length_cons, List.length_nil, true_and, and_true]
            exact ih (rr.filter (fun y => decide (w < y))).length (by omega) w g5 V5 _ _ (by rw [hfw]) hw.2 (by rw [hfw, hqe]; exact r1) (by rw [hfw, hqe]; exact r2) (by rw [hfw, hqe, ← r3]; exact h3) hM5 hV5 v5s hf5'
    have hall : l.filter (fun y => decide (0 < y)) = l := by
      rw [List.filter_eq_self]
      intro y hy
      simpa using (hpos y hy).1
    simp (disch := omega) only [q_X11_layBest_26, q_X11_layBest_27, q_X11_layBest_28, q_X11_layBest_29, y_is, y_gf, y_pf, y_f0, y_f1, y_f3, y_nI, y_nK, y_nZ, y_nL, y_nR, y_k1i, y_k1r, y_k1l, y_k1n, y_tl, y_tn, y_s, y_ss, List.getElem?_cons_zero, List.getElem?_cons_succ, List.set_cons_zero, List.set_cons_succ, List.length_cons, List.length_nil, true_and, and_true, lit]
    exact loop l.length 0 g V _ _ (by rw [hall]) (by omega) (by rw [hall, Nat.sub_self, Nat.sub_zero]; omega) (by rw [hall, Nat.sub_self, Nat.sub_zero]; exact hq0l) (by rw [hall, Nat.sub_self, Nat.sub_zero]; exact hF) hM hV (fun s _ _ _ => rfl) fr.rf
  · -- none is left
    have hF0 : F = (0, 1) := by
      rw [← hF, show a - (n - l.length) = 0 by omega]
      cases l <;> rfl
    simp (disch := omega) only [q_X11_layBest_11, q_X11_layBest_12, q_X11_layBest_14, q_X11_layBest_15, hM, y_is, y_gf, y_pf, y_f0, y_f1, y_f3, y_nI, y_nK, y_nZ, y_nL, y_nR, y_k1i, y_k1r, y_k1l, y_k1n, y_tl, y_tn, y_s, y_ss, List.getElem?_cons_zero, List.getElem?_cons_succ, List.set_cons_zero, List.set_cons_succ, List.length_cons, List.length_nil, true_and, and_true, lit, litL]
    refine s_mset hM hV (by decide) (E0n _) (by decide) (fun g1 hM1 hV1 hf1 => ?_)
    simp (disch := omega) only [q_X11_layBest_18, q_X11_layBest_19, q_X11_layBest_21, q_X11_layBest_22, hM1, y_is, y_gf, y_pf, y_f0, y_f1, y_f3, y_nI, y_nK, y_nZ, y_nL, y_nR, y_k1i, y_k1r, y_k1l, y_k1n, y_tl, y_tn, y_s, y_ss, List.getElem?_cons_zero, List.getElem?_cons_succ, List.set_cons_zero, List.set_cons_succ, List.length_cons, List.length_nil, true_and, and_true, lit, litL]
    refine s_mset hM1 hV1 (by decide) (E0n _) (by decide) (fun g2 hM2 hV2 hf2 => ?_)
    simp (disch := omega) only [q_X11_layBest_25, y_is, y_gf, y_pf, y_f0, y_f1, y_f3, y_nI, y_nK, y_nZ, y_nL, y_nR, y_k1i, y_k1r, y_k1l, y_k1n, y_tl, y_tn, y_s, y_ss, List.getElem?_cons_zero, List.getElem?_cons_succ, List.set_cons_zero, List.set_cons_succ, List.length_cons, List.length_nil, true_and, and_true]
    exact hQ g2 _ hM2 hV2 (by rw [up_n (by decide), up_s, hF0]) (by rw [up_s, hF0]) (fun s s6 s7 s8 => by rw [up_n s7, up_n s6]) (hf1.tr hf2)
/-! thefts -/
theorem s_layDoubt {g : mzG} {V : Nat → Nat} {n p : Nat} (hM : g.2 73 = ob 9 [.ref 74, .ref 75, .ref 76, .ref 77, .ref 78, .ref 79, .int (x 0), .int (x 1), .int (x 2), .ref 80, .int (x 3), .ref 81, .int (x 4), .ref 82, .long (r), .ref 83, .ref 84, .int (x 5), .int (x 6), .int (x 7), .int (x 8), .int (x 9), .ref 85, .int (x 10)]) (h74 : g.2 74 = aI 141 f) (hW : nwf f W) (hn0 : W 0 = n) (hn : n ≤ 9) (hp : p < n) (hv : wv W) (hV : ms g E0 V) (hQ : ∀ g' V', g'.2 73 = ob 9 [.ref 74, .ref 75, .ref 76, .ref 77, .ref 78, .ref 79, .int (x 0), .int (x 1), .int (x 2), .ref 80, .int (x 3), .ref 81, .int (x 4), .ref 82, .long (r), .ref 83, .ref 84, .int (x 5), .int (x 6), .int (x 7), .int (x 8), .int (x 9), .ref 85, .int (x 10)] → ms g' E0 V' → V' 6 = dbt (shW W p) (sm (shW W) n - shW W p) (doW W p) (trW W p) → V' 7 = sm (shW W) n ^ trW W p → (∀ s, s ≠ 6 → s ≠ 7 → s ≠ 8 → V' s = V s) → fr g g' 78 80 → Q none g') : wp 207 b 0 [.ref 73, .int (nI p), .null, .null, .null, .null, .null, .null, .null] [] g Q := by
  obtain ⟨b1, b2, b3, b4, b5⟩ := hv.2.1 p (by omega)
  have e1 := hW (37 + p) (by omega)
  have e2 := hW (10 + p) (by omega)
  have e3 := hW (28 + p) (by omega)
  rw [wI_n (by omega)] at e1 e2 e3
  have hsb : ∀ i, i < n → shW W i ≤ 99 := fun i hi => (hv.2.1 i (by omega)).2.1
  have hb := sm_b hsb hn
  have hps : shW W p ≤ sm (shW W) n := by
    have h1 : sm (shW W) (p + 1) ≤ sm (shW W) n := sm_mono _ (by omega)
    have h2 : sm (shW W) (p + 1) = sm (shW W) p + shW W p := rfl
    omega
  have e74 : ∀ g', fr g g' 78 80 → g'.2 74 = aI 141 f := fun g' hf => by rw [hf.2 _ (by omega)]; exact h74
  have s1 : W (10 + p) = shW W p := rfl
  have s2 : W (28 + p) = doW W p := rfl
  have s3 : W (37 + p) = trW W p := rfl
  rw [s1] at e2 b2
  rw [s2] at e3 b4
  rw [s3] at e1 b4 b5
  generalize shW W p = s at *
  generalize doW W p = dd at *
  generalize trW W p = tt at *
  have hwhole : sm (shW W) n ≤ 891 := by omega
  have hdle := dbt_le (s := s) (o := sm (shW W) n - s) (d := dd) (t := tt) (by omega)
  rw [show s + (sm (shW W) n - s) = sm (shW W) n by omega] at hdle
  have hpw : sm (shW W) n ^ tt < BB ^ 14 := p891 hwhole (by omega)
  simp (disch := omega) only [q_X11_layDoubt_0, q_X11_layDoubt_1, q_X11_layDoubt_4, q_X11_layDoubt_6, q_X11_layDoubt_7, q_X11_layDoubt_8, q_X11_layDoubt_9, q_X11_layDoubt_10, q_X11_layDoubt_11, q_X11_layDoubt_14, q_X11_layDoubt_16, q_X11_layDoubt_17, q_X11_layDoubt_18, q_X11_layDoubt_19, q_X11_layDoubt_20, q_X11_layDoubt_21, q_X11_layDoubt_22, hM, h74, e1, e2, y_is, y_gf, y_pf, y_f0, y_f1, y_f3, y_nI, y_nK, y_nZ, y_nL, y_nR, y_k1i, y_k1r, y_k1l, y_k1n, y_tl, y_tn, y_s, y_ss, List.getElem?_cons_zero, List.getElem?_cons_succ, List.set_cons_zero, List.set_cons_succ, List.length_cons, List.length_nil, true_and, and_true, y_lIn, y_lKn, y_lZn, y_lLn, y_wIn, y_wZn, y_wLn, lit, le_n, lt_n, eq_n, lit, nI_add, i_l]
  refine s_mwhole hM h74 hW hn0 hn ?_
  generalize hWh : sm (shW W) n = Wh at *
  simp (disch := omega) only [q_X11_layDoubt_25, q_X11_layDoubt_26, q_X11_layDoubt_27, q_X11_layDoubt_28, q_X11_layDoubt_30, q_X11_layDoubt_31, q_X11_layDoubt_33, q_X11_layDoubt_34, hM, y_is, y_gf, y_pf, y_f0, y_f1, y_f3, y_nI, y_nK, y_nZ, y_nL, y_nR, y_k1i, y_k1r, y_k1l, y_k1n, y_tl, y_tn, y_s, y_ss, List.getElem?_cons_zero, List.getElem?_cons_succ, List.set_cons_zero, List.set_cons_succ, List.length_cons, List.length_nil, true_and, and_true, lit, litL, i_l, l_sub]
  refine s_mset hM hV (by decide) (E0n _) (by decide) (fun g1 hM1 hV1 hf1 => ?_)
  simp (disch := omega) only [q_X11_layDoubt_37, q_X11_layDoubt_38, q_X11_layDoubt_41, q_X11_layDoubt_43, q_X11_layDoubt_44, q_X11_layDoubt_45, q_X11_layDoubt_46, hM1, e74 g1 hf1, e3, y_is, y_gf, y_pf, y_f0, y_f1, y_f3, y_nI, y_nK, y_nZ, y_nL, y_nR, y_k1i, y_k1r, y_k1l, y_k1n, y_tl, y_tn, y_s, y_ss, List.getElem?_cons_zero, List.getElem?_cons_succ, List.set_cons_zero, List.set_cons_succ, List.length_cons, List.length_nil, true_and, and_true, y_lIn, y_lKn, y_lZn, y_lLn, y_wIn, y_wZn, y_wLn, lit, le_n, lt_n, eq_n, lit, nI_add]
  generalize ho : Wh - s = o at *
  have hso : s + o ≤ 891 := by omega
  have p14 : BB ^ 14 ≤ BB ^ 31 := Nat.pow_le_pow_right (by decide) (by decide)
  have p31 : BB ^ 31 < BB ^ 63 := Nat.pow_lt_pow_right (by decide) (by decide)
  have pB : 2 ^ 40 * 1024 ^ 40 * 1024 < BB ^ 63 := by decide +kernel
  -- powers
  have l3 : ∀ (k : Nat) (M : Nat), dd ≤ k → k ≤ tt → M + tm tt s o k < BB ^ 31 → (∀ (g' : mzG) (V' : Nat → Nat) (x8 : Value), g'.2 73 = ob 9 [.ref 74, .ref 75, .ref 76, .ref 77, .ref 78, .ref 79, .int (x 0), .int (x 1), .int (x 2), .ref 80, .int (x 3), .ref 81, .int (x 4), .ref 82, .long (r), .ref 83, .ref 84, .int (x 5), .int (x 6), .int (x 7), .int (x 8), .int (x 9), .ref 85, .int (x 10)] → ms g' E0 V' → V' 6 = M + tm tt s o k → (∀ s, s ≠ 6 → s ≠ 7 → s ≠ 8 → V' s = V s) → fr g g' 78 80 → wp 207 b 140 [.ref 73, .int (nI p), .int (nI tt), .long (lN s), .null, .long (lN o), .null, .int (nI k), x8] [] g' Q) → ∀ (d j : Nat) (g' : mzG) (V' : Nat → Nat), j + d = tt → g'.2 73 = ob 9 [.ref 74, .ref 75, .ref 76, .ref 77, .ref 78, .ref 79, .int (x 0), .int (x 1), .int (x 2), .ref 80, .int (x 3), .ref 81, .int (x 4), .ref 82, .long (r), .ref 83, .ref 84, .int (x 5), .int (x 6), .int (x 7), .int (x 8), .int (x 9), .ref 85, .int (x 10)] → ms g' E0 V' → V' 6 = M → V' 8 = ch tt k * s ^ (min j k) * o ^ (j - min j k) → (∀ s, s ≠ 6 → s ≠ 7 → s ≠ 8 → V' s = V s) → fr g g' 78 80 → wp 207 b 101 [.ref 73, .int (nI p), .int (nI tt), .long (lN s), .null, .long (lN o), .null, .int (nI k), .int (nI j)] [] g' Q := by
    intro k M hk1 hk2 hMb hnext d
    induction d with
    | zero =>
      intro j g' V' hj q1 q2 q3 q4 q6 q7
      have hj : j = tt := by omega
      subst hj
      have q8 : V' 8 = tm j s o k := by rw [q4, Nat.min_eq_right hk2]; rfl
      rw [q_X11_layDoubt_101]
      simp (disch := omega) only [q_X11_layDoubt_103, q_X11_layDoubt_104, q_X11_layDoubt_132, q_X11_layDoubt_133, q_X11_layDoubt_135, q_X11_layDoubt_137, q1, y_is, y_gf, y_pf, y_f0, y_f1, y_f3, y_nI, y_nK, y_nZ, y_nL, y_nR, y_k1i, y_k1r, y_k1l, y_k1n, y_tl, y_tn, y_s, y_ss, List.getElem?_cons_zero, List.getElem?_cons_succ, List.set_cons_zero, List.set_cons_succ, List.length_cons, List.length_nil, true_and, and_true, y_lIn, y_lKn, y_lZn, y_lLn, y_wIn, y_wZn, y_wLn, lit, le_n, lt_n, eq_n, lit, litL, le_n, lt_n, eq_n, nI_add, m_neg, pk_sub, pk_mul, i_l, l_i, l_add, l_mul, l_sub, lc_le, lc_ge, lc_lt, lc_gt, lc_eq, l_rem2, l_rem3, i_rem2, i_rem3]
      refine br1 (by omega) (s_madd q1 q2 (by decide) (E0n _) (by decide) (E0n _) (by decide) (by rw [q3, q8]; omega) (fun g2 hM2 hV2 hf2 => ?_))
      exact hnext g2 _ _ hM2 hV2 (by rw [up_s, q3, q8]) (fun s s6 s7 s8 => by rw [up_n s6]; exact q6 s s6 s7 s8) (q7.tr hf2)
    | succ d ih =>
      intro j g' V' hj q1 q2 q3 q4 q6 q7
      have cl := ch_le tt k
      have c40 : ch tt k ≤ 2 ^ 40 := Nat.le_trans cl (Nat.pow_le_pow_right (by decide) (by omega))
      have bs1 : ∀ (m e : Nat), m ≤ 1024 → m ^ e ≤ 1024 ^ e := fun m e h => Nat.pow_le_pow_left h e
      have hV8 : V' 8 ≤ 2 ^ 40 * 1024 ^ 40 := by
        rw [q4, Nat.mul_assoc]
        refine Nat.mul_le_mul c40 ?_
        refine Nat.le_trans (Nat.mul_le_mul (bs1 s _ (by omega)) (bs1 o _ (by omega))) ?_
        rw [← Nat.pow_add]
        exact Nat.pow_le_pow_right (by decide) (by omega)
      rw [q_X11_layDoubt_101]
      simp (disch := omega) only [q_X11_layDoubt_103, q_X11_layDoubt_104, q_X11_layDoubt_107, q_X11_layDoubt_108, q_X11_layDoubt_110, q_X11_layDoubt_112, q_X11_layDoubt_114, q1, y_is, y_gf, y_pf, y_f0, y_f1, y_f3, y_nI, y_nK, y_nZ, y_nL, y_nR, y_k1i, y_k1r, y_k1l, y_k1n, y_tl, y_tn, y_s, y_ss, List.getElem?_cons_zero, List.getElem?_cons_succ, List.set_cons_zero, List.set_cons_succ, List.length_cons, List.length_nil, true_and, and_true, lit, le_n]
      refine br0 (by omega) (brs (fun z => ?_) (fun z => ?_))
      · simp (disch := omega) only [q_X11_layDoubt_121, q_X11_layDoubt_123, q1, y_is, y_gf, y_pf, y_f0, y_f1, y_f3, y_nI, y_nK, y_nZ, y_nL, y_nR, y_k1i, y_k1r, y_k1l, y_k1n, y_tl, y_tn, y_s, y_ss, List.getElem?_cons_zero, List.getElem?_cons_succ, List.set_cons_zero, List.set_cons_succ, List.length_cons, List.length_nil, true_and, and_true]
        have hb8 : V' 8 * o ≤ 2 ^ 40 * 1024 ^ 40 * 1024 := Nat.mul_le_mul hV8 (by omega)
        refine s_mtimes q1 q2 (by decide) (E0n _) (by omega) (Nat.lt_of_le_of_lt hb8 pB) (fun g2 hM2 hV2 hf2 => ?_)
        simp (disch := omega) only [q_X11_layDoubt_126, q_X11_layDoubt_129, y_is, y_gf, y_pf, y_f0, y_f1, y_f3, y_nI, y_nK, y_nZ, y_nL, y_nR, y_k1i, y_k1r, y_k1l, y_k1n, y_tl, y_tn, y_s, y_ss, List.getElem?_cons_zero, List.getElem?_cons_succ, List.set_cons_zero, List.set_cons_succ, List.length_cons, List.length_nil, true_and, and_true, lit, nI_add]
        refine ih (j + 1) g2 _ (by omega) hM2 hV2 (by rw [up_n (by decide)]; exact q3) ?_ (fun s s6 s7 s8 => by rw [up_n s8]; exact q6 s s6 s7 s8) (q7.tr hf2)
        rw [up_s, q4, Nat.min_eq_right z, Nat.min_eq_right (by omega), show j + 1 - k = j - k + 1 by omega, Nat.pow_succ, ← Nat.mul_assoc]
      · simp (disch := omega) only [q_X11_layDoubt_117, q_X11_layDoubt_118, q_X11_layDoubt_123, q1, y_is, y_gf, y_pf, y_f0, y_f1, y_f3, y_nI, y_nK, y_nZ, y_nL, y_nR, y_k1i, y_k1r, y_k1l, y_k1n, y_tl, y_tn, y_s, y_ss, List.getElem?_cons_zero, List.getElem?_cons_succ, List.set_cons_zero, List.set_cons_succ, List.length_cons, List.length_nil, true_and, and_true]
        have hb8 : V' 8 * s ≤ 2 ^ 40 * 1024 ^ 40 * 1024 := Nat.mul_le_mul hV8 (by omega)
        refine s_mtimes q1 q2 (by decide) (E0n _) (by omega) (Nat.lt_of_le_of_lt hb8 pB) (fun g2 hM2 hV2 hf2 => ?_)
        simp (disch := omega) only [q_X11_layDoubt_126, q_X11_layDoubt_129, y_is, y_gf, y_pf, y_f0, y_f1, y_f3, y_nI, y_nK, y_nZ, y_nL, y_nR, y_k1i, y_k1r, y_k1l, y_k1n, y_tl, y_tn, y_s, y_ss, List.getElem?_cons_zero, List.getElem?_cons_succ, List.set_cons_zero, List.set_cons_succ, List.length_cons, List.length_nil, true_and, and_true, lit, nI_add]
        refine ih (j + 1) g2 _ (by omega) hM2 hV2 (by rw [up_n (by decide)]; exact q3) ?_ (fun s s6 s7 s8 => by rw [up_n s8]; exact q6 s s6 s7 s8) (q7.tr hf2)
        rw [up_s, q4, Nat.min_eq_left (by omega), Nat.min_eq_left (by omega), Nat.sub_self, Nat.sub_self, Nat.pow_zero, Nat.mul_one, Nat.mul_one, Nat.pow_succ, ← Nat.mul_assoc]
  -- ways
  have l2 : ∀ (k : Nat) (M : Nat), dd ≤ k → k ≤ tt → (∀ (g' : mzG) (V' : Nat → Nat), g'.2 73 = ob 9 [.ref 74, .ref 75, .ref 76, .ref 77, .ref 78, .ref 79, .int (x 0), .int (x 1), .int (x 2), .ref 80, .int (x 3), .ref 81, .int (x 4), .ref 82, .long (r), .ref 83, .ref 84, .int (x 5), .int (x 6), .int (x 7), .int (x 8), .int (x 9), .ref 85, .int (x 10)] → ms g' E0 V' → V' 6 = M → V' 8 = ch tt k → (∀ s, s ≠ 6 → s ≠ 7 → s ≠ 8 → V' s = V s) → fr g g' 78 80 → wp 207 b 98 [.ref 73, .int (nI p), .int (nI tt), .long (lN s), .null, .long (lN o), .null, .int (nI k), .int (nI k)] [] g' Q) → ∀ (d j : Nat) (g' : mzG) (V' : Nat → Nat), j + d = k → g'.2 73 = ob 9 [.ref 74, .ref 75, .ref 76, .ref 77, .ref 78, .ref 79, .int (x 0), .int (x 1), .int (x 2), .ref 80, .int (x 3), .ref 81, .int (x 4), .ref 82, .long (r), .ref 83, .ref 84, .int (x 5), .int (x 6), .int (x 7), .int (x 8), .int (x 9), .ref 85, .int (x 10)] → ms g' E0 V' → V' 6 = M → V' 8 = ch tt j → (∀ s, s ≠ 6 → s ≠ 7 → s ≠ 8 → V' s = V s) → fr g g' 78 80 → wp 207 b 64 [.ref 73, .int (nI p), .int (nI tt), .long (lN s), .null, .long (lN o), .null, .int (nI k), .int (nI j)] [] g' Q := by
    intro k M hk1 hk2 hnext d
    induction d with
    | zero =>
      intro j g' V' hj q1 q2 q3 q4 q6 q7
      have hj : j = k := by omega
      subst hj
      rw [q_X11_layDoubt_64]
      simp (disch := omega) only [q_X11_layDoubt_66, q_X11_layDoubt_68, y_is, y_gf, y_pf, y_f0, y_f1, y_f3, y_nI, y_nK, y_nZ, y_nL, y_nR, y_k1i, y_k1r, y_k1l, y_k1n, y_tl, y_tn, y_s, y_ss, List.getElem?_cons_zero, List.getElem?_cons_succ, List.set_cons_zero, List.set_cons_succ, List.length_cons, List.length_nil, true_and, and_true, y_lIn, y_lKn, y_lZn, y_lLn, y_wIn, y_wZn, y_wLn, lit, le_n, lt_n, eq_n, lit, litL, le_n, lt_n, eq_n, nI_add, m_neg, pk_sub, pk_mul, i_l, l_i, l_add, l_mul, l_sub, lc_le, lc_ge, lc_lt, lc_gt, lc_eq, l_rem2, l_rem3, i_rem2, i_rem3]
      exact br1 (by omega) (hnext g' V' q1 q2 q3 q4 q6 q7)
    | succ d ih =>
      intro j g' V' hj q1 q2 q3 q4 q6 q7
      have c40 : ch tt j ≤ 2 ^ 40 := Nat.le_trans (ch_le tt j) (Nat.pow_le_pow_right (by decide) (by omega))
      have hb8 : ch tt j * (tt - j) ≤ 2 ^ 40 * 1024 ^ 40 * 1024 := Nat.le_trans (Nat.mul_le_mul c40 (show tt - j ≤ 1024 by omega)) (by decide +kernel)
      rw [q_X11_layDoubt_64]
      simp (disch := omega) only [q_X11_layDoubt_66, q_X11_layDoubt_68, q_X11_layDoubt_71, q_X11_layDoubt_72, q_X11_layDoubt_74, q_X11_layDoubt_75, q_X11_layDoubt_77, q_X11_layDoubt_78, q_X11_layDoubt_79, q1, y_is, y_gf, y_pf, y_f0, y_f1, y_f3, y_nI, y_nK, y_nZ, y_nL, y_nR, y_k1i, y_k1r, y_k1l, y_k1n, y_tl, y_tn, y_s, y_ss, List.getElem?_cons_zero, List.getElem?_cons_succ, List.set_cons_zero, List.set_cons_succ, List.length_cons, List.length_nil, true_and, and_true, y_lIn, y_lKn, y_lZn, y_lLn, y_wIn, y_wZn, y_wLn, lit, le_n, lt_n, eq_n, lit, litL, le_n, lt_n, eq_n, nI_add, m_neg, pk_sub, pk_mul, i_l, l_i, l_add, l_mul, l_sub, lc_le, lc_ge, lc_lt, lc_gt, lc_eq, l_rem2, l_rem3, i_rem2, i_rem3]
      refine br0 (by omega) (s_mtimes q1 q2 (by decide) (E0n _) (by omega) (by rw [q4]; exact Nat.lt_of_le_of_lt hb8 pB) (fun g2 hM2 hV2 hf2 => ?_))
      simp (disch := omega) only [q_X11_layDoubt_82, q_X11_layDoubt_83, q_X11_layDoubt_85, q_X11_layDoubt_87, q_X11_layDoubt_88, q_X11_layDoubt_89, hM2, y_is, y_gf, y_pf, y_f0, y_f1, y_f3, y_nI, y_nK, y_nZ, y_nL, y_nR, y_k1i, y_k1r, y_k1l, y_k1n, y_tl, y_tn, y_s, y_ss, List.getElem?_cons_zero, List.getElem?_cons_succ, List.set_cons_zero, List.set_cons_succ, List.length_cons, List.length_nil, true_and, and_true, lit, nI_add]
      refine s_mdivBy hM2 hV2 (by decide) (E0n _) (by omega) (by omega) (fun g3 hM3 hV3 hf3 => ?_)
      simp (disch := omega) only [q_X11_layDoubt_92, q_X11_layDoubt_95, y_is, y_gf, y_pf, y_f0, y_f1, y_f3, y_nI, y_nK, y_nZ, y_nL, y_nR, y_k1i, y_k1r, y_k1l, y_k1n, y_tl, y_tn, y_s, y_ss, List.getElem?_cons_zero, List.getElem?_cons_succ, List.set_cons_zero, List.set_cons_succ, List.length_cons, List.length_nil, true_and, and_true, lit, nI_add]
      refine ih (j + 1) g3 _ (by omega) hM3 hV3 (by rw [up_n (by decide), up_n (by decide)]; exact q3) ?_ (fun s s6 s7 s8 => by rw [up_n s8, up_n s8]; exact q6 s s6 s7 s8) ((q7.tr hf2).tr hf3)
      rw [up_s, up_s, q4, ← ch_step tt j (by omega), Nat.mul_div_cancel _ (by omega)]
  have l1 : ∀ (d i : Nat) (g' : mzG) (V' : Nat → Nat) (x8 : Value), i + d = tt + 1 - dd → g'.2 73 = ob 9 [.ref 74, .ref 75, .ref 76, .ref 77, .ref 78, .ref 79, .int (x 0), .int (x 1), .int (x 2), .ref 80, .int (x 3), .ref 81, .int (x 4), .ref 82, .long (r), .ref 83, .ref 84, .int (x 5), .int (x 6), .int (x 7), .int (x 8), .int (x 9), .ref 85, .int (x 10)] → ms g' E0 V' → V' 6 = sm (fun i => tm tt s o (dd + i)) i → (∀ s, s ≠ 6 → s ≠ 7 → s ≠ 8 → V' s = V s) → fr g g' 78 80 → wp 207 b 48 [.ref 73, .int (nI p), .int (nI tt), .long (lN s), .null, .long (lN o), .null, .int (nI (dd + i)), x8] [] g' Q := by
    intro d
    induction d with
    | zero =>
      intro i g' V' x8 hi q1 q2 q3 q6 q7
      have hi : i = tt + 1 - dd := by omega
      subst hi
      rw [q_X11_layDoubt_48]
      simp (disch := omega) only [q_X11_layDoubt_50, q_X11_layDoubt_51, y_is, y_gf, y_pf, y_f0, y_f1, y_f3, y_nI, y_nK, y_nZ, y_nL, y_nR, y_k1i, y_k1r, y_k1l, y_k1n, y_tl, y_tn, y_s, y_ss, List.getElem?_cons_zero, List.getElem?_cons_succ, List.set_cons_zero, List.set_cons_succ, List.length_cons, List.length_nil, true_and, and_true, lt_n]
      refine br1 (by omega) ?_
      simp (disch := omega) only [q_X11_layDoubt_146, q_X11_layDoubt_147, q_X11_layDoubt_149, q_X11_layDoubt_150, q1, y_is, y_gf, y_pf, y_f0, y_f1, y_f3, y_nI, y_nK, y_nZ, y_nL, y_nR, y_k1i, y_k1r, y_k1l, y_k1n, y_tl, y_tn, y_s, y_ss, List.getElem?_cons_zero, List.getElem?_cons_succ, List.set_cons_zero, List.set_cons_succ, List.length_cons, List.length_nil, true_and, and_true, lit]
      refine s_mwhole q1 (e74 g' q7) hW hn0 hn ?_
      rw [hWh]
      simp (disch := omega) only [q_X11_layDoubt_153, q_X11_layDoubt_154, q_X11_layDoubt_155, q1, y_is, y_gf, y_pf, y_f0, y_f1, y_f3, y_nI, y_nK, y_nZ, y_nL, y_nR, y_k1i, y_k1r, y_k1l, y_k1n, y_tl, y_tn, y_s, y_ss, List.getElem?_cons_zero, List.getElem?_cons_succ, List.set_cons_zero, List.set_cons_succ, List.length_cons, List.length_nil, true_and, and_true, lit, i_l]
      refine s_mpower q1 q2 (by decide) (E0n _) (by omega) (by omega) (fun i hi => ?_) (fun g2 hM2 hV2 hf2 => ?_)
      · have := p891 (a := Wh) (e := i) hwhole (by omega); omega
      · simp only [q_X11_layDoubt_158, y_is, y_gf, y_pf, y_f0, y_f1, y_f3, y_nI, y_nK, y_nZ, y_nL, y_nR, y_k1i, y_k1r, y_k1l, y_k1n, y_tl, y_tn, y_s, y_ss, List.getElem?_cons_zero, List.getElem?_cons_succ, List.set_cons_zero, List.set_cons_succ, List.length_cons, List.length_nil, true_and, and_true]
        exact hQ g2 _ hM2 hV2 (by rw [up_n (by decide)]; exact q3) (by rw [up_s]) (fun s s6 s7 s8 => by rw [up_n s7]; exact q6 s s6 s7 s8) (q7.tr hf2)
    | succ d ih =>
      intro i g' V' x8 hi q1 q2 q3 q6 q7
      have hmb : sm (fun i => tm tt s o (dd + i)) i + tm tt s o (dd + i) < BB ^ 31 := by
        have h1 : sm (fun i => tm tt s o (dd + i)) (i + 1) ≤ sm (fun i => tm tt s o (dd + i)) (tt + 1 - dd) := sm_mono _ (by omega)
        have h2 : sm (fun i => tm tt s o (dd + i)) (i + 1) = sm (fun i => tm tt s o (dd + i)) i + tm tt s o (dd + i) := rfl
        have h3 : sm (fun i => tm tt s o (dd + i)) (tt + 1 - dd) = dbt s o dd tt := rfl
        omega
      rw [q_X11_layDoubt_48]
      simp (disch := omega) only [q_X11_layDoubt_50, q_X11_layDoubt_51, q_X11_layDoubt_54, q_X11_layDoubt_55, q_X11_layDoubt_57, q_X11_layDoubt_58, q1, y_is, y_gf, y_pf, y_f0, y_f1, y_f3, y_nI, y_nK, y_nZ, y_nL, y_nR, y_k1i, y_k1r, y_k1l, y_k1n, y_tl, y_tn, y_s, y_ss, List.getElem?_cons_zero, List.getElem?_cons_succ, List.set_cons_zero, List.set_cons_succ, List.length_cons, List.length_nil, true_and, and_true, lit, litL, lt_n]
      refine br0 (by omega) (s_mset q1 q2 (by decide) (E0n _) (by decide) (fun g2 hM2 hV2 hf2 => ?_))
      simp (disch := omega) only [q_X11_layDoubt_61, q_X11_layDoubt_62, y_is, y_gf, y_pf, y_f0, y_f1, y_f3, y_nI, y_nK, y_nZ, y_nL, y_nR, y_k1i, y_k1r, y_k1l, y_k1n, y_tl, y_tn, y_s, y_ss, List.getElem?_cons_zero, List.getElem?_cons_succ, List.set_cons_zero, List.set_cons_succ, List.length_cons, List.length_nil, true_and, and_true, lit]
      refine l2 (dd + i) (sm (fun i => tm tt s o (dd + i)) i) (by omega) (by omega) (fun g3 V3 r1 r2 r3 r4 r6 r7 => ?_) (dd + i) 0 g2 _ (by omega) hM2 hV2 (by rw [up_n (by decide)]; exact q3) (by rw [up_s, ch]) (fun s s6 s7 s8 => by rw [up_n s8]; exact q6 s s6 s7 s8) (q7.tr hf2)
      simp (disch := omega) only [q_X11_layDoubt_98, q_X11_layDoubt_99, y_is, y_gf, y_pf, y_f0, y_f1, y_f3, y_nI, y_nK, y_nZ, y_nL, y_nR, y_k1i, y_k1r, y_k1l, y_k1n, y_tl, y_tn, y_s, y_ss, List.getElem?_cons_zero, List.getElem?_cons_succ, List.set_cons_zero, List.set_cons_succ, List.length_cons, List.length_nil, true_and, and_true, lit]
      refine l3 (dd + i) _ (by omega) (by omega) hmb (fun g4 V4 x8 t1 t2 t3 t6 t7 => ?_) tt 0 g3 V3 (by omega) r1 r2 r3 (by rw [r4, Nat.zero_min, Nat.sub_zero, Nat.pow_zero, Nat.pow_zero, Nat.mul_one, Nat.mul_one]) r6 r7
      simp (disch := omega) only [q_X11_layDoubt_140, q_X11_layDoubt_143, y_is, y_gf, y_pf, y_f0, y_f1, y_f3, y_nI, y_nK, y_nZ, y_nL, y_nR, y_k1i, y_k1r, y_k1l, y_k1n, y_tl, y_tn, y_s, y_ss, List.getElem?_cons_zero, List.getElem?_cons_succ, List.set_cons_zero, List.set_cons_succ, List.length_cons, List.length_nil, true_and, and_true, lit, nI_add]
      exact ih (i + 1) g4 V4 x8 (by omega) t1 t2 t3 t6 t7
  exact l1 (tt + 1 - dd) 0 g1 _ _ (by omega) hM1 hV1 (by rw [up_s]; rfl) (fun s s6 s7 s8 => up_n s6) hf1
end MBEST
