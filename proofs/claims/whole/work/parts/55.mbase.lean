/-! ===== the reference: what is told, in one row of numbers ===== -/
/-- a number of the row: of the NIGHT, 0 is nobody -/
def wI (k n : Nat) : Int32 := if 88 ≤ k ∧ k < 100 then tI n else nI n
theorem wI_n {k n : Nat} (h : k < 88 ∨ 100 ≤ k) : wI k n = nI n := by unfold wI; rw [if_neg (by omega)]
theorem wI_t {k n : Nat} (h : 88 ≤ k) (h2 : k < 100) : wI k n = tI n := by unfold wI; rw [if_pos ⟨h, h2⟩]
def nwf (f : Nat → Int32) (W : Nat → Nat) : Prop := ∀ k, k < 141 → f k = wI k (W k)
theorem nwf_up {f : Nat → Int32} {W : Nat → Nat} {k n : Nat} {v : Int32} (h : nwf f W) (hv : v = wI k n) : nwf (upd f k v) (va_up W k n) := by
  intro j hj
  unfold va_up
  by_cases e : j = k
  · subst e; rw [u_s, if_pos rfl]; exact hv
  · rw [u_n e, if_neg e]; exact h j hj
def woW (W : Nat → Nat) (p : Nat) : Nat := W (1 + p)
def shW (W : Nat → Nat) (p : Nat) : Nat := W (10 + p)
def neW (W : Nat → Nat) (p : Nat) : Nat := W (19 + p)
def doW (W : Nat → Nat) (p : Nat) : Nat := W (28 + p)
def trW (W : Nat → Nat) (p : Nat) : Nat := W (37 + p)
def hrW (W : Nat → Nat) (k : Nat) : Nat := W (51 + 3 * k)
def poW (W : Nat → Nat) (k : Nat) : Nat := W (51 + 3 * k + 1)
def asW (W : Nat → Nat) (k : Nat) : Nat := W (51 + 3 * k + 2)
def toW (W : Nat → Nat) (k : Nat) : Nat := W (88 + k)
def chW (W : Nat → Nat) (k : Nat) : Nat := W (101 + k)
/-- what always holds of it -/
def wv (W : Nat → Nat) : Prop := (1 ≤ W 0 ∧ W 0 ≤ 9) ∧ (∀ p, p < 9 → W (1 + p) ≤ 99 ∧ W (10 + p) ≤ 99 ∧ W (19 + p) ≤ 12 ∧ W (28 + p) ≤ W (37 + p) ∧ W (37 + p) ≤ 40) ∧ (W 46 ≤ 4 ∧ W 47 ≤ 8 ∧ W 48 ≤ 9 ∧ W 49 ≤ 999999 ∧ W 50 ≤ 12) ∧ (∀ k, k < 12 → W (51 + 3 * k) ≤ 999 ∧ W (51 + 3 * k + 1) ≤ 8 ∧ W (51 + 3 * k + 2) ≤ 1 ∧ W (88 + k) ≤ 9) ∧ (W 87 ≤ 12 ∧ W 100 ≤ 40) ∧ ∀ k, k < 40 → W (101 + k) ≤ 127
/-- an int is one of the numbers a to c -/
def inR (v : Int32) (a c : Nat) : Prop := ∃ j, a ≤ j ∧ j ≤ c ∧ v = nI j
theorem inR_lo {v : Int32} {a c : Nat} (ha : a < 2147483648) (hc : c < 2147483648) : inR v a c ↔ (¬ v < nI a ∧ ¬ nI c < v) := by
  constructor
  · rintro ⟨j, h1, h2, rfl⟩
    rw [lt_n (by omega) (by omega), lt_n (by omega) (by omega)]; omega
  · rintro ⟨h1, h2⟩
    have h0 : ¬ v < 0 := fun z => h1 (neg_lt z ha)
    obtain ⟨j, hj, rfl⟩ := nI_of h0
    have hj : j < 2147483648 := by omega
    rw [lt_n hj ha] at h1
    rw [lt_n hc hj] at h2
    exact ⟨j, by omega, by omega, rfl⟩
theorem inR_l {v : Int32} {a c : Nat} (ha : a < 2147483648) (hc : c < 2147483648) : inR v a c ↔ (¬ v.toInt64 < lN a ∧ ¬ lN c < v.toInt64) := by
  rw [inR_lo ha hc, ← i_l ha, ← i_l hc]
  have e : ∀ p q : Int32, p.toInt64 < q.toInt64 ↔ p < q := fun p q => by
    rw [Int64.lt_iff_toInt_lt, Int32.lt_iff_toInt_lt, Int32.toInt_toInt64, Int32.toInt_toInt64]
  rw [e, e]
/-- the first of the greatest, of numbers -/
def hvN (f : Nat → Nat) : Nat → Nat
  | 0 => 0
  | k + 1 => if f k ≤ f (hvN f k) then hvN f k else k
theorem hvN_lt (f : Nat → Nat) : ∀ k, hvN f k ≤ k - 1
  | 0 => by simp [hvN]
  | k + 1 => by
    have := hvN_lt f k
    unfold hvN
    split <;> omega
theorem hv_N {f : Nat → Int32} {h : Nat → Nat} {n : Nat} (e : ∀ i, i < n → f i = nI (h i) ∧ h i < 2147483648) : ∀ k, k ≤ n → hv f k = hvN h k
  | 0, _ => rfl
  | k + 1, hk => by
    have ih := hv_N e k (by omega)
    have hl := hvN_lt h k
    rw [hv, hvN, ih, (e k (by omega)).1, (e (hvN h k) (by omega)).1]
    by_cases q : h k ≤ h (hvN h k)
    · rw [if_pos (by rw [le_n (e k (by omega)).2 (e (hvN h k) (by omega)).2]; exact q), if_pos q]
    · rw [if_neg (by rw [le_n (e k (by omega)).2 (e (hvN h k) (by omega)).2]; exact q), if_neg q]
/-- the pair -/
def pin (f : Nat → Nat) (p : Nat) (s : Option (Nat × Nat)) : Nat → Option (Nat × Nat)
  | 0 => s
  | k + 1 => match pin f p s k with
    | none => some (p, p + 1 + k)
    | some (a, c) => if f p + f (p + 1 + k) ≤ f a + f c then some (a, c) else some (p, p + 1 + k)
def pon (f : Nat → Nat) (n : Nat) : Nat → Option (Nat × Nat)
  | 0 => none
  | p + 1 => pin f p (pon f n p) (n - (p + 1))
def pI (f : Nat → Nat) (z : Int32) : Option (Nat × Nat) → Int32 × Int32
  | none => (z, -1)
  | some (a, c) => (nI (10 * a + c), nI (f a + f c))
theorem pin_b {f : Nat → Nat} {n p : Nat} {s : Option (Nat × Nat)} (hs : ∀ a c, s = some (a, c) → a < n ∧ c < n) : ∀ k, p + 1 + k ≤ n → ∀ a c, pin f p s k = some (a, c) → a < n ∧ c < n
  | 0, _, a, c, e => hs a c e
  | k + 1, hk, a, c, e => by
    have ih := pin_b hs (f := f) (p := p) k (by omega)
    rw [pin] at e
    split at e
    · have := Option.some.inj e
      have := Prod.mk.inj this
      omega
    · rename_i a' c' e'
      have h := ih a' c' e'
      split at e
      · have := Prod.mk.inj (Option.some.inj e); omega
      · have := Prod.mk.inj (Option.some.inj e); omega
theorem pon_b {f : Nat → Nat} {n : Nat} : ∀ p, p ≤ n → ∀ a c, pon f n p = some (a, c) → a < n ∧ c < n
  | 0, _, a, c, e => by simp [pon] at e
  | p + 1, hp, a, c, e => by
    rw [pon] at e
    exact pin_b (fun a c h => pon_b p (by omega) a c h) _ (by omega) a c e
theorem hpi_N {F : Nat → Int32} {f : Nat → Nat} {n p : Nat} {z : Int32} {s : Option (Nat × Nat)} (hp : p < n) (hs : ∀ a c, s = some (a, c) → a < n ∧ c < n) (e : ∀ i, i < n → F i = nI (f i) ∧ f i < 1000000) : ∀ k, p + 1 + k ≤ n → hpi F p (pI f z s) k = pI f z (pin f p s k)
  | 0, _ => rfl
  | k + 1, hk => by
    have ih := hpi_N (z := z) hp hs e k (by omega)
    have hb := pin_b hs (f := f) (p := p) k (by omega)
    have ep := e p hp
    have eq := e (p + 1 + k) (by omega)
    rw [hpi, pin, ih, ep.1, eq.1, nI_add]
    cases hc : pin f p s k with
    | none =>
      show (if nI (f p + f (p + 1 + k)) ≤ -1 then _ else _) = _
      rw [if_neg (fun q => absurd (Int32.le_trans (nI_pos' (show f p + f (p + 1 + k) < 2 ^ 31 by omega)) q) (by decide))]
      rfl
    | some ac =>
      obtain ⟨a, c⟩ := ac
      have h := hb a c hc
      have ea := e a h.1
      have ec := e c h.2
      show (if nI (f p + f (p + 1 + k)) ≤ nI (f a + f c) then pI f z (some (a, c)) else (nI (10 * p + (p + 1 + k)), nI (f p + f (p + 1 + k)))) = _
      by_cases q : f p + f (p + 1 + k) ≤ f a + f c
      · rw [if_pos (by rw [le_n (by omega) (by omega)]; exact q)]
        simp only
        rw [if_pos q]
      · rw [if_neg (by rw [le_n (by omega) (by omega)]; exact q)]
        simp only
        rw [if_neg q]; rfl
theorem hpo_N {F : Nat → Int32} {f : Nat → Nat} {n : Nat} {z : Int32} (e : ∀ i, i < n → F i = nI (f i) ∧ f i < 1000000) : ∀ p, p ≤ n → hpo F n (z, -1) p = pI f z (pon f n p)
  | 0, _ => rfl
  | p + 1, hp => by
    rw [hpo, pon, hpo_N e p (by omega)]
    exact hpi_N (by omega) (fun a c h => pon_b p (by omega) a c h) e _ (by omega)
section MBASE
variable {b : mzB} {Q : mzQ} {g : mzG} {x : Nat → Int32} {r : Int64} {f : Nat → Int32} {W : Nat → Nat}
theorem s_inI {v : Int32} {a c : Nat} (ha : a < 2147483648) (hc : c < 2147483648) (h1 : inR v a c → Q (some (.int 1)) g) (h0 : ¬ inR v a c → Q (some (.int 0)) g) : wp 131 b 0 [.long v.toInt64, .null, .long (lN a), .null, .long (lN c), .null] [] g Q := by
  rw [inR_l ha hc] at h1 h0
  simp only [q_X11_in_0, q_X11_in_1, q_X11_in_2, q_X11_in_3, y_is, y_gf, y_pf, y_f0, y_f1, y_f3, y_nI, y_nK, y_nZ, y_nL, y_nR, y_k1i, y_k1r, y_k1l, y_k1n, y_tl, y_tn, y_s, y_ss, List.getElem?_cons_zero, List.getElem?_cons_succ, List.set_cons_zero, List.set_cons_succ, List.length_cons, List.length_nil, true_and, and_true, lcl]
  refine brs (fun z => ?_) (fun z => ?_)
  · simp only [q_X11_in_17, q_X11_in_18, y_is, y_gf, y_pf, y_f0, y_f1, y_f3, y_nI, y_nK, y_nZ, y_nL, y_nR, y_k1i, y_k1r, y_k1l, y_k1n, y_tl, y_tn, y_s, y_ss, List.getElem?_cons_zero, List.getElem?_cons_succ, List.set_cons_zero, List.set_cons_succ, List.length_cons, List.length_nil, true_and, and_true]
    exact ⟨by decide, h0 (fun q => q.1 z)⟩
  · simp only [q_X11_in_6, q_X11_in_7, q_X11_in_9, q_X11_in_10, y_is, y_gf, y_pf, y_f0, y_f1, y_f3, y_nI, y_nK, y_nZ, y_nL, y_nR, y_k1i, y_k1r, y_k1l, y_k1n, y_tl, y_tn, y_s, y_ss, List.getElem?_cons_zero, List.getElem?_cons_succ, List.set_cons_zero, List.set_cons_succ, List.length_cons, List.length_nil, true_and, and_true]
    rw [show (0 < lg_cmp v.toInt64 (lN c)) = (lN c < v.toInt64) from propext (lg_cmp_gt _ _)]
    refine brs (fun y => ?_) (fun y => ?_)
    · simp only [q_X11_in_17, q_X11_in_18, y_is, y_gf, y_pf, y_f0, y_f1, y_f3, y_nI, y_nK, y_nZ, y_nL, y_nR, y_k1i, y_k1r, y_k1l, y_k1n, y_tl, y_tn, y_s, y_ss, List.getElem?_cons_zero, List.getElem?_cons_succ, List.set_cons_zero, List.set_cons_succ, List.length_cons, List.length_nil, true_and, and_true]
      exact ⟨by decide, h0 (fun q => q.2 y)⟩
    · simp only [q_X11_in_13, q_X11_in_14, q_X11_in_18, y_is, y_gf, y_pf, y_f0, y_f1, y_f3, y_nI, y_nK, y_nZ, y_nL, y_nR, y_k1i, y_k1r, y_k1l, y_k1n, y_tl, y_tn, y_s, y_ss, List.getElem?_cons_zero, List.getElem?_cons_succ, List.set_cons_zero, List.set_cons_succ, List.length_cons, List.length_nil, true_and, and_true]
      exact ⟨by decide, h1 ⟨z, y⟩⟩
theorem s_mbad {R : Nat → Int32} {v : Int32} (hM : g.2 73 = ob 9 [.ref 74, .ref 75, .ref 76, .ref 77, .ref 78, .ref 79, .int (x 0), .int (x 1), .int (x 2), .ref 80, .int (x 3), .ref 81, .int (x 4), .ref 82, .long (r), .ref 83, .ref 84, .int (x 5), .int (x 6), .int (x 7), .int (x 8), .int (x 9), .ref 85, .int (x 10)]) (hR : g.2 77 = aI 3 R) (hQ : ∀ g', g'.2 77 = aI 3 (upd R 0 (R 0 + 1)) → fr g g' 77 78 → Q (some (.int v)) g') : wp 132 b 0 [.ref 73, .int v] [] g Q := by
  simp (disch := omega) only [q_X11_bad_0, q_X11_bad_1, q_X11_bad_4, q_X11_bad_5, q_X11_bad_6, q_X11_bad_7, q_X11_bad_8, q_X11_bad_9, q_X11_bad_10, q_X11_bad_11, hM, hR, y_is, y_gf, y_pf, y_f0, y_f1, y_f3, y_nI, y_nK, y_nZ, y_nL, y_nR, y_k1i, y_k1r, y_k1l, y_k1n, y_tl, y_tn, y_s, y_ss, List.getElem?_cons_zero, List.getElem?_cons_succ, List.set_cons_zero, List.set_cons_succ, List.length_cons, List.length_nil, true_and, and_true, y_lIn, y_lKn, y_lZn, y_lLn, y_wIn, y_wZn, y_wLn, lit, le_n, lt_n, eq_n]
  exact hQ _ y_s (fr.rf.hs (by omega) (by omega))
theorem s_mno {R : Nat → Int32} (hM : g.2 73 = ob 9 [.ref 74, .ref 75, .ref 76, .ref 77, .ref 78, .ref 79, .int (x 0), .int (x 1), .int (x 2), .ref 80, .int (x 3), .ref 81, .int (x 4), .ref 82, .long (r), .ref 83, .ref 84, .int (x 5), .int (x 6), .int (x 7), .int (x 8), .int (x 9), .ref 85, .int (x 10)]) (hR : g.2 77 = aI 3 R) (hQ : ∀ g', g'.2 77 = aI 3 (upd R 1 (R 1 + 1)) → fr g g' 77 78 → Q (some (.int (-3))) g') : wp 133 b 0 [.ref 73] [] g Q := by
  simp (disch := omega) only [q_X11_no_0, q_X11_no_1, q_X11_no_4, q_X11_no_5, q_X11_no_6, q_X11_no_7, q_X11_no_8, q_X11_no_9, q_X11_no_10, q_X11_no_12, hM, hR, y_is, y_gf, y_pf, y_f0, y_f1, y_f3, y_nI, y_nK, y_nZ, y_nL, y_nR, y_k1i, y_k1r, y_k1l, y_k1n, y_tl, y_tn, y_s, y_ss, List.getElem?_cons_zero, List.getElem?_cons_succ, List.set_cons_zero, List.set_cons_succ, List.length_cons, List.length_nil, true_and, and_true, y_lIn, y_lKn, y_lZn, y_lLn, y_wIn, y_wZn, y_wLn, lit, le_n, lt_n, eq_n]
  exact hQ _ y_s (fr.rf.hs (by omega) (by omega))
theorem s_mfull {R : Nat → Int32} (hM : g.2 73 = ob 9 [.ref 74, .ref 75, .ref 76, .ref 77, .ref 78, .ref 79, .int (x 0), .int (x 1), .int (x 2), .ref 80, .int (x 3), .ref 81, .int (x 4), .ref 82, .long (r), .ref 83, .ref 84, .int (x 5), .int (x 6), .int (x 7), .int (x 8), .int (x 9), .ref 85, .int (x 10)]) (hR : g.2 77 = aI 3 R) (hQ : ∀ g', g'.2 77 = aI 3 (upd R 2 (R 2 + 1)) → fr g g' 77 78 → Q (some (.int (-4))) g') : wp 134 b 0 [.ref 73] [] g Q := by
  simp (disch := omega) only [q_X11_full_0, q_X11_full_1, q_X11_full_4, q_X11_full_5, q_X11_full_6, q_X11_full_7, q_X11_full_8, q_X11_full_9, q_X11_full_10, q_X11_full_12, hM, hR, y_is, y_gf, y_pf, y_f0, y_f1, y_f3, y_nI, y_nK, y_nZ, y_nL, y_nR, y_k1i, y_k1r, y_k1l, y_k1n, y_tl, y_tn, y_s, y_ss, List.getElem?_cons_zero, List.getElem?_cons_succ, List.set_cons_zero, List.set_cons_succ, List.length_cons, List.length_nil, true_and, and_true, y_lIn, y_lKn, y_lZn, y_lLn, y_wIn, y_wZn, y_wLn, lit, le_n, lt_n, eq_n]
  exact hQ _ y_s (fr.rf.hs (by omega) (by omega))
theorem s_watched (hM : g.2 73 = ob 9 [.ref 74, .ref 75, .ref 76, .ref 77, .ref 78, .ref 79, .int (x 0), .int (x 1), .int (x 2), .ref 80, .int (x 3), .ref 81, .int (x 4), .ref 82, .long (r), .ref 83, .ref 84, .int (x 5), .int (x 6), .int (x 7), .int (x 8), .int (x 9), .ref 85, .int (x 10)]) (h74 : g.2 74 = aI 141 f) (hW : nwf f W) (hQ : Q (some (.int (nI (W 0)))) g) : wp 150 b 0 [.ref 73] [] g Q := by
  have e := hW 0 (by decide)
  rw [wI_n (by decide)] at e
  simp (disch := omega) only [q_X11_watched_0, q_X11_watched_1, q_X11_watched_4, q_X11_watched_5, q_X11_watched_6, hM, h74, e, y_is, y_gf, y_pf, y_f0, y_f1, y_f3, y_nI, y_nK, y_nZ, y_nL, y_nR, y_k1i, y_k1r, y_k1l, y_k1n, y_tl, y_tn, y_s, y_ss, List.getElem?_cons_zero, List.getElem?_cons_succ, List.set_cons_zero, List.set_cons_succ, List.length_cons, List.length_nil, true_and, and_true, y_lIn, y_lKn, y_lZn, y_lLn, y_wIn, y_wZn, y_wLn, lit, le_n, lt_n, eq_n]
  exact hQ
theorem s_misPost {v : Int32} (hM : g.2 73 = ob 9 [.ref 74, .ref 75, .ref 76, .ref 77, .ref 78, .ref 79, .int (x 0), .int (x 1), .int (x 2), .ref 80, .int (x 3), .ref 81, .int (x 4), .ref 82, .long (r), .ref 83, .ref 84, .int (x 5), .int (x 6), .int (x 7), .int (x 8), .int (x 9), .ref 85, .int (x 10)]) (h74 : g.2 74 = aI 141 f) (hW : nwf f W) (hn1 : 1 ≤ W 0) (hn : W 0 ≤ 9) (h1 : inR v 0 (W 0 - 1) → Q (some (.int 1)) g) (h0 : ¬ inR v 0 (W 0 - 1) → Q (some (.int 0)) g) : wp 151 b 0 [.ref 73, .int v] [] g Q := by
  simp (disch := omega) only [q_X11_isPost_0, q_X11_isPost_1, q_X11_isPost_2, q_X11_isPost_3, q_X11_isPost_4, hM, y_is, y_gf, y_pf, y_f0, y_f1, y_f3, y_nI, y_nK, y_nZ, y_nL, y_nR, y_k1i, y_k1r, y_k1l, y_k1n, y_tl, y_tn, y_s, y_ss, List.getElem?_cons_zero, List.getElem?_cons_succ, List.set_cons_zero, List.set_cons_succ, List.length_cons, List.length_nil, true_and, and_true, litL]
  refine s_watched hM h74 hW ?_
  simp (disch := omega) only [q_X11_isPost_7, q_X11_isPost_8, q_X11_isPost_9, q_X11_isPost_10, y_is, y_gf, y_pf, y_f0, y_f1, y_f3, y_nI, y_nK, y_nZ, y_nL, y_nR, y_k1i, y_k1r, y_k1l, y_k1n, y_tl, y_tn, y_s, y_ss, List.getElem?_cons_zero, List.getElem?_cons_succ, List.set_cons_zero, List.set_cons_succ, List.length_cons, List.length_nil, true_and, and_true, lit, pk_sub, i_l]
  refine s_inI (by omega) (by omega) (fun z => ?_) (fun z => ?_)
  · simp only [q_X11_isPost_13, y_is, y_gf, y_pf, y_f0, y_f1, y_f3, y_nI, y_nK, y_nZ, y_nL, y_nR, y_k1i, y_k1r, y_k1l, y_k1n, y_tl, y_tn, y_s, y_ss, List.getElem?_cons_zero, List.getElem?_cons_succ, List.set_cons_zero, List.set_cons_succ, List.length_cons, List.length_nil, true_and, and_true]
    exact ⟨by decide, h1 z⟩
  · simp only [q_X11_isPost_13, y_is, y_gf, y_pf, y_f0, y_f1, y_f3, y_nI, y_nK, y_nZ, y_nL, y_nR, y_k1i, y_k1r, y_k1l, y_k1n, y_tl, y_tn, y_s, y_ss, List.getElem?_cons_zero, List.getElem?_cons_succ, List.set_cons_zero, List.set_cons_succ, List.length_cons, List.length_nil, true_and, and_true]
    exact ⟨by decide, h0 z⟩
theorem s_mwhole {n : Nat} (hM : g.2 73 = ob 9 [.ref 74, .ref 75, .ref 76, .ref 77, .ref 78, .ref 79, .int (x 0), .int (x 1), .int (x 2), .ref 80, .int (x 3), .ref 81, .int (x 4), .ref 82, .long (r), .ref 83, .ref 84, .int (x 5), .int (x 6), .int (x 7), .int (x 8), .int (x 9), .ref 85, .int (x 10)]) (h74 : g.2 74 = aI 141 f) (hW : nwf f W) (hn0 : W 0 = n) (hn : n ≤ 9) (hQ : Q (some (.int (nI (sm (shW W) n)))) g) : wp 155 b 0 [.ref 73, .null, .null] [] g Q := by
  have loop : ∀ d i, i + d = n → wp 155 b 4 [.ref 73, .int (nI (sm (shW W) i)), .int (nI i)] [] g Q := by
    intro d
    induction d with
    | zero =>
      intro i hi
      have hi : i = n := by omega
      subst hi
      rw [q_X11_whole_4]
      simp (disch := omega) only [q_X11_whole_5, q_X11_whole_6, hM, y_is, y_gf, y_pf, y_f0, y_f1, y_f3, y_nI, y_nK, y_nZ, y_nL, y_nR, y_k1i, y_k1r, y_k1l, y_k1n, y_tl, y_tn, y_s, y_ss, List.getElem?_cons_zero, List.getElem?_cons_succ, List.set_cons_zero, List.set_cons_succ, List.length_cons, List.length_nil, true_and, and_true]
      refine s_watched hM h74 hW ?_
      rw [hn0]
      simp (disch := omega) only [q_X11_whole_9, q_X11_whole_30, q_X11_whole_31, y_is, y_gf, y_pf, y_f0, y_f1, y_f3, y_nI, y_nK, y_nZ, y_nL, y_nR, y_k1i, y_k1r, y_k1l, y_k1n, y_tl, y_tn, y_s, y_ss, List.getElem?_cons_zero, List.getElem?_cons_succ, List.set_cons_zero, List.set_cons_succ, List.length_cons, List.length_nil, true_and, and_true, le_n]
      exact br1 (by omega) hQ
    | succ d ih =>
      intro i hi
      have e := hW (10 + i) (by omega)
      rw [wI_n (by omega)] at e
      rw [q_X11_whole_4]
      simp (disch := omega) only [q_X11_whole_5, q_X11_whole_6, hM, y_is, y_gf, y_pf, y_f0, y_f1, y_f3, y_nI, y_nK, y_nZ, y_nL, y_nR, y_k1i, y_k1r, y_k1l, y_k1n, y_tl, y_tn, y_s, y_ss, List.getElem?_cons_zero, List.getElem?_cons_succ, List.set_cons_zero, List.set_cons_succ, List.length_cons, List.length_nil, true_and, and_true]
      refine s_watched hM h74 hW ?_
      rw [hn0]
      simp (disch := omega) only [q_X11_whole_9, q_X11_whole_12, q_X11_whole_13, q_X11_whole_14, q_X11_whole_17, q_X11_whole_19, q_X11_whole_20, q_X11_whole_21, q_X11_whole_22, q_X11_whole_23, q_X11_whole_24, q_X11_whole_27, hM, h74, e, y_is, y_gf, y_pf, y_f0, y_f1, y_f3, y_nI, y_nK, y_nZ, y_nL, y_nR, y_k1i, y_k1r, y_k1l, y_k1n, y_tl, y_tn, y_s, y_ss, List.getElem?_cons_zero, List.getElem?_cons_succ, List.set_cons_zero, List.set_cons_succ, List.length_cons, List.length_nil, true_and, and_true, y_lIn, y_lKn, y_lZn, y_lLn, y_wIn, y_wZn, y_wLn, lit, le_n, lt_n, eq_n, lit, le_n, nI_add]
      exact br0 (by omega) (ih (i + 1) (by omega))
  simp only [q_X11_whole_0, q_X11_whole_1, q_X11_whole_2, q_X11_whole_3, y_is, y_gf, y_pf, y_f0, y_f1, y_f3, y_nI, y_nK, y_nZ, y_nL, y_nR, y_k1i, y_k1r, y_k1l, y_k1n, y_tl, y_tn, y_s, y_ss, List.getElem?_cons_zero, List.getElem?_cons_succ, List.set_cons_zero, List.set_cons_succ, List.length_cons, List.length_nil, true_and, and_true, lit]
  exact loop n 0 (by omega)
theorem s_mneeds {n : Nat} (hM : g.2 73 = ob 9 [.ref 74, .ref 75, .ref 76, .ref 77, .ref 78, .ref 79, .int (x 0), .int (x 1), .int (x 2), .ref 80, .int (x 3), .ref 81, .int (x 4), .ref 82, .long (r), .ref 83, .ref 84, .int (x 5), .int (x 6), .int (x 7), .int (x 8), .int (x 9), .ref 85, .int (x 10)]) (h74 : g.2 74 = aI 141 f) (hW : nwf f W) (hn0 : W 0 = n) (hn : n ≤ 9) (hQ : Q (some (.int (nI (sm (neW W) n)))) g) : wp 193 b 0 [.ref 73, .null, .null] [] g Q := by
  have loop : ∀ d i, i + d = n → wp 193 b 4 [.ref 73, .int (nI (sm (neW W) i)), .int (nI i)] [] g Q := by
    intro d
    induction d with
    | zero =>
      intro i hi
      have hi : i = n := by omega
      subst hi
      rw [q_X11_needs_4]
      simp (disch := omega) only [q_X11_needs_5, q_X11_needs_6, hM, y_is, y_gf, y_pf, y_f0, y_f1, y_f3, y_nI, y_nK, y_nZ, y_nL, y_nR, y_k1i, y_k1r, y_k1l, y_k1n, y_tl, y_tn, y_s, y_ss, List.getElem?_cons_zero, List.getElem?_cons_succ, List.set_cons_zero, List.set_cons_succ, List.length_cons, List.length_nil, true_and, and_true]
      refine s_watched hM h74 hW ?_
      rw [hn0]
      simp (disch := omega) only [q_X11_needs_9, q_X11_needs_30, q_X11_needs_31, y_is, y_gf, y_pf, y_f0, y_f1, y_f3, y_nI, y_nK, y_nZ, y_nL, y_nR, y_k1i, y_k1r, y_k1l, y_k1n, y_tl, y_tn, y_s, y_ss, List.getElem?_cons_zero, List.getElem?_cons_succ, List.set_cons_zero, List.set_cons_succ, List.length_cons, List.length_nil, true_and, and_true, le_n]
      exact br1 (by omega) hQ
    | succ d ih =>
      intro i hi
      have e := hW (19 + i) (by omega)
      rw [wI_n (by omega)] at e
      rw [q_X11_needs_4]
      simp (disch := omega) only [q_X11_needs_5, q_X11_needs_6, hM, y_is, y_gf, y_pf, y_f0, y_f1, y_f3, y_nI, y_nK, y_nZ, y_nL, y_nR, y_k1i, y_k1r, y_k1l, y_k1n, y_tl, y_tn, y_s, y_ss, List.getElem?_cons_zero, List.getElem?_cons_succ, List.set_cons_zero, List.set_cons_succ, List.length_cons, List.length_nil, true_and, and_true]
      refine s_watched hM h74 hW ?_
      rw [hn0]
      simp (disch := omega) only [q_X11_needs_9, q_X11_needs_12, q_X11_needs_13, q_X11_needs_14, q_X11_needs_17, q_X11_needs_19, q_X11_needs_20, q_X11_needs_21, q_X11_needs_22, q_X11_needs_23, q_X11_needs_24, q_X11_needs_27, hM, h74, e, y_is, y_gf, y_pf, y_f0, y_f1, y_f3, y_nI, y_nK, y_nZ, y_nL, y_nR, y_k1i, y_k1r, y_k1l, y_k1n, y_tl, y_tn, y_s, y_ss, List.getElem?_cons_zero, List.getElem?_cons_succ, List.set_cons_zero, List.set_cons_succ, List.length_cons, List.length_nil, true_and, and_true, y_lIn, y_lKn, y_lZn, y_lLn, y_wIn, y_wZn, y_wLn, lit, le_n, lt_n, eq_n, lit, le_n, nI_add]
      exact br0 (by omega) (ih (i + 1) (by omega))
  simp only [q_X11_needs_0, q_X11_needs_1, q_X11_needs_2, q_X11_needs_3, y_is, y_gf, y_pf, y_f0, y_f1, y_f3, y_nI, y_nK, y_nZ, y_nL, y_nR, y_k1i, y_k1r, y_k1l, y_k1n, y_tl, y_tn, y_s, y_ss, List.getElem?_cons_zero, List.getElem?_cons_succ, List.set_cons_zero, List.set_cons_succ, List.length_cons, List.length_nil, true_and, and_true, lit]
  exact loop n 0 (by omega)
theorem s_mstretches {n : Nat} (hM : g.2 73 = ob 9 [.ref 74, .ref 75, .ref 76, .ref 77, .ref 78, .ref 79, .int (x 0), .int (x 1), .int (x 2), .ref 80, .int (x 3), .ref 81, .int (x 4), .ref 82, .long (r), .ref 83, .ref 84, .int (x 5), .int (x 6), .int (x 7), .int (x 8), .int (x 9), .ref 85, .int (x 10)]) (h74 : g.2 74 = aI 141 f) (hW : nwf f W) (hn0 : W 0 = n) (hn : n ≤ 9) (hv : wv W) (hQ : Q (some (.int (nI (slp (neW W) n)))) g) : wp 195 b 0 [.ref 73, .null, .null] [] g Q := by
  have loop : ∀ d i, i + d = n → wp 195 b 4 [.ref 73, .int (nI (slp (neW W) i)), .int (nI i)] [] g Q := by
    intro d
    induction d with
    | zero =>
      intro i hi
      have hi : i = n := by omega
      subst hi
      rw [q_X11_stretches_4]
      simp (disch := omega) only [q_X11_stretches_5, q_X11_stretches_6, hM, y_is, y_gf, y_pf, y_f0, y_f1, y_f3, y_nI, y_nK, y_nZ, y_nL, y_nR, y_k1i, y_k1r, y_k1l, y_k1n, y_tl, y_tn, y_s, y_ss, List.getElem?_cons_zero, List.getElem?_cons_succ, List.set_cons_zero, List.set_cons_succ, List.length_cons, List.length_nil, true_and, and_true]
      refine s_watched hM h74 hW ?_
      rw [hn0]
      simp (disch := omega) only [q_X11_stretches_9, q_X11_stretches_38, q_X11_stretches_39, y_is, y_gf, y_pf, y_f0, y_f1, y_f3, y_nI, y_nK, y_nZ, y_nL, y_nR, y_k1i, y_k1r, y_k1l, y_k1n, y_tl, y_tn, y_s, y_ss, List.getElem?_cons_zero, List.getElem?_cons_succ, List.set_cons_zero, List.set_cons_succ, List.length_cons, List.length_nil, true_and, and_true, le_n]
      exact br1 (by omega) hQ
    | succ d ih =>
      intro i hi
      have e := hW (19 + i) (by omega)
      rw [wI_n (by omega)] at e
      have hb := (hv.2.1 i (by omega)).2.2.1
      have := ih (i + 1) (by omega)
      rw [slp] at this
      rw [q_X11_stretches_4]
      simp (disch := omega) only [q_X11_stretches_5, q_X11_stretches_6, hM, y_is, y_gf, y_pf, y_f0, y_f1, y_f3, y_nI, y_nK, y_nZ, y_nL, y_nR, y_k1i, y_k1r, y_k1l, y_k1n, y_tl, y_tn, y_s, y_ss, List.getElem?_cons_zero, List.getElem?_cons_succ, List.set_cons_zero, List.set_cons_succ, List.length_cons, List.length_nil, true_and, and_true]
      refine s_watched hM h74 hW ?_
      rw [hn0]
      simp (disch := omega) only [q_X11_stretches_9, q_X11_stretches_12, q_X11_stretches_13, q_X11_stretches_14, q_X11_stretches_17, q_X11_stretches_19, q_X11_stretches_20, q_X11_stretches_21, q_X11_stretches_22, hM, h74, e, y_is, y_gf, y_pf, y_f0, y_f1, y_f3, y_nI, y_nK, y_nZ, y_nL, y_nR, y_k1i, y_k1r, y_k1l, y_k1n, y_tl, y_tn, y_s, y_ss, List.getElem?_cons_zero, List.getElem?_cons_succ, List.set_cons_zero, List.set_cons_succ, List.length_cons, List.length_nil, true_and, and_true, y_lIn, y_lKn, y_lZn, y_lLn, y_wIn, y_wZn, y_wLn, lit, le_n, lt_n, eq_n, lit, le_n, nI_add]
      refine br0 (by omega) (brs (fun z => ?_) (fun z => ?_))
      · rw [if_neg (by show ¬ 0 < W (19 + i); omega)] at this
        simp (disch := omega) only [q_X11_stretches_29, q_X11_stretches_30, q_X11_stretches_31, q_X11_stretches_32, q_X11_stretches_35, y_is, y_gf, y_pf, y_f0, y_f1, y_f3, y_nI, y_nK, y_nZ, y_nL, y_nR, y_k1i, y_k1r, y_k1l, y_k1n, y_tl, y_tn, y_s, y_ss, List.getElem?_cons_zero, List.getElem?_cons_succ, List.set_cons_zero, List.set_cons_succ, List.length_cons, List.length_nil, true_and, and_true, lit, nI_add]
        exact this
      · rw [if_pos (by show 0 < W (19 + i); omega)] at this
        simp (disch := omega) only [q_X11_stretches_25, q_X11_stretches_26, q_X11_stretches_30, q_X11_stretches_31, q_X11_stretches_32, q_X11_stretches_35, y_is, y_gf, y_pf, y_f0, y_f1, y_f3, y_nI, y_nK, y_nZ, y_nL, y_nR, y_k1i, y_k1r, y_k1l, y_k1n, y_tl, y_tn, y_s, y_ss, List.getElem?_cons_zero, List.getElem?_cons_succ, List.set_cons_zero, List.set_cons_succ, List.length_cons, List.length_nil, true_and, and_true, lit, nI_add]
        exact this
  simp only [q_X11_stretches_0, q_X11_stretches_1, q_X11_stretches_2, q_X11_stretches_3, y_is, y_gf, y_pf, y_f0, y_f1, y_f3, y_nI, y_nK, y_nZ, y_nL, y_nR, y_k1i, y_k1r, y_k1l, y_k1n, y_tl, y_tn, y_s, y_ss, List.getElem?_cons_zero, List.getElem?_cons_succ, List.set_cons_zero, List.set_cons_succ, List.length_cons, List.length_nil, true_and, and_true, lit]
  exact loop n 0 (by omega)
theorem s_mways {s idle : Nat} (hs : s ≤ 20) (hi : idle ≤ 20) (hQ : Q (some (.long (lN (wys idle s)))) g) : wp 194 b 0 [.int (nI s), .int (nI idle), .null, .null, .null] [] g Q := by
  have loop : ∀ d i, i + d = s → wp 194 b 7 [.int (nI s), .int (nI idle), .long (lN (wys idle i)), .null, .int (nI (idle + (i + 1)))] [] g Q := by
    intro d
    induction d with
    | zero =>
      intro i hi'
      have hi' : i = s := by omega
      subst hi'
      rw [q_X11_ways_7]
      simp (disch := omega) only [q_X11_ways_9, q_X11_ways_10, q_X11_ways_11, q_X11_ways_12, q_X11_ways_27, q_X11_ways_28, y_is, y_gf, y_pf, y_f0, y_f1, y_f3, y_nI, y_nK, y_nZ, y_nL, y_nR, y_k1i, y_k1r, y_k1l, y_k1n, y_tl, y_tn, y_s, y_ss, List.getElem?_cons_zero, List.getElem?_cons_succ, List.set_cons_zero, List.set_cons_succ, List.length_cons, List.length_nil, true_and, and_true, y_lIn, y_lKn, y_lZn, y_lLn, y_wIn, y_wZn, y_wLn, lit, le_n, lt_n, eq_n, lit, litL, le_n, lt_n, eq_n, nI_add, m_neg, pk_sub, pk_mul, i_l, l_i, l_add, l_mul, l_sub, lc_le, lc_ge, lc_lt, lc_gt, lc_eq, l_rem2, l_rem3, i_rem2, i_rem3]
      exact br1 (by omega) hQ
    | succ d ih =>
      intro i hi'
      rw [q_X11_ways_7]
      simp (disch := omega) only [q_X11_ways_9, q_X11_ways_10, q_X11_ways_11, q_X11_ways_12, q_X11_ways_15, q_X11_ways_16, q_X11_ways_18, q_X11_ways_19, q_X11_ways_20, q_X11_ways_21, q_X11_ways_24, y_is, y_gf, y_pf, y_f0, y_f1, y_f3, y_nI, y_nK, y_nZ, y_nL, y_nR, y_k1i, y_k1r, y_k1l, y_k1n, y_tl, y_tn, y_s, y_ss, List.getElem?_cons_zero, List.getElem?_cons_succ, List.set_cons_zero, List.set_cons_succ, List.length_cons, List.length_nil, true_and, and_true, lit, lt_n, nI_add, i_l, l_mul]
      exact br0 (by omega) (ih (i + 1) (by omega))
  simp (disch := omega) only [q_X11_ways_0, q_X11_ways_1, q_X11_ways_2, q_X11_ways_3, q_X11_ways_4, q_X11_ways_5, y_is, y_gf, y_pf, y_f0, y_f1, y_f3, y_nI, y_nK, y_nZ, y_nL, y_nR, y_k1i, y_k1r, y_k1l, y_k1n, y_tl, y_tn, y_s, y_ss, List.getElem?_cons_zero, List.getElem?_cons_succ, List.set_cons_zero, List.set_cons_succ, List.length_cons, List.length_nil, true_and, and_true, lit, litL, nI_add]
  exact loop s 0 (by omega)
theorem s_haul {p : Nat} (hM : g.2 73 = ob 9 [.ref 74, .ref 75, .ref 76, .ref 77, .ref 78, .ref 79, .int (x 0), .int (x 1), .int (x 2), .ref 80, .int (x 3), .ref 81, .int (x 4), .ref 82, .long (r), .ref 83, .ref 84, .int (x 5), .int (x 6), .int (x 7), .int (x 8), .int (x 9), .ref 85, .int (x 10)]) (h74 : g.2 74 = aI 141 f) (hW : nwf f W) (hp : p < 9) (hQ : Q (some (.int (nI (shW W p * woW W p)))) g) : wp 177 b 0 [.ref 73, .int (nI p)] [] g Q := by
  have e1 := hW (10 + p) (by omega)
  have e2 := hW (1 + p) (by omega)
  rw [wI_n (by omega)] at e1 e2
  simp (disch := omega) only [q_X11_haul_0, q_X11_haul_1, q_X11_haul_4, q_X11_haul_6, q_X11_haul_7, q_X11_haul_8, q_X11_haul_9, q_X11_haul_10, q_X11_haul_13, q_X11_haul_14, q_X11_haul_15, q_X11_haul_16, q_X11_haul_17, q_X11_haul_18, hM, h74, e1, e2, y_is, y_gf, y_pf, y_f0, y_f1, y_f3, y_nI, y_nK, y_nZ, y_nL, y_nR, y_k1i, y_k1r, y_k1l, y_k1n, y_tl, y_tn, y_s, y_ss, List.getElem?_cons_zero, List.getElem?_cons_succ, List.set_cons_zero, List.set_cons_succ, List.length_cons, List.length_nil, true_and, and_true, y_lIn, y_lKn, y_lZn, y_lLn, y_wIn, y_wZn, y_wLn, lit, le_n, lt_n, eq_n, lit, nI_add, pk_mul]
  exact hQ
/-- what a thief has of a POST, times WHOLE -/
def hauW (W : Nat → Nat) (p : Nat) : Nat := shW W p * woW W p
theorem hau_b {W : Nat → Nat} (hv : wv W) {p : Nat} (hp : p < 9) : hauW W p ≤ 9801 := Nat.mul_le_mul (hv.2.1 p hp).2.1 (hv.2.1 p hp).1
theorem s_bestPost {n : Nat} (hM : g.2 73 = ob 9 [.ref 74, .ref 75, .ref 76, .ref 77, .ref 78, .ref 79, .int (x 0), .int (x 1), .int (x 2), .ref 80, .int (x 3), .ref 81, .int (x 4), .ref 82, .long (r), .ref 83, .ref 84, .int (x 5), .int (x 6), .int (x 7), .int (x 8), .int (x 9), .ref 85, .int (x 10)]) (h74 : g.2 74 = aI 141 f) (hW : nwf f W) (hn0 : W 0 = n) (h1 : 1 ≤ n) (hn : n ≤ 9) (hv : wv W) (hQ : Q (some (.int (nI (hvN (hauW W) n)))) g) : wp 179 b 0 [.ref 73, .null, .null] [] g Q := by
  have loop : ∀ d i, i + d = n → 1 ≤ i → wp 179 b 4 [.ref 73, .int (nI (hvN (hauW W) i)), .int (nI i)] [] g Q := by
    intro d
    induction d with
    | zero =>
      intro i hi h1'
      have hi : i = n := by omega
      subst hi
      rw [q_X11_bestPost_4]
      simp (disch := omega) only [q_X11_bestPost_5, q_X11_bestPost_6, hM, y_is, y_gf, y_pf, y_f0, y_f1, y_f3, y_nI, y_nK, y_nZ, y_nL, y_nR, y_k1i, y_k1r, y_k1l, y_k1n, y_tl, y_tn, y_s, y_ss, List.getElem?_cons_zero, List.getElem?_cons_succ, List.set_cons_zero, List.set_cons_succ, List.length_cons, List.length_nil, true_and, and_true]
      refine s_watched hM h74 hW ?_
      rw [hn0]
      simp (disch := omega) only [q_X11_bestPost_9, q_X11_bestPost_37, q_X11_bestPost_38, y_is, y_gf, y_pf, y_f0, y_f1, y_f3, y_nI, y_nK, y_nZ, y_nL, y_nR, y_k1i, y_k1r, y_k1l, y_k1n, y_tl, y_tn, y_s, y_ss, List.getElem?_cons_zero, List.getElem?_cons_succ, List.set_cons_zero, List.set_cons_succ, List.length_cons, List.length_nil, true_and, and_true, le_n]
      exact br1 (by omega) hQ
    | succ d ih =>
      intro i hi h1'
      have hl := hvN_lt (hauW W) i
      have := ih (i + 1) (by omega) (by omega)
      rw [hvN] at this
      have b1 := hau_b hv (show i < 9 by omega)
      have b2 := hau_b hv (show hvN (hauW W) i < 9 by omega)
      rw [q_X11_bestPost_4]
      simp (disch := omega) only [q_X11_bestPost_5, q_X11_bestPost_6, hM, y_is, y_gf, y_pf, y_f0, y_f1, y_f3, y_nI, y_nK, y_nZ, y_nL, y_nR, y_k1i, y_k1r, y_k1l, y_k1n, y_tl, y_tn, y_s, y_ss, List.getElem?_cons_zero, List.getElem?_cons_succ, List.set_cons_zero, List.set_cons_succ, List.length_cons, List.length_nil, true_and, and_true]
      refine s_watched hM h74 hW ?_
      rw [hn0]
      simp (disch := omega) only [q_X11_bestPost_9, q_X11_bestPost_12, q_X11_bestPost_13, q_X11_bestPost_14, hM, y_is, y_gf, y_pf, y_f0, y_f1, y_f3, y_nI, y_nK, y_nZ, y_nL, y_nR, y_k1i, y_k1r, y_k1l, y_k1n, y_tl, y_tn, y_s, y_ss, List.getElem?_cons_zero, List.getElem?_cons_succ, List.set_cons_zero, List.set_cons_succ, List.length_cons, List.length_nil, true_and, and_true, le_n]
      refine br0 (by omega) (s_haul hM h74 hW (by omega) ?_)
      simp (disch := omega) only [q_X11_bestPost_17, q_X11_bestPost_18, q_X11_bestPost_19, hM, y_is, y_gf, y_pf, y_f0, y_f1, y_f3, y_nI, y_nK, y_nZ, y_nL, y_nR, y_k1i, y_k1r, y_k1l, y_k1n, y_tl, y_tn, y_s, y_ss, List.getElem?_cons_zero, List.getElem?_cons_succ, List.set_cons_zero, List.set_cons_succ, List.length_cons, List.length_nil, true_and, and_true]
      refine s_haul hM h74 hW (by omega) ?_
      show wp 179 b 22 _ ((some (Value.int (nI (hauW W (hvN (hauW W) i))))).toList ++ [.int (nI (hauW W i))]) g Q
      simp (disch := omega) only [q_X11_bestPost_22, y_is, y_gf, y_pf, y_f0, y_f1, y_f3, y_nI, y_nK, y_nZ, y_nL, y_nR, y_k1i, y_k1r, y_k1l, y_k1n, y_tl, y_tn, y_s, y_ss, List.getElem?_cons_zero, List.getElem?_cons_succ, List.set_cons_zero, List.set_cons_succ, List.length_cons, List.length_nil, true_and, and_true, le_n]
      refine brs (fun z => ?_) (fun z => ?_)
      · rw [if_pos z] at this
        simp (disch := omega) only [q_X11_bestPost_29, q_X11_bestPost_30, q_X11_bestPost_31, q_X11_bestPost_34, y_is, y_gf, y_pf, y_f0, y_f1, y_f3, y_nI, y_nK, y_nZ, y_nL, y_nR, y_k1i, y_k1r, y_k1l, y_k1n, y_tl, y_tn, y_s, y_ss, List.getElem?_cons_zero, List.getElem?_cons_succ, List.set_cons_zero, List.set_cons_succ, List.length_cons, List.length_nil, true_and, and_true, lit, nI_add]
        exact this
      · rw [if_neg z] at this
        simp (disch := omega) only [q_X11_bestPost_25, q_X11_bestPost_26, q_X11_bestPost_30, q_X11_bestPost_31, q_X11_bestPost_34, y_is, y_gf, y_pf, y_f0, y_f1, y_f3, y_nI, y_nK, y_nZ, y_nL, y_nR, y_k1i, y_k1r, y_k1l, y_k1n, y_tl, y_tn, y_s, y_ss, List.getElem?_cons_zero, List.getElem?_cons_succ, List.set_cons_zero, List.set_cons_succ, List.length_cons, List.length_nil, true_and, and_true, lit, nI_add]
        exact this
  simp only [q_X11_bestPost_0, q_X11_bestPost_1, q_X11_bestPost_2, q_X11_bestPost_3, y_is, y_gf, y_pf, y_f0, y_f1, y_f3, y_nI, y_nK, y_nZ, y_nL, y_nR, y_k1i, y_k1r, y_k1l, y_k1n, y_tl, y_tn, y_s, y_ss, List.getElem?_cons_zero, List.getElem?_cons_succ, List.set_cons_zero, List.set_cons_succ, List.length_cons, List.length_nil, true_and, and_true, lit]
  have := loop (n - 1) 1 (by omega) (by omega)
  rw [show hvN (hauW W) 1 = 0 by simp [hvN]] at this
  exact this
/-- new POSTS -/
def layW (W : Nat → Nat) (n : Nat) : Nat → Nat := fun k => if k = 0 then n else if k < 10 then 10 else if k < 19 then 1 else if k < 46 then 0 else if k = 47 ∨ k = 50 ∨ k = 87 then 0 else W k
theorem s_begin {n : Nat} (hM : g.2 73 = ob 9 [.ref 74, .ref 75, .ref 76, .ref 77, .ref 78, .ref 79, .int (x 0), .int (x 1), .int (x 2), .ref 80, .int (x 3), .ref 81, .int (x 4), .ref 82, .long (r), .ref 83, .ref 84, .int (x 5), .int (x 6), .int (x 7), .int (x 8), .int (x 9), .ref 85, .int (x 10)]) (h74 : g.2 74 = aI 141 f) (hW : nwf f W) (hQ : ∀ g' f', g'.2 74 = aI 141 f' → nwf f' (layW W n) → fr g g' 74 75 → Q none g') : wp 149 b 0 [.ref 73, .int (nI n), .null] [] g Q := by
  have loop : ∀ (d i : Nat) (g' : mzG) (f' : Nat → Int32), i + d = 9 → g'.2 73 = ob 9 [.ref 74, .ref 75, .ref 76, .ref 77, .ref 78, .ref 79, .int (x 0), .int (x 1), .int (x 2), .ref 80, .int (x 3), .ref 81, .int (x 4), .ref 82, .long (r), .ref 83, .ref 84, .int (x 5), .int (x 6), .int (x 7), .int (x 8), .int (x 9), .ref 85, .int (x 10)] → g'.2 74 = aI 141 f' → (∀ k, k < 141 → f' k = if k = 0 then nI n else if 1 ≤ k ∧ k < 1 + i then nI 10 else if 10 ≤ k ∧ k < 10 + i then nI 1 else if (19 ≤ k ∧ k < 19 + i) ∨ (28 ≤ k ∧ k < 28 + i) ∨ (37 ≤ k ∧ k < 37 + i) then nI 0 else f k) → fr g g' 74 75 → wp 149 b 9 [.ref 73, .int (nI n), .int (nI i)] [] g' Q := by
    intro d
    induction d with
    | zero =>
      intro i g' f' hi hM' h74' hf' hfr
      have hi : i = 9 := by omega
      subst hi
      rw [q_X11_begin_9]
      simp (disch := omega) only [q_X11_begin_10, q_X11_begin_12, q_X11_begin_71, q_X11_begin_72, q_X11_begin_75, q_X11_begin_77, q_X11_begin_78, q_X11_begin_79, q_X11_begin_80, q_X11_begin_83, q_X11_begin_85, q_X11_begin_86, q_X11_begin_87, q_X11_begin_88, q_X11_begin_91, q_X11_begin_93, q_X11_begin_94, q_X11_begin_95, hM', h74', y_ne, y_is, y_gf, y_pf, y_f0, y_f1, y_f3, y_nI, y_nK, y_nZ, y_nL, y_nR, y_k1i, y_k1r, y_k1l, y_k1n, y_tl, y_tn, y_s, y_ss, List.getElem?_cons_zero, List.getElem?_cons_succ, List.set_cons_zero, List.set_cons_succ, List.length_cons, List.length_nil, true_and, and_true, y_lIn, y_lKn, y_lZn, y_lLn, y_wIn, y_wZn, y_wLn, lit, le_n, lt_n, eq_n, lit, litL, le_n, lt_n, eq_n, nI_add, m_neg, pk_sub, pk_mul, i_l, l_i, l_add, l_mul, l_sub, lc_le, lc_ge, lc_lt, lc_gt, lc_eq, l_rem2, l_rem3, i_rem2, i_rem3]
      refine br1 (by first | decide | omega | trivial | simp) (hQ _ _ y_s (fun k hk => ?_) (hfr.hs (by omega) (by omega)))
      unfold layW
      by_cases e1 : k = 87
      · subst e1; rw [u_s]; rfl
      rw [u_n e1]
      by_cases e2 : k = 50
      · subst e2; rw [u_s]; rfl
      rw [u_n e2]
      by_cases e3 : k = 47
      · subst e3; rw [u_s]; rfl
      rw [u_n e3, hf' k hk]
      by_cases c0 : k = 0
      · rw [if_pos c0, if_pos c0, wI_n (by omega)]
      rw [if_neg c0, if_neg c0]
      by_cases c1 : k < 10
      · rw [if_pos (by omega), if_pos c1, wI_n (by omega)]
      rw [if_neg (by omega), if_neg c1]
      by_cases c2 : k < 19
      · rw [if_pos (by omega), if_pos c2, wI_n (by omega)]
      rw [if_neg (by omega), if_neg c2]
      by_cases c3 : k < 46
      · rw [if_pos (by omega), if_pos c3, wI_n (by omega)]
      rw [if_neg (by omega), if_neg c3, if_neg (by omega)]
      exact hW k hk
    | succ d ih =>
      intro i g' f' hi hM' h74' hf' hfr
      rw [q_X11_begin_9]
      simp (disch := omega) only [q_X11_begin_10, q_X11_begin_12, q_X11_begin_15, q_X11_begin_16, q_X11_begin_19, q_X11_begin_20, q_X11_begin_21, q_X11_begin_22, q_X11_begin_24, q_X11_begin_25, q_X11_begin_26, q_X11_begin_29, q_X11_begin_31, q_X11_begin_32, q_X11_begin_33, q_X11_begin_34, q_X11_begin_35, q_X11_begin_36, q_X11_begin_39, q_X11_begin_41, q_X11_begin_42, q_X11_begin_43, q_X11_begin_44, q_X11_begin_45, q_X11_begin_46, q_X11_begin_49, q_X11_begin_51, q_X11_begin_52, q_X11_begin_53, q_X11_begin_54, q_X11_begin_55, q_X11_begin_56, q_X11_begin_59, q_X11_begin_61, q_X11_begin_62, q_X11_begin_63, q_X11_begin_64, q_X11_begin_65, q_X11_begin_68, hM', h74', y_ne, y_is, y_gf, y_pf, y_f0, y_f1, y_f3, y_nI, y_nK, y_nZ, y_nL, y_nR, y_k1i, y_k1r, y_k1l, y_k1n, y_tl, y_tn, y_s, y_ss, List.getElem?_cons_zero, List.getElem?_cons_succ, List.set_cons_zero, List.set_cons_succ, List.length_cons, List.length_nil, true_and, and_true, y_lIn, y_lKn, y_lZn, y_lLn, y_wIn, y_wZn, y_wLn, lit, le_n, lt_n, eq_n, lit, litL, le_n, lt_n, eq_n, nI_add, m_neg, pk_sub, pk_mul, i_l, l_i, l_add, l_mul, l_sub, lc_le, lc_ge, lc_lt, lc_gt, lc_eq, l_rem2, l_rem3, i_rem2, i_rem3]
      refine br0 (by omega) (ih (i + 1) _ _ (by omega) (by rw [y_ne (by decide)]; exact hM') y_s (fun k hk => ?_) (hfr.hs (by omega) (by omega)))
      by_cases e1 : k = 37 + i
      · subst e1; rw [u_s, if_neg (by omega), if_neg (by omega), if_neg (by omega), if_pos (by omega)]
      rw [u_n e1]
      by_cases e2 : k = 28 + i
      · subst e2; rw [u_s, if_neg (by omega), if_neg (by omega), if_neg (by omega), if_pos (by omega)]
      rw [u_n e2]
      by_cases e3 : k = 19 + i
      · subst e3; rw [u_s, if_neg (by omega), if_neg (by omega), if_neg (by omega), if_pos (by omega)]
      rw [u_n e3]
      by_cases e4 : k = 10 + i
      · subst e4; rw [u_s, if_neg (by omega), if_neg (by omega), if_pos (by omega)]
      rw [u_n e4]
      by_cases e5 : k = 1 + i
      · subst e5; rw [u_s, if_neg (by omega), if_pos (by omega)]
      rw [u_n e5, hf' k hk]
      by_cases c0 : k = 0
      · rw [if_pos c0, if_pos c0]
      rw [if_neg c0, if_neg c0]
      by_cases c1 : 1 ≤ k ∧ k < 1 + i
      · rw [if_pos c1, if_pos (show 1 ≤ k ∧ k < 1 + (i + 1) by omega)]
      rw [if_neg c1, if_neg (show ¬ (1 ≤ k ∧ k < 1 + (i + 1)) by omega)]
      by_cases c2 : 10 ≤ k ∧ k < 10 + i
      · rw [if_pos c2, if_pos (show 10 ≤ k ∧ k < 10 + (i + 1) by omega)]
      rw [if_neg c2, if_neg (show ¬ (10 ≤ k ∧ k < 10 + (i + 1)) by omega)]
      by_cases c3 : (19 ≤ k ∧ k < 19 + i) ∨ (28 ≤ k ∧ k < 28 + i) ∨ (37 ≤ k ∧ k < 37 + i)
      · rw [if_pos c3, if_pos (show (19 ≤ k ∧ k < 19 + (i + 1)) ∨ (28 ≤ k ∧ k < 28 + (i + 1)) ∨ (37 ≤ k ∧ k < 37 + (i + 1)) by omega)]
      rw [if_neg c3, if_neg (show ¬ ((19 ≤ k ∧ k < 19 + (i + 1)) ∨ (28 ≤ k ∧ k < 28 + (i + 1)) ∨ (37 ≤ k ∧ k < 37 + (i + 1))) by omega)]
  simp (disch := omega) only [q_X11_begin_0, q_X11_begin_1, q_X11_begin_4, q_X11_begin_5, q_X11_begin_6, q_X11_begin_7, q_X11_begin_8, hM, h74, y_is, y_gf, y_pf, y_f0, y_f1, y_f3, y_nI, y_nK, y_nZ, y_nL, y_nR, y_k1i, y_k1r, y_k1l, y_k1n, y_tl, y_tn, y_s, y_ss, List.getElem?_cons_zero, List.getElem?_cons_succ, List.set_cons_zero, List.set_cons_succ, List.length_cons, List.length_nil, true_and, and_true, y_lIn, y_lKn, y_lZn, y_lLn, y_wIn, y_wZn, y_wLn, lit, le_n, lt_n, eq_n, lit]
  refine loop 9 0 _ _ (by omega) (by rw [y_ne (by decide)]; exact hM) y_s (fun k hk => ?_) (fr.rf.hs (by omega) (by omega))
  by_cases c0 : k = 0
  · subst c0; rw [u_s, if_pos rfl]
  · rw [u_n c0, if_neg c0, if_neg (by omega), if_neg (by omega), if_neg (by omega)]
theorem s_byRound {hour : Nat} (hM : g.2 73 = ob 9 [.ref 74, .ref 75, .ref 76, .ref 77, .ref 78, .ref 79, .int (x 0), .int (x 1), .int (x 2), .ref 80, .int (x 3), .ref 81, .int (x 4), .ref 82, .long (r), .ref 83, .ref 84, .int (x 5), .int (x 6), .int (x 7), .int (x 8), .int (x 9), .ref 85, .int (x 10)]) (h74 : g.2 74 = aI 141 f) (hW : nwf f W) (hv : wv W) (hh : hour ≤ 9999) (hQ : Q (some (.int (nI (trn (W 0) (W 47) (W 48) hour)))) g) : wp 172 b 0 [.ref 73, .int (nI hour)] [] g Q := by
  have e1 := hW 47 (by omega)
  have e2 := hW 48 (by omega)
  rw [wI_n (by omega)] at e1 e2
  obtain ⟨⟨n1, n9⟩, -, ⟨-, h47, h48, -⟩, -⟩ := hv
  have hm : hour * W 48 ≤ 9999 * 9 := Nat.mul_le_mul hh h48
  simp (disch := omega) only [q_X11_byRound_0, q_X11_byRound_1, q_X11_byRound_4, q_X11_byRound_6, q_X11_byRound_7, q_X11_byRound_8, q_X11_byRound_9, q_X11_byRound_12, q_X11_byRound_14, q_X11_byRound_15, q_X11_byRound_16, q_X11_byRound_17, q_X11_byRound_18, hM, h74, e1, e2, y_is, y_gf, y_pf, y_f0, y_f1, y_f3, y_nI, y_nK, y_nZ, y_nL, y_nR, y_k1i, y_k1r, y_k1l, y_k1n, y_tl, y_tn, y_s, y_ss, List.getElem?_cons_zero, List.getElem?_cons_succ, List.set_cons_zero, List.set_cons_succ, List.length_cons, List.length_nil, true_and, and_true, y_lIn, y_lKn, y_lZn, y_lLn, y_wIn, y_wZn, y_wLn, lit, le_n, lt_n, eq_n, lit, pk_mul, nI_add]
  refine s_watched hM h74 hW ?_
  simp (disch := omega) only [q_X11_byRound_21, q_X11_byRound_22, y_is, y_gf, y_pf, y_f0, y_f1, y_f3, y_nI, y_nK, y_nZ, y_nL, y_nR, y_k1i, y_k1r, y_k1l, y_k1n, y_tl, y_tn, y_s, y_ss, List.getElem?_cons_zero, List.getElem?_cons_succ, List.set_cons_zero, List.set_cons_succ, List.length_cons, List.length_nil, true_and, and_true, lit, eq_n, i_rem1]
  exact ⟨by omega, hQ⟩
theorem s_stepped {v : Nat} (hx : v < 2147483648) (hQ : Q (some (.long (lN (nxd v)))) g) : wp 170 b 0 [.long (lN v), .null] [] g Q := by
  simp (disch := omega) only [q_X11_stepped_0, q_X11_stepped_1, q_X11_stepped_4, q_X11_stepped_5, q_X11_stepped_8, q_X11_stepped_9, q_X11_stepped_12, q_X11_stepped_13, y_is, y_gf, y_pf, y_f0, y_f1, y_f3, y_nI, y_nK, y_nZ, y_nL, y_nR, y_k1i, y_k1r, y_k1l, y_k1n, y_tl, y_tn, y_s, y_ss, List.getElem?_cons_zero, List.getElem?_cons_succ, List.set_cons_zero, List.set_cons_succ, List.length_cons, List.length_nil, true_and, and_true, litL, l_mul, l_add, l_eq, l_rem]
  exact ⟨by omega, hQ⟩
theorem s_mbyLot {hour p : Nat} (hM : g.2 73 = ob 9 [.ref 74, .ref 75, .ref 76, .ref 77, .ref 78, .ref 79, .int (x 0), .int (x 1), .int (x 2), .ref 80, .int (x 3), .ref 81, .int (x 4), .ref 82, .long (r), .ref 83, .ref 84, .int (x 5), .int (x 6), .int (x 7), .int (x 8), .int (x 9), .ref 85, .int (x 10)]) (h74 : g.2 74 = aI 141 f) (hW : nwf f W) (hv : wv W) (hh : hour ≤ 9999) (h0 : 0 < sm (shW W) (W 0)) (hp : lot (shW W) (lotR (shW W) (W 0) (W 49) hour) (W 0) 0 = some p) (hQ : Q (some (.int (nI p))) g) : wp 171 b 0 [.ref 73, .int (nI hour), .null, .null, .null, .null, .null, .null, .null] [] g Q := by
  have e1 := hW 49 (by omega)
  have e2 := hW 10 (by omega)
  rw [wI_n (by omega)] at e1 e2
  obtain ⟨⟨n1, n9⟩, hpp, ⟨-, -, -, h49, -⟩, -⟩ := hv
  have hsd : W 49 < 2147483648 := by omega
  have hsb : ∀ i, i < W 0 → shW W i ≤ 99 := fun i hi => (hpp i (by omega)).2.1
  have hb := sm_b hsb n9
  have l1 : ∀ d h (x5 x6 x7 x8 : Value), h + d = hour + 1 → wp 171 b 12 [.ref 73, .int (nI hour), .long (lN (drw (W 49) h)), .null, .int (nI h), x5, x6, x7, x8] [] g Q := by
    intro d
    induction d with
    | zero =>
      intro h x5 x6 x7 x8 hd
      have hd : h = hour + 1 := by omega
      subst hd
      have hd := drw_lt hsd (hour + 1)
      have hdd : drw (W 49) (hour + 1) / 65536 ≤ drw (W 49) (hour + 1) := Nat.div_le_self _ _
      rw [q_X11_byLot_12]
      simp (disch := omega) only [q_X11_byLot_14, q_X11_byLot_15, q_X11_byLot_18, q_X11_byLot_19, q_X11_byLot_22, q_X11_byLot_23, q_X11_byLot_26, q_X11_byLot_29, q_X11_byLot_30, q_X11_byLot_33, q_X11_byLot_34, q_X11_byLot_35, hM, y_is, y_gf, y_pf, y_f0, y_f1, y_f3, y_nI, y_nK, y_nZ, y_nL, y_nR, y_k1i, y_k1r, y_k1l, y_k1n, y_tl, y_tn, y_s, y_ss, List.getElem?_cons_zero, List.getElem?_cons_succ, List.set_cons_zero, List.set_cons_succ, List.length_cons, List.length_nil, true_and, and_true, lit, litL, lt_n, l_eq, l_div]
      refine br1 (by omega) ⟨by omega, s_mwhole hM h74 hW rfl n9 ?_⟩
      simp (disch := omega) only [q_X11_byLot_38, q_X11_byLot_39, q_X11_byLot_40, q_X11_byLot_42, q_X11_byLot_43, q_X11_byLot_45, q_X11_byLot_46, q_X11_byLot_49, q_X11_byLot_51, q_X11_byLot_52, q_X11_byLot_53, hM, h74, e2, y_is, y_gf, y_pf, y_f0, y_f1, y_f3, y_nI, y_nK, y_nZ, y_nL, y_nR, y_k1i, y_k1r, y_k1l, y_k1n, y_tl, y_tn, y_s, y_ss, List.getElem?_cons_zero, List.getElem?_cons_succ, List.set_cons_zero, List.set_cons_succ, List.length_cons, List.length_nil, true_and, and_true, y_lIn, y_lKn, y_lZn, y_lLn, y_wIn, y_wZn, y_wLn, lit, le_n, lt_n, eq_n, lit, litL, i_l, l_eq, l_rem, l_rem2]
      refine ⟨by omega, ?_⟩
      have hr : lotR (shW W) (W 0) (W 49) hour < sm (shW W) (W 0) := Nat.mod_lt _ h0
      have rl : lotR (shW W) (W 0) (W 49) hour = drw (W 49) (hour + 1) / 65536 % sm (shW W) (W 0) := rfl
      have hfin : ∀ d i (x6' : Value), i + d = W 0 → lot (shW W) (lotR (shW W) (W 0) (W 49) hour) d i = some p → wp 171 b 55 [.ref 73, .int (nI hour), .long (lN (drw (W 49) (hour + 1))), .null, .long (lN (lotR (shW W) (W 0) (W 49) hour)), .null, .int (nI i), .long (lN (sm (shW W) (i + 1))), .null] [] g Q := by
        generalize lotR (shW W) (W 0) (W 49) hour = R at hr
        intro d
        induction d with
        | zero => intro i x6' hi hl; simp [lot] at hl
        | succ d ih =>
          intro i x6' hi hl
          rw [lot] at hl
          have hm : sm (shW W) (i + 1) ≤ sm (shW W) (W 0) := sm_mono _ (by omega)
          rw [q_X11_byLot_55]
          simp (disch := omega) only [q_X11_byLot_57, q_X11_byLot_59, q_X11_byLot_60, y_is, y_gf, y_pf, y_f0, y_f1, y_f3, y_nI, y_nK, y_nZ, y_nL, y_nR, y_k1i, y_k1r, y_k1l, y_k1n, y_tl, y_tn, y_s, y_ss, List.getElem?_cons_zero, List.getElem?_cons_succ, List.set_cons_zero, List.set_cons_succ, List.length_cons, List.length_nil, true_and, and_true, lit, lc_gt]
          refine brs (fun z => ?_) (fun z => ?_)
          · rw [if_pos z] at hl
            have := Option.some.inj hl
            subst this
            simp (disch := omega) only [q_X11_byLot_85, q_X11_byLot_87, y_is, y_gf, y_pf, y_f0, y_f1, y_f3, y_nI, y_nK, y_nZ, y_nL, y_nR, y_k1i, y_k1r, y_k1l, y_k1n, y_tl, y_tn, y_s, y_ss, List.getElem?_cons_zero, List.getElem?_cons_succ, List.set_cons_zero, List.set_cons_succ, List.length_cons, List.length_nil, true_and, and_true]
            exact hQ
          · rw [if_neg z] at hl
            have hi1 : i + 1 < W 0 := by
              cases d with
              | zero => simp [lot] at hl
              | succ d => omega
            have e3 := hW (10 + (i + 1)) (by omega)
            rw [wI_n (by omega)] at e3
            have h99 := hsb (i + 1) hi1
            have h99' : W (10 + (i + 1)) ≤ 99 := h99
            simp (disch := omega) only [q_X11_byLot_63, q_X11_byLot_66, q_X11_byLot_68, q_X11_byLot_69, q_X11_byLot_72, q_X11_byLot_74, q_X11_byLot_76, q_X11_byLot_77, q_X11_byLot_78, q_X11_byLot_79, q_X11_byLot_80, q_X11_byLot_82, hM, h74, e3, y_is, y_gf, y_pf, y_f0, y_f1, y_f3, y_nI, y_nK, y_nZ, y_nL, y_nR, y_k1i, y_k1r, y_k1l, y_k1n, y_tl, y_tn, y_s, y_ss, List.getElem?_cons_zero, List.getElem?_cons_succ, List.set_cons_zero, List.set_cons_succ, List.length_cons, List.length_nil, true_and, and_true, y_lIn, y_lKn, y_lZn, y_lLn, y_wIn, y_wZn, y_wLn, lit, le_n, lt_n, eq_n, lit, nI_add, i_l, l_add]
            exact ih (i + 1) .null (by omega) hl
      have := hfin (W 0) 0 .null (by omega) hp
      rw [show sm (shW W) (0 + 1) = W 10 by show 0 + W (10 + 0) = _; rw [Nat.zero_add, Nat.add_zero]] at this
      have h99 : W 10 ≤ 99 := (hpp 0 (by omega)).2.1
      rw [i_l (by omega)]
      exact this
    | succ d ih =>
      intro h x5 x6 x7 x8 hd
      rw [q_X11_byLot_12]
      simp (disch := omega) only [q_X11_byLot_14, q_X11_byLot_15, q_X11_byLot_18, q_X11_byLot_19, y_is, y_gf, y_pf, y_f0, y_f1, y_f3, y_nI, y_nK, y_nZ, y_nL, y_nR, y_k1i, y_k1r, y_k1l, y_k1n, y_tl, y_tn, y_s, y_ss, List.getElem?_cons_zero, List.getElem?_cons_succ, List.set_cons_zero, List.set_cons_succ, List.length_cons, List.length_nil, true_and, and_true, lt_n]
      refine br0 (by omega) (s_stepped (drw_lt hsd h) ?_)
      simp (disch := omega) only [q_X11_byLot_22, q_X11_byLot_23, q_X11_byLot_26, y_is, y_gf, y_pf, y_f0, y_f1, y_f3, y_nI, y_nK, y_nZ, y_nL, y_nR, y_k1i, y_k1r, y_k1l, y_k1n, y_tl, y_tn, y_s, y_ss, List.getElem?_cons_zero, List.getElem?_cons_succ, List.set_cons_zero, List.set_cons_succ, List.length_cons, List.length_nil, true_and, and_true, lit, nI_add]
      exact ih (h + 1) _ _ _ _ (by omega)
  simp (disch := omega) only [q_X11_byLot_0, q_X11_byLot_1, q_X11_byLot_4, q_X11_byLot_6, q_X11_byLot_7, q_X11_byLot_8, q_X11_byLot_9, q_X11_byLot_10, hM, h74, e1, y_is, y_gf, y_pf, y_f0, y_f1, y_f3, y_nI, y_nK, y_nZ, y_nL, y_nR, y_k1i, y_k1r, y_k1l, y_k1n, y_tl, y_tn, y_s, y_ss, List.getElem?_cons_zero, List.getElem?_cons_succ, List.set_cons_zero, List.set_cons_succ, List.length_cons, List.length_nil, true_and, and_true, y_lIn, y_lKn, y_lZn, y_lLn, y_wIn, y_wZn, y_wLn, lit, le_n, lt_n, eq_n, lit, i_l]
  exact l1 (hour + 1) 0 _ _ _ _ (by omega)
end MBASE
