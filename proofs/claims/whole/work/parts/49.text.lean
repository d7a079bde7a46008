/-! ===== texts that are constants ===== -/
def strc (g : mzG) (k : Nat) (wd : List Nat) : Prop := g.2 k = ob 700 [.ref (k + 4), .int 0] ∧ ∃ f, g.2 (k + 4) = aY wd.length f ∧ ∀ i c, wd[i]? = some c → f i = nI c ∧ c < 128
theorem sh0 : ∀ n : Fin 10, nI n.val >>> (0 &&& 31) = nI n.val := by decide +kernel
theorem ch0 : ∀ c : Fin 128, ((nI c.val &&& 255).toUInt32 % 65536).toInt32 = nI c.val := by decide +kernel
theorem ch1 : ∀ c : Fin 128, vp_nar .char (nI c.val) = nI c.val := by decide +kernel
section TEXT
variable {b : mzB} {Q : mzQ} {g : mzG}
theorem s_len {k : Nat} {wd : List Nat} (h : strc g k wd) (hl : wd.length < 10) (hQ : Q (some (.int (nI wd.length))) g) : wp 230 b 0 [.ref k] [] g Q := by
  obtain ⟨h0, f, h1, h2⟩ := h
  simp only [q_J0_length_8abf5_0, q_J0_length_8abf5_1, q_J0_length_8abf5_4, q_J0_length_8abf5_5, q_J0_length_8abf5_6, h0, h1, y_nY, y_is, y_gf, y_pf, y_f0, y_f1, y_f3, y_nI, y_nK, y_nZ, y_nL, y_nR, y_k1i, y_k1r, y_k1l, y_k1n, y_tl, y_tn, y_s, y_ss, List.getElem?_cons_zero, List.getElem?_cons_succ, List.set_cons_zero, List.set_cons_succ, List.length_cons, List.length_nil, true_and, and_true, q_J0_coder_7d493_0, q_J0_coder_7d493_3]
  refine br0 (by decide) ?_
  simp only [q_J0_coder_7d493_6, q_J0_coder_7d493_7, q_J0_coder_7d493_10, q_J0_coder_7d493_13, q_J0_coder_7d493_14, h0, y_is, y_gf, y_pf, y_f0, y_f1, y_f3, y_nI, y_nK, y_nZ, y_nL, y_nR, y_k1i, y_k1r, y_k1l, y_k1n, y_tl, y_tn, y_s, y_ss, List.getElem?_cons_zero, List.getElem?_cons_succ, List.set_cons_zero, List.set_cons_succ, List.length_cons, List.length_nil, true_and, and_true]
  refine ⟨by decide, ?_⟩
  simp only [q_J0_length_8abf5_9, q_J0_length_8abf5_10, y_is, y_gf, y_pf, y_f0, y_f1, y_f3, y_nI, y_nK, y_nZ, y_nL, y_nR, y_k1i, y_k1r, y_k1l, y_k1n, y_tl, y_tn, y_s, y_ss, List.getElem?_cons_zero, List.getElem?_cons_succ, List.set_cons_zero, List.set_cons_succ, List.length_cons, List.length_nil, true_and, and_true]
  rw [show Int32.ofNat wd.length = nI wd.length from rfl, sh0 ⟨wd.length, hl⟩]
  exact hQ
theorem s_charAt {k i c : Nat} {wd : List Nat} (h : strc g k wd) (hl : wd.length < 10) (hi : wd[i]? = some c) (hQ : Q (some (.int (nI c))) g) : wp 231 b 0 [.ref k, .int (nI i)] [] g Q := by
  obtain ⟨h0, f, h1, h2⟩ := h
  obtain ⟨e1, e2⟩ := h2 i c hi
  have hil : i < wd.length := (List.getElem?_eq_some_iff.mp hi).1
  simp only [q_J0_charAt_5068e_0, q_J0_charAt_5068e_1, h0, y_is, y_gf, y_pf, y_f0, y_f1, y_f3, y_nI, y_nK, y_nZ, y_nL, y_nR, y_k1i, y_k1r, y_k1l, y_k1n, y_tl, y_tn, y_s, y_ss, List.getElem?_cons_zero, List.getElem?_cons_succ, List.set_cons_zero, List.set_cons_succ, List.length_cons, List.length_nil, true_and, and_true, q_J0_isLatin1_aae02_0, q_J0_isLatin1_aae02_3]
  refine br0 (by decide) ?_
  simp only [q_J0_isLatin1_aae02_6, q_J0_isLatin1_aae02_7, q_J0_isLatin1_aae02_10, h0, y_is, y_gf, y_pf, y_f0, y_f1, y_f3, y_nI, y_nK, y_nZ, y_nL, y_nR, y_k1i, y_k1r, y_k1l, y_k1n, y_tl, y_tn, y_s, y_ss, List.getElem?_cons_zero, List.getElem?_cons_succ, List.set_cons_zero, List.set_cons_succ, List.length_cons, List.length_nil, true_and, and_true]
  refine br0 (by decide) ?_
  simp only [q_J0_isLatin1_aae02_13, q_J0_isLatin1_aae02_14, q_J0_isLatin1_aae02_17, q_J0_isLatin1_aae02_18, y_is, y_gf, y_pf, y_f0, y_f1, y_f3, y_nI, y_nK, y_nZ, y_nL, y_nR, y_k1i, y_k1r, y_k1l, y_k1n, y_tl, y_tn, y_s, y_ss, List.getElem?_cons_zero, List.getElem?_cons_succ, List.set_cons_zero, List.set_cons_succ, List.length_cons, List.length_nil, true_and, and_true]
  refine ⟨by decide, ?_⟩
  simp only [q_J0_charAt_5068e_4, y_is, y_gf, y_pf, y_f0, y_f1, y_f3, y_nI, y_nK, y_nZ, y_nL, y_nR, y_k1i, y_k1r, y_k1l, y_k1n, y_tl, y_tn, y_s, y_ss, List.getElem?_cons_zero, List.getElem?_cons_succ, List.set_cons_zero, List.set_cons_succ, List.length_cons, List.length_nil, true_and, and_true]
  refine br0 (by decide) ?_
  simp only [q_J0_charAt_5068e_7, q_J0_charAt_5068e_8, q_J0_charAt_5068e_11, q_J0_charAt_5068e_12, h0, y_is, y_gf, y_pf, y_f0, y_f1, y_f3, y_nI, y_nK, y_nZ, y_nL, y_nR, y_k1i, y_k1r, y_k1l, y_k1n, y_tl, y_tn, y_s, y_ss, List.getElem?_cons_zero, List.getElem?_cons_succ, List.set_cons_zero, List.set_cons_succ, List.length_cons, List.length_nil, true_and, and_true, q_J1_charAt_3b067_0, q_J1_charAt_3b067_1, q_J1_charAt_3b067_2, q_J1_charAt_3b067_3, h1, y_nY, q_J0_checkIndex_df160_0, q_J0_checkIndex_df160_1, q_J0_checkIndex_df160_2, q_J0_checkIndex_df160_5, q_J3_checkIndex_8e157_0, q_J3_checkIndex_8e157_1]
  refine br0 (nI_pos (by omega)) ?_
  simp only [q_J3_checkIndex_8e157_4, q_J3_checkIndex_8e157_5, q_J3_checkIndex_8e157_6, y_is, y_gf, y_pf, y_f0, y_f1, y_f3, y_nI, y_nK, y_nZ, y_nL, y_nR, y_k1i, y_k1r, y_k1l, y_k1n, y_tl, y_tn, y_s, y_ss, List.getElem?_cons_zero, List.getElem?_cons_succ, List.set_cons_zero, List.set_cons_succ, List.length_cons, List.length_nil, true_and, and_true]
  refine br1 (nI_lt hil (by omega)) ?_
  simp (disch := omega) only [q_J3_checkIndex_8e157_16, q_J3_checkIndex_8e157_17, y_is, y_gf, y_pf, y_f0, y_f1, y_f3, y_nI, y_nK, y_nZ, y_nL, y_nR, y_k1i, y_k1r, y_k1l, y_k1n, y_tl, y_tn, y_s, y_ss, List.getElem?_cons_zero, List.getElem?_cons_succ, List.set_cons_zero, List.set_cons_succ, List.length_cons, List.length_nil, true_and, and_true, q_J0_checkIndex_df160_8, q_J0_checkIndex_df160_9, q_J1_charAt_3b067_6, q_J1_charAt_3b067_7, q_J1_charAt_3b067_8, q_J1_charAt_3b067_9, q_J1_charAt_3b067_12, q_J1_charAt_3b067_13, q_J1_charAt_3b067_14, h1, y_lYn, e1, ch0 ⟨c, e2⟩]
  refine ⟨ch1 ⟨c, e2⟩, ?_⟩
  simp only [q_J0_charAt_5068e_15, y_is, y_gf, y_pf, y_f0, y_f1, y_f3, y_nI, y_nK, y_nZ, y_nL, y_nR, y_k1i, y_k1r, y_k1l, y_k1n, y_tl, y_tn, y_s, y_ss, List.getElem?_cons_zero, List.getElem?_cons_succ, List.set_cons_zero, List.set_cons_succ, List.length_cons, List.length_nil, true_and, and_true]
  exact ⟨ch1 ⟨c, e2⟩, hQ⟩
end TEXT
/-! ===== THE TEXT: its words ===== -/
def lc (c : Nat) : Bool := decide (97 ≤ c) && decide (c ≤ 122)
def lnn (tb : Nat → Nat) : Nat → Nat → Nat
  | 0, _ => 0
  | d + 1, e => if lc (tb e) then lnn tb d (e + 1) + 1 else 0
theorem lnn_le (tb : Nat → Nat) : ∀ d e, lnn tb d e ≤ d
  | 0, _ => Nat.le_refl _
  | d + 1, e => by
    have := lnn_le tb d (e + 1)
    rw [lnn]
    split <;> omega
theorem lnn_pos {tb : Nat → Nat} {d e : Nat} (hd : 0 < d) (h : lc (tb e) = true) : 0 < lnn tb d e := by
  cases d with
  | zero => omega
  | succ d => rw [lnn, if_pos h]; omega
/-- the word from a on: where it stands, where it ends, of what kind, its value -/
def tkP (tb : Nat → Nat) (len a : Nat) : Nat := skp tb (len - a) a
def tkE (tb : Nat → Nat) (len a : Nat) : Nat := if len ≤ tkP tb len a then tkP tb len a else if lc (tb (tkP tb len a)) then tkP tb len a + lnn tb (len - tkP tb len a) (tkP tb len a) else if dg (tb (tkP tb len a)) then tkP tb len a + dn tb (len - tkP tb len a) (tkP tb len a) else tkP tb len a + 1
def tkT (tb : Nat → Nat) (len a : Nat) : Nat := if len ≤ tkP tb len a then 0 else if lc (tb (tkP tb len a)) then 1 else if dg (tb (tkP tb len a)) then (if 2 < dn tb (len - tkP tb len a) (tkP tb len a) then 4 else 2) else if tb (tkP tb len a) = 59 then 3 else 4
def tkV (tb : Nat → Nat) (len a : Nat) : Nat := dv tb (tkP tb len a) (min (dn tb (len - tkP tb len a) (tkP tb len a)) 2)
theorem tkP_b {tb : Nat → Nat} {len a : Nat} (h : a ≤ len) : a ≤ tkP tb len a ∧ tkP tb len a ≤ len := by
  have := skp_b tb (len - a) a
  unfold tkP
  omega
theorem tkE_b {tb : Nat → Nat} {len a : Nat} (h : a ≤ len) : tkP tb len a ≤ tkE tb len a ∧ tkE tb len a ≤ len ∧ (tkT tb len a ≠ 0 → tkP tb len a < tkE tb len a) := by
  have hp := tkP_b (tb := tb) h
  unfold tkE tkT
  generalize tkP tb len a = p at hp ⊢
  by_cases c1 : len ≤ p
  · rw [if_pos c1, if_pos c1]; simp; omega
  · rw [if_neg c1, if_neg c1]
    by_cases c2 : lc (tb p) = true
    · rw [if_pos c2, if_pos c2]
      have h1 := lnn_le tb (len - p) p
      have h2 := lnn_pos (tb := tb) (d := len - p) (e := p) (by omega) c2
      omega
    · rw [if_neg c2, if_neg c2]
      by_cases c3 : dg (tb p) = true
      · rw [if_pos c3, if_pos c3]
        have h1 := dn_le tb (len - p) p
        have h2 := dn_pos (ch := tb) (d := len - p) (e := p) (by omega) c3
        omega
      · rw [if_neg c3, if_neg c3]
        omega
theorem tkV_b {tb : Nat → Nat} {len a : Nat} : tkV tb len a ≤ 99 := by
  unfold tkV
  generalize tkP tb len a = p
  have h := dv_le (ch := tb) (a := p) (k := min (dn tb (len - p) p) 2) (fun j hj => dn_all (d := len - p) (by omega))
  have : 10 ^ min (dn tb (len - p) p) 2 ≤ 10 ^ 2 := Nat.pow_le_pow_right (by decide) (by omega)
  omega
def mt (tb : Nat → Nat) : Nat → List Nat → Bool
  | _, [] => true
  | p, c :: r => tb p == c && mt tb (p + 1) r
def isW (tb : Nat → Nat) (t p e : Nat) (wd : List Nat) : Bool := t == 1 && (e - p == wd.length && mt tb p wd)
/-- the text's object at 15 -/
def tx (g : mzG) (tb : Nat → Nat) (len a t p : Nat) (va : Int32) : Prop := g.2 15 = ob 6 [.ref 16, .int (nI len), .ref 28, .int (nI a), .int (nI t), .int (nI p), .int va] ∧ (∃ f, g.2 28 = aI 200 f ∧ ∀ i, i < len → f i = nI (tb i) ∧ tb i < 256) ∧ len ≤ 200
theorem tx.nu {g : mzG} {tb : Nat → Nat} {len a t p a' t' p' : Nat} {va va' : Int32} (h : tx g tb len a t p va) : tx (hs g 15 (ob 6 [.ref 16, .int (nI len), .ref 28, .int (nI a'), .int (nI t'), .int (nI p'), .int va'])) tb len a' t' p' va' := by
  obtain ⟨h1, ⟨f, h2, h3⟩, h4⟩ := h
  exact ⟨y_s, ⟨f, by rw [y_ne (by decide)]; exact h2, h3⟩, h4⟩
theorem tx.frm {g g' : mzG} {tb : Nat → Nat} {len a t p lo hi : Nat} {va : Int32} (h : tx g tb len a t p va) (hf : fr g g' lo hi) (ha : 29 ≤ lo ∨ (16 ≤ lo ∧ hi ≤ 28) ∨ hi ≤ 15) : tx g' tb len a t p va := by
  obtain ⟨h1, ⟨f, h2, h3⟩, h4⟩ := h
  exact ⟨by rw [hf.2 _ (by omega)]; exact h1, ⟨f, by rw [hf.2 _ (by omega)]; exact h2, h3⟩, h4⟩
section TEXT2
variable {b : mzB} {Q : mzQ}
theorem s_isLetter {g : mzG} {c : Nat} (hc : c < 1000) (hQ : Q (some (.int (if lc c then 1 else 0))) g) : wp 75 b 0 [.int (nI c)] [] g Q := by
  unfold lc at hQ
  simp (disch := omega) only [q_X8_isLetter_0, q_X8_isLetter_1, q_X8_isLetter_3, y_is, y_gf, y_pf, y_f0, y_f1, y_f3, y_nI, y_nK, y_nZ, y_nL, y_nR, y_k1i, y_k1r, y_k1l, y_k1n, y_tl, y_tn, y_s, y_ss, List.getElem?_cons_zero, List.getElem?_cons_succ, List.set_cons_zero, List.set_cons_succ, List.length_cons, List.length_nil, true_and, and_true, lit, lt_n]
  refine brs (fun z => ?_) (fun z => ?_)
  · simp only [q_X8_isLetter_16, q_X8_isLetter_17, y_is, y_gf, y_pf, y_f0, y_f1, y_f3, y_nI, y_nK, y_nZ, y_nL, y_nR, y_k1i, y_k1r, y_k1l, y_k1n, y_tl, y_tn, y_s, y_ss, List.getElem?_cons_zero, List.getElem?_cons_succ, List.set_cons_zero, List.set_cons_succ, List.length_cons, List.length_nil, true_and, and_true]
    rw [if_neg (by simp; omega)] at hQ
    exact ⟨by decide, hQ⟩
  · simp (disch := omega) only [q_X8_isLetter_6, q_X8_isLetter_7, q_X8_isLetter_9, y_is, y_gf, y_pf, y_f0, y_f1, y_f3, y_nI, y_nK, y_nZ, y_nL, y_nR, y_k1i, y_k1r, y_k1l, y_k1n, y_tl, y_tn, y_s, y_ss, List.getElem?_cons_zero, List.getElem?_cons_succ, List.set_cons_zero, List.set_cons_succ, List.length_cons, List.length_nil, true_and, and_true, lit, lt_n]
    refine brs (fun y => ?_) (fun y => ?_)
    · simp only [q_X8_isLetter_16, q_X8_isLetter_17, y_is, y_gf, y_pf, y_f0, y_f1, y_f3, y_nI, y_nK, y_nZ, y_nL, y_nR, y_k1i, y_k1r, y_k1l, y_k1n, y_tl, y_tn, y_s, y_ss, List.getElem?_cons_zero, List.getElem?_cons_succ, List.set_cons_zero, List.set_cons_succ, List.length_cons, List.length_nil, true_and, and_true]
      rw [if_neg (by simp; omega)] at hQ
      exact ⟨by decide, hQ⟩
    · simp only [q_X8_isLetter_12, q_X8_isLetter_13, q_X8_isLetter_17, y_is, y_gf, y_pf, y_f0, y_f1, y_f3, y_nI, y_nK, y_nZ, y_nL, y_nR, y_k1i, y_k1r, y_k1l, y_k1n, y_tl, y_tn, y_s, y_ss, List.getElem?_cons_zero, List.getElem?_cons_succ, List.set_cons_zero, List.set_cons_succ, List.length_cons, List.length_nil, true_and, and_true]
      rw [if_pos (by simp; omega)] at hQ
      exact ⟨by decide, hQ⟩
theorem s_isFig {g : mzG} {c : Nat} (hc : c < 1000) (hQ : Q (some (.int (if dg c then 1 else 0))) g) : wp 76 b 0 [.int (nI c)] [] g Q := by
  unfold dg at hQ
  simp (disch := omega) only [q_X8_isFigure_0, q_X8_isFigure_1, q_X8_isFigure_3, y_is, y_gf, y_pf, y_f0, y_f1, y_f3, y_nI, y_nK, y_nZ, y_nL, y_nR, y_k1i, y_k1r, y_k1l, y_k1n, y_tl, y_tn, y_s, y_ss, List.getElem?_cons_zero, List.getElem?_cons_succ, List.set_cons_zero, List.set_cons_succ, List.length_cons, List.length_nil, true_and, and_true, lit, lt_n]
  refine brs (fun z => ?_) (fun z => ?_)
  · simp only [q_X8_isFigure_16, q_X8_isFigure_17, y_is, y_gf, y_pf, y_f0, y_f1, y_f3, y_nI, y_nK, y_nZ, y_nL, y_nR, y_k1i, y_k1r, y_k1l, y_k1n, y_tl, y_tn, y_s, y_ss, List.getElem?_cons_zero, List.getElem?_cons_succ, List.set_cons_zero, List.set_cons_succ, List.length_cons, List.length_nil, true_and, and_true]
    rw [if_neg (by simp; omega)] at hQ
    exact ⟨by decide, hQ⟩
  · simp (disch := omega) only [q_X8_isFigure_6, q_X8_isFigure_7, q_X8_isFigure_9, y_is, y_gf, y_pf, y_f0, y_f1, y_f3, y_nI, y_nK, y_nZ, y_nL, y_nR, y_k1i, y_k1r, y_k1l, y_k1n, y_tl, y_tn, y_s, y_ss, List.getElem?_cons_zero, List.getElem?_cons_succ, List.set_cons_zero, List.set_cons_succ, List.length_cons, List.length_nil, true_and, and_true, lit, lt_n]
    refine brs (fun y => ?_) (fun y => ?_)
    · simp only [q_X8_isFigure_16, q_X8_isFigure_17, y_is, y_gf, y_pf, y_f0, y_f1, y_f3, y_nI, y_nK, y_nZ, y_nL, y_nR, y_k1i, y_k1r, y_k1l, y_k1n, y_tl, y_tn, y_s, y_ss, List.getElem?_cons_zero, List.getElem?_cons_succ, List.set_cons_zero, List.set_cons_succ, List.length_cons, List.length_nil, true_and, and_true]
      rw [if_neg (by simp; omega)] at hQ
      exact ⟨by decide, hQ⟩
    · simp only [q_X8_isFigure_12, q_X8_isFigure_13, q_X8_isFigure_17, y_is, y_gf, y_pf, y_f0, y_f1, y_f3, y_nI, y_nK, y_nZ, y_nL, y_nR, y_k1i, y_k1r, y_k1l, y_k1n, y_tl, y_tn, y_s, y_ss, List.getElem?_cons_zero, List.getElem?_cons_succ, List.set_cons_zero, List.set_cons_succ, List.length_cons, List.length_nil, true_and, and_true]
      rw [if_pos (by simp; omega)] at hQ
      exact ⟨by decide, hQ⟩
/-- figures -/
theorem s_takeFig {g : mzG} {tb : Nat → Nat} {len t p : Nat} {va : Int32} (hT : tx g tb len p t p va) (hp : p < len) (hQ : ∀ g', tx g' tb len (p + dn tb (len - p) p) (if 2 < dn tb (len - p) p then 4 else 2) p (nI (dv tb p (min (dn tb (len - p) p) 2))) → fr g g' 15 16 → Q none g') : wp 74 b 0 [.ref 15] [] g Q := by
  have hlen := hT.2.2
  have hdn := dn_le tb (len - p) p
  have fin : ∀ g', tx g' tb len (p + dn tb (len - p) p) t p (nI (dv tb p (min (dn tb (len - p) p) 2))) → fr g g' 15 16 → wp 74 b 81 [.ref 15] [] g' Q := by
    intro g' q1 q2
    simp (disch := omega) only [q_X8_takeFigures_81, q_X8_takeFigures_82, q_X8_takeFigures_83, q_X8_takeFigures_86, q_X8_takeFigures_87, q_X8_takeFigures_90, q_X8_takeFigures_91, q_X8_takeFigures_92, q1.1, y_is, y_gf, y_pf, y_f0, y_f1, y_f3, y_nI, y_nK, y_nZ, y_nL, y_nR, y_k1i, y_k1r, y_k1l, y_k1n, y_tl, y_tn, y_s, y_ss, List.getElem?_cons_zero, List.getElem?_cons_succ, List.set_cons_zero, List.set_cons_succ, List.length_cons, List.length_nil, true_and, and_true, lit, pk_sub, le_n, Nat.add_sub_cancel_left]
    refine brs (fun z => ?_) (fun z => ?_)
    · rw [if_neg (by omega)] at hQ
      simp (disch := omega) only [q_X8_takeFigures_99, q_X8_takeFigures_100, q_X8_takeFigures_103, q1.1, y_is, y_gf, y_pf, y_f0, y_f1, y_f3, y_nI, y_nK, y_nZ, y_nL, y_nR, y_k1i, y_k1r, y_k1l, y_k1n, y_tl, y_tn, y_s, y_ss, List.getElem?_cons_zero, List.getElem?_cons_succ, List.set_cons_zero, List.set_cons_succ, List.length_cons, List.length_nil, true_and, and_true, lit]
      exact ⟨by decide, hQ _ q1.nu (q2.hs (by omega) (by omega))⟩
    · rw [if_pos (by omega)] at hQ
      simp (disch := omega) only [q_X8_takeFigures_95, q_X8_takeFigures_96, q_X8_takeFigures_100, q_X8_takeFigures_103, q1.1, y_is, y_gf, y_pf, y_f0, y_f1, y_f3, y_nI, y_nK, y_nZ, y_nL, y_nR, y_k1i, y_k1r, y_k1l, y_k1n, y_tl, y_tn, y_s, y_ss, List.getElem?_cons_zero, List.getElem?_cons_succ, List.set_cons_zero, List.set_cons_succ, List.length_cons, List.length_nil, true_and, and_true, lit]
      exact ⟨by decide, hQ _ q1.nu (q2.hs (by omega) (by omega))⟩
  have loop : ∀ d k g', p + k + d = len → dn tb (len - p) p = k + dn tb d (p + k) → (∀ j, j < k → dg (tb (p + j)) = true) → tx g' tb len (p + k) t p (nI (dv tb p (min k 2))) → fr g g' 15 16 → wp 74 b 5 [.ref 15] [] g' Q := by
    intro d
    induction d with
    | zero =>
      intro k g' hk hd hj q1 q2
      rw [dn, Nat.add_zero] at hd
      rw [hd] at fin
      rw [q_X8_takeFigures_5]
      simp (disch := omega) only [q_X8_takeFigures_6, q_X8_takeFigures_9, q_X8_takeFigures_10, q_X8_takeFigures_13, q1.1, y_is, y_gf, y_pf, y_f0, y_f1, y_f3, y_nI, y_nK, y_nZ, y_nL, y_nR, y_k1i, y_k1r, y_k1l, y_k1n, y_tl, y_tn, y_s, y_ss, List.getElem?_cons_zero, List.getElem?_cons_succ, List.set_cons_zero, List.set_cons_succ, List.length_cons, List.length_nil, true_and, and_true, y_lIn, y_lKn, y_lZn, y_lLn, y_wIn, y_wZn, y_wLn, lit, le_n, lt_n, eq_n, lit, litL, le_n, lt_n, eq_n, nI_add, m_neg, pk_sub, pk_mul, i_l, l_i, l_add, l_mul, l_sub, lc_le, lc_ge, lc_lt, lc_gt, lc_eq, l_rem2, l_rem3, i_rem2, i_rem3]
      exact br1 (by omega) (fin g' q1 q2)
    | succ d ih =>
      intro k g' hk hd hj q1 q2
      rw [dn] at hd
      obtain ⟨h1, ⟨f, h2, h3⟩, h4⟩ := id q1
      obtain ⟨e1, e2⟩ := h3 (p + k) (by omega)
      rw [q_X8_takeFigures_5]
      simp (disch := omega) only [q_X8_takeFigures_6, q_X8_takeFigures_9, q_X8_takeFigures_10, q_X8_takeFigures_13, q_X8_takeFigures_16, q_X8_takeFigures_17, q_X8_takeFigures_20, q_X8_takeFigures_21, q_X8_takeFigures_24, q_X8_takeFigures_25, h1, h2, e1, y_is, y_gf, y_pf, y_f0, y_f1, y_f3, y_nI, y_nK, y_nZ, y_nL, y_nR, y_k1i, y_k1r, y_k1l, y_k1n, y_tl, y_tn, y_s, y_ss, List.getElem?_cons_zero, List.getElem?_cons_succ, List.set_cons_zero, List.set_cons_succ, List.length_cons, List.length_nil, true_and, and_true, y_lIn, y_lKn, y_lZn, y_lLn, y_wIn, y_wZn, y_wLn, lit, le_n, lt_n, eq_n, lit, litL, le_n, lt_n, eq_n, nI_add, m_neg, pk_sub, pk_mul, i_l, l_i, l_add, l_mul, l_sub, lc_le, lc_ge, lc_lt, lc_gt, lc_eq, l_rem2, l_rem3, i_rem2, i_rem3]
      refine br0 (by omega) (s_isFig (by omega) ?_)
      cases hD : dg (tb (p + k)) with
      | false =>
        rw [if_neg (by rw [hD]; decide), Nat.add_zero] at hd
        rw [hd] at fin
        simp only [q_X8_takeFigures_28, y_is, y_gf, y_pf, y_f0, y_f1, y_f3, y_nI, y_nK, y_nZ, y_nL, y_nR, y_k1i, y_k1r, y_k1l, y_k1n, y_tl, y_tn, y_s, y_ss, List.getElem?_cons_zero, List.getElem?_cons_succ, List.set_cons_zero, List.set_cons_succ, List.length_cons, List.length_nil, true_and, and_true, Bool.false_eq_true, if_false]
        exact br1 (by first | decide | omega | trivial | simp) (fin g' q1 q2)
      | true =>
        rw [if_pos hD] at hd
        simp only [q_X8_takeFigures_28, y_is, y_gf, y_pf, y_f0, y_f1, y_f3, y_nI, y_nK, y_nZ, y_nL, y_nR, y_k1i, y_k1r, y_k1l, y_k1n, y_tl, y_tn, y_s, y_ss, List.getElem?_cons_zero, List.getElem?_cons_succ, List.set_cons_zero, List.set_cons_succ, List.length_cons, List.length_nil, true_and, and_true, if_true]
        refine br0 (by first | decide | omega | trivial | simp) ?_
        have hb := dg_b hD
        have hj' : ∀ j, j < k + 1 → dg (tb (p + j)) = true := fun j hjj => by
          by_cases e : j = k
          · rw [e]; exact hD
          · exact hj j (by omega)
        have nx := fun g2 => ih (k + 1) g2 (by omega) (by rw [show p + (k + 1) = p + k + 1 by omega]; omega) hj'
        simp (disch := omega) only [q_X8_takeFigures_31, q_X8_takeFigures_32, q_X8_takeFigures_35, q_X8_takeFigures_36, q_X8_takeFigures_39, q_X8_takeFigures_40, q_X8_takeFigures_41, h1, y_is, y_gf, y_pf, y_f0, y_f1, y_f3, y_nI, y_nK, y_nZ, y_nL, y_nR, y_k1i, y_k1r, y_k1l, y_k1n, y_tl, y_tn, y_s, y_ss, List.getElem?_cons_zero, List.getElem?_cons_succ, List.set_cons_zero, List.set_cons_succ, List.length_cons, List.length_nil, true_and, and_true, lit, pk_sub, le_n, Nat.add_sub_cancel_left]
        refine brs (fun z => ?_) (fun z => ?_)
        · rw [show min (k + 1) 2 = min k 2 by omega] at nx
          simp (disch := omega) only [q_X8_takeFigures_68, q_X8_takeFigures_69, q_X8_takeFigures_70, q_X8_takeFigures_73, q_X8_takeFigures_74, q_X8_takeFigures_75, q_X8_takeFigures_78, h1, y_is, y_gf, y_pf, y_f0, y_f1, y_f3, y_nI, y_nK, y_nZ, y_nL, y_nR, y_k1i, y_k1r, y_k1l, y_k1n, y_tl, y_tn, y_s, y_ss, List.getElem?_cons_zero, List.getElem?_cons_succ, List.set_cons_zero, List.set_cons_succ, List.length_cons, List.length_nil, true_and, and_true, lit, nI_add]
          exact ⟨by decide, nx _ q1.nu (q2.hs (by omega) (by omega))⟩
        · rw [show min (k + 1) 2 = k + 1 by omega, dv] at nx
          rw [show min k 2 = k by omega] at q1 h1
          simp (disch := omega) only [q_X8_takeFigures_44, q_X8_takeFigures_45, q_X8_takeFigures_47, q_X8_takeFigures_48, q_X8_takeFigures_51, q_X8_takeFigures_52, q_X8_takeFigures_53, q_X8_takeFigures_56, q_X8_takeFigures_57, q_X8_takeFigures_60, q_X8_takeFigures_61, q_X8_takeFigures_62, q_X8_takeFigures_64, q_X8_takeFigures_65, q_X8_takeFigures_68, q_X8_takeFigures_69, q_X8_takeFigures_70, q_X8_takeFigures_73, q_X8_takeFigures_74, q_X8_takeFigures_75, q_X8_takeFigures_78, h1, h2, e1, y_is, y_gf, y_pf, y_f0, y_f1, y_f3, y_nI, y_nK, y_nZ, y_nL, y_nR, y_k1i, y_k1r, y_k1l, y_k1n, y_tl, y_tn, y_s, y_ss, List.getElem?_cons_zero, List.getElem?_cons_succ, List.set_cons_zero, List.set_cons_succ, List.length_cons, List.length_nil, true_and, and_true, y_lIn, y_lKn, y_lZn, y_lLn, y_wIn, y_wZn, y_wLn, lit, le_n, lt_n, eq_n, lit, pk_mul, nI_add, pk_sub]
          exact ⟨by decide, by decide, nx _ q1.nu (q2.hs (by omega) (by omega))⟩
  simp (disch := omega) only [q_X8_takeFigures_0, q_X8_takeFigures_1, q_X8_takeFigures_2, hT.1, y_is, y_gf, y_pf, y_f0, y_f1, y_f3, y_nI, y_nK, y_nZ, y_nL, y_nR, y_k1i, y_k1r, y_k1l, y_k1n, y_tl, y_tn, y_s, y_ss, List.getElem?_cons_zero, List.getElem?_cons_succ, List.set_cons_zero, List.set_cons_succ, List.length_cons, List.length_nil, true_and, and_true, lit]
  exact ⟨by decide, loop (len - p) 0 _ (by omega) (by simp) (fun j hj => by omega) hT.nu (fr.rf.hs (by omega) (by omega))⟩
theorem s_advance {g : mzG} {tb : Nat → Nat} {len a t p : Nat} {va : Int32} (hT : tx g tb len a t p va) (ha : a ≤ len) (hQ : ∀ g' va', tx g' tb len (tkE tb len a) (tkT tb len a) (tkP tb len a) va' → (tkT tb len a = 2 → va' = nI (tkV tb len a)) → fr g g' 15 16 → Q none g') : wp 73 b 0 [.ref 15] [] g Q := by
  have hlen := hT.2.2
  have hpb := tkP_b (tb := tb) ha
  -- at the word's place
  have at38 : ∀ g' t p, tx g' tb len (tkP tb len a) t p va → fr g g' 15 16 → wp 73 b 38 [.ref 15] [] g' Q := by
    intro g' t p q1 q2
    have hQE : tkE tb len a = (if len ≤ tkP tb len a then tkP tb len a else if lc (tb (tkP tb len a)) then tkP tb len a + lnn tb (len - tkP tb len a) (tkP tb len a) else if dg (tb (tkP tb len a)) then tkP tb len a + dn tb (len - tkP tb len a) (tkP tb len a) else tkP tb len a + 1) := rfl
    have hQT : tkT tb len a = (if len ≤ tkP tb len a then 0 else if lc (tb (tkP tb len a)) then 1 else if dg (tb (tkP tb len a)) then (if 2 < dn tb (len - tkP tb len a) (tkP tb len a) then 4 else 2) else if tb (tkP tb len a) = 59 then 3 else 4) := rfl
    have hQV : tkV tb len a = dv tb (tkP tb len a) (min (dn tb (len - tkP tb len a) (tkP tb len a)) 2) := rfl
    rw [hQE, hQT, hQV] at hQ
    clear hQE hQT hQV
    generalize tkP tb len a = P at hpb q1 hQ
    simp (disch := omega) only [q_X8_advance_38, q_X8_advance_39, q_X8_advance_40, q_X8_advance_43, q_X8_advance_46, q_X8_advance_47, q_X8_advance_50, q_X8_advance_51, q_X8_advance_54, q1.1, y_is, y_gf, y_pf, y_f0, y_f1, y_f3, y_nI, y_nK, y_nZ, y_nL, y_nR, y_k1i, y_k1r, y_k1l, y_k1n, y_tl, y_tn, y_s, y_ss, List.getElem?_cons_zero, List.getElem?_cons_succ, List.set_cons_zero, List.set_cons_succ, List.length_cons, List.length_nil, true_and, and_true, lt_n]
    have hT1 := q1.nu (a' := P) (t' := t) (p' := P) (va' := va)
    generalize hg1 : hs g' 15 _ = g1 at hT1 ⊢
    have hf1 : fr g g1 15 16 := by rw [← hg1]; exact q2.hs (by omega) (by omega)
    refine ⟨by decide, brs (fun z => ?_) (fun z => ?_)⟩
    · have hz : ¬ len ≤ P := by omega
      simp only [if_neg hz] at hQ
      obtain ⟨h1, ⟨f, h2, h3⟩, h4⟩ := id hT1
      obtain ⟨e1, e2⟩ := h3 P z
      simp (disch := omega) only [q_X8_advance_65, q_X8_advance_66, q_X8_advance_69, q_X8_advance_70, q_X8_advance_73, q_X8_advance_74, h1, h2, e1, y_is, y_gf, y_pf, y_f0, y_f1, y_f3, y_nI, y_nK, y_nZ, y_nL, y_nR, y_k1i, y_k1r, y_k1l, y_k1n, y_tl, y_tn, y_s, y_ss, List.getElem?_cons_zero, List.getElem?_cons_succ, List.set_cons_zero, List.set_cons_succ, List.length_cons, List.length_nil, true_and, and_true, y_lIn, y_lKn, y_lZn, y_lLn, y_wIn, y_wZn, y_wLn, lit, le_n, lt_n, eq_n]
      refine s_isLetter (by omega) ?_
      cases hD : lc (tb P) with
      | true =>
        simp only [hD, if_true] at hQ
        simp only [if_true, q_X8_advance_77, y_is, y_gf, y_pf, y_f0, y_f1, y_f3, y_nI, y_nK, y_nZ, y_nL, y_nR, y_k1i, y_k1r, y_k1l, y_k1n, y_tl, y_tn, y_s, y_ss, List.getElem?_cons_zero, List.getElem?_cons_succ, List.set_cons_zero, List.set_cons_succ, List.length_cons, List.length_nil, true_and, and_true]
        refine br0 (by first | decide | omega | trivial | simp) ?_
        simp (disch := omega) only [q_X8_advance_80, q_X8_advance_81, q_X8_advance_82, h1, y_is, y_gf, y_pf, y_f0, y_f1, y_f3, y_nI, y_nK, y_nZ, y_nL, y_nR, y_k1i, y_k1r, y_k1l, y_k1n, y_tl, y_tn, y_s, y_ss, List.getElem?_cons_zero, List.getElem?_cons_succ, List.set_cons_zero, List.set_cons_succ, List.length_cons, List.length_nil, true_and, and_true, lit]
        refine ⟨by decide, ?_⟩
        have hll := lnn_le tb (len - P) P
        have loop : ∀ d k g2, P + k + d = len → lnn tb (len - P) P = k + lnn tb d (P + k) → tx g2 tb len (P + k) 1 P va → fr g g2 15 16 → wp 73 b 85 [.ref 15] [] g2 Q := by
          intro d
          induction d with
          | zero =>
            intro k g2 hk hd r1 r2
            rw [lnn, Nat.add_zero] at hd
            rw [hd] at hQ
            rw [q_X8_advance_85]
            simp (disch := omega) only [q_X8_advance_86, q_X8_advance_89, q_X8_advance_90, q_X8_advance_93, q_X8_advance_179, r1.1, y_is, y_gf, y_pf, y_f0, y_f1, y_f3, y_nI, y_nK, y_nZ, y_nL, y_nR, y_k1i, y_k1r, y_k1l, y_k1n, y_tl, y_tn, y_s, y_ss, List.getElem?_cons_zero, List.getElem?_cons_succ, List.set_cons_zero, List.set_cons_succ, List.length_cons, List.length_nil, true_and, and_true, y_lIn, y_lKn, y_lZn, y_lLn, y_wIn, y_wZn, y_wLn, lit, le_n, lt_n, eq_n, lit, litL, le_n, lt_n, eq_n, nI_add, m_neg, pk_sub, pk_mul, i_l, l_i, l_add, l_mul, l_sub, lc_le, lc_ge, lc_lt, lc_gt, lc_eq, l_rem2, l_rem3, i_rem2, i_rem3]
            exact br1 (by omega) (hQ g2 va r1 (fun z => absurd z (by decide)) r2)
          | succ d ih =>
            intro k g2 hk hd r1 r2
            rw [lnn] at hd
            obtain ⟨i1, ⟨f', i2, i3⟩, i4⟩ := id r1
            obtain ⟨e1', e2'⟩ := i3 (P + k) (by omega)
            rw [q_X8_advance_85]
            simp (disch := omega) only [q_X8_advance_86, q_X8_advance_89, q_X8_advance_90, q_X8_advance_93, q_X8_advance_96, q_X8_advance_97, q_X8_advance_100, q_X8_advance_101, q_X8_advance_104, q_X8_advance_105, i1, i2, e1', y_is, y_gf, y_pf, y_f0, y_f1, y_f3, y_nI, y_nK, y_nZ, y_nL, y_nR, y_k1i, y_k1r, y_k1l, y_k1n, y_tl, y_tn, y_s, y_ss, List.getElem?_cons_zero, List.getElem?_cons_succ, List.set_cons_zero, List.set_cons_succ, List.length_cons, List.length_nil, true_and, and_true, y_lIn, y_lKn, y_lZn, y_lLn, y_wIn, y_wZn, y_wLn, lit, le_n, lt_n, eq_n, lit, litL, le_n, lt_n, eq_n, nI_add, m_neg, pk_sub, pk_mul, i_l, l_i, l_add, l_mul, l_sub, lc_le, lc_ge, lc_lt, lc_gt, lc_eq, l_rem2, l_rem3, i_rem2, i_rem3]
            refine br0 (by omega) (s_isLetter (by omega) ?_)
            cases hD' : lc (tb (P + k)) with
            | true =>
              rw [if_pos hD'] at hd
              simp only [if_true, q_X8_advance_108, y_is, y_gf, y_pf, y_f0, y_f1, y_f3, y_nI, y_nK, y_nZ, y_nL, y_nR, y_k1i, y_k1r, y_k1l, y_k1n, y_tl, y_tn, y_s, y_ss, List.getElem?_cons_zero, List.getElem?_cons_succ, List.set_cons_zero, List.set_cons_succ, List.length_cons, List.length_nil, true_and, and_true]
              refine br0 (by first | decide | omega | trivial | simp) ?_
              simp (disch := omega) only [q_X8_advance_111, q_X8_advance_112, q_X8_advance_113, q_X8_advance_116, q_X8_advance_117, q_X8_advance_118, q_X8_advance_121, i1, y_is, y_gf, y_pf, y_f0, y_f1, y_f3, y_nI, y_nK, y_nZ, y_nL, y_nR, y_k1i, y_k1r, y_k1l, y_k1n, y_tl, y_tn, y_s, y_ss, List.getElem?_cons_zero, List.getElem?_cons_succ, List.set_cons_zero, List.set_cons_succ, List.length_cons, List.length_nil, true_and, and_true, lit, nI_add]
              exact ⟨by decide, ih (k + 1) _ (by omega) (by rw [show P + (k + 1) = P + k + 1 by omega]; omega) r1.nu (r2.hs (by omega) (by omega))⟩
            | false =>
              rw [if_neg (by rw [hD']; decide), Nat.add_zero] at hd
              rw [hd] at hQ
              simp only [Bool.false_eq_true, if_false, q_X8_advance_108, q_X8_advance_179, y_is, y_gf, y_pf, y_f0, y_f1, y_f3, y_nI, y_nK, y_nZ, y_nL, y_nR, y_k1i, y_k1r, y_k1l, y_k1n, y_tl, y_tn, y_s, y_ss, List.getElem?_cons_zero, List.getElem?_cons_succ, List.set_cons_zero, List.set_cons_succ, List.length_cons, List.length_nil, true_and, and_true]
              exact br1 (by first | decide | omega | trivial | simp) (hQ g2 va r1 (fun z => absurd z (by decide)) r2)
        exact loop (len - P) 0 _ (by omega) (by simp) hT1.nu (hf1.hs (by omega) (by omega))
      | false =>
        simp only [hD, Bool.false_eq_true, if_false] at hQ
        simp only [Bool.false_eq_true, if_false, q_X8_advance_77, y_is, y_gf, y_pf, y_f0, y_f1, y_f3, y_nI, y_nK, y_nZ, y_nL, y_nR, y_k1i, y_k1r, y_k1l, y_k1n, y_tl, y_tn, y_s, y_ss, List.getElem?_cons_zero, List.getElem?_cons_succ, List.set_cons_zero, List.set_cons_succ, List.length_cons, List.length_nil, true_and, and_true]
        refine br1 (by first | decide | omega | trivial | simp) ?_
        simp (disch := omega) only [q_X8_advance_124, q_X8_advance_125, q_X8_advance_128, q_X8_advance_129, q_X8_advance_132, q_X8_advance_133, h1, h2, e1, y_is, y_gf, y_pf, y_f0, y_f1, y_f3, y_nI, y_nK, y_nZ, y_nL, y_nR, y_k1i, y_k1r, y_k1l, y_k1n, y_tl, y_tn, y_s, y_ss, List.getElem?_cons_zero, List.getElem?_cons_succ, List.set_cons_zero, List.set_cons_succ, List.length_cons, List.length_nil, true_and, and_true, y_lIn, y_lKn, y_lZn, y_lLn, y_wIn, y_wZn, y_wLn, lit, le_n, lt_n, eq_n]
        refine s_isFig (by omega) ?_
        cases hF : dg (tb P) with
        | true =>
          simp only [hF, if_true] at hQ
          simp only [if_true, q_X8_advance_136, y_is, y_gf, y_pf, y_f0, y_f1, y_f3, y_nI, y_nK, y_nZ, y_nL, y_nR, y_k1i, y_k1r, y_k1l, y_k1n, y_tl, y_tn, y_s, y_ss, List.getElem?_cons_zero, List.getElem?_cons_succ, List.set_cons_zero, List.set_cons_succ, List.length_cons, List.length_nil, true_and, and_true]
          refine br0 (by first | decide | omega | trivial | simp) ?_
          simp (disch := omega) only [q_X8_advance_139, q_X8_advance_140, h1, y_is, y_gf, y_pf, y_f0, y_f1, y_f3, y_nI, y_nK, y_nZ, y_nL, y_nR, y_k1i, y_k1r, y_k1l, y_k1n, y_tl, y_tn, y_s, y_ss, List.getElem?_cons_zero, List.getElem?_cons_succ, List.set_cons_zero, List.set_cons_succ, List.length_cons, List.length_nil, true_and, and_true]
          refine s_takeFig hT1 z (fun g2 r1 r2 => ?_)
          simp only [q_X8_advance_143, q_X8_advance_179, y_is, y_gf, y_pf, y_f0, y_f1, y_f3, y_nI, y_nK, y_nZ, y_nL, y_nR, y_k1i, y_k1r, y_k1l, y_k1n, y_tl, y_tn, y_s, y_ss, List.getElem?_cons_zero, List.getElem?_cons_succ, List.set_cons_zero, List.set_cons_succ, List.length_cons, List.length_nil, true_and, and_true]
          exact hQ g2 _ r1 (fun _ => rfl) (hf1.tr r2)
        | false =>
          simp only [hF, Bool.false_eq_true, if_false] at hQ
          simp only [Bool.false_eq_true, if_false, q_X8_advance_136, y_is, y_gf, y_pf, y_f0, y_f1, y_f3, y_nI, y_nK, y_nZ, y_nL, y_nR, y_k1i, y_k1r, y_k1l, y_k1n, y_tl, y_tn, y_s, y_ss, List.getElem?_cons_zero, List.getElem?_cons_succ, List.set_cons_zero, List.set_cons_succ, List.length_cons, List.length_nil, true_and, and_true]
          refine br1 (by first | decide | omega | trivial | simp) ?_
          simp (disch := omega) only [q_X8_advance_146, q_X8_advance_147, q_X8_advance_148, q_X8_advance_151, q_X8_advance_152, q_X8_advance_155, q_X8_advance_156, q_X8_advance_158, h1, h2, e1, y_is, y_gf, y_pf, y_f0, y_f1, y_f3, y_nI, y_nK, y_nZ, y_nL, y_nR, y_k1i, y_k1r, y_k1l, y_k1n, y_tl, y_tn, y_s, y_ss, List.getElem?_cons_zero, List.getElem?_cons_succ, List.set_cons_zero, List.set_cons_succ, List.length_cons, List.length_nil, true_and, and_true, y_lIn, y_lKn, y_lZn, y_lLn, y_wIn, y_wZn, y_wLn, lit, le_n, lt_n, eq_n]
          by_cases h59 : tb P = 59
          · rw [bnt h59]
            rw [if_pos h59] at hQ
            simp (disch := omega) only [q_X8_advance_161, q_X8_advance_162, q_X8_advance_166, q_X8_advance_169, q_X8_advance_170, q_X8_advance_171, q_X8_advance_174, q_X8_advance_175, q_X8_advance_176, q_X8_advance_179, h1, y_is, y_gf, y_pf, y_f0, y_f1, y_f3, y_nI, y_nK, y_nZ, y_nL, y_nR, y_k1i, y_k1r, y_k1l, y_k1n, y_tl, y_tn, y_s, y_ss, List.getElem?_cons_zero, List.getElem?_cons_succ, List.set_cons_zero, List.set_cons_succ, List.length_cons, List.length_nil, true_and, and_true, lit, nI_add]
            exact ⟨by decide, by decide, hQ _ _ hT1.nu (fun z => absurd z (by decide)) (hf1.hs (by omega) (by omega))⟩
          · rw [bnf h59]
            rw [if_neg h59] at hQ
            simp (disch := omega) only [q_X8_advance_165, q_X8_advance_166, q_X8_advance_169, q_X8_advance_170, q_X8_advance_171, q_X8_advance_174, q_X8_advance_175, q_X8_advance_176, q_X8_advance_179, h1, y_is, y_gf, y_pf, y_f0, y_f1, y_f3, y_nI, y_nK, y_nZ, y_nL, y_nR, y_k1i, y_k1r, y_k1l, y_k1n, y_tl, y_tn, y_s, y_ss, List.getElem?_cons_zero, List.getElem?_cons_succ, List.set_cons_zero, List.set_cons_succ, List.length_cons, List.length_nil, true_and, and_true, lit, nI_add]
            exact ⟨by decide, by decide, hQ _ _ hT1.nu (fun z => absurd z (by decide)) (hf1.hs (by omega) (by omega))⟩
    · have hz : len ≤ P := by omega
      simp only [if_pos hz] at hQ
      simp (disch := omega) only [q_X8_advance_57, q_X8_advance_58, q_X8_advance_59, q_X8_advance_62, q_X8_advance_179, hT1.1, y_is, y_gf, y_pf, y_f0, y_f1, y_f3, y_nI, y_nK, y_nZ, y_nL, y_nR, y_k1i, y_k1r, y_k1l, y_k1n, y_tl, y_tn, y_s, y_ss, List.getElem?_cons_zero, List.getElem?_cons_succ, List.set_cons_zero, List.set_cons_succ, List.length_cons, List.length_nil, true_and, and_true, lit]
      exact ⟨by decide, hQ _ _ hT1.nu (fun z => absurd z (by decide)) (hf1.hs (by omega) (by omega))⟩
  have loop : ∀ d k g', k + d = len → skp tb d k = tkP tb len a → tx g' tb len k t p va → fr g g' 15 16 → wp 73 b 0 [.ref 15] [] g' Q := by
    intro d
    induction d with
    | zero =>
      intro k g' hk hs q1 q2
      rw [skp] at hs
      subst hs
      rw [q_X8_advance_0]
      simp (disch := omega) only [q_X8_advance_1, q_X8_advance_4, q_X8_advance_5, q_X8_advance_8, q1.1, y_is, y_gf, y_pf, y_f0, y_f1, y_f3, y_nI, y_nK, y_nZ, y_nL, y_nR, y_k1i, y_k1r, y_k1l, y_k1n, y_tl, y_tn, y_s, y_ss, List.getElem?_cons_zero, List.getElem?_cons_succ, List.set_cons_zero, List.set_cons_succ, List.length_cons, List.length_nil, true_and, and_true, y_lIn, y_lKn, y_lZn, y_lLn, y_wIn, y_wZn, y_wLn, lit, le_n, lt_n, eq_n, lit, litL, le_n, lt_n, eq_n, nI_add, m_neg, pk_sub, pk_mul, i_l, l_i, l_add, l_mul, l_sub, lc_le, lc_ge, lc_lt, lc_gt, lc_eq, l_rem2, l_rem3, i_rem2, i_rem3]
      exact br1 (by omega) (at38 g' t p q1 q2)
    | succ d ih =>
      intro k g' hk hs q1 q2
      rw [skp] at hs
      obtain ⟨h1, ⟨f, h2, h3⟩, h4⟩ := id q1
      obtain ⟨e1, e2⟩ := h3 k (by omega)
      rw [q_X8_advance_0]
      simp (disch := omega) only [q_X8_advance_1, q_X8_advance_4, q_X8_advance_5, q_X8_advance_8, q_X8_advance_11, q_X8_advance_12, q_X8_advance_15, q_X8_advance_16, q_X8_advance_19, q_X8_advance_20, q_X8_advance_22, h1, h2, e1, y_is, y_gf, y_pf, y_f0, y_f1, y_f3, y_nI, y_nK, y_nZ, y_nL, y_nR, y_k1i, y_k1r, y_k1l, y_k1n, y_tl, y_tn, y_s, y_ss, List.getElem?_cons_zero, List.getElem?_cons_succ, List.set_cons_zero, List.set_cons_succ, List.length_cons, List.length_nil, true_and, and_true, y_lIn, y_lKn, y_lZn, y_lLn, y_wIn, y_wZn, y_wLn, lit, le_n, lt_n, eq_n, lit, litL, le_n, lt_n, eq_n, nI_add, m_neg, pk_sub, pk_mul, i_l, l_i, l_add, l_mul, l_sub, lc_le, lc_ge, lc_lt, lc_gt, lc_eq, l_rem2, l_rem3, i_rem2, i_rem3]
      refine br0 (by omega) ?_
      by_cases c : tb k = 32
      · rw [bnt c]
        rw [if_pos c] at hs
        simp (disch := omega) only [q_X8_advance_25, q_X8_advance_26, q_X8_advance_27, q_X8_advance_30, q_X8_advance_31, q_X8_advance_32, q_X8_advance_35, h1, y_is, y_gf, y_pf, y_f0, y_f1, y_f3, y_nI, y_nK, y_nZ, y_nL, y_nR, y_k1i, y_k1r, y_k1l, y_k1n, y_tl, y_tn, y_s, y_ss, List.getElem?_cons_zero, List.getElem?_cons_succ, List.set_cons_zero, List.set_cons_succ, List.length_cons, List.length_nil, true_and, and_true, lit, nI_add]
        exact ⟨by decide, ih (k + 1) _ (by omega) hs q1.nu (q2.hs (by omega) (by omega))⟩
      · rw [bnf c]
        rw [if_neg c] at hs
        subst hs
        exact at38 g' t p q1 q2
  exact loop (len - a) a g (by omega) rfl hT fr.rf
theorem s_isWord {g : mzG} {tb : Nat → Nat} {len t p e k : Nat} {va : Int32} {wd : List Nat} (hT : tx g tb len e t p va) (ht : t ≤ 4) (hpe : p ≤ e) (he : e ≤ len) (hs : strc g k wd) (hl : wd.length < 10) (hQ : Q (some (.int (if isW tb t p e wd then 1 else 0))) g) : wp 70 b 0 [.ref 15, .ref k, .null] [] g Q := by
  obtain ⟨h1, ⟨f, h2, h3⟩, h4⟩ := id hT
  unfold isW at hQ
  simp (disch := omega) only [q_X8_isWord_0, q_X8_isWord_1, q_X8_isWord_4, q_X8_isWord_5, h1, y_is, y_gf, y_pf, y_f0, y_f1, y_f3, y_nI, y_nK, y_nZ, y_nL, y_nR, y_k1i, y_k1r, y_k1l, y_k1n, y_tl, y_tn, y_s, y_ss, List.getElem?_cons_zero, List.getElem?_cons_succ, List.set_cons_zero, List.set_cons_succ, List.length_cons, List.length_nil, true_and, and_true, lit, eq_n]
  by_cases t1 : t = 1
  · rw [bnt t1]
    rw [show (t == 1) = true by simp [t1], Bool.true_and] at hQ
    simp (disch := omega) only [q_X8_isWord_8, q_X8_isWord_9, q_X8_isWord_12, q_X8_isWord_13, q_X8_isWord_16, q_X8_isWord_17, q_X8_isWord_18, h1, hs.1, y_is, y_gf, y_pf, y_f0, y_f1, y_f3, y_nI, y_nK, y_nZ, y_nL, y_nR, y_k1i, y_k1r, y_k1l, y_k1n, y_tl, y_tn, y_s, y_ss, List.getElem?_cons_zero, List.getElem?_cons_succ, List.set_cons_zero, List.set_cons_succ, List.length_cons, List.length_nil, true_and, and_true, lit, pk_sub]
    refine s_len hs hl ?_
    simp (disch := omega) only [q_X8_isWord_21, y_is, y_gf, y_pf, y_f0, y_f1, y_f3, y_nI, y_nK, y_nZ, y_nL, y_nR, y_k1i, y_k1r, y_k1l, y_k1n, y_tl, y_tn, y_s, y_ss, List.getElem?_cons_zero, List.getElem?_cons_succ, List.set_cons_zero, List.set_cons_succ, List.length_cons, List.length_nil, true_and, and_true, eq_n]
    refine brs (fun z => ?_) (fun z => ?_)
    · rw [show (e - p == wd.length) = true by simp [z], Bool.true_and] at hQ
      simp only [q_X8_isWord_26, q_X8_isWord_27, y_is, y_gf, y_pf, y_f0, y_f1, y_f3, y_nI, y_nK, y_nZ, y_nL, y_nR, y_k1i, y_k1r, y_k1l, y_k1n, y_tl, y_tn, y_s, y_ss, List.getElem?_cons_zero, List.getElem?_cons_succ, List.set_cons_zero, List.set_cons_succ, List.length_cons, List.length_nil, true_and, and_true]
      have loop : ∀ d i, i + d = wd.length → mt tb (p + i) (wd.drop i) = mt tb p wd → wp 70 b 28 [.ref 15, .ref k, .int (nI i)] [] g Q := by
        intro d
        induction d with
        | zero =>
          intro i hi hm
          rw [List.drop_eq_nil_of_le (by omega), mt] at hm
          rw [← hm, if_pos rfl] at hQ
          rw [q_X8_isWord_28]
          simp (disch := omega) only [q_X8_isWord_29, q_X8_isWord_30, hs.1, y_is, y_gf, y_pf, y_f0, y_f1, y_f3, y_nI, y_nK, y_nZ, y_nL, y_nR, y_k1i, y_k1r, y_k1l, y_k1n, y_tl, y_tn, y_s, y_ss, List.getElem?_cons_zero, List.getElem?_cons_succ, List.set_cons_zero, List.set_cons_succ, List.length_cons, List.length_nil, true_and, and_true]
          refine s_len hs hl ?_
          simp (disch := omega) only [q_X8_isWord_33, q_X8_isWord_63, q_X8_isWord_64, y_is, y_gf, y_pf, y_f0, y_f1, y_f3, y_nI, y_nK, y_nZ, y_nL, y_nR, y_k1i, y_k1r, y_k1l, y_k1n, y_tl, y_tn, y_s, y_ss, List.getElem?_cons_zero, List.getElem?_cons_succ, List.set_cons_zero, List.set_cons_succ, List.length_cons, List.length_nil, true_and, and_true, le_n]
          exact br1 (by omega) ⟨by decide, hQ⟩
        | succ d ih =>
          intro i hi hm
          have hil : i < wd.length := by omega
          rw [List.drop_eq_getElem_cons hil, mt] at hm
          have hg : wd[i]? = some wd[i] := List.getElem?_eq_getElem hil
          obtain ⟨e1, e2⟩ := h3 (p + i) (by omega)
          have hc8 := (hs.2.choose_spec.2 i _ hg).2
          rw [q_X8_isWord_28]
          simp (disch := omega) only [q_X8_isWord_29, q_X8_isWord_30, hs.1, y_is, y_gf, y_pf, y_f0, y_f1, y_f3, y_nI, y_nK, y_nZ, y_nL, y_nR, y_k1i, y_k1r, y_k1l, y_k1n, y_tl, y_tn, y_s, y_ss, List.getElem?_cons_zero, List.getElem?_cons_succ, List.set_cons_zero, List.set_cons_succ, List.length_cons, List.length_nil, true_and, and_true]
          refine s_len hs hl ?_
          simp (disch := omega) only [q_X8_isWord_33, q_X8_isWord_36, q_X8_isWord_37, q_X8_isWord_40, q_X8_isWord_41, q_X8_isWord_44, q_X8_isWord_45, q_X8_isWord_46, q_X8_isWord_47, q_X8_isWord_48, q_X8_isWord_49, h1, h2, hs.1, y_is, y_gf, y_pf, y_f0, y_f1, y_f3, y_nI, y_nK, y_nZ, y_nL, y_nR, y_k1i, y_k1r, y_k1l, y_k1n, y_tl, y_tn, y_s, y_ss, List.getElem?_cons_zero, List.getElem?_cons_succ, List.set_cons_zero, List.set_cons_succ, List.length_cons, List.length_nil, true_and, and_true, y_lIn, y_lKn, y_lZn, y_lLn, y_wIn, y_wZn, y_wLn, lit, le_n, lt_n, eq_n, nI_add, e1]
          refine br0 (by omega) (s_charAt hs hl hg ?_)
          generalize wd[i] = c at hm hc8
          simp (disch := omega) only [q_X8_isWord_52, y_is, y_gf, y_pf, y_f0, y_f1, y_f3, y_nI, y_nK, y_nZ, y_nL, y_nR, y_k1i, y_k1r, y_k1l, y_k1n, y_tl, y_tn, y_s, y_ss, List.getElem?_cons_zero, List.getElem?_cons_succ, List.set_cons_zero, List.set_cons_succ, List.length_cons, List.length_nil, true_and, and_true, eq_n]
          refine brs (fun y => ?_) (fun y => ?_)
          · rw [show (tb (p + i) == c) = true by simp [y], Bool.true_and] at hm
            simp (disch := omega) only [q_X8_isWord_57, q_X8_isWord_60, y_is, y_gf, y_pf, y_f0, y_f1, y_f3, y_nI, y_nK, y_nZ, y_nL, y_nR, y_k1i, y_k1r, y_k1l, y_k1n, y_tl, y_tn, y_s, y_ss, List.getElem?_cons_zero, List.getElem?_cons_succ, List.set_cons_zero, List.set_cons_succ, List.length_cons, List.length_nil, true_and, and_true, lit, nI_add]
            exact ih (i + 1) (by omega) (by rw [show p + (i + 1) = p + i + 1 by omega]; exact hm)
          · rw [beq_false_of_ne y, Bool.false_and] at hm
            rw [← hm, if_neg (by decide)] at hQ
            simp only [q_X8_isWord_55, q_X8_isWord_56, y_is, y_gf, y_pf, y_f0, y_f1, y_f3, y_nI, y_nK, y_nZ, y_nL, y_nR, y_k1i, y_k1r, y_k1l, y_k1n, y_tl, y_tn, y_s, y_ss, List.getElem?_cons_zero, List.getElem?_cons_succ, List.set_cons_zero, List.set_cons_succ, List.length_cons, List.length_nil, true_and, and_true]
            exact ⟨by decide, hQ⟩
      exact loop wd.length 0 (by omega) rfl
    · rw [beq_false_of_ne z, Bool.false_and, if_neg (by decide)] at hQ
      simp only [q_X8_isWord_24, q_X8_isWord_25, y_is, y_gf, y_pf, y_f0, y_f1, y_f3, y_nI, y_nK, y_nZ, y_nL, y_nR, y_k1i, y_k1r, y_k1l, y_k1n, y_tl, y_tn, y_s, y_ss, List.getElem?_cons_zero, List.getElem?_cons_succ, List.set_cons_zero, List.set_cons_succ, List.length_cons, List.length_nil, true_and, and_true]
      exact ⟨by decide, hQ⟩
  · rw [bnf t1]
    rw [beq_false_of_ne t1, Bool.false_and, if_neg (by decide)] at hQ
    simp only [q_X8_isWord_24, q_X8_isWord_25, y_is, y_gf, y_pf, y_f0, y_f1, y_f3, y_nI, y_nK, y_nZ, y_nL, y_nR, y_k1i, y_k1r, y_k1l, y_k1n, y_tl, y_tn, y_s, y_ss, List.getElem?_cons_zero, List.getElem?_cons_succ, List.set_cons_zero, List.set_cons_succ, List.length_cons, List.length_nil, true_and, and_true]
    exact ⟨by decide, hQ⟩
end TEXT2
