/-! ===== THE WALL is read ===== -/
def wPosts : List Nat := [112, 111, 115, 116, 115]
def wWorth : List Nat := [119, 111, 114, 116, 104]
def wShare : List Nat := [115, 104, 97, 114, 101]
def wNeed : List Nat := [110, 101, 101, 100]
/-- the constants -/
def kc (g : mzG) : Prop := strc g 1002 wPosts ∧ strc g 1003 wWorth ∧ strc g 1004 wShare ∧ strc g 1005 wNeed ∧ g.2 1000 = aK 5 kz_at ∧ g.2 1001 = aK 5 kz_mo
theorem strc.frm {g g' : mzG} {k lo hi : Nat} {wd : List Nat} (h : strc g k wd) (hf : fr g g' lo hi) (hk : hi ≤ k) : strc g' k wd := by
  obtain ⟨h0, f, h1, h2⟩ := h
  exact ⟨by rw [hf.2 _ (by omega)]; exact h0, f, by rw [hf.2 _ (by omega)]; exact h1, h2⟩
theorem kc.frm {g g' : mzG} {lo hi : Nat} (h : kc g) (hf : fr g g' lo hi) (hk : hi ≤ 1000) : kc g' := by
  obtain ⟨h1, h2, h3, h4, h5, h6⟩ := h
  exact ⟨h1.frm hf (by omega), h2.frm hf (by omega), h3.frm hf (by omega), h4.frm hf (by omega), by rw [hf.2 _ (by omega)]; exact h5, by rw [hf.2 _ (by omega)]; exact h6⟩
def mo (row : Nat) : Nat := if row = 2 then 12 else 99
theorem kz_mo_n : ∀ r : Fin 3, kz_mo r.val = nI (mo r.val) := by decide +kernel
def rowW (tb : Nat → Nat) (t p e : Nat) : Option Nat := if isW tb t p e wWorth then some 0 else if isW tb t p e wShare then some 1 else if isW tb t p e wNeed then some 2 else none
theorem rowW_lt {tb : Nat → Nat} {t p e r : Nat} (h : rowW tb t p e = some r) : r < 3 := by
  unfold rowW at h
  repeat' split at h
  all_goals first
    | (have := Option.some.inj h; omega)
    | simp at h
abbrev rowsT : Type := Nat → Nat → Nat
def pit4 (tb : Nat → Nat) (len a : Nat) (r : rowsT) : Nat ⊕ (Nat × rowsT) := if tkT tb len a = 3 then .inr (tkE tb len a, r) else .inl (tkP tb len a)
def setR (r : rowsT) (row p x : Nat) : rowsT := fun i q => if i = row ∧ q = p then x else r i q
def pit3 (tb : Nat → Nat) (len a row p : Nat) (r : rowsT) : Nat ⊕ (Nat × rowsT) := if tkT tb len a = 2 ∧ tkV tb len a ≤ mo row then pit4 tb len (tkE tb len a) (setR r row p (tkV tb len a)) else .inl (tkP tb len a)
def pit2 (tb : Nat → Nat) (len n a row : Nat) (r : rowsT) : Nat ⊕ (Nat × rowsT) := if tkT tb len a = 2 ∧ tkV tb len a < n then pit3 tb len (tkE tb len a) row (tkV tb len a) r else .inl (tkP tb len a)
def pit (tb : Nat → Nat) (len n a : Nat) (r : rowsT) : Nat ⊕ (Nat × rowsT) := match rowW tb (tkT tb len a) (tkP tb len a) (tkE tb len a) with
  | none => .inl (tkP tb len a)
  | some row => pit2 tb len n (tkE tb len a) row r
def pits (tb : Nat → Nat) (len n : Nat) : Nat → Nat → rowsT → Nat ⊕ rowsT
  | 0, _, r => .inr r
  | d + 1, a, r => if tkT tb len a = 0 then .inr r else match pit tb len n a r with
    | .inl f => .inl f
    | .inr (a', r') => pits tb len n d a' r'
def row0 : rowsT := fun i _ => if i = 0 then 10 else if i = 1 then 1 else 0
def pal3 (tb : Nat → Nat) (len n a : Nat) : Nat ⊕ (Nat × rowsT) := if tkT tb len a = 3 then (match pits tb len n 200 (tkE tb len a) row0 with
    | .inl f => .inl f
    | .inr r => .inr (n, r)) else .inl (tkP tb len a)
def pal2 (tb : Nat → Nat) (len a : Nat) : Nat ⊕ (Nat × rowsT) := if tkT tb len a = 2 ∧ 1 ≤ tkV tb len a ∧ tkV tb len a ≤ 9 then pal3 tb len (tkV tb len a) (tkE tb len a) else .inl (tkP tb len a)
/-- what reading comes to: a fault's place, or POSTS and rows -/
def pal (tb : Nat → Nat) (len : Nat) : Nat ⊕ (Nat × rowsT) := if isW tb (tkT tb len 0) (tkP tb len 0) (tkE tb len 0) wPosts then pal2 tb len (tkE tb len 0) else .inl (tkP tb len 0)
theorem tkT_le {tb : Nat → Nat} {len a : Nat} : tkT tb len a ≤ 4 := by
  unfold tkT
  (repeat' split) <;> omega
/-- the draft's rows -/
def dr (A : Nat → Nat → Int32) (r : rowsT) : Prop := (∀ i p, i < 3 → p < 9 → A i p = nI (r i p)) ∧ ∀ p, p < 9 → A 3 p = nI 0 ∧ A 4 p = nI 0
section PARSE
variable {b : mzB} {Q : mzQ}
theorem s_num {g : mzG} {tb : Nat → Nat} {len a t p lo hi : Nat} {va : Int32} (hT : tx g tb len a t p va) (ha : a ≤ len) (hlo : lo ≤ 99) (hhi : hi ≤ 99) (hQ : ∀ g' va', tx g' tb len (tkE tb len a) (tkT tb len a) (tkP tb len a) va' → (tkT tb len a = 2 → va' = nI (tkV tb len a)) → fr g g' 15 16 → Q (some (.int (if tkT tb len a = 2 ∧ lo ≤ tkV tb len a ∧ tkV tb len a ≤ hi then 1 else 0))) g') : wp 71 b 0 [.ref 15, .int (nI lo), .int (nI hi)] [] g Q := by
  simp (disch := omega) only [q_X8_numberComes_0, q_X8_numberComes_1, hT.1, y_is, y_gf, y_pf, y_f0, y_f1, y_f3, y_nI, y_nK, y_nZ, y_nL, y_nR, y_k1i, y_k1r, y_k1l, y_k1n, y_tl, y_tn, y_s, y_ss, List.getElem?_cons_zero, List.getElem?_cons_succ, List.set_cons_zero, List.set_cons_succ, List.length_cons, List.length_nil, true_and, and_true]
  refine s_advance hT ha (fun g' va' q1 q2 q3 => ?_)
  have hv := tkV_b (tb := tb) (len := len) (a := a)
  have ht := tkT_le (tb := tb) (len := len) (a := a)
  have k := hQ g' va' q1 q2 q3
  generalize tkT tb len a = T at *
  generalize tkV tb len a = V at *
  simp (disch := omega) only [q_X8_numberComes_4, q_X8_numberComes_5, q_X8_numberComes_8, q_X8_numberComes_9, q1.1, y_is, y_gf, y_pf, y_f0, y_f1, y_f3, y_nI, y_nK, y_nZ, y_nL, y_nR, y_k1i, y_k1r, y_k1l, y_k1n, y_tl, y_tn, y_s, y_ss, List.getElem?_cons_zero, List.getElem?_cons_succ, List.set_cons_zero, List.set_cons_succ, List.length_cons, List.length_nil, true_and, and_true, lit, eq_n]
  by_cases c : T = 2
  · rw [bnt c]
    have e := q2 c
    subst e
    simp (disch := omega) only [q_X8_numberComes_12, q_X8_numberComes_13, q_X8_numberComes_16, q_X8_numberComes_17, q1.1, y_is, y_gf, y_pf, y_f0, y_f1, y_f3, y_nI, y_nK, y_nZ, y_nL, y_nR, y_k1i, y_k1r, y_k1l, y_k1n, y_tl, y_tn, y_s, y_ss, List.getElem?_cons_zero, List.getElem?_cons_succ, List.set_cons_zero, List.set_cons_succ, List.length_cons, List.length_nil, true_and, and_true, lit, lt_n]
    refine brs (fun z => ?_) (fun z => ?_)
    · rw [if_neg (by omega)] at k
      simp only [q_X8_numberComes_32, q_X8_numberComes_33, y_is, y_gf, y_pf, y_f0, y_f1, y_f3, y_nI, y_nK, y_nZ, y_nL, y_nR, y_k1i, y_k1r, y_k1l, y_k1n, y_tl, y_tn, y_s, y_ss, List.getElem?_cons_zero, List.getElem?_cons_succ, List.set_cons_zero, List.set_cons_succ, List.length_cons, List.length_nil, true_and, and_true]
      exact ⟨by decide, k⟩
    · simp (disch := omega) only [q_X8_numberComes_20, q_X8_numberComes_21, q_X8_numberComes_24, q_X8_numberComes_25, q1.1, y_is, y_gf, y_pf, y_f0, y_f1, y_f3, y_nI, y_nK, y_nZ, y_nL, y_nR, y_k1i, y_k1r, y_k1l, y_k1n, y_tl, y_tn, y_s, y_ss, List.getElem?_cons_zero, List.getElem?_cons_succ, List.set_cons_zero, List.set_cons_succ, List.length_cons, List.length_nil, true_and, and_true, lit, lt_n]
      refine brs (fun y => ?_) (fun y => ?_)
      · rw [if_neg (by omega)] at k
        simp only [q_X8_numberComes_32, q_X8_numberComes_33, y_is, y_gf, y_pf, y_f0, y_f1, y_f3, y_nI, y_nK, y_nZ, y_nL, y_nR, y_k1i, y_k1r, y_k1l, y_k1n, y_tl, y_tn, y_s, y_ss, List.getElem?_cons_zero, List.getElem?_cons_succ, List.set_cons_zero, List.set_cons_succ, List.length_cons, List.length_nil, true_and, and_true]
        exact ⟨by decide, k⟩
      · rw [if_pos (by omega)] at k
        simp only [q_X8_numberComes_28, q_X8_numberComes_29, q_X8_numberComes_33, y_is, y_gf, y_pf, y_f0, y_f1, y_f3, y_nI, y_nK, y_nZ, y_nL, y_nR, y_k1i, y_k1r, y_k1l, y_k1n, y_tl, y_tn, y_s, y_ss, List.getElem?_cons_zero, List.getElem?_cons_succ, List.set_cons_zero, List.set_cons_succ, List.length_cons, List.length_nil, true_and, and_true]
        exact ⟨by decide, k⟩
  · rw [bnf c]
    rw [if_neg (by omega)] at k
    simp only [q_X8_numberComes_32, q_X8_numberComes_33, y_is, y_gf, y_pf, y_f0, y_f1, y_f3, y_nI, y_nK, y_nZ, y_nL, y_nR, y_k1i, y_k1r, y_k1l, y_k1n, y_tl, y_tn, y_s, y_ss, List.getElem?_cons_zero, List.getElem?_cons_succ, List.set_cons_zero, List.set_cons_succ, List.length_cons, List.length_nil, true_and, and_true]
    exact ⟨by decide, k⟩
theorem s_semi {g : mzG} {tb : Nat → Nat} {len a t p : Nat} {va : Int32} (hT : tx g tb len a t p va) (ha : a ≤ len) (hQ : ∀ g' va', tx g' tb len (tkE tb len a) (tkT tb len a) (tkP tb len a) va' → fr g g' 15 16 → Q (some (.int (if tkT tb len a = 3 then 1 else 0))) g') : wp 72 b 0 [.ref 15] [] g Q := by
  simp (disch := omega) only [q_X8_semicolonComes_0, q_X8_semicolonComes_1, hT.1, y_is, y_gf, y_pf, y_f0, y_f1, y_f3, y_nI, y_nK, y_nZ, y_nL, y_nR, y_k1i, y_k1r, y_k1l, y_k1n, y_tl, y_tn, y_s, y_ss, List.getElem?_cons_zero, List.getElem?_cons_succ, List.set_cons_zero, List.set_cons_succ, List.length_cons, List.length_nil, true_and, and_true]
  refine s_advance hT ha (fun g' va' q1 q2 q3 => ?_)
  have ht := tkT_le (tb := tb) (len := len) (a := a)
  have k := hQ g' va' q1 q3
  generalize tkT tb len a = T at *
  simp (disch := omega) only [q_X8_semicolonComes_4, q_X8_semicolonComes_5, q_X8_semicolonComes_8, q_X8_semicolonComes_9, q1.1, y_is, y_gf, y_pf, y_f0, y_f1, y_f3, y_nI, y_nK, y_nZ, y_nL, y_nR, y_k1i, y_k1r, y_k1l, y_k1n, y_tl, y_tn, y_s, y_ss, List.getElem?_cons_zero, List.getElem?_cons_succ, List.set_cons_zero, List.set_cons_succ, List.length_cons, List.length_nil, true_and, and_true, lit, eq_n]
  by_cases c : T = 3
  · rw [bnt c]
    rw [if_pos c] at k
    simp only [q_X8_semicolonComes_12, q_X8_semicolonComes_13, q_X8_semicolonComes_17, y_is, y_gf, y_pf, y_f0, y_f1, y_f3, y_nI, y_nK, y_nZ, y_nL, y_nR, y_k1i, y_k1r, y_k1l, y_k1n, y_tl, y_tn, y_s, y_ss, List.getElem?_cons_zero, List.getElem?_cons_succ, List.set_cons_zero, List.set_cons_succ, List.length_cons, List.length_nil, true_and, and_true]
    exact ⟨by decide, k⟩
  · rw [bnf c]
    rw [if_neg c] at k
    simp only [q_X8_semicolonComes_16, q_X8_semicolonComes_17, y_is, y_gf, y_pf, y_f0, y_f1, y_f3, y_nI, y_nK, y_nZ, y_nL, y_nR, y_k1i, y_k1r, y_k1l, y_k1n, y_tl, y_tn, y_s, y_ss, List.getElem?_cons_zero, List.getElem?_cons_succ, List.set_cons_zero, List.set_cons_succ, List.length_cons, List.length_nil, true_and, and_true]
    exact ⟨by decide, k⟩
theorem s_rowOf {g : mzG} {tb : Nat → Nat} {len t p e : Nat} {va : Int32} (hT : tx g tb len e t p va) (ht : t ≤ 4) (hpe : p ≤ e) (he : e ≤ len) (hk : kc g) (hQ : Q (some (.int (oI (rowW tb t p e)))) g) : wp 69 b 0 [.ref 15] [] g Q := by
  obtain ⟨k1, k2, k3, k4, -, -⟩ := hk
  unfold rowW at hQ
  simp (disch := omega) only [q_X8_rowOfWord_0, q_X8_rowOfWord_1, q_X8_rowOfWord_3, hT.1, y_is, y_gf, y_pf, y_f0, y_f1, y_f3, y_nI, y_nK, y_nZ, y_nL, y_nR, y_k1i, y_k1r, y_k1l, y_k1n, y_tl, y_tn, y_s, y_ss, List.getElem?_cons_zero, List.getElem?_cons_succ, List.set_cons_zero, List.set_cons_succ, List.length_cons, List.length_nil, true_and, and_true]
  refine s_isWord hT ht hpe he k2 (by decide) ?_
  cases h : isW tb t p e wWorth with
  | true =>
    rw [h, if_pos rfl] at hQ
    simp only [if_true, q_X8_rowOfWord_6, y_is, y_gf, y_pf, y_f0, y_f1, y_f3, y_nI, y_nK, y_nZ, y_nL, y_nR, y_k1i, y_k1r, y_k1l, y_k1n, y_tl, y_tn, y_s, y_ss, List.getElem?_cons_zero, List.getElem?_cons_succ, List.set_cons_zero, List.set_cons_succ, List.length_cons, List.length_nil, true_and, and_true]
    refine br0 (by first | decide | omega | trivial | simp) ?_
    simp only [q_X8_rowOfWord_9, q_X8_rowOfWord_10, y_is, y_gf, y_pf, y_f0, y_f1, y_f3, y_nI, y_nK, y_nZ, y_nL, y_nR, y_k1i, y_k1r, y_k1l, y_k1n, y_tl, y_tn, y_s, y_ss, List.getElem?_cons_zero, List.getElem?_cons_succ, List.set_cons_zero, List.set_cons_succ, List.length_cons, List.length_nil, true_and, and_true]
    exact hQ
  | false =>
    rw [h, if_neg (by decide)] at hQ
    simp only [Bool.false_eq_true, if_false, q_X8_rowOfWord_6, y_is, y_gf, y_pf, y_f0, y_f1, y_f3, y_nI, y_nK, y_nZ, y_nL, y_nR, y_k1i, y_k1r, y_k1l, y_k1n, y_tl, y_tn, y_s, y_ss, List.getElem?_cons_zero, List.getElem?_cons_succ, List.set_cons_zero, List.set_cons_succ, List.length_cons, List.length_nil, true_and, and_true]
    refine br1 (by first | decide | omega | trivial | simp) ?_
    simp (disch := omega) only [q_X8_rowOfWord_11, q_X8_rowOfWord_12, q_X8_rowOfWord_14, hT.1, y_is, y_gf, y_pf, y_f0, y_f1, y_f3, y_nI, y_nK, y_nZ, y_nL, y_nR, y_k1i, y_k1r, y_k1l, y_k1n, y_tl, y_tn, y_s, y_ss, List.getElem?_cons_zero, List.getElem?_cons_succ, List.set_cons_zero, List.set_cons_succ, List.length_cons, List.length_nil, true_and, and_true]
    refine s_isWord hT ht hpe he k3 (by decide) ?_
    cases h : isW tb t p e wShare with
    | true =>
      rw [h, if_pos rfl] at hQ
      simp only [if_true, q_X8_rowOfWord_17, y_is, y_gf, y_pf, y_f0, y_f1, y_f3, y_nI, y_nK, y_nZ, y_nL, y_nR, y_k1i, y_k1r, y_k1l, y_k1n, y_tl, y_tn, y_s, y_ss, List.getElem?_cons_zero, List.getElem?_cons_succ, List.set_cons_zero, List.set_cons_succ, List.length_cons, List.length_nil, true_and, and_true]
      refine br0 (by first | decide | omega | trivial | simp) ?_
      simp only [q_X8_rowOfWord_20, q_X8_rowOfWord_21, y_is, y_gf, y_pf, y_f0, y_f1, y_f3, y_nI, y_nK, y_nZ, y_nL, y_nR, y_k1i, y_k1r, y_k1l, y_k1n, y_tl, y_tn, y_s, y_ss, List.getElem?_cons_zero, List.getElem?_cons_succ, List.set_cons_zero, List.set_cons_succ, List.length_cons, List.length_nil, true_and, and_true]
      exact hQ
    | false =>
      rw [h, if_neg (by decide)] at hQ
      simp only [Bool.false_eq_true, if_false, q_X8_rowOfWord_17, y_is, y_gf, y_pf, y_f0, y_f1, y_f3, y_nI, y_nK, y_nZ, y_nL, y_nR, y_k1i, y_k1r, y_k1l, y_k1n, y_tl, y_tn, y_s, y_ss, List.getElem?_cons_zero, List.getElem?_cons_succ, List.set_cons_zero, List.set_cons_succ, List.length_cons, List.length_nil, true_and, and_true]
      refine br1 (by first | decide | omega | trivial | simp) ?_
      simp (disch := omega) only [q_X8_rowOfWord_22, q_X8_rowOfWord_23, q_X8_rowOfWord_25, hT.1, y_is, y_gf, y_pf, y_f0, y_f1, y_f3, y_nI, y_nK, y_nZ, y_nL, y_nR, y_k1i, y_k1r, y_k1l, y_k1n, y_tl, y_tn, y_s, y_ss, List.getElem?_cons_zero, List.getElem?_cons_succ, List.set_cons_zero, List.set_cons_succ, List.length_cons, List.length_nil, true_and, and_true]
      refine s_isWord hT ht hpe he k4 (by decide) ?_
      cases h : isW tb t p e wNeed with
      | true =>
        rw [h, if_pos rfl] at hQ
        simp only [if_true, q_X8_rowOfWord_28, y_is, y_gf, y_pf, y_f0, y_f1, y_f3, y_nI, y_nK, y_nZ, y_nL, y_nR, y_k1i, y_k1r, y_k1l, y_k1n, y_tl, y_tn, y_s, y_ss, List.getElem?_cons_zero, List.getElem?_cons_succ, List.set_cons_zero, List.set_cons_succ, List.length_cons, List.length_nil, true_and, and_true]
        refine br0 (by first | decide | omega | trivial | simp) ?_
        simp only [q_X8_rowOfWord_31, q_X8_rowOfWord_32, q_X8_rowOfWord_36, y_is, y_gf, y_pf, y_f0, y_f1, y_f3, y_nI, y_nK, y_nZ, y_nL, y_nR, y_k1i, y_k1r, y_k1l, y_k1n, y_tl, y_tn, y_s, y_ss, List.getElem?_cons_zero, List.getElem?_cons_succ, List.set_cons_zero, List.set_cons_succ, List.length_cons, List.length_nil, true_and, and_true]
        exact hQ
      | false =>
        rw [h, if_neg (by decide)] at hQ
        simp only [Bool.false_eq_true, if_false, q_X8_rowOfWord_28, y_is, y_gf, y_pf, y_f0, y_f1, y_f3, y_nI, y_nK, y_nZ, y_nL, y_nR, y_k1i, y_k1r, y_k1l, y_k1n, y_tl, y_tn, y_s, y_ss, List.getElem?_cons_zero, List.getElem?_cons_succ, List.set_cons_zero, List.set_cons_succ, List.length_cons, List.length_nil, true_and, and_true]
        refine br1 (by first | decide | omega | trivial | simp) ?_
        simp only [q_X8_rowOfWord_35, q_X8_rowOfWord_36, y_is, y_gf, y_pf, y_f0, y_f1, y_f3, y_nI, y_nK, y_nZ, y_nL, y_nR, y_k1i, y_k1r, y_k1l, y_k1n, y_tl, y_tn, y_s, y_ss, List.getElem?_cons_zero, List.getElem?_cons_succ, List.set_cons_zero, List.set_cons_succ, List.length_cons, List.length_nil, true_and, and_true]
        exact hQ
theorem s_item {g : mzG} {tb : Nat → Nat} {len n a : Nat} {va : Int32} {v : Nat → Int32} {A : Nat → Nat → Int32} {r : rowsT} (hT : tx g tb len (tkE tb len a) (tkT tb len a) (tkP tb len a) va) (ha : a ≤ len) (hk : kc g) (hW : wt g 16 v A) (hv : v 0 = nI n) (h1 : 1 ≤ n) (hn : n ≤ 9) (hd : dr A r) (hbad : ∀ f, pit tb len n a r = .inl f → ∀ g' a' t' va' A', tx g' tb len a' t' f va' → wt g' 16 v A' → fr g g' 15 28 → Q (some (.int 0)) g') (hok : ∀ a' r', pit tb len n a r = .inr (a', r') → ∀ g' t' p' va' A', tx g' tb len a' t' p' va' → wt g' 16 v A' → dr A' r' → a < a' → a' ≤ len → fr g g' 15 28 → Q (some (.int 1)) g') : wp 68 b 0 [.ref 15, .null, .null] [] g Q := by
  have hE := tkE_b (tb := tb) ha
  simp (disch := omega) only [q_X8_itemEnds_0, q_X8_itemEnds_1, hT.1, y_is, y_gf, y_pf, y_f0, y_f1, y_f3, y_nI, y_nK, y_nZ, y_nL, y_nR, y_k1i, y_k1r, y_k1l, y_k1n, y_tl, y_tn, y_s, y_ss, List.getElem?_cons_zero, List.getElem?_cons_succ, List.set_cons_zero, List.set_cons_succ, List.length_cons, List.length_nil, true_and, and_true]
  refine s_rowOf hT tkT_le hE.1 hE.2.1 hk ?_
  unfold pit at hbad hok
  cases hr : rowW tb (tkT tb len a) (tkP tb len a) (tkE tb len a) with
  | none =>
    simp only [hr] at hbad
    simp (disch := omega) only [q_X8_itemEnds_4, q_X8_itemEnds_5, q_X8_itemEnds_6, q_X8_itemEnds_7, oI, y_is, y_gf, y_pf, y_f0, y_f1, y_f3, y_nI, y_nK, y_nZ, y_nL, y_nR, y_k1i, y_k1r, y_k1l, y_k1n, y_tl, y_tn, y_s, y_ss, List.getElem?_cons_zero, List.getElem?_cons_succ, List.set_cons_zero, List.set_cons_succ, List.length_cons, List.length_nil, true_and, and_true]
    refine br1 (by first | decide | omega | trivial | simp) ?_
    simp only [q_X8_itemEnds_27, q_X8_itemEnds_28, y_is, y_gf, y_pf, y_f0, y_f1, y_f3, y_nI, y_nK, y_nZ, y_nL, y_nR, y_k1i, y_k1r, y_k1l, y_k1n, y_tl, y_tn, y_s, y_ss, List.getElem?_cons_zero, List.getElem?_cons_succ, List.set_cons_zero, List.set_cons_succ, List.length_cons, List.length_nil, true_and, and_true]
    exact ⟨by decide, hbad _ rfl g _ _ _ _ hT hW fr.rf⟩
  | some row =>
    have hrow := rowW_lt hr
    have t1 : tkT tb len a ≠ 0 := fun e => by
      rw [e] at hr
      unfold rowW isW at hr
      simp at hr
    simp only [hr, pit2] at hbad hok
    have hEa := hE.2.2 t1
    have hPa := tkP_b (tb := tb) ha
    generalize tkE tb len a = a1 at *
    have hE1 := tkE_b (tb := tb) hE.2.1
    have hP1 := tkP_b (tb := tb) hE.2.1
    simp (disch := omega) only [q_X8_itemEnds_4, q_X8_itemEnds_5, q_X8_itemEnds_6, q_X8_itemEnds_7, oI, y_is, y_gf, y_pf, y_f0, y_f1, y_f3, y_nI, y_nK, y_nZ, y_nL, y_nR, y_k1i, y_k1r, y_k1l, y_k1n, y_tl, y_tn, y_s, y_ss, List.getElem?_cons_zero, List.getElem?_cons_succ, List.set_cons_zero, List.set_cons_succ, List.length_cons, List.length_nil, true_and, and_true]
    refine br0 (fun z => (m1_ne (by omega)).mp z) ?_
    simp (disch := omega) only [q_X8_itemEnds_10, q_X8_itemEnds_11, q_X8_itemEnds_12, q_X8_itemEnds_13, q_X8_itemEnds_16, q_X8_itemEnds_19, q_X8_itemEnds_20, q_X8_itemEnds_21, hT.1, hW.1, hv, y_is, y_gf, y_pf, y_f0, y_f1, y_f3, y_nI, y_nK, y_nZ, y_nL, y_nR, y_k1i, y_k1r, y_k1l, y_k1n, y_tl, y_tn, y_s, y_ss, List.getElem?_cons_zero, List.getElem?_cons_succ, List.set_cons_zero, List.set_cons_succ, List.length_cons, List.length_nil, true_and, and_true, lit, pk_sub]
    refine s_num hT hE.2.1 (by omega) (by omega) (fun g1 va1 hT1 hv1 hf1 => ?_)
    have hW1 := hW.frm hf1 (by omega)
    by_cases c1 : tkT tb len a1 = 2 ∧ tkV tb len a1 < n
    · rw [if_pos (show tkT tb len a1 = 2 ∧ 0 ≤ tkV tb len a1 ∧ tkV tb len a1 ≤ n - 1 by omega)]
      simp only [if_pos c1, pit3] at hbad hok
      have e1 := hv1 c1.1
      have hp9 := c1.2
      subst e1
      generalize tkV tb len a1 = p at *
      generalize hEE1 : tkE tb len a1 = a2 at *
      have hE2 := tkE_b (tb := tb) hE1.2.1
      have hP2 := tkP_b (tb := tb) hE1.2.1
      simp (disch := omega) only [q_X8_itemEnds_24, y_is, y_gf, y_pf, y_f0, y_f1, y_f3, y_nI, y_nK, y_nZ, y_nL, y_nR, y_k1i, y_k1r, y_k1l, y_k1n, y_tl, y_tn, y_s, y_ss, List.getElem?_cons_zero, List.getElem?_cons_succ, List.set_cons_zero, List.set_cons_succ, List.length_cons, List.length_nil, true_and, and_true]
      refine br1 (by decide) ?_
      have hmo := (hk.frm hf1 (by omega)).2.2.2.2.2
      have hmr := kz_mo_n ⟨row, hrow⟩
      have hmb : mo row ≤ 99 := by unfold mo; split <;> omega
      simp (disch := omega) only [q_X8_itemEnds_29, q_X8_itemEnds_30, q_X8_itemEnds_33, q_X8_itemEnds_34, q_X8_itemEnds_35, q_X8_itemEnds_36, q_X8_itemEnds_39, q_X8_itemEnds_40, q_X8_itemEnds_41, hT1.1, hmo, hmr, y_is, y_gf, y_pf, y_f0, y_f1, y_f3, y_nI, y_nK, y_nZ, y_nL, y_nR, y_k1i, y_k1r, y_k1l, y_k1n, y_tl, y_tn, y_s, y_ss, List.getElem?_cons_zero, List.getElem?_cons_succ, List.set_cons_zero, List.set_cons_succ, List.length_cons, List.length_nil, true_and, and_true, y_lIn, y_lKn, y_lZn, y_lLn, y_wIn, y_wZn, y_wLn, lit, le_n, lt_n, eq_n, lit]
      refine s_num hT1 hE1.2.1 (by omega) hmb (fun g2 va2 hT2 hv2 hf2 => ?_)
      have hW2 := hW1.frm hf2 (by omega)
      by_cases c2 : tkT tb len a2 = 2 ∧ tkV tb len a2 ≤ mo row
      · rw [if_pos (show tkT tb len a2 = 2 ∧ 0 ≤ tkV tb len a2 ∧ tkV tb len a2 ≤ mo row by omega)]
        simp only [if_pos c2, pit4] at hbad hok
        have e2 := hv2 c2.1
        subst e2
        have hx9 := c2.2
        generalize tkV tb len a2 = x at *
        generalize hEE2 : tkE tb len a2 = a3 at *
        have hE3 := tkE_b (tb := tb) hE2.2.1
        have hP3 := tkP_b (tb := tb) hE2.2.1
        obtain ⟨k0, k1, k2, -⟩ := id hW2
        simp (disch := omega) only [q_X8_itemEnds_44, y_is, y_gf, y_pf, y_f0, y_f1, y_f3, y_nI, y_nK, y_nZ, y_nL, y_nR, y_k1i, y_k1r, y_k1l, y_k1n, y_tl, y_tn, y_s, y_ss, List.getElem?_cons_zero, List.getElem?_cons_succ, List.set_cons_zero, List.set_cons_succ, List.length_cons, List.length_nil, true_and, and_true]
        refine br1 (by decide) ?_
        simp (disch := omega) only [q_X8_itemEnds_49, q_X8_itemEnds_50, q_X8_itemEnds_53, q_X8_itemEnds_56, q_X8_itemEnds_57, q_X8_itemEnds_58, q_X8_itemEnds_59, q_X8_itemEnds_60, q_X8_itemEnds_63, q_X8_itemEnds_64, q_X8_itemEnds_65, hT2.1, k0, k1, k2, y_is, y_gf, y_pf, y_f0, y_f1, y_f3, y_nI, y_nK, y_nZ, y_nL, y_nR, y_k1i, y_k1r, y_k1l, y_k1n, y_tl, y_tn, y_s, y_ss, List.getElem?_cons_zero, List.getElem?_cons_succ, List.set_cons_zero, List.set_cons_succ, List.length_cons, List.length_nil, true_and, and_true, y_lIn, y_lKn, y_lZn, y_lLn, y_wIn, y_wZn, y_wLn, lit, le_n, lt_n, eq_n, y_row, y_ne, lit]
        have hW3 := hW2.row (i := row) (f := upd (A row) p (nI x)) (by omega)
        generalize hg3 : hs g2 (16 + 1 + 1 + row) _ = g3 at hW3 ⊢
        have hf3 : fr g g3 15 28 := by rw [← hg3]; exact ((hf1.wide (by omega) (by omega)).tr (hf2.wide (by omega) (by omega))).hs (by omega) (by omega)
        have hT3 : tx g3 tb len a3 (tkT tb len a2) (tkP tb len a2) (nI x) := by
          rw [← hg3]
          exact hT2.frm (fr.rf.hs (lo := 16) (hi := 28) (by omega) (by omega)) (by omega)
        have hd3 : dr (va_up A row (upd (A row) p (nI x))) (setR r row p x) := by
          refine ⟨fun i q hi hq => ?_, fun q hq => ?_⟩
          · unfold va_up setR
            by_cases ei : i = row
            · subst ei
              rw [if_pos rfl]
              by_cases eq : q = p
              · subst eq; rw [u_s, if_pos ⟨rfl, rfl⟩]
              · rw [u_n eq, if_neg (fun z => eq z.2)]; exact hd.1 i q hi hq
            · rw [if_neg ei, if_neg (fun z => ei z.1)]; exact hd.1 i q hi hq
          · unfold va_up
            rw [if_neg (by omega), if_neg (by omega)]; exact hd.2 q hq
        refine s_semi hT3 hE2.2.1 (fun g4 va4 hT4 hf4 => ?_)
        have hW4 := hW3.frm hf4 (by omega)
        have hf := hf3.tr (hf4.wide (lo' := 15) (hi' := 28) (by omega) (by omega))
        by_cases c3 : tkT tb len a3 = 3
        · rw [if_pos c3]
          simp only [if_pos c3] at hok
          simp only [q_X8_itemEnds_68, y_is, y_gf, y_pf, y_f0, y_f1, y_f3, y_nI, y_nK, y_nZ, y_nL, y_nR, y_k1i, y_k1r, y_k1l, y_k1n, y_tl, y_tn, y_s, y_ss, List.getElem?_cons_zero, List.getElem?_cons_succ, List.set_cons_zero, List.set_cons_succ, List.length_cons, List.length_nil, true_and, and_true]
          have hE3' := hE3.2.2 (by omega)
          exact ⟨by decide, hok _ _ rfl g4 _ _ _ _ hT4 hW4 hd3 (by omega) hE3.2.1 hf⟩
        · rw [if_neg c3]
          simp only [if_neg c3] at hbad
          simp only [q_X8_itemEnds_68, y_is, y_gf, y_pf, y_f0, y_f1, y_f3, y_nI, y_nK, y_nZ, y_nL, y_nR, y_k1i, y_k1r, y_k1l, y_k1n, y_tl, y_tn, y_s, y_ss, List.getElem?_cons_zero, List.getElem?_cons_succ, List.set_cons_zero, List.set_cons_succ, List.length_cons, List.length_nil, true_and, and_true]
          exact ⟨by decide, hbad _ rfl g4 _ _ _ _ hT4 hW4 hf⟩
      · rw [if_neg (show ¬ (tkT tb len a2 = 2 ∧ 0 ≤ tkV tb len a2 ∧ tkV tb len a2 ≤ mo row) by omega)]
        simp only [if_neg c2] at hbad
        simp (disch := omega) only [q_X8_itemEnds_44, q_X8_itemEnds_47, q_X8_itemEnds_48, y_is, y_gf, y_pf, y_f0, y_f1, y_f3, y_nI, y_nK, y_nZ, y_nL, y_nR, y_k1i, y_k1r, y_k1l, y_k1n, y_tl, y_tn, y_s, y_ss, List.getElem?_cons_zero, List.getElem?_cons_succ, List.set_cons_zero, List.set_cons_succ, List.length_cons, List.length_nil, true_and, and_true]
        exact br0 (by decide) ⟨by decide, hbad _ rfl g2 _ _ _ _ hT2 hW2 ((hf1.wide (by omega) (by omega)).tr (hf2.wide (by omega) (by omega)))⟩
    · rw [if_neg (show ¬ (tkT tb len a1 = 2 ∧ 0 ≤ tkV tb len a1 ∧ tkV tb len a1 ≤ n - 1) by omega)]
      simp only [if_neg c1] at hbad
      simp (disch := omega) only [q_X8_itemEnds_24, q_X8_itemEnds_27, q_X8_itemEnds_28, y_is, y_gf, y_pf, y_f0, y_f1, y_f3, y_nI, y_nK, y_nZ, y_nL, y_nR, y_k1i, y_k1r, y_k1l, y_k1n, y_tl, y_tn, y_s, y_ss, List.getElem?_cons_zero, List.getElem?_cons_succ, List.set_cons_zero, List.set_cons_succ, List.length_cons, List.length_nil, true_and, and_true]
      exact br0 (by decide) ⟨by decide, hbad _ rfl g1 _ _ _ _ hT1 hW1 (hf1.wide (by omega) (by omega))⟩
theorem s_items {g0 : mzG} {tb : Nat → Nat} {len n : Nat} {v : Nat → Int32} (h1 : 1 ≤ n) (hn : n ≤ 9) (hv : v 0 = nI n) (R : Nat ⊕ rowsT) (hbad : ∀ f, R = .inl f → ∀ g' a' t' va' A', tx g' tb len a' t' f va' → wt g' 16 v A' → fr g0 g' 15 28 → Q (some (.int (nI f))) g') (hok : ∀ r, R = .inr r → ∀ g' a' t' p' va' A', tx g' tb len a' t' p' va' → wt g' 16 v A' → dr A' r → fr g0 g' 15 28 → Q (some (.int (-1))) g') : ∀ (d i a : Nat) (r : rowsT) (g : mzG) (va : Int32) (A : Nat → Nat → Int32), i + d = 200 → i ≤ a → a ≤ len → len ≤ 200 → pits tb len n d a r = R → tx g tb len (tkE tb len a) (tkT tb len a) (tkP tb len a) va → kc g → wt g 16 v A → dr A r → fr g0 g 15 28 → wp 67 b 62 [.ref 15, .int (nI i)] [] g Q := by
  intro d
  induction d with
  | zero =>
    intro i a r g va A hi hia hal hl hR hT hk hW hd hf
    rw [pits] at hR
    rw [q_X8_parse_62]
    simp (disch := omega) only [q_X8_parse_63, q_X8_parse_66, q_X8_parse_98, q_X8_parse_99, y_is, y_gf, y_pf, y_f0, y_f1, y_f3, y_nI, y_nK, y_nZ, y_nL, y_nR, y_k1i, y_k1r, y_k1l, y_k1n, y_tl, y_tn, y_s, y_ss, List.getElem?_cons_zero, List.getElem?_cons_succ, List.set_cons_zero, List.set_cons_succ, List.length_cons, List.length_nil, true_and, and_true, y_lIn, y_lKn, y_lZn, y_lLn, y_wIn, y_wZn, y_wLn, lit, le_n, lt_n, eq_n, lit, litL, le_n, lt_n, eq_n, nI_add, m_neg, pk_sub, pk_mul, i_l, l_i, l_add, l_mul, l_sub, lc_le, lc_ge, lc_lt, lc_gt, lc_eq, l_rem2, l_rem3, i_rem2, i_rem3]
    exact br1 (by omega) (hok r hR.symm g _ _ _ _ _ hT hW hd hf)
  | succ d ih =>
    intro i a r g va A hi hia hal hl hR hT hk hW hd hf
    rw [pits] at hR
    have ht := tkT_le (tb := tb) (len := len) (a := a)
    rw [q_X8_parse_62]
    simp (disch := omega) only [q_X8_parse_63, q_X8_parse_66, q_X8_parse_69, q_X8_parse_70, q_X8_parse_73, q_X8_parse_98, q_X8_parse_99, hT.1, y_is, y_gf, y_pf, y_f0, y_f1, y_f3, y_nI, y_nK, y_nZ, y_nL, y_nR, y_k1i, y_k1r, y_k1l, y_k1n, y_tl, y_tn, y_s, y_ss, List.getElem?_cons_zero, List.getElem?_cons_succ, List.set_cons_zero, List.set_cons_succ, List.length_cons, List.length_nil, true_and, and_true, y_lIn, y_lKn, y_lZn, y_lLn, y_wIn, y_wZn, y_wLn, lit, le_n, lt_n, eq_n, lit, litL, le_n, lt_n, eq_n, nI_add, m_neg, pk_sub, pk_mul, i_l, l_i, l_add, l_mul, l_sub, lc_le, lc_ge, lc_lt, lc_gt, lc_eq, l_rem2, l_rem3, i_rem2, i_rem3]
    refine br0 (by omega) (brs (fun z => ?_) (fun z => ?_))
    · rw [if_pos z] at hR
      exact hok r hR.symm g _ _ _ _ _ hT hW hd hf
    · rw [if_neg z] at hR
      simp (disch := omega) only [q_X8_parse_76, q_X8_parse_77, hT.1, y_is, y_gf, y_pf, y_f0, y_f1, y_f3, y_nI, y_nK, y_nZ, y_nL, y_nR, y_k1i, y_k1r, y_k1l, y_k1n, y_tl, y_tn, y_s, y_ss, List.getElem?_cons_zero, List.getElem?_cons_succ, List.set_cons_zero, List.set_cons_succ, List.length_cons, List.length_nil, true_and, and_true]
      refine s_item hT hal hk hW hv h1 hn hd (fun f e g1 a1 t1 va1 A1 hT1 hW1 hf1 => ?_) (fun a2 r2 e g1 t1 p1 va1 A1 hT1 hW1 hd1 hlt hle hf1 => ?_)
      · rw [e] at hR
        simp (disch := omega) only [q_X8_parse_80, q_X8_parse_83, q_X8_parse_84, q_X8_parse_87, hT1.1, y_is, y_gf, y_pf, y_f0, y_f1, y_f3, y_nI, y_nK, y_nZ, y_nL, y_nR, y_k1i, y_k1r, y_k1l, y_k1n, y_tl, y_tn, y_s, y_ss, List.getElem?_cons_zero, List.getElem?_cons_succ, List.set_cons_zero, List.set_cons_succ, List.length_cons, List.length_nil, true_and, and_true]
        exact br0 (by decide) (hbad f hR.symm g1 _ _ _ _ hT1 hW1 (hf.tr hf1))
      · rw [e] at hR
        simp (disch := omega) only [q_X8_parse_80, y_is, y_gf, y_pf, y_f0, y_f1, y_f3, y_nI, y_nK, y_nZ, y_nL, y_nR, y_k1i, y_k1r, y_k1l, y_k1n, y_tl, y_tn, y_s, y_ss, List.getElem?_cons_zero, List.getElem?_cons_succ, List.set_cons_zero, List.set_cons_succ, List.length_cons, List.length_nil, true_and, and_true]
        refine br1 (by decide) ?_
        simp (disch := omega) only [q_X8_parse_88, q_X8_parse_89, hT1.1, y_is, y_gf, y_pf, y_f0, y_f1, y_f3, y_nI, y_nK, y_nZ, y_nL, y_nR, y_k1i, y_k1r, y_k1l, y_k1n, y_tl, y_tn, y_s, y_ss, List.getElem?_cons_zero, List.getElem?_cons_succ, List.set_cons_zero, List.set_cons_succ, List.length_cons, List.length_nil, true_and, and_true]
        refine s_advance hT1 hle (fun g2 va2 hT2 hv2 hf2 => ?_)
        simp (disch := omega) only [q_X8_parse_92, q_X8_parse_95, y_is, y_gf, y_pf, y_f0, y_f1, y_f3, y_nI, y_nK, y_nZ, y_nL, y_nR, y_k1i, y_k1r, y_k1l, y_k1n, y_tl, y_tn, y_s, y_ss, List.getElem?_cons_zero, List.getElem?_cons_succ, List.set_cons_zero, List.set_cons_succ, List.length_cons, List.length_nil, true_and, and_true, lit, nI_add]
        have hf12 := hf1.tr (hf2.wide (lo' := 15) (hi' := 28) (by omega) (by omega))
        exact ih (i + 1) a2 r2 g2 va2 A1 (by omega) (by omega) hle hl hR hT2 (hk.frm hf12 (by omega)) (hW1.frm hf2 (by omega)) hd1 (hf.tr hf12)
theorem s_parse {g : mzG} {tb : Nat → Nat} {len a t p : Nat} {va : Int32} {v : Nat → Int32} {A : Nat → Nat → Int32} (hT : tx g tb len a t p va) (hk : kc g) (hW : wt g 16 v A) (hbad : ∀ f, pal tb len = .inl f → f ≤ 200 → ∀ g' a' t' va' v' A', tx g' tb len a' t' f va' → wt g' 16 v' A' → fr g g' 15 28 → Q (some (.int (nI f))) g') (hok : ∀ n r, pal tb len = .inr (n, r) → 1 ≤ n → n ≤ 9 → ∀ g' a' t' p' va' v' A', tx g' tb len a' t' p' va' → wt g' 16 v' A' → v' 0 = nI n → dr A' r → fr g g' 15 28 → Q (some (.int (-1))) g') : wp 67 b 0 [.ref 15, .null] [] g Q := by
  have hlen := hT.2.2
  have bnd : ∀ f, pal tb len = .inl f → f ≤ 200 := by
    have pb : ∀ a, a ≤ len → tkP tb len a ≤ 200 := fun a h => by have := tkP_b (tb := tb) h; omega
    have eb : ∀ a, a ≤ len → tkE tb len a ≤ len := fun a h => (tkE_b (tb := tb) h).2.1
    have p4 : ∀ a r f, a ≤ len → pit4 tb len a r = .inl f → f ≤ 200 := fun a r f h e => by
      unfold pit4 at e
      split at e
      · simp at e
      · have := Sum.inl.inj e; have := pb a h; omega
    have p4' : ∀ a r a' r', a ≤ len → pit4 tb len a r = .inr (a', r') → a' ≤ len := fun a r a' r' h e => by
      unfold pit4 at e
      split at e
      · have := (Prod.mk.inj (Sum.inr.inj e)).1; have := eb a h; omega
      · simp at e
    have pi : ∀ n a r, a ≤ len → (∀ f, pit tb len n a r = .inl f → f ≤ 200) ∧ (∀ a' r', pit tb len n a r = .inr (a', r') → a' ≤ len) := by
      intro n a r h
      have q0 := pb a h
      have q1 := eb a h
      have q2 := pb _ q1
      have q3 := eb _ q1
      have q4 := pb _ q3
      have q5 := eb _ q3
      unfold pit
      cases rowW tb (tkT tb len a) (tkP tb len a) (tkE tb len a) with
      | none => exact ⟨fun f e => by have := Sum.inl.inj e; omega, fun a' r' e => by simp at e⟩
      | some row =>
        simp only [pit2]
        by_cases c1 : tkT tb len (tkE tb len a) = 2 ∧ tkV tb len (tkE tb len a) < n
        · simp only [if_pos c1, pit3]
          by_cases c2 : tkT tb len (tkE tb len (tkE tb len a)) = 2 ∧ tkV tb len (tkE tb len (tkE tb len a)) ≤ mo row
          · simp only [if_pos c2]
            exact ⟨fun f e => p4 _ _ f q5 e, fun a' r' e => p4' _ _ a' r' q5 e⟩
          · simp only [if_neg c2]
            exact ⟨fun f e => by have := Sum.inl.inj e; omega, fun a' r' e => by simp at e⟩
        · simp only [if_neg c1]
          exact ⟨fun f e => by have := Sum.inl.inj e; omega, fun a' r' e => by simp at e⟩
    have ps : ∀ n d a r f, a ≤ len → pits tb len n d a r = .inl f → f ≤ 200 := by
      intro n d
      induction d with
      | zero => intro a r f h e; simp [pits] at e
      | succ d ih =>
        intro a r f h e
        rw [pits] at e
        split at e
        · simp at e
        · have := pi n a r h
          split at e
          · rename_i f' e'
            have h2 := Sum.inl.inj e
            have := this.1 _ e'
            omega
          · rename_i a' r' e'
            exact ih a' r' f (this.2 _ _ e') e
    intro f e
    have h0 : (0 : Nat) ≤ len := Nat.zero_le _
    unfold pal at e
    split at e
    · unfold pal2 at e
      split at e
      · unfold pal3 at e
        split at e
        · split at e
          · rename_i f' e'
            have h2 := Sum.inl.inj e
            have := ps _ _ _ _ _ (eb _ (eb _ (eb _ h0))) e'
            omega
          · simp at e
        · have h2 := Sum.inl.inj e
          have := pb _ (eb _ (eb _ h0))
          omega
      · have h2 := Sum.inl.inj e
        have := pb _ (eb _ h0)
        omega
    · have h2 := Sum.inl.inj e
      have := pb _ h0
      omega
  have hE0 := tkE_b (tb := tb) (Nat.zero_le len)
  simp (disch := omega) only [q_X8_parse_0, q_X8_parse_1, q_X8_parse_2, q_X8_parse_5, q_X8_parse_6, hT.1, y_is, y_gf, y_pf, y_f0, y_f1, y_f3, y_nI, y_nK, y_nZ, y_nL, y_nR, y_k1i, y_k1r, y_k1l, y_k1n, y_tl, y_tn, y_s, y_ss, List.getElem?_cons_zero, List.getElem?_cons_succ, List.set_cons_zero, List.set_cons_succ, List.length_cons, List.length_nil, true_and, and_true, lit]
  refine ⟨by decide, ?_⟩
  have hT0 := hT.nu (a' := 0) (t' := t) (p' := p) (va' := va)
  generalize hg0 : hs g 15 _ = g0 at hT0 ⊢
  have hf0 : fr g g0 15 16 := by rw [← hg0]; exact fr.rf.hs (by omega) (by omega)
  refine s_advance hT0 (Nat.zero_le _) (fun g1 va1 hT1 hv1 hf1 => ?_)
  have hF1 : fr g g1 15 28 := (hf0.tr hf1).wide (by omega) (by omega)
  have hk1 := hk.frm hF1 (by omega)
  have hW1 : wt g1 16 v A := (hW.frm hf0 (by omega)).frm hf1 (by omega)
  simp (disch := omega) only [q_X8_parse_9, q_X8_parse_10, q_X8_parse_12, hT1.1, y_is, y_gf, y_pf, y_f0, y_f1, y_f3, y_nI, y_nK, y_nZ, y_nL, y_nR, y_k1i, y_k1r, y_k1l, y_k1n, y_tl, y_tn, y_s, y_ss, List.getElem?_cons_zero, List.getElem?_cons_succ, List.set_cons_zero, List.set_cons_succ, List.length_cons, List.length_nil, true_and, and_true]
  refine s_isWord hT1 tkT_le hE0.1 hE0.2.1 hk1.1 (by decide) ?_
  cases hw : isW tb (tkT tb len 0) (tkP tb len 0) (tkE tb len 0) wPosts with
  | false =>
    have hp : pal tb len = .inl (tkP tb len 0) := by unfold pal; rw [hw, if_neg (by decide)]
    simp only [Bool.false_eq_true, if_false, q_X8_parse_15, y_is, y_gf, y_pf, y_f0, y_f1, y_f3, y_nI, y_nK, y_nZ, y_nL, y_nR, y_k1i, y_k1r, y_k1l, y_k1n, y_tl, y_tn, y_s, y_ss, List.getElem?_cons_zero, List.getElem?_cons_succ, List.set_cons_zero, List.set_cons_succ, List.length_cons, List.length_nil, true_and, and_true]
    refine br1 (by first | decide | omega | trivial | simp) ?_
    simp (disch := omega) only [q_X8_parse_28, q_X8_parse_29, q_X8_parse_32, hT1.1, y_is, y_gf, y_pf, y_f0, y_f1, y_f3, y_nI, y_nK, y_nZ, y_nL, y_nR, y_k1i, y_k1r, y_k1l, y_k1n, y_tl, y_tn, y_s, y_ss, List.getElem?_cons_zero, List.getElem?_cons_succ, List.set_cons_zero, List.set_cons_succ, List.length_cons, List.length_nil, true_and, and_true]
    exact hbad _ hp (bnd _ hp) g1 _ _ _ _ _ hT1 hW1 hF1
  | true =>
    have hp : pal tb len = pal2 tb len (tkE tb len 0) := by unfold pal; rw [hw, if_pos rfl]
    have hE1 := tkE_b (tb := tb) hE0.2.1
    simp only [if_true, q_X8_parse_15, y_is, y_gf, y_pf, y_f0, y_f1, y_f3, y_nI, y_nK, y_nZ, y_nL, y_nR, y_k1i, y_k1r, y_k1l, y_k1n, y_tl, y_tn, y_s, y_ss, List.getElem?_cons_zero, List.getElem?_cons_succ, List.set_cons_zero, List.set_cons_succ, List.length_cons, List.length_nil, true_and, and_true]
    refine br0 (by first | decide | omega | trivial | simp) ?_
    simp (disch := omega) only [q_X8_parse_18, q_X8_parse_19, q_X8_parse_20, q_X8_parse_22, hT1.1, y_is, y_gf, y_pf, y_f0, y_f1, y_f3, y_nI, y_nK, y_nZ, y_nL, y_nR, y_k1i, y_k1r, y_k1l, y_k1n, y_tl, y_tn, y_s, y_ss, List.getElem?_cons_zero, List.getElem?_cons_succ, List.set_cons_zero, List.set_cons_succ, List.length_cons, List.length_nil, true_and, and_true]
    refine s_num (lo := 1) (hi := 9) hT1 hE0.2.1 (by omega) (by omega) (fun g2 va2 hT2 hv2 hf2 => ?_)
    have hF2 : fr g g2 15 28 := hF1.tr (hf2.wide (by omega) (by omega))
    have hk2 := hk.frm hF2 (by omega)
    have hW2 : wt g2 16 v A := hW1.frm hf2 (by omega)
    generalize tkE tb len 0 = a1 at *
    by_cases c1 : tkT tb len a1 = 2 ∧ 1 ≤ tkV tb len a1 ∧ tkV tb len a1 ≤ 9
    · rw [if_pos c1]
      have hp : pal tb len = pal3 tb len (tkV tb len a1) (tkE tb len a1) := by rw [hp]; unfold pal2; rw [if_pos c1]
      have e2 := hv2 c1.1
      have hn := c1.2
      subst e2
      generalize tkV tb len a1 = n at *
      generalize tkE tb len a1 = a2 at *
      have hE2 := tkE_b (tb := tb) hE1.2.1
      simp (disch := omega) only [q_X8_parse_25, y_is, y_gf, y_pf, y_f0, y_f1, y_f3, y_nI, y_nK, y_nZ, y_nL, y_nR, y_k1i, y_k1r, y_k1l, y_k1n, y_tl, y_tn, y_s, y_ss, List.getElem?_cons_zero, List.getElem?_cons_succ, List.set_cons_zero, List.set_cons_succ, List.length_cons, List.length_nil, true_and, and_true]
      refine br1 (by decide) ?_
      simp (disch := omega) only [q_X8_parse_33, q_X8_parse_34, q_X8_parse_37, q_X8_parse_38, q_X8_parse_41, hT2.1, hW2.1, y_is, y_gf, y_pf, y_f0, y_f1, y_f3, y_nI, y_nK, y_nZ, y_nL, y_nR, y_k1i, y_k1r, y_k1l, y_k1n, y_tl, y_tn, y_s, y_ss, List.getElem?_cons_zero, List.getElem?_cons_succ, List.set_cons_zero, List.set_cons_succ, List.length_cons, List.length_nil, true_and, and_true]
      refine s_layOut (by omega) hW2 hk2.2.2.2.2.1 (fun g3 hW3 hf3 => ?_)
      have hF3 : fr g g3 15 28 := hF2.tr (hf3.wide (by omega) (by omega))
      have hT3 := hT2.frm hf3 (by omega)
      simp (disch := omega) only [q_X8_parse_44, q_X8_parse_45, hT3.1, y_is, y_gf, y_pf, y_f0, y_f1, y_f3, y_nI, y_nK, y_nZ, y_nL, y_nR, y_k1i, y_k1r, y_k1l, y_k1n, y_tl, y_tn, y_s, y_ss, List.getElem?_cons_zero, List.getElem?_cons_succ, List.set_cons_zero, List.set_cons_succ, List.length_cons, List.length_nil, true_and, and_true]
      refine s_semi hT3 hE1.2.1 (fun g4 va4 hT4 hf4 => ?_)
      have hF4 : fr g g4 15 28 := hF3.tr (hf4.wide (by omega) (by omega))
      have hW4 := hW3.frm hf4 (by omega)
      by_cases c2 : tkT tb len a2 = 3
      · rw [if_pos c2]
        have hp : pal tb len = (match pits tb len n 200 (tkE tb len a2) row0 with
          | .inl f => .inl f
          | .inr r => .inr (n, r)) := by rw [hp]; unfold pal3; rw [if_pos c2]
        simp (disch := omega) only [q_X8_parse_48, y_is, y_gf, y_pf, y_f0, y_f1, y_f3, y_nI, y_nK, y_nZ, y_nL, y_nR, y_k1i, y_k1r, y_k1l, y_k1n, y_tl, y_tn, y_s, y_ss, List.getElem?_cons_zero, List.getElem?_cons_succ, List.set_cons_zero, List.set_cons_succ, List.length_cons, List.length_nil, true_and, and_true]
        refine br1 (by decide) ?_
        simp (disch := omega) only [q_X8_parse_56, q_X8_parse_57, hT4.1, y_is, y_gf, y_pf, y_f0, y_f1, y_f3, y_nI, y_nK, y_nZ, y_nL, y_nR, y_k1i, y_k1r, y_k1l, y_k1n, y_tl, y_tn, y_s, y_ss, List.getElem?_cons_zero, List.getElem?_cons_succ, List.set_cons_zero, List.set_cons_succ, List.length_cons, List.length_nil, true_and, and_true]
        refine s_advance hT4 hE2.2.1 (fun g5 va5 hT5 hv5 hf5 => ?_)
        have hF5 : fr g g5 15 28 := hF4.tr (hf5.wide (by omega) (by omega))
        have hW5 := hW4.frm hf5 (by omega)
        simp (disch := omega) only [q_X8_parse_60, q_X8_parse_61, y_is, y_gf, y_pf, y_f0, y_f1, y_f3, y_nI, y_nK, y_nZ, y_nL, y_nR, y_k1i, y_k1r, y_k1l, y_k1n, y_tl, y_tn, y_s, y_ss, List.getElem?_cons_zero, List.getElem?_cons_succ, List.set_cons_zero, List.set_cons_succ, List.length_cons, List.length_nil, true_and, and_true]
        refine s_items (v := layv v (nI n)) hn.1 hn.2 rfl (pits tb len n 200 (tkE tb len a2) row0) (fun f e g' a' t' va' A' q1 q2 q3 => ?_) (fun r e g' a' t' p' va' A' q1 q2 q3 q4 => ?_) 200 0 _ row0 g5 va5 _ (by omega) (by omega) hE2.2.1 hlen rfl hT5 (hk.frm hF5 (by omega)) hW5 ?_ hF5
        · have hp : pal tb len = .inl f := by rw [hp, e]
          exact hbad f hp (bnd _ hp) g' _ _ _ _ _ q1 q2 q3
        · have hp : pal tb len = .inr (n, r) := by rw [hp, e]
          exact hok n r hp hn.1 hn.2 g' _ _ _ _ _ _ q1 q2 rfl q3 q4
        · have h3 : ∀ i : Fin 3, kz_at i.val = nI (row0 i.val 0) := by decide +kernel
          refine ⟨fun i q hi hq => ?_, fun q hq => ?_⟩
          · unfold lay5
            rw [if_pos (by omega)]
            show (if q < 9 then kz_at i else A i q) = _
            rw [if_pos hq]
            exact h3 ⟨i, hi⟩
          · unfold lay5
            rw [if_pos (by omega), if_pos (by omega), if_pos (by omega), if_pos (by omega)]
            exact ⟨rfl, rfl⟩
      · rw [if_neg c2]
        have hp : pal tb len = .inl (tkP tb len a2) := by rw [hp]; unfold pal3; rw [if_neg c2]
        simp (disch := omega) only [q_X8_parse_48, q_X8_parse_51, q_X8_parse_52, q_X8_parse_55, hT4.1, y_is, y_gf, y_pf, y_f0, y_f1, y_f3, y_nI, y_nK, y_nZ, y_nL, y_nR, y_k1i, y_k1r, y_k1l, y_k1n, y_tl, y_tn, y_s, y_ss, List.getElem?_cons_zero, List.getElem?_cons_succ, List.set_cons_zero, List.set_cons_succ, List.length_cons, List.length_nil, true_and, and_true]
        exact br0 (by decide) (hbad _ hp (bnd _ hp) g4 _ _ _ _ _ hT4 hW4 hF4)
    · rw [if_neg c1]
      have hp : pal tb len = .inl (tkP tb len a1) := by rw [hp]; unfold pal2; rw [if_neg c1]
      simp (disch := omega) only [q_X8_parse_25, q_X8_parse_28, q_X8_parse_29, q_X8_parse_32, hT2.1, y_is, y_gf, y_pf, y_f0, y_f1, y_f3, y_nI, y_nK, y_nZ, y_nL, y_nR, y_k1i, y_k1r, y_k1l, y_k1n, y_tl, y_tn, y_s, y_ss, List.getElem?_cons_zero, List.getElem?_cons_succ, List.set_cons_zero, List.set_cons_succ, List.length_cons, List.length_nil, true_and, and_true]
      exact br0 (by decide) (hbad _ hp (bnd _ hp) g2 _ _ _ _ _ hT2 hW2 hF2)
end PARSE
