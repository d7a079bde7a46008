/-! ===== THE RULE: words ===== -/
def rk (c : Nat) : Nat := if c = 33 ∨ c = 126 then 6 else if c = 124 then 1 else if c = 38 then 2 else if c = 60 ∨ c = 61 ∨ c = 62 then 3 else if c = 43 ∨ c = 45 then 4 else if c = 42 ∨ c = 47 then 5 else 0
def nm (c : Nat) : Bool := c == 104 || c == 110 || c == 115 || c == 116 || c == 108 || c == 120
def dg (c : Nat) : Bool := decide (48 ≤ c) && decide (c ≤ 57)
/-- a step: a number, or a sign -/
abbrev stp : Type := Nat ⊕ Nat
def stI : stp → Int32
  | .inl v => nI v
  | .inr c => -(nI c)
def one (c : Nat) (a : Int64) : Int64 := if c = 33 then (if a = 0 then 1 else 0) else -a
def two (c : Nat) (a b : Int64) : Int64 := if c = 124 then (if a = 0 ∧ b = 0 then 0 else 1) else if c = 38 then (if a = 0 ∨ b = 0 then 0 else 1) else if c = 60 then (if a < b then 1 else 0) else if c = 62 then (if b < a then 1 else 0) else if c = 61 then (if a = b then 1 else 0) else if c = 43 then a + b else if c = 45 then a - b else if c = 42 then a * b else if b = 0 then 0 else a / b
def ev (env : Nat → Int64) : stp → List Int64 → List Int64
  | .inl v, s => lN v :: s
  | .inr c, s => if nm c then env c :: s else if rk c = 6 then (match s with
      | a :: r => one c a :: r
      | [] => []) else (match s with
      | b :: a :: r => two c a b :: r
      | r => r)
def ea (env : Nat → Int64) : List stp → List Int64
  | [] => []
  | x :: r => ev env x (ea env r)
theorem ea_len (env : Nat → Int64) : ∀ L, (ea env L).length ≤ L.length
  | [] => Nat.le_refl _
  | x :: r => by
    have := ea_len env r
    show (ev env x (ea env r)).length ≤ r.length + 1
    unfold ev
    split
    · simp; omega
    · split
      · simp; omega
      · split
        · split
          · rename_i h; rw [h] at this; simp at this ⊢; omega
          · simp
        · split
          · rename_i h; rw [h] at this; simp at this ⊢; omega
          · omega
/-- stacks in a row of numbers: the topmost first -/
def sfI (f : Nat → Int32) : List Int32 → Prop
  | [] => True
  | x :: r => f r.length = x ∧ sfI f r
theorem sfI_up {f : Nat → Int32} {k : Nat} {x : Int32} : ∀ {l : List Int32}, sfI f l → l.length ≤ k → sfI (upd f k x) l
  | [], _, _ => trivial
  | y :: r, h, hk => by
    simp only [List.length_cons] at hk
    exact ⟨by rw [u_n (by omega)]; exact h.1, sfI_up h.2 (by omega)⟩
theorem sfI_push {f : Nat → Int32} {x : Int32} {l : List Int32} (h : sfI f l) : sfI (upd f l.length x) (x :: l) := ⟨u_s, sfI_up h (Nat.le_refl _)⟩
theorem sfI_get {f : Nat → Int32} : ∀ {l : List Int32} {j : Nat} {x : Int32}, sfI f l → l[j]? = some x → f (l.length - 1 - j) = x
  | [], j, x, _, h => by simp at h
  | y :: r, 0, x, h, e => by
    simp at e
    subst e
    rw [List.length_cons, Nat.add_sub_cancel, Nat.sub_zero]; exact h.1
  | y :: r, j + 1, x, h, e => by
    rw [List.getElem?_cons_succ] at e
    rw [List.length_cons, show r.length + 1 - 1 - (j + 1) = r.length - 1 - j by omega]
    exact sfI_get h.2 e
def sfL (f : Nat → Int64) : List Int64 → Prop
  | [] => True
  | x :: r => f r.length = x ∧ sfL f r
theorem uL_n {f : Nat → Int64} {p q : Nat} {x : Int64} (h : q ≠ p) : vp_updL f p x q = f q := by unfold vp_updL; rw [if_neg h]
theorem uL_s {f : Nat → Int64} {p : Nat} {x : Int64} : vp_updL f p x p = x := by unfold vp_updL; rw [if_pos rfl]
theorem sfL_up {f : Nat → Int64} {k : Nat} {x : Int64} : ∀ {l : List Int64}, sfL f l → l.length ≤ k → sfL (vp_updL f k x) l
  | [], _, _ => trivial
  | y :: r, h, hk => by
    simp only [List.length_cons] at hk
    exact ⟨by rw [uL_n (by omega)]; exact h.1, sfL_up h.2 (by omega)⟩
theorem sfL_push {f : Nat → Int64} {x : Int64} {l : List Int64} (h : sfL f l) : sfL (vp_updL f l.length x) (x :: l) := ⟨uL_s, sfL_up h (Nat.le_refl _)⟩
/-- signs that are due -/
def rel (r : Nat) : List Nat → List stp → List Nat × List stp
  | [], L => ([], L)
  | c :: w, L => if r ≤ rk c then rel r w (.inr c :: L) else (c :: w, L)
theorem rel_len (r : Nat) : ∀ w L, (rel r w L).1.length + (rel r w L).2.length = w.length + L.length ∧ (rel r w L).1.length ≤ w.length
  | [], L => by simp [rel]
  | c :: w, L => by
    rw [rel]
    split
    · have := rel_len r w (.inr c :: L)
      simp only [List.length_cons] at this ⊢
      omega
    · simp
theorem rel_mem (r : Nat) : ∀ w L c, c ∈ (rel r w L).1 → c ∈ w
  | [], L, c, h => by simp [rel] at h
  | d :: w, L, c, h => by
    rw [rel] at h
    split at h
    · exact List.mem_cons_of_mem _ (rel_mem r w _ c h)
    · exact h
theorem rel_mem2 (r : Nat) : ∀ w L x, x ∈ (rel r w L).2 → x ∈ L ∨ ∃ c, c ∈ w ∧ x = .inr c
  | [], L, x, h => Or.inl (by simpa [rel] using h)
  | d :: w, L, x, h => by
    rw [rel] at h
    split at h
    · rcases rel_mem2 r w _ x h with q | ⟨c, q1, q2⟩
      · rcases List.mem_cons.mp q with e | e
        · exact Or.inr ⟨d, List.mem_cons_self, e⟩
        · exact Or.inl e
      · exact Or.inr ⟨c, List.mem_cons_of_mem _ q1, q2⟩
    · exact Or.inl h
/-- THE RULE's object at 30 -/
def ru (g : mzG) (fl lb due : Int32) (L : List stp) (w : List Nat) (op : Nat) : Prop :=
  g.2 30 = ob 4 [.int fl, .int lb, .ref 31, .int (nI L.length), .ref 32, .int (nI w.length), .int (nI op), .int due, .ref 33] ∧ (∃ f, g.2 31 = aI 40 f ∧ sfI f (L.map stI)) ∧ (∃ f, g.2 32 = aI 40 f ∧ sfI f (w.map nI)) ∧ ∃ S, g.2 33 = aL 40 S
theorem ru.frm {g g' : mzG} {fl lb due : Int32} {L : List stp} {w : List Nat} {op lo hi : Nat} (h : ru g fl lb due L w op) (hf : fr g g' lo hi) (ha : 34 ≤ lo ∨ hi ≤ 30) : ru g' fl lb due L w op := by
  obtain ⟨h1, ⟨f2, h2, h2'⟩, ⟨f3, h3, h3'⟩, S, h4⟩ := h
  exact ⟨by rw [hf.2 _ (by omega)]; exact h1, ⟨f2, by rw [hf.2 _ (by omega)]; exact h2, h2'⟩, ⟨f3, by rw [hf.2 _ (by omega)]; exact h3, h3'⟩, S, by rw [hf.2 _ (by omega)]; exact h4⟩
/-- its numbers anew -/
theorem ru.nu {g : mzG} {fl lb due fl' lb' due' : Int32} {L : List stp} {w : List Nat} {op op' : Nat} (h : ru g fl lb due L w op) : ru (hs g 30 (ob 4 [.int fl', .int lb', .ref 31, .int (nI L.length), .ref 32, .int (nI w.length), .int (nI op'), .int due', .ref 33])) fl' lb' due' L w op' := by
  obtain ⟨h1, ⟨f2, h2, h2'⟩, ⟨f3, h3, h3'⟩, S, h4⟩ := h
  exact ⟨y_s, ⟨f2, by rw [y_ne (by decide)]; exact h2, h2'⟩, ⟨f3, by rw [y_ne (by decide)]; exact h3, h3'⟩, S, by rw [y_ne (by decide)]; exact h4⟩
/-- the topmost sign taken away -/
theorem ru.pop {g : mzG} {fl lb due : Int32} {L : List stp} {c : Nat} {w : List Nat} {op : Nat} (h : ru g fl lb due L (c :: w) op) : ru (hs g 30 (ob 4 [.int fl, .int lb, .ref 31, .int (nI L.length), .ref 32, .int (nI w.length), .int (nI op), .int due, .ref 33])) fl lb due L w op := by
  obtain ⟨h1, ⟨f2, h2, h2'⟩, ⟨f3, h3, h3'⟩, S, h4⟩ := h
  exact ⟨y_s, ⟨f2, by rw [y_ne (by decide)]; exact h2, h2'⟩, ⟨f3, by rw [y_ne (by decide)]; exact h3, h3'.2⟩, S, by rw [y_ne (by decide)]; exact h4⟩
theorem lcq {x y : Int64} : (lg_cmp x y = 0) = (x = y) := propext (lg_cmp_eq x y)
theorem lcl {x y : Int64} : (lg_cmp x y < 0) = (x < y) := propext (lg_cmp_lt x y)
theorem lcg {x y : Int64} : (0 ≤ lg_cmp x y) = (y ≤ x) := propext (lg_cmp_ge x y)
theorem lcle {x y : Int64} : (lg_cmp x y ≤ 0) = (x ≤ y) := propext (lg_cmp_le x y)
section RULE
variable {b : mzB} {Q : mzQ} {g : mzG}
theorem s_isDigit {c : Nat} (hc : c < 1000) (hQ : Q (some (.int (if dg c then 1 else 0))) g) : wp 47 b 0 [.int (nI c)] [] g Q := by
  unfold dg at hQ
  simp (disch := omega) only [q_X5_isDigit_0, q_X5_isDigit_1, q_X5_isDigit_3, y_is, y_gf, y_pf, y_f0, y_f1, y_f3, y_nI, y_nK, y_nZ, y_nL, y_nR, y_k1i, y_k1r, y_k1l, y_k1n, y_tl, y_tn, y_s, y_ss, List.getElem?_cons_zero, List.getElem?_cons_succ, List.set_cons_zero, List.set_cons_succ, List.length_cons, List.length_nil, true_and, and_true, lit, lt_n]
  refine brs (fun z => ?_) (fun z => ?_)
  · simp only [q_X5_isDigit_16, q_X5_isDigit_17, y_is, y_gf, y_pf, y_f0, y_f1, y_f3, y_nI, y_nK, y_nZ, y_nL, y_nR, y_k1i, y_k1r, y_k1l, y_k1n, y_tl, y_tn, y_s, y_ss, List.getElem?_cons_zero, List.getElem?_cons_succ, List.set_cons_zero, List.set_cons_succ, List.length_cons, List.length_nil, true_and, and_true]
    rw [if_neg (by simp; omega)] at hQ
    exact ⟨by decide, hQ⟩
  · simp (disch := omega) only [q_X5_isDigit_6, q_X5_isDigit_7, q_X5_isDigit_9, y_is, y_gf, y_pf, y_f0, y_f1, y_f3, y_nI, y_nK, y_nZ, y_nL, y_nR, y_k1i, y_k1r, y_k1l, y_k1n, y_tl, y_tn, y_s, y_ss, List.getElem?_cons_zero, List.getElem?_cons_succ, List.set_cons_zero, List.set_cons_succ, List.length_cons, List.length_nil, true_and, and_true, lit, lt_n]
    refine brs (fun y => ?_) (fun y => ?_)
    · simp only [q_X5_isDigit_16, q_X5_isDigit_17, y_is, y_gf, y_pf, y_f0, y_f1, y_f3, y_nI, y_nK, y_nZ, y_nL, y_nR, y_k1i, y_k1r, y_k1l, y_k1n, y_tl, y_tn, y_s, y_ss, List.getElem?_cons_zero, List.getElem?_cons_succ, List.set_cons_zero, List.set_cons_succ, List.length_cons, List.length_nil, true_and, and_true]
      rw [if_neg (by simp; omega)] at hQ
      exact ⟨by decide, hQ⟩
    · simp only [q_X5_isDigit_12, q_X5_isDigit_13, q_X5_isDigit_17, y_is, y_gf, y_pf, y_f0, y_f1, y_f3, y_nI, y_nK, y_nZ, y_nL, y_nR, y_k1i, y_k1r, y_k1l, y_k1n, y_tl, y_tn, y_s, y_ss, List.getElem?_cons_zero, List.getElem?_cons_succ, List.set_cons_zero, List.set_cons_succ, List.length_cons, List.length_nil, true_and, and_true]
      rw [if_pos (by simp; omega)] at hQ
      exact ⟨by decide, hQ⟩
theorem s_isName {c : Nat} (hc : c < 128) (hQ : Q (some (.int (if nm c then 1 else 0))) g) : wp 48 b 0 [.int (nI c)] [] g Q := by
  simp only [q_X5_isName_0, q_X5_isName_1]
  have k : ∀ c : Fin 128, (mz_tsf 104 [84, 86, 86, 86, 84, 86, 84, 86, 86, 86, 86, 84, 84, 86, 86, 86, 84] 86) (nI c.val) = if nm c.val then 84 else 86 := by decide +kernel
  rw [k ⟨c, hc⟩]
  cases h : nm c with
  | true =>
    rw [h] at hQ
    simp only [if_true, q_X5_isName_84, q_X5_isName_85, q_X5_isName_86, q_X5_isName_87, y_is, y_gf, y_pf, y_f0, y_f1, y_f3, y_nI, y_nK, y_nZ, y_nL, y_nR, y_k1i, y_k1r, y_k1l, y_k1n, y_tl, y_tn, y_s, y_ss, List.getElem?_cons_zero, List.getElem?_cons_succ, List.set_cons_zero, List.set_cons_succ, List.length_cons, List.length_nil, true_and, and_true] at hQ ⊢
    exact ⟨by decide, hQ⟩
  | false =>
    rw [h] at hQ
    simp only [Bool.false_eq_true, if_false, q_X5_isName_84, q_X5_isName_85, q_X5_isName_86, q_X5_isName_87, y_is, y_gf, y_pf, y_f0, y_f1, y_f3, y_nI, y_nK, y_nZ, y_nL, y_nR, y_k1i, y_k1r, y_k1l, y_k1n, y_tl, y_tn, y_s, y_ss, List.getElem?_cons_zero, List.getElem?_cons_succ, List.set_cons_zero, List.set_cons_succ, List.length_cons, List.length_nil, true_and, and_true] at hQ ⊢
    exact ⟨by decide, hQ⟩
theorem s_rankOf {c : Nat} (hc : c < 128) (hQ : Q (some (.int (nI (rk c)))) g) : wp 49 b 0 [.int (nI c)] [] g Q := by
  simp only [q_X5_rankOf_0, q_X5_rankOf_1]
  have k : ∀ c : Fin 128, ((mz_lsf [(33, 110), (38, 102), (42, 108), (43, 106), (45, 106), (47, 108), (60, 104), (61, 104), (62, 104), (124, 100), (126, 110)] 113) (nI c.val), rk c.val) ∈ [(100, 1), (102, 2), (104, 3), (106, 4), (108, 5), (110, 6), (113, 0)] := by decide +kernel
  have := k ⟨c, hc⟩
  simp only [List.mem_cons, Prod.mk.injEq, List.not_mem_nil, or_false] at this
  rcases this with ⟨e1, e2⟩ | ⟨e1, e2⟩ | ⟨e1, e2⟩ | ⟨e1, e2⟩ | ⟨e1, e2⟩ | ⟨e1, e2⟩ | ⟨e1, e2⟩
  all_goals
    rw [e1]
    rw [e2] at hQ
    simp only [q_X5_rankOf_100, q_X5_rankOf_101, q_X5_rankOf_102, q_X5_rankOf_103, q_X5_rankOf_104, q_X5_rankOf_105, q_X5_rankOf_106, q_X5_rankOf_107, q_X5_rankOf_108, q_X5_rankOf_109, q_X5_rankOf_110, q_X5_rankOf_112, q_X5_rankOf_113, q_X5_rankOf_114]
    exact hQ
theorem rk_le (c : Nat) : rk c ≤ 6 := by unfold rk; (repeat' split) <;> omega
theorem s_truth1 (hQ : Q (some (.long 1)) g) : wp 54 b 0 [.int 1] [] g Q := by
  simp only [q_X5_truth_0, q_X5_truth_1, y_is, y_gf, y_pf, y_f0, y_f1, y_f3, y_nI, y_nK, y_nZ, y_nL, y_nR, y_k1i, y_k1r, y_k1l, y_k1n, y_tl, y_tn, y_s, y_ss, List.getElem?_cons_zero, List.getElem?_cons_succ, List.set_cons_zero, List.set_cons_succ, List.length_cons, List.length_nil, true_and, and_true]
  refine br0 (by decide) ?_
  simp only [q_X5_truth_4, q_X5_truth_5, q_X5_truth_9, y_is, y_gf, y_pf, y_f0, y_f1, y_f3, y_nI, y_nK, y_nZ, y_nL, y_nR, y_k1i, y_k1r, y_k1l, y_k1n, y_tl, y_tn, y_s, y_ss, List.getElem?_cons_zero, List.getElem?_cons_succ, List.set_cons_zero, List.set_cons_succ, List.length_cons, List.length_nil, true_and, and_true]
  exact hQ
theorem s_truth0 (hQ : Q (some (.long 0)) g) : wp 54 b 0 [.int 0] [] g Q := by
  simp only [q_X5_truth_0, q_X5_truth_1, y_is, y_gf, y_pf, y_f0, y_f1, y_f3, y_nI, y_nK, y_nZ, y_nL, y_nR, y_k1i, y_k1r, y_k1l, y_k1n, y_tl, y_tn, y_s, y_ss, List.getElem?_cons_zero, List.getElem?_cons_succ, List.set_cons_zero, List.set_cons_succ, List.length_cons, List.length_nil, true_and, and_true]
  refine br1 (by decide) ?_
  simp only [q_X5_truth_8, q_X5_truth_9, y_is, y_gf, y_pf, y_f0, y_f1, y_f3, y_nI, y_nK, y_nZ, y_nL, y_nR, y_k1i, y_k1r, y_k1l, y_k1n, y_tl, y_tn, y_s, y_ss, List.getElem?_cons_zero, List.getElem?_cons_succ, List.set_cons_zero, List.set_cons_succ, List.length_cons, List.length_nil, true_and, and_true]
  exact hQ
theorem s_ofOne {c : Nat} {a : Int64} (hc : c < 128) (hQ : Q (some (.long (one c a))) g) : wp 52 b 0 [.int (nI c), .long a, .null] [] g Q := by
  unfold one at hQ
  simp (disch := omega) only [q_X5_ofOne_0, q_X5_ofOne_1, q_X5_ofOne_3, y_is, y_gf, y_pf, y_f0, y_f1, y_f3, y_nI, y_nK, y_nZ, y_nL, y_nR, y_k1i, y_k1r, y_k1l, y_k1n, y_tl, y_tn, y_s, y_ss, List.getElem?_cons_zero, List.getElem?_cons_succ, List.set_cons_zero, List.set_cons_succ, List.length_cons, List.length_nil, true_and, and_true, lit, eq_n]
  by_cases h : c = 33
  · rw [bnt h]
    rw [if_pos h] at hQ
    simp only [q_X5_ofOne_6, q_X5_ofOne_7, q_X5_ofOne_8, q_X5_ofOne_9, y_is, y_gf, y_pf, y_f0, y_f1, y_f3, y_nI, y_nK, y_nZ, y_nL, y_nR, y_k1i, y_k1r, y_k1l, y_k1n, y_tl, y_tn, y_s, y_ss, List.getElem?_cons_zero, List.getElem?_cons_succ, List.set_cons_zero, List.set_cons_succ, List.length_cons, List.length_nil, true_and, and_true, lcq]
    by_cases z : a = 0
    · rw [bnt z]
      rw [if_pos z] at hQ
      simp only [q_X5_ofOne_12, q_X5_ofOne_13, q_X5_ofOne_17, y_is, y_gf, y_pf, y_f0, y_f1, y_f3, y_nI, y_nK, y_nZ, y_nL, y_nR, y_k1i, y_k1r, y_k1l, y_k1n, y_tl, y_tn, y_s, y_ss, List.getElem?_cons_zero, List.getElem?_cons_succ, List.set_cons_zero, List.set_cons_succ, List.length_cons, List.length_nil, true_and, and_true]
      refine s_truth1 ?_
      simp only [q_X5_ofOne_20, q_X5_ofOne_25, y_is, y_gf, y_pf, y_f0, y_f1, y_f3, y_nI, y_nK, y_nZ, y_nL, y_nR, y_k1i, y_k1r, y_k1l, y_k1n, y_tl, y_tn, y_s, y_ss, List.getElem?_cons_zero, List.getElem?_cons_succ, List.set_cons_zero, List.set_cons_succ, List.length_cons, List.length_nil, true_and, and_true]
      exact hQ
    · rw [bnf z]
      rw [if_neg z] at hQ
      simp only [q_X5_ofOne_16, q_X5_ofOne_17, y_is, y_gf, y_pf, y_f0, y_f1, y_f3, y_nI, y_nK, y_nZ, y_nL, y_nR, y_k1i, y_k1r, y_k1l, y_k1n, y_tl, y_tn, y_s, y_ss, List.getElem?_cons_zero, List.getElem?_cons_succ, List.set_cons_zero, List.set_cons_succ, List.length_cons, List.length_nil, true_and, and_true]
      refine s_truth0 ?_
      simp only [q_X5_ofOne_20, q_X5_ofOne_25, y_is, y_gf, y_pf, y_f0, y_f1, y_f3, y_nI, y_nK, y_nZ, y_nL, y_nR, y_k1i, y_k1r, y_k1l, y_k1n, y_tl, y_tn, y_s, y_ss, List.getElem?_cons_zero, List.getElem?_cons_succ, List.set_cons_zero, List.set_cons_succ, List.length_cons, List.length_nil, true_and, and_true]
      exact hQ
  · rw [bnf h]
    rw [if_neg h] at hQ
    simp only [q_X5_ofOne_23, q_X5_ofOne_24, q_X5_ofOne_25, y_is, y_gf, y_pf, y_f0, y_f1, y_f3, y_nI, y_nK, y_nZ, y_nL, y_nR, y_k1i, y_k1r, y_k1l, y_k1n, y_tl, y_tn, y_s, y_ss, List.getElem?_cons_zero, List.getElem?_cons_succ, List.set_cons_zero, List.set_cons_succ, List.length_cons, List.length_nil, true_and, and_true]
    exact hQ
theorem s_ofTwo {c : Nat} {x y : Int64} (hc : c < 128) (hQ : Q (some (.long (two c x y))) g) : wp 53 b 0 [.int (nI c), .long x, .null, .long y, .null] [] g Q := by
  unfold two at hQ
  simp only [q_X5_ofTwo_0, q_X5_ofTwo_1]
  have k : ∀ c : Fin 128, (mz_lsf [(38, 97), (42, 171), (43, 163), (45, 167), (60, 118), (61, 148), (62, 133), (124, 76)] 175) (nI c.val) = if c.val = 124 then 76 else if c.val = 38 then 97 else if c.val = 60 then 118 else if c.val = 62 then 133 else if c.val = 61 then 148 else if c.val = 43 then 163 else if c.val = 45 then 167 else if c.val = 42 then 171 else 175 := by decide +kernel
  rw [k ⟨c, hc⟩]
  dsimp only
  by_cases h : c = 124
  · rw [if_pos h]; rw [if_pos h] at hQ
    simp only [q_X5_ofTwo_76, q_X5_ofTwo_77, q_X5_ofTwo_78, q_X5_ofTwo_79, y_is, y_gf, y_pf, y_f0, y_f1, y_f3, y_nI, y_nK, y_nZ, y_nL, y_nR, y_k1i, y_k1r, y_k1l, y_k1n, y_tl, y_tn, y_s, y_ss, List.getElem?_cons_zero, List.getElem?_cons_succ, List.set_cons_zero, List.set_cons_succ, List.length_cons, List.length_nil, true_and, and_true, lcq]
    by_cases z : x = 0
    · rw [bnt z]
      simp only [q_X5_ofTwo_82, q_X5_ofTwo_83, q_X5_ofTwo_84, q_X5_ofTwo_85, y_is, y_gf, y_pf, y_f0, y_f1, y_f3, y_nI, y_nK, y_nZ, y_nL, y_nR, y_k1i, y_k1r, y_k1l, y_k1n, y_tl, y_tn, y_s, y_ss, List.getElem?_cons_zero, List.getElem?_cons_succ, List.set_cons_zero, List.set_cons_succ, List.length_cons, List.length_nil, true_and, and_true, lcq]
      refine brs (fun u => ?_) (fun u => ?_)
      · rw [if_pos ⟨z, u⟩] at hQ
        simp only [q_X5_ofTwo_92, q_X5_ofTwo_93, y_is, y_gf, y_pf, y_f0, y_f1, y_f3, y_nI, y_nK, y_nZ, y_nL, y_nR, y_k1i, y_k1r, y_k1l, y_k1n, y_tl, y_tn, y_s, y_ss, List.getElem?_cons_zero, List.getElem?_cons_succ, List.set_cons_zero, List.set_cons_succ, List.length_cons, List.length_nil, true_and, and_true]
        refine s_truth0 ?_
        simp only [q_X5_ofTwo_96, y_is, y_gf, y_pf, y_f0, y_f1, y_f3, y_nI, y_nK, y_nZ, y_nL, y_nR, y_k1i, y_k1r, y_k1l, y_k1n, y_tl, y_tn, y_s, y_ss, List.getElem?_cons_zero, List.getElem?_cons_succ, List.set_cons_zero, List.set_cons_succ, List.length_cons, List.length_nil, true_and, and_true]
        exact hQ
      · rw [if_neg (fun q => u q.2)] at hQ
        simp only [q_X5_ofTwo_88, q_X5_ofTwo_89, q_X5_ofTwo_93, y_is, y_gf, y_pf, y_f0, y_f1, y_f3, y_nI, y_nK, y_nZ, y_nL, y_nR, y_k1i, y_k1r, y_k1l, y_k1n, y_tl, y_tn, y_s, y_ss, List.getElem?_cons_zero, List.getElem?_cons_succ, List.set_cons_zero, List.set_cons_succ, List.length_cons, List.length_nil, true_and, and_true]
        refine s_truth1 ?_
        simp only [q_X5_ofTwo_96, y_is, y_gf, y_pf, y_f0, y_f1, y_f3, y_nI, y_nK, y_nZ, y_nL, y_nR, y_k1i, y_k1r, y_k1l, y_k1n, y_tl, y_tn, y_s, y_ss, List.getElem?_cons_zero, List.getElem?_cons_succ, List.set_cons_zero, List.set_cons_succ, List.length_cons, List.length_nil, true_and, and_true]
        exact hQ
    · rw [bnf z]
      rw [if_neg (fun q => z q.1)] at hQ
      simp only [q_X5_ofTwo_88, q_X5_ofTwo_89, q_X5_ofTwo_93, y_is, y_gf, y_pf, y_f0, y_f1, y_f3, y_nI, y_nK, y_nZ, y_nL, y_nR, y_k1i, y_k1r, y_k1l, y_k1n, y_tl, y_tn, y_s, y_ss, List.getElem?_cons_zero, List.getElem?_cons_succ, List.set_cons_zero, List.set_cons_succ, List.length_cons, List.length_nil, true_and, and_true]
      refine s_truth1 ?_
      simp only [q_X5_ofTwo_96, y_is, y_gf, y_pf, y_f0, y_f1, y_f3, y_nI, y_nK, y_nZ, y_nL, y_nR, y_k1i, y_k1r, y_k1l, y_k1n, y_tl, y_tn, y_s, y_ss, List.getElem?_cons_zero, List.getElem?_cons_succ, List.set_cons_zero, List.set_cons_succ, List.length_cons, List.length_nil, true_and, and_true]
      exact hQ
  rw [if_neg h]; rw [if_neg h] at hQ
  by_cases h : c = 38
  · rw [if_pos h]; rw [if_pos h] at hQ
    simp only [q_X5_ofTwo_97, q_X5_ofTwo_98, q_X5_ofTwo_99, q_X5_ofTwo_100, y_is, y_gf, y_pf, y_f0, y_f1, y_f3, y_nI, y_nK, y_nZ, y_nL, y_nR, y_k1i, y_k1r, y_k1l, y_k1n, y_tl, y_tn, y_s, y_ss, List.getElem?_cons_zero, List.getElem?_cons_succ, List.set_cons_zero, List.set_cons_succ, List.length_cons, List.length_nil, true_and, and_true, lcq]
    refine brs (fun z => ?_) (fun z => ?_)
    · rw [if_pos (Or.inl z)] at hQ
      simp only [q_X5_ofTwo_113, q_X5_ofTwo_114, y_is, y_gf, y_pf, y_f0, y_f1, y_f3, y_nI, y_nK, y_nZ, y_nL, y_nR, y_k1i, y_k1r, y_k1l, y_k1n, y_tl, y_tn, y_s, y_ss, List.getElem?_cons_zero, List.getElem?_cons_succ, List.set_cons_zero, List.set_cons_succ, List.length_cons, List.length_nil, true_and, and_true]
      refine s_truth0 ?_
      simp only [q_X5_ofTwo_117, y_is, y_gf, y_pf, y_f0, y_f1, y_f3, y_nI, y_nK, y_nZ, y_nL, y_nR, y_k1i, y_k1r, y_k1l, y_k1n, y_tl, y_tn, y_s, y_ss, List.getElem?_cons_zero, List.getElem?_cons_succ, List.set_cons_zero, List.set_cons_succ, List.length_cons, List.length_nil, true_and, and_true]
      exact hQ
    · simp only [q_X5_ofTwo_103, q_X5_ofTwo_104, q_X5_ofTwo_105, q_X5_ofTwo_106, y_is, y_gf, y_pf, y_f0, y_f1, y_f3, y_nI, y_nK, y_nZ, y_nL, y_nR, y_k1i, y_k1r, y_k1l, y_k1n, y_tl, y_tn, y_s, y_ss, List.getElem?_cons_zero, List.getElem?_cons_succ, List.set_cons_zero, List.set_cons_succ, List.length_cons, List.length_nil, true_and, and_true, lcq]
      refine brs (fun u => ?_) (fun u => ?_)
      · rw [if_pos (Or.inr u)] at hQ
        simp only [q_X5_ofTwo_113, q_X5_ofTwo_114, y_is, y_gf, y_pf, y_f0, y_f1, y_f3, y_nI, y_nK, y_nZ, y_nL, y_nR, y_k1i, y_k1r, y_k1l, y_k1n, y_tl, y_tn, y_s, y_ss, List.getElem?_cons_zero, List.getElem?_cons_succ, List.set_cons_zero, List.set_cons_succ, List.length_cons, List.length_nil, true_and, and_true]
        refine s_truth0 ?_
        simp only [q_X5_ofTwo_117, y_is, y_gf, y_pf, y_f0, y_f1, y_f3, y_nI, y_nK, y_nZ, y_nL, y_nR, y_k1i, y_k1r, y_k1l, y_k1n, y_tl, y_tn, y_s, y_ss, List.getElem?_cons_zero, List.getElem?_cons_succ, List.set_cons_zero, List.set_cons_succ, List.length_cons, List.length_nil, true_and, and_true]
        exact hQ
      · rw [if_neg (fun q => q.elim z u)] at hQ
        simp only [q_X5_ofTwo_109, q_X5_ofTwo_110, q_X5_ofTwo_114, y_is, y_gf, y_pf, y_f0, y_f1, y_f3, y_nI, y_nK, y_nZ, y_nL, y_nR, y_k1i, y_k1r, y_k1l, y_k1n, y_tl, y_tn, y_s, y_ss, List.getElem?_cons_zero, List.getElem?_cons_succ, List.set_cons_zero, List.set_cons_succ, List.length_cons, List.length_nil, true_and, and_true]
        refine s_truth1 ?_
        simp only [q_X5_ofTwo_117, y_is, y_gf, y_pf, y_f0, y_f1, y_f3, y_nI, y_nK, y_nZ, y_nL, y_nR, y_k1i, y_k1r, y_k1l, y_k1n, y_tl, y_tn, y_s, y_ss, List.getElem?_cons_zero, List.getElem?_cons_succ, List.set_cons_zero, List.set_cons_succ, List.length_cons, List.length_nil, true_and, and_true]
        exact hQ
  rw [if_neg h]; rw [if_neg h] at hQ
  by_cases h : c = 60
  · rw [if_pos h]; rw [if_pos h] at hQ
    simp only [q_X5_ofTwo_118, q_X5_ofTwo_119, q_X5_ofTwo_120, q_X5_ofTwo_121, y_is, y_gf, y_pf, y_f0, y_f1, y_f3, y_nI, y_nK, y_nZ, y_nL, y_nR, y_k1i, y_k1r, y_k1l, y_k1n, y_tl, y_tn, y_s, y_ss, List.getElem?_cons_zero, List.getElem?_cons_succ, List.set_cons_zero, List.set_cons_succ, List.length_cons, List.length_nil, true_and, and_true, lcg]
    refine brs (fun z => ?_) (fun z => ?_)
    · rw [if_neg (Int64.not_lt.mpr z)] at hQ
      simp only [q_X5_ofTwo_128, q_X5_ofTwo_129, y_is, y_gf, y_pf, y_f0, y_f1, y_f3, y_nI, y_nK, y_nZ, y_nL, y_nR, y_k1i, y_k1r, y_k1l, y_k1n, y_tl, y_tn, y_s, y_ss, List.getElem?_cons_zero, List.getElem?_cons_succ, List.set_cons_zero, List.set_cons_succ, List.length_cons, List.length_nil, true_and, and_true]
      refine s_truth0 ?_
      simp only [q_X5_ofTwo_132, y_is, y_gf, y_pf, y_f0, y_f1, y_f3, y_nI, y_nK, y_nZ, y_nL, y_nR, y_k1i, y_k1r, y_k1l, y_k1n, y_tl, y_tn, y_s, y_ss, List.getElem?_cons_zero, List.getElem?_cons_succ, List.set_cons_zero, List.set_cons_succ, List.length_cons, List.length_nil, true_and, and_true]
      exact hQ
    · rw [if_pos (Int64.not_le.mp z)] at hQ
      simp only [q_X5_ofTwo_124, q_X5_ofTwo_125, q_X5_ofTwo_129, y_is, y_gf, y_pf, y_f0, y_f1, y_f3, y_nI, y_nK, y_nZ, y_nL, y_nR, y_k1i, y_k1r, y_k1l, y_k1n, y_tl, y_tn, y_s, y_ss, List.getElem?_cons_zero, List.getElem?_cons_succ, List.set_cons_zero, List.set_cons_succ, List.length_cons, List.length_nil, true_and, and_true]
      refine s_truth1 ?_
      simp only [q_X5_ofTwo_132, y_is, y_gf, y_pf, y_f0, y_f1, y_f3, y_nI, y_nK, y_nZ, y_nL, y_nR, y_k1i, y_k1r, y_k1l, y_k1n, y_tl, y_tn, y_s, y_ss, List.getElem?_cons_zero, List.getElem?_cons_succ, List.set_cons_zero, List.set_cons_succ, List.length_cons, List.length_nil, true_and, and_true]
      exact hQ
  rw [if_neg h]; rw [if_neg h] at hQ
  by_cases h : c = 62
  · rw [if_pos h]; rw [if_pos h] at hQ
    simp only [q_X5_ofTwo_133, q_X5_ofTwo_134, q_X5_ofTwo_135, q_X5_ofTwo_136, y_is, y_gf, y_pf, y_f0, y_f1, y_f3, y_nI, y_nK, y_nZ, y_nL, y_nR, y_k1i, y_k1r, y_k1l, y_k1n, y_tl, y_tn, y_s, y_ss, List.getElem?_cons_zero, List.getElem?_cons_succ, List.set_cons_zero, List.set_cons_succ, List.length_cons, List.length_nil, true_and, and_true, lcle]
    refine brs (fun z => ?_) (fun z => ?_)
    · rw [if_neg (Int64.not_lt.mpr z)] at hQ
      simp only [q_X5_ofTwo_143, q_X5_ofTwo_144, y_is, y_gf, y_pf, y_f0, y_f1, y_f3, y_nI, y_nK, y_nZ, y_nL, y_nR, y_k1i, y_k1r, y_k1l, y_k1n, y_tl, y_tn, y_s, y_ss, List.getElem?_cons_zero, List.getElem?_cons_succ, List.set_cons_zero, List.set_cons_succ, List.length_cons, List.length_nil, true_and, and_true]
      refine s_truth0 ?_
      simp only [q_X5_ofTwo_147, y_is, y_gf, y_pf, y_f0, y_f1, y_f3, y_nI, y_nK, y_nZ, y_nL, y_nR, y_k1i, y_k1r, y_k1l, y_k1n, y_tl, y_tn, y_s, y_ss, List.getElem?_cons_zero, List.getElem?_cons_succ, List.set_cons_zero, List.set_cons_succ, List.length_cons, List.length_nil, true_and, and_true]
      exact hQ
    · rw [if_pos (Int64.not_le.mp z)] at hQ
      simp only [q_X5_ofTwo_139, q_X5_ofTwo_140, q_X5_ofTwo_144, y_is, y_gf, y_pf, y_f0, y_f1, y_f3, y_nI, y_nK, y_nZ, y_nL, y_nR, y_k1i, y_k1r, y_k1l, y_k1n, y_tl, y_tn, y_s, y_ss, List.getElem?_cons_zero, List.getElem?_cons_succ, List.set_cons_zero, List.set_cons_succ, List.length_cons, List.length_nil, true_and, and_true]
      refine s_truth1 ?_
      simp only [q_X5_ofTwo_147, y_is, y_gf, y_pf, y_f0, y_f1, y_f3, y_nI, y_nK, y_nZ, y_nL, y_nR, y_k1i, y_k1r, y_k1l, y_k1n, y_tl, y_tn, y_s, y_ss, List.getElem?_cons_zero, List.getElem?_cons_succ, List.set_cons_zero, List.set_cons_succ, List.length_cons, List.length_nil, true_and, and_true]
      exact hQ
  rw [if_neg h]; rw [if_neg h] at hQ
  by_cases h : c = 61
  · rw [if_pos h]; rw [if_pos h] at hQ
    simp only [q_X5_ofTwo_148, q_X5_ofTwo_149, q_X5_ofTwo_150, q_X5_ofTwo_151, y_is, y_gf, y_pf, y_f0, y_f1, y_f3, y_nI, y_nK, y_nZ, y_nL, y_nR, y_k1i, y_k1r, y_k1l, y_k1n, y_tl, y_tn, y_s, y_ss, List.getElem?_cons_zero, List.getElem?_cons_succ, List.set_cons_zero, List.set_cons_succ, List.length_cons, List.length_nil, true_and, and_true, lcq]
    by_cases z : x = y
    · rw [bnt z]
      rw [if_pos z] at hQ
      simp only [q_X5_ofTwo_154, q_X5_ofTwo_155, q_X5_ofTwo_159, y_is, y_gf, y_pf, y_f0, y_f1, y_f3, y_nI, y_nK, y_nZ, y_nL, y_nR, y_k1i, y_k1r, y_k1l, y_k1n, y_tl, y_tn, y_s, y_ss, List.getElem?_cons_zero, List.getElem?_cons_succ, List.set_cons_zero, List.set_cons_succ, List.length_cons, List.length_nil, true_and, and_true]
      refine s_truth1 ?_
      simp only [q_X5_ofTwo_162, y_is, y_gf, y_pf, y_f0, y_f1, y_f3, y_nI, y_nK, y_nZ, y_nL, y_nR, y_k1i, y_k1r, y_k1l, y_k1n, y_tl, y_tn, y_s, y_ss, List.getElem?_cons_zero, List.getElem?_cons_succ, List.set_cons_zero, List.set_cons_succ, List.length_cons, List.length_nil, true_and, and_true]
      exact hQ
    · rw [bnf z]
      rw [if_neg z] at hQ
      simp only [q_X5_ofTwo_158, q_X5_ofTwo_159, y_is, y_gf, y_pf, y_f0, y_f1, y_f3, y_nI, y_nK, y_nZ, y_nL, y_nR, y_k1i, y_k1r, y_k1l, y_k1n, y_tl, y_tn, y_s, y_ss, List.getElem?_cons_zero, List.getElem?_cons_succ, List.set_cons_zero, List.set_cons_succ, List.length_cons, List.length_nil, true_and, and_true]
      refine s_truth0 ?_
      simp only [q_X5_ofTwo_162, y_is, y_gf, y_pf, y_f0, y_f1, y_f3, y_nI, y_nK, y_nZ, y_nL, y_nR, y_k1i, y_k1r, y_k1l, y_k1n, y_tl, y_tn, y_s, y_ss, List.getElem?_cons_zero, List.getElem?_cons_succ, List.set_cons_zero, List.set_cons_succ, List.length_cons, List.length_nil, true_and, and_true]
      exact hQ
  rw [if_neg h]; rw [if_neg h] at hQ
  by_cases h : c = 43
  · rw [if_pos h]; rw [if_pos h] at hQ
    simp only [q_X5_ofTwo_163, q_X5_ofTwo_164, q_X5_ofTwo_165, q_X5_ofTwo_166, y_is, y_gf, y_pf, y_f0, y_f1, y_f3, y_nI, y_nK, y_nZ, y_nL, y_nR, y_k1i, y_k1r, y_k1l, y_k1n, y_tl, y_tn, y_s, y_ss, List.getElem?_cons_zero, List.getElem?_cons_succ, List.set_cons_zero, List.set_cons_succ, List.length_cons, List.length_nil, true_and, and_true]
    exact hQ
  rw [if_neg h]; rw [if_neg h] at hQ
  by_cases h : c = 45
  · rw [if_pos h]; rw [if_pos h] at hQ
    simp only [q_X5_ofTwo_167, q_X5_ofTwo_168, q_X5_ofTwo_169, q_X5_ofTwo_170, y_is, y_gf, y_pf, y_f0, y_f1, y_f3, y_nI, y_nK, y_nZ, y_nL, y_nR, y_k1i, y_k1r, y_k1l, y_k1n, y_tl, y_tn, y_s, y_ss, List.getElem?_cons_zero, List.getElem?_cons_succ, List.set_cons_zero, List.set_cons_succ, List.length_cons, List.length_nil, true_and, and_true]
    exact hQ
  rw [if_neg h]; rw [if_neg h] at hQ
  by_cases h : c = 42
  · rw [if_pos h]; rw [if_pos h] at hQ
    simp only [q_X5_ofTwo_171, q_X5_ofTwo_172, q_X5_ofTwo_173, q_X5_ofTwo_174, y_is, y_gf, y_pf, y_f0, y_f1, y_f3, y_nI, y_nK, y_nZ, y_nL, y_nR, y_k1i, y_k1r, y_k1l, y_k1n, y_tl, y_tn, y_s, y_ss, List.getElem?_cons_zero, List.getElem?_cons_succ, List.set_cons_zero, List.set_cons_succ, List.length_cons, List.length_nil, true_and, and_true]
    exact hQ
  rw [if_neg h]; rw [if_neg h] at hQ
  simp only [q_X5_ofTwo_175, q_X5_ofTwo_176, q_X5_ofTwo_177, q_X5_ofTwo_178, y_is, y_gf, y_pf, y_f0, y_f1, y_f3, y_nI, y_nK, y_nZ, y_nL, y_nR, y_k1i, y_k1r, y_k1l, y_k1n, y_tl, y_tn, y_s, y_ss, List.getElem?_cons_zero, List.getElem?_cons_succ, List.set_cons_zero, List.set_cons_succ, List.length_cons, List.length_nil, true_and, and_true, lcq]
  by_cases z : y = 0
  · rw [bnt z]
    rw [if_pos z] at hQ
    simp only [q_X5_ofTwo_181, q_X5_ofTwo_182, q_X5_ofTwo_188, y_is, y_gf, y_pf, y_f0, y_f1, y_f3, y_nI, y_nK, y_nZ, y_nL, y_nR, y_k1i, y_k1r, y_k1l, y_k1n, y_tl, y_tn, y_s, y_ss, List.getElem?_cons_zero, List.getElem?_cons_succ, List.set_cons_zero, List.set_cons_succ, List.length_cons, List.length_nil, true_and, and_true]
    exact hQ
  · rw [bnf z]
    rw [if_neg z] at hQ
    simp only [q_X5_ofTwo_185, q_X5_ofTwo_186, q_X5_ofTwo_187, q_X5_ofTwo_188, y_is, y_gf, y_pf, y_f0, y_f1, y_f3, y_nI, y_nK, y_nZ, y_nL, y_nR, y_k1i, y_k1r, y_k1l, y_k1n, y_tl, y_tn, y_s, y_ss, List.getElem?_cons_zero, List.getElem?_cons_succ, List.set_cons_zero, List.set_cons_succ, List.length_cons, List.length_nil, true_and, and_true]
    exact ⟨z, hQ⟩
/-! waiting signs, steps -/
theorem s_hold {fl lb due : Int32} {L : List stp} {w : List Nat} {op c : Nat} (hR : ru g fl lb due L w op) (hw : w.length < 40) (hQ : ∀ g', ru g' fl lb due L (c :: w) op → fr g g' 30 34 → Q none g') : wp 45 b 0 [.ref 30, .int (nI c)] [] g Q := by
  obtain ⟨h1, ⟨f2, h2, h2'⟩, ⟨f3, h3, h3'⟩, S, h4⟩ := id hR
  simp (disch := omega) only [q_X5_hold_0, q_X5_hold_1, q_X5_hold_4, q_X5_hold_5, q_X5_hold_8, q_X5_hold_9, h1, h3, y_is, y_gf, y_pf, y_f0, y_f1, y_f3, y_nI, y_nK, y_nZ, y_nL, y_nR, y_k1i, y_k1r, y_k1l, y_k1n, y_tl, y_tn, y_s, y_ss, List.getElem?_cons_zero, List.getElem?_cons_succ, List.set_cons_zero, List.set_cons_succ, List.length_cons, List.length_nil, true_and, and_true, y_lIn, y_lKn, y_lZn, y_lLn, y_wIn, y_wZn, y_wLn, lit, le_n, lt_n, eq_n]
  refine br0 (by show ¬ nI 40 ≤ _; rw [le_n (by omega) (by omega)]; omega) ?_
  simp (disch := omega) only [q_X5_hold_12, q_X5_hold_13, q_X5_hold_16, q_X5_hold_17, q_X5_hold_20, q_X5_hold_21, q_X5_hold_22, q_X5_hold_23, q_X5_hold_24, q_X5_hold_27, q_X5_hold_28, q_X5_hold_29, q_X5_hold_32, h1, h3, y_is, y_gf, y_pf, y_f0, y_f1, y_f3, y_nI, y_nK, y_nZ, y_nL, y_nR, y_k1i, y_k1r, y_k1l, y_k1n, y_tl, y_tn, y_s, y_ss, List.getElem?_cons_zero, List.getElem?_cons_succ, List.set_cons_zero, List.set_cons_succ, List.length_cons, List.length_nil, true_and, and_true, y_lIn, y_lKn, y_lZn, y_lLn, y_wIn, y_wZn, y_wLn, lit, le_n, lt_n, eq_n, y_ne, nI_add]
  refine ⟨by decide, hQ _ ⟨?_, ⟨f2, ?_, h2'⟩, ⟨upd f3 w.length (nI c), ?_, ?_⟩, S, ?_⟩ ((fr.rf.hs (by omega) (by omega)).hs (by omega) (by omega))⟩
  · rw [y_s]; rfl
  · rw [y_ne (by decide), y_ne (by decide)]; exact h2
  · rw [y_ne (by decide), y_s]
  · have := sfI_push (x := nI c) h3'
    rw [List.length_map] at this
    exact this
  · rw [y_ne (by decide), y_ne (by decide)]; exact h4
theorem s_emit {fl lb due : Int32} {L : List stp} {w : List Nat} {op : Nat} {x : stp} (hR : ru g fl lb due L w op) (hw : L.length < 40) (hQ : ∀ g', ru g' fl lb due (x :: L) w op → fr g g' 30 34 → Q none g') : wp 46 b 0 [.ref 30, .int (stI x)] [] g Q := by
  obtain ⟨h1, ⟨f2, h2, h2'⟩, ⟨f3, h3, h3'⟩, S, h4⟩ := id hR
  simp (disch := omega) only [q_X5_emit_0, q_X5_emit_1, q_X5_emit_4, q_X5_emit_5, q_X5_emit_8, q_X5_emit_9, h1, h2, y_is, y_gf, y_pf, y_f0, y_f1, y_f3, y_nI, y_nK, y_nZ, y_nL, y_nR, y_k1i, y_k1r, y_k1l, y_k1n, y_tl, y_tn, y_s, y_ss, List.getElem?_cons_zero, List.getElem?_cons_succ, List.set_cons_zero, List.set_cons_succ, List.length_cons, List.length_nil, true_and, and_true, y_lIn, y_lKn, y_lZn, y_lLn, y_wIn, y_wZn, y_wLn, lit, le_n, lt_n, eq_n]
  refine br0 (by show ¬ nI 40 ≤ _; rw [le_n (by omega) (by omega)]; omega) ?_
  simp (disch := omega) only [q_X5_emit_12, q_X5_emit_13, q_X5_emit_16, q_X5_emit_17, q_X5_emit_20, q_X5_emit_21, q_X5_emit_22, q_X5_emit_23, q_X5_emit_24, q_X5_emit_27, q_X5_emit_28, q_X5_emit_29, q_X5_emit_32, h1, h2, y_is, y_gf, y_pf, y_f0, y_f1, y_f3, y_nI, y_nK, y_nZ, y_nL, y_nR, y_k1i, y_k1r, y_k1l, y_k1n, y_tl, y_tn, y_s, y_ss, List.getElem?_cons_zero, List.getElem?_cons_succ, List.set_cons_zero, List.set_cons_succ, List.length_cons, List.length_nil, true_and, and_true, y_lIn, y_lKn, y_lZn, y_lLn, y_wIn, y_wZn, y_wLn, lit, le_n, lt_n, eq_n, y_ne, nI_add]
  refine ⟨by decide, hQ _ ⟨?_, ⟨upd f2 L.length (stI x), ?_, ?_⟩, ⟨f3, ?_, h3'⟩, S, ?_⟩ ((fr.rf.hs (by omega) (by omega)).hs (by omega) (by omega))⟩
  · rw [y_s]; rfl
  · rw [y_ne (by decide), y_s]
  · have := sfI_push (x := stI x) h2'
    rw [List.length_map] at this
    exact this
  · rw [y_ne (by decide), y_ne (by decide)]; exact h3
  · rw [y_ne (by decide), y_ne (by decide)]; exact h4
theorem s_release (g0 : mzG) {fl lb due : Int32} {op r : Nat} (hr : r ≤ 9) (R : List Nat × List stp) (hQ : ∀ g', ru g' fl lb due R.2 R.1 op → fr g0 g' 30 34 → Q none g') : ∀ (w : List Nat) (L : List stp) (g : mzG), ru g fl lb due L w op → L.length + w.length ≤ 40 → (∀ c, c ∈ w → c < 128) → fr g0 g 30 34 → rel r w L = R → wp 44 b 0 [.ref 30, .int (nI r)] [] g Q := by
  intro w
  induction w with
  | nil =>
    intro L g hR hl hc hf e
    rw [rel] at e
    subst e
    rw [q_X5_release_0]
    simp (disch := omega) only [q_X5_release_1, q_X5_release_4, q_X5_release_52, hR.1, y_is, y_gf, y_pf, y_f0, y_f1, y_f3, y_nI, y_nK, y_nZ, y_nL, y_nR, y_k1i, y_k1r, y_k1l, y_k1n, y_tl, y_tn, y_s, y_ss, List.getElem?_cons_zero, List.getElem?_cons_succ, List.set_cons_zero, List.set_cons_succ, List.length_cons, List.length_nil, true_and, and_true, y_lIn, y_lKn, y_lZn, y_lLn, y_wIn, y_wZn, y_wLn, lit, le_n, lt_n, eq_n, lit, litL, le_n, lt_n, eq_n, nI_add, m_neg, pk_sub, pk_mul, i_l, l_i, l_add, l_mul, l_sub, lc_le, lc_ge, lc_lt, lc_gt, lc_eq, l_rem2, l_rem3, i_rem2, i_rem3]
    exact br1 (by first | decide | omega | trivial | simp) (hQ g hR hf)
  | cons c w ih =>
    intro L g hR hl hc hf e
    rw [rel] at e
    obtain ⟨h1, ⟨f2, h2, h2'⟩, ⟨f3, h3, h3'⟩, S, h4⟩ := id hR
    have hcc := hc c List.mem_cons_self
    have hk := rk_le c
    have hl' : L.length + (w.length + 1) ≤ 40 := hl
    have t1 : f3 w.length = nI c := by have := h3'.1; rw [List.length_map] at this; exact this
    rw [q_X5_release_0]
    simp (disch := omega) only [q_X5_release_1, q_X5_release_4, q_X5_release_7, q_X5_release_8, q_X5_release_11, q_X5_release_12, q_X5_release_15, q_X5_release_16, q_X5_release_17, q_X5_release_18, h1, h3, y_is, y_gf, y_pf, y_f0, y_f1, y_f3, y_nI, y_nK, y_nZ, y_nL, y_nR, y_k1i, y_k1r, y_k1l, y_k1n, y_tl, y_tn, y_s, y_ss, List.getElem?_cons_zero, List.getElem?_cons_succ, List.set_cons_zero, List.set_cons_succ, List.length_cons, List.length_nil, true_and, and_true, y_lIn, y_lKn, y_lZn, y_lLn, y_wIn, y_wZn, y_wLn, lit, le_n, lt_n, eq_n, lit, pk_sub, Nat.add_sub_cancel, t1]
    refine br0 (by first | decide | omega | trivial | simp) (s_rankOf hcc ?_)
    simp (disch := omega) only [q_X5_release_21, q_X5_release_22, y_is, y_gf, y_pf, y_f0, y_f1, y_f3, y_nI, y_nK, y_nZ, y_nL, y_nR, y_k1i, y_k1r, y_k1l, y_k1n, y_tl, y_tn, y_s, y_ss, List.getElem?_cons_zero, List.getElem?_cons_succ, List.set_cons_zero, List.set_cons_succ, List.length_cons, List.length_nil, true_and, and_true, lt_n]
    refine brs (fun z => ?_) (fun z => ?_)
    · rw [if_neg (by omega)] at e
      subst e
      simp only [q_X5_release_52, y_is, y_gf, y_pf, y_f0, y_f1, y_f3, y_nI, y_nK, y_nZ, y_nL, y_nR, y_k1i, y_k1r, y_k1l, y_k1n, y_tl, y_tn, y_s, y_ss, List.getElem?_cons_zero, List.getElem?_cons_succ, List.set_cons_zero, List.set_cons_succ, List.length_cons, List.length_nil, true_and, and_true]
      exact hQ g hR hf
    · rw [if_pos (by omega)] at e
      simp (disch := omega) only [q_X5_release_25, q_X5_release_26, q_X5_release_27, q_X5_release_30, q_X5_release_31, q_X5_release_32, h1, y_is, y_gf, y_pf, y_f0, y_f1, y_f3, y_nI, y_nK, y_nZ, y_nL, y_nR, y_k1i, y_k1r, y_k1l, y_k1n, y_tl, y_tn, y_s, y_ss, List.getElem?_cons_zero, List.getElem?_cons_succ, List.set_cons_zero, List.set_cons_succ, List.length_cons, List.length_nil, true_and, and_true, lit, pk_sub, Nat.add_sub_cancel]
      refine ⟨by decide, ?_⟩
      have hR1 := hR.pop
      generalize hg1 : hs g 30 _ = g1 at hR1 ⊢
      have hf1 : fr g0 g1 30 34 := by rw [← hg1]; exact hf.hs (by omega) (by omega)
      have i1 := hR1.1
      have i3 : g1.2 32 = aI 40 f3 := by rw [← hg1, y_ne (by decide)]; exact h3
      simp (disch := omega) only [q_X5_release_35, q_X5_release_36, q_X5_release_37, q_X5_release_40, q_X5_release_41, q_X5_release_44, q_X5_release_45, q_X5_release_46, i1, i3, y_is, y_gf, y_pf, y_f0, y_f1, y_f3, y_nI, y_nK, y_nZ, y_nL, y_nR, y_k1i, y_k1r, y_k1l, y_k1n, y_tl, y_tn, y_s, y_ss, List.getElem?_cons_zero, List.getElem?_cons_succ, List.set_cons_zero, List.set_cons_succ, List.length_cons, List.length_nil, true_and, and_true, y_lIn, y_lKn, y_lZn, y_lLn, y_wIn, y_wZn, y_wLn, lit, le_n, lt_n, eq_n, t1]
      refine s_emit (x := .inr c) hR1 (by omega) (fun g2 hR2 hf2 => ?_)
      simp only [q_X5_release_49, y_is, y_gf, y_pf, y_f0, y_f1, y_f3, y_nI, y_nK, y_nZ, y_nL, y_nR, y_k1i, y_k1r, y_k1l, y_k1n, y_tl, y_tn, y_s, y_ss, List.getElem?_cons_zero, List.getElem?_cons_succ, List.set_cons_zero, List.set_cons_succ, List.length_cons, List.length_nil, true_and, and_true]
      exact ih (.inr c :: L) g2 hR2 (by simp only [List.length_cons]; omega) (fun d hd => hc d (List.mem_cons_of_mem _ hd)) (hf1.tr hf2) e
end RULE
