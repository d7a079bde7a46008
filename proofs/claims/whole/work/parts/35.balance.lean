/-! ===== Balance ===== -/
/-- the worths above 0 of the first posts -/
def pw (wo : Nat → Nat) : Nat → List Nat
  | 0 => []
  | p + 1 => if 0 < wo p then wo p :: pw wo p else pw wo p
theorem pw_len (wo : Nat → Nat) : ∀ p, (pw wo p).length ≤ p
  | 0 => Nat.le_refl _
  | p + 1 => by
    rw [pw]
    have := pw_len wo p
    split
    · rw [List.length_cons]; omega
    · omega
def lsf (f : Nat → Int32) (l : List Nat) : Prop := ∀ i x, l[i]? = some x → f i = nI x
/-- the Balance at k -/
def bl (g : mzG) (k : Nat) (a c : Int64) (m : Nat) (f : Nat → Int32) : Prop := g.2 k = ob 0 [.long a, .long c, .ref (k + 1), .int (nI m)] ∧ g.2 (k + 1) = aI 9 f
theorem bl.frm {g g' : mzG} {k m lo hi : Nat} {a c : Int64} {f : Nat → Int32} (h : bl g k a c m f) (hf : fr g g' lo hi) (ha : k + 2 ≤ lo ∨ hi ≤ k) : bl g' k a c m f := ⟨(hf.2 k (by omega)).trans h.1, (hf.2 (k + 1) (by omega)).trans h.2⟩
theorem bl.ar {g : mzG} {k m : Nat} {a c : Int64} {f f' : Nat → Int32} (h : bl g k a c m f) : bl (hs g (k + 1) (aI 9 f')) k a c m f' := ⟨by rw [y_ne (by omega)]; exact h.1, y_s⟩
theorem bl.nu {g : mzG} {k m m' : Nat} {a c a' c' : Int64} {f : Nat → Int32} (h : bl g k a c m f) : bl (hs g k (ob 0 [.long a', .long c', .ref (k + 1), .int (nI m')])) k a' c' m' f := ⟨y_s, by rw [y_ne (by omega)]; exact h.2⟩
theorem u_n {f : Nat → Int32} {p q : Nat} {x : Int32} (h : q ≠ p) : upd f p x q = f q := by unfold upd; rw [if_neg h]
theorem u_s {f : Nat → Int32} {p : Nat} {x : Int32} : upd f p x p = x := by unfold upd; rw [if_pos rfl]
section BALANCE
variable {b : mzB} {Q : mzQ} {k w : Nat} {v : Nat → Int32} {A : Nat → Nat → Int32}
theorem s_sort_in (g0 : mzG) {a c : Int64} {x : Nat} {l : List Nat} {p : Nat} (hl : l.length ≤ 8) (hx : x ≤ 99) (hl9 : ∀ y, y ∈ l → y ≤ 99) (hso : l.Pairwise (· ≤ ·)) (hQ : ∀ g' f' i, bl g' k a c l.length f' → i ≤ l.length → (∀ j y, j < i → l[j]? = some y → f' j = nI y ∧ y ≤ x) → (∀ j y, i ≤ j → l[j]? = some y → f' (j + 1) = nI y ∧ x < y) → fr g0 g' k (k + 2) → wp 3 b 74 [.ref k, .ref w, .int (nI p), .int (nI x), .int (nI i)] [] g' Q) : ∀ (i : Nat) (g : mzG) (f : Nat → Int32), bl g k a c l.length f → i ≤ l.length → (∀ j y, j < i → l[j]? = some y → f j = nI y) → (∀ j y, i ≤ j → l[j]? = some y → f (j + 1) = nI y ∧ x < y) → fr g0 g k (k + 2) → wp 3 b 34 [.ref k, .ref w, .int (nI p), .int (nI x), .int (nI i)] [] g Q := by
  intro i
  induction i with
  | zero =>
    intro g f hB hi h1 h2 hf
    rw [q_X0_sortWorths_34]
    simp (disch := omega) only [q_X0_sortWorths_36, y_is, y_gf, y_pf, y_f0, y_f1, y_f3, y_nI, y_nK, y_nZ, y_nL, y_nR, y_k1i, y_k1r, y_k1l, y_k1n, y_tl, y_tn, y_s, y_ss, List.getElem?_cons_zero, List.getElem?_cons_succ, List.set_cons_zero, List.set_cons_succ, List.length_cons, List.length_nil, true_and, and_true, lit, le_n]
    exact br1 (by omega) (hQ g f 0 hB hi (fun j y hj => by omega) h2 hf)
  | succ i ih =>
    intro g f hB hi h1 h2 hf
    have hil : i < l.length := by omega
    have hg : l[i]? = some l[i] := List.getElem?_eq_getElem hil
    have hy := hl9 _ (List.getElem_mem hil)
    have e := h1 i _ (by omega) hg
    rw [q_X0_sortWorths_34]
    simp (disch := omega) only [q_X0_sortWorths_36, q_X0_sortWorths_39, q_X0_sortWorths_40, q_X0_sortWorths_43, q_X0_sortWorths_45, q_X0_sortWorths_46, q_X0_sortWorths_47, q_X0_sortWorths_48, q_X0_sortWorths_49, hB.1, hB.2, y_is, y_gf, y_pf, y_f0, y_f1, y_f3, y_nI, y_nK, y_nZ, y_nL, y_nR, y_k1i, y_k1r, y_k1l, y_k1n, y_tl, y_tn, y_s, y_ss, List.getElem?_cons_zero, List.getElem?_cons_succ, List.set_cons_zero, List.set_cons_succ, List.length_cons, List.length_nil, true_and, and_true, y_lIn, y_lKn, y_lZn, y_lLn, y_wIn, y_wZn, y_wLn, lit, le_n, lt_n, eq_n, lit, pk_sub, Nat.add_sub_cancel, e]
    refine br0 (by omega) (brs (fun q => ?_) (fun q => ?_))
    · refine hQ g f (i + 1) hB hi (fun j y hj hjy => ⟨h1 j y hj hjy, ?_⟩) h2 hf
      rcases Nat.lt_or_ge j i with z | z
      · have hjl : j < l.length := by omega
        rw [List.getElem?_eq_getElem hjl] at hjy
        injection hjy with hjy
        have := List.pairwise_iff_getElem.mp hso j i hjl hil z
        omega
      · have : j = i := by omega
        subst this
        rw [hg] at hjy
        injection hjy with hjy
        omega
    · simp (disch := omega) only [q_X0_sortWorths_52, q_X0_sortWorths_53, q_X0_sortWorths_56, q_X0_sortWorths_58, q_X0_sortWorths_59, q_X0_sortWorths_62, q_X0_sortWorths_64, q_X0_sortWorths_65, q_X0_sortWorths_66, q_X0_sortWorths_67, q_X0_sortWorths_68, q_X0_sortWorths_71, hB.1, hB.2, y_is, y_gf, y_pf, y_f0, y_f1, y_f3, y_nI, y_nK, y_nZ, y_nL, y_nR, y_k1i, y_k1r, y_k1l, y_k1n, y_tl, y_tn, y_s, y_ss, List.getElem?_cons_zero, List.getElem?_cons_succ, List.set_cons_zero, List.set_cons_succ, List.length_cons, List.length_nil, true_and, and_true, y_lIn, y_lKn, y_lZn, y_lLn, y_wIn, y_wZn, y_wLn, lit, le_n, lt_n, eq_n, lit, pk_sub, m_neg, Nat.add_sub_cancel, e]
      refine ih _ _ hB.ar (by omega) (fun j y hj hjy => ?_) (fun j y hj hjy => ?_) (hf.hs (by omega) (by omega))
      · rw [u_n (by omega)]; exact h1 j y (by omega) hjy
      · rcases Nat.lt_or_ge i j with z | z
        · rw [u_n (by omega)]; exact h2 j y (by omega) hjy
        · have : j = i := by omega
          subst this
          rw [hg] at hjy
          injection hjy with hjy
          rw [u_s, hjy]
          exact ⟨rfl, by omega⟩
theorem ins_perm {l : List Nat} {x i : Nat} : (l.take i ++ x :: l.drop i).Perm (x :: l) := by
  have := List.perm_middle (a := x) (l₁ := l.take i) (l₂ := l.drop i)
  rwa [List.take_append_drop] at this
theorem s_sort_out (g0 : mzG) {a c : Int64} {n : Nat} {wo : Nat → Nat} (hap : w + 12 ≤ k) (hv : v 0 = nI n) (hn : n ≤ 9) (hwo : ∀ i, i < n → A 0 i = nI (wo i) ∧ wo i ≤ 99) (hQ : ∀ g' f' l, bl g' k a c l.length f' → lsf f' l → l.Perm (pw wo n) → l.Pairwise (· ≤ ·) → fr g0 g' k (k + 2) → Q none g') : ∀ (d p : Nat) (g : mzG) (f : Nat → Int32) (l : List Nat) (x3 x4 : Value), p + d = n → bl g k a c l.length f → lsf f l → l.Perm (pw wo p) → l.Pairwise (· ≤ ·) → wt g w v A → fr g0 g k (k + 2) → wp 3 b 7 [.ref k, .ref w, .int (nI p), x3, x4] [] g Q := by
  intro d
  induction d with
  | zero =>
    intro p g f l x3 x4 hp hB hl hpe hso hW hf
    have hp : p = n := by omega
    subst hp
    rw [q_X0_sortWorths_7]
    simp (disch := omega) only [q_X0_sortWorths_8, q_X0_sortWorths_9, q_X0_sortWorths_12, q_X0_sortWorths_98, hW.1, hv, y_is, y_gf, y_pf, y_f0, y_f1, y_f3, y_nI, y_nK, y_nZ, y_nL, y_nR, y_k1i, y_k1r, y_k1l, y_k1n, y_tl, y_tn, y_s, y_ss, List.getElem?_cons_zero, List.getElem?_cons_succ, List.set_cons_zero, List.set_cons_succ, List.length_cons, List.length_nil, true_and, and_true, le_n]
    exact br1 (by omega) (hQ g f l hB hl hpe hso hf)
  | succ d ih =>
    intro p g f l x3 x4 hp hB hl hpe hso hW hf
    obtain ⟨e1, e2⟩ := hwo p (by omega)
    have hlen : l.length ≤ p := by rw [hpe.length_eq]; exact pw_len wo p
    have hmem : ∀ q, q ≤ n → ∀ y, y ∈ pw wo q → y ≤ 99 := by
      intro q
      induction q with
      | zero => intro _ y hy; rw [pw] at hy; cases hy
      | succ q ihq =>
        intro hq y hy
        rw [pw] at hy
        split at hy
        · rcases List.mem_cons.mp hy with z | z
          · rw [z]; exact (hwo q (by omega)).2
          · exact ihq (by omega) y z
        · exact ihq (by omega) y hy
    rw [q_X0_sortWorths_7]
    simp (disch := omega) only [q_X0_sortWorths_8, q_X0_sortWorths_9, q_X0_sortWorths_12, q_X0_sortWorths_15, q_X0_sortWorths_16, q_X0_sortWorths_19, q_X0_sortWorths_20, q_X0_sortWorths_21, q_X0_sortWorths_22, q_X0_sortWorths_23, q_X0_sortWorths_24, q_X0_sortWorths_25, hW.1, hW.2.1, hW.2.2.1, hv, y_is, y_gf, y_pf, y_f0, y_f1, y_f3, y_nI, y_nK, y_nZ, y_nL, y_nR, y_k1i, y_k1r, y_k1l, y_k1n, y_tl, y_tn, y_s, y_ss, List.getElem?_cons_zero, List.getElem?_cons_succ, List.set_cons_zero, List.set_cons_succ, List.length_cons, List.length_nil, true_and, and_true, y_lIn, y_lKn, y_lZn, y_lLn, y_wIn, y_wZn, y_wLn, lit, le_n, lt_n, eq_n, lit, y_row, e1]
    refine br0 (by omega) (brs (fun c0 => ?_) (fun c0 => ?_))
    · simp (disch := omega) only [q_X0_sortWorths_92, q_X0_sortWorths_95, y_is, y_gf, y_pf, y_f0, y_f1, y_f3, y_nI, y_nK, y_nZ, y_nL, y_nR, y_k1i, y_k1r, y_k1l, y_k1n, y_tl, y_tn, y_s, y_ss, List.getElem?_cons_zero, List.getElem?_cons_succ, List.set_cons_zero, List.set_cons_succ, List.length_cons, List.length_nil, true_and, and_true, lit, nI_add]
      refine ih (p + 1) g f l _ _ (by omega) hB hl ?_ hso hW hf
      rw [pw, if_neg (by omega)]; exact hpe
    · simp (disch := omega) only [q_X0_sortWorths_28, q_X0_sortWorths_29, q_X0_sortWorths_32, hB.1, y_is, y_gf, y_pf, y_f0, y_f1, y_f3, y_nI, y_nK, y_nZ, y_nL, y_nR, y_k1i, y_k1r, y_k1l, y_k1n, y_tl, y_tn, y_s, y_ss, List.getElem?_cons_zero, List.getElem?_cons_succ, List.set_cons_zero, List.set_cons_succ, List.length_cons, List.length_nil, true_and, and_true]
      refine s_sort_in g0 (l := l) (by omega) e2 (fun y hy => hmem p (by omega) y (hpe.mem_iff.mp hy)) hso (fun g1 f1 i hB1 hi h1 h2 hf1 => ?_) l.length g f hB (Nat.le_refl _) (fun j y hj hjy => hl j y hjy) (fun j y hj hjy => ?_) hf
      · simp (disch := omega) only [q_X0_sortWorths_74, q_X0_sortWorths_75, q_X0_sortWorths_78, q_X0_sortWorths_80, q_X0_sortWorths_81, hB1.1, hB1.2, y_is, y_gf, y_pf, y_f0, y_f1, y_f3, y_nI, y_nK, y_nZ, y_nL, y_nR, y_k1i, y_k1r, y_k1l, y_k1n, y_tl, y_tn, y_s, y_ss, List.getElem?_cons_zero, List.getElem?_cons_succ, List.set_cons_zero, List.set_cons_succ, List.length_cons, List.length_nil, true_and, and_true, y_lIn, y_lKn, y_lZn, y_lLn, y_wIn, y_wZn, y_wLn, lit, le_n, lt_n, eq_n]
        have hB3 := hB1.ar (f' := upd f1 i (nI (wo p)))
        simp (disch := omega) only [q_X0_sortWorths_82, q_X0_sortWorths_83, q_X0_sortWorths_84, q_X0_sortWorths_87, q_X0_sortWorths_88, q_X0_sortWorths_89, q_X0_sortWorths_92, q_X0_sortWorths_95, hB3.1, y_is, y_gf, y_pf, y_f0, y_f1, y_f3, y_nI, y_nK, y_nZ, y_nL, y_nR, y_k1i, y_k1r, y_k1l, y_k1n, y_tl, y_tn, y_s, y_ss, List.getElem?_cons_zero, List.getElem?_cons_succ, List.set_cons_zero, List.set_cons_succ, List.length_cons, List.length_nil, true_and, and_true, lit, nI_add]
        have hlen' : (l.take i ++ wo p :: l.drop i).length = l.length + 1 := by rw [ins_perm.length_eq, List.length_cons]
        have hB2 : bl (hs (hs g1 (k + 1) (aI 9 (upd f1 i (nI (wo p))))) k (ob 0 [.long a, .long c, .ref (k + 1), .int (nI (l.length + 1))])) k a c (l.take i ++ wo p :: l.drop i).length (upd f1 i (nI (wo p))) := by
          rw [hlen']; exact hB1.ar.nu
        have hgg : fr g g1 k (k + 2) := ⟨hf1.1.trans hf.1.symm, fun j hj => (hf1.2 j hj).trans (hf.2 j hj).symm⟩
        refine ⟨by decide, ?_⟩
        refine ih (p + 1) _ _ _ _ _ (by omega) hB2 ?_ ?_ ?_ (hW.frm (fr.hs (fr.hs hgg (by omega) (by omega)) (by omega) (by omega)) (by omega)) ((hf1.hs (by omega) (by omega)).hs (by omega) (by omega))
        · intro j y hj
          have hti : (l.take i).length = i := by rw [List.length_take]; omega
          rw [List.getElem?_append, hti] at hj
          split at hj
          · rename_i z
            rw [List.getElem?_take, if_pos z] at hj
            rw [u_n (by omega)]
            exact (h1 j y z hj).1
          · rename_i z
            rcases Nat.lt_or_ge i j with q | q
            · rw [show j - i = (j - i - 1) + 1 by omega, List.getElem?_cons_succ, List.getElem?_drop] at hj
              have := (h2 (j - 1) y (by omega) (by rw [show j - 1 = i + (j - i - 1) by omega]; exact hj)).1
              rw [u_n (by omega), show j = j - 1 + 1 by omega]; exact this
            · have : j = i := by omega
              subst this
              rw [Nat.sub_self, List.getElem?_cons_zero] at hj
              injection hj with hj
              rw [u_s, hj]
        · rw [pw, if_pos (by omega)]
          exact ins_perm.trans (hpe.cons _)
        · rw [List.pairwise_append]
          refine ⟨hso.sublist (List.take_sublist _ _), ?_, ?_⟩
          · rw [List.pairwise_cons]
            refine ⟨fun y hy => ?_, hso.sublist (List.drop_sublist _ _)⟩
            obtain ⟨j, hj⟩ := List.mem_iff_getElem?.mp hy
            rw [List.getElem?_drop] at hj
            exact Nat.le_of_lt (h2 (i + j) y (by omega) hj).2
          · intro y hy z hz
            obtain ⟨j, hj⟩ := List.mem_iff_getElem?.mp hy
            rw [List.getElem?_take] at hj
            split at hj
            · rename_i hji
              have hyx := (h1 j y hji hj).2
              rcases List.mem_cons.mp hz with q | q
              · rw [q]; exact hyx
              · obtain ⟨j2, hj2⟩ := List.mem_iff_getElem?.mp q
                rw [List.getElem?_drop] at hj2
                have := (h2 (i + j2) z (by omega) hj2).2
                omega
            · cases hj
      · have := (List.getElem?_eq_some_iff.mp hjy).1
        omega
theorem s_sort {g : mzG} {a c : Int64} {n m : Nat} {f : Nat → Int32} {wo : Nat → Nat} (hap : w + 12 ≤ k) (hB : bl g k a c m f) (hW : wt g w v A) (hv : v 0 = nI n) (hn : n ≤ 9) (hwo : ∀ i, i < n → A 0 i = nI (wo i) ∧ wo i ≤ 99) (hQ : ∀ g' f' l, bl g' k a c l.length f' → lsf f' l → l.Perm (pw wo n) → l.Pairwise (· ≤ ·) → fr g g' k (k + 2) → Q none g') : wp 3 b 0 [.ref k, .ref w, .null, .null, .null] [] g Q := by
  simp (disch := omega) only [q_X0_sortWorths_0, q_X0_sortWorths_1, q_X0_sortWorths_2, q_X0_sortWorths_5, q_X0_sortWorths_6, hB.1, y_is, y_gf, y_pf, y_f0, y_f1, y_f3, y_nI, y_nK, y_nZ, y_nL, y_nR, y_k1i, y_k1r, y_k1l, y_k1n, y_tl, y_tn, y_s, y_ss, List.getElem?_cons_zero, List.getElem?_cons_succ, List.set_cons_zero, List.set_cons_succ, List.length_cons, List.length_nil, true_and, and_true, lit]
  refine ⟨by decide, ?_⟩
  refine s_sort_out g hap hv hn hwo hQ n 0 _ f [] _ _ (by omega) hB.nu (fun i x h => by cases h) (List.Perm.refl _) List.Pairwise.nil (hW.frm (fr.hs (fr.rf (lo := k) (hi := k + 2)) (by omega) (by omega)) (by omega)) (fr.hs fr.rf (by omega) (by omega))
end BALANCE
