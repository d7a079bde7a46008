/-! ===== the reference: THE RULE is read ===== -/
theorem stn_okw : ∀ s v, okw s → okw (stn s v).1
  | [], v, _ => trivial
  | c :: s, v, h => by
    rw [stn]
    split
    · exact stn_okw s _ (okw_tail h)
    · exact h
theorem stn_hd : ∀ s v c t, (stn s v).1 = c :: t → rk c ≠ 6
  | [], v, c, t, h => by simp [stn] at h
  | d :: s, v, c, t, h => by
    rw [stn] at h
    split at h
    · exact stn_hd s _ c t h
    · rename_i hd
      have := (List.cons.inj h).1
      subst this
      exact hd
theorem wkd_okw {r : Nat} : ∀ s V, okw s → okw (wkd r s V).1
  | [], V, _ => trivial
  | c :: s, V, h => by
    rw [wkd]
    split
    · exact wkd_okw s _ (okw_tail h)
    · exact h
theorem wkd_hd {r : Nat} : ∀ s V, okw s → (∀ c t, s = c :: t → rk c ≠ 6) → ∀ c t, (wkd r s V).1 = c :: t → rk c ≠ 6
  | [], V, _, _, c, t, h => by simp [wkd] at h
  | d :: s, V, ho, hh, c, t, h => by
    rw [wkd] at h
    split at h
    · rename_i hd
      refine wkd_hd s _ (okw_tail ho) (fun e u he => ?_) c t h
      intro h6
      rw [he] at ho
      rcases ho.1 h6 with q | q
      · exact hd.1.2 q
      · rw [q] at hd; exact hd.1.1 rfl
    · exact hh c t h
theorem wkd1_40 {s : List Nat} {V : List Int64} (hw : ∀ c, c ∈ s → wok c) (ho : okw s) (hh : ∀ c t, s = c :: t → rk c ≠ 6) : (wkd 1 s V).1 = [] ∨ ∃ w1, (wkd 1 s V).1 = 40 :: w1 := by
  rcases wkd1_head s V hw with e | e | ⟨c, w1, e, h6⟩
  · exact Or.inl e
  · exact Or.inr e
  · exact absurd h6 (wkd_hd s V ho hh c w1 e)
/-- what holds of the stacks -/
def rI (a : Nat) (V : List Int64) (S : List Nat) (op : Nat) (wants : Bool) : Prop := (∀ c, c ∈ S → wok c) ∧ okw S ∧ V.length + S.length ≤ a ∧ op = S.count 40 ∧ op ≤ 8 ∧ (wants = true → V.length = binc S) ∧ (wants = false → V.length = binc S + 1 ∧ ∀ c t, S = c :: t → rk c ≠ 6)
section MREADS
variable {b : mzB} {Q : mzQ} {r : Int64} {f : Nat → Int32} {W : Nat → Nat}
theorem s_reads {f0 f5 f6 f7 f8 f9 f10 : Int32} {g : mzG} {f1 f2 f3 f4 : Int32} {len : Nat} {env : Nat → Int64} {Lt : Nat → Int64} {F0 : Nat → Int64} {fs0 : Nat → Int32} (hM0 : g.2 73 = ob 9 [.ref 74, .ref 75, .ref 76, .ref 77, .ref 78, .ref 79, .int (f0), .int (f1), .int (f2), .ref 80, .int (f3), .ref 81, .int (f4), .ref 82, .long (r), .ref 83, .ref 84, .int (f5), .int (f6), .int (f7), .int (f8), .int (f9), .ref 85, .int (f10)]) (h74 : g.2 74 = aI 141 f) (hW : nwf f W) (hl : W 100 = len) (hlen : len ≤ 40) (hch : ∀ k, k < 40 → chW W k ≤ 127) (h82 : g.2 82 = aL 6 Lt) (henv : ∀ c, nm c = true → Lt (lof c) = env c) (h80 : g.2 80 = aL 64 F0) (h81 : g.2 81 = aI 128 fs0) (R : rR) (hR : rrun env (chW W) len (len + 1) 0 [] [] 0 true = R) (hbad : ∀ fl, R = .inl fl → ∀ g' p1 p3 p4 r', g'.2 73 = ob 9 [.ref 74, .ref 75, .ref 76, .ref 77, .ref 78, .ref 79, .int (f0), .int (p1), .int (nI fl), .ref 80, .int (p3), .ref 81, .int (p4), .ref 82, .long (r'), .ref 83, .ref 84, .int (f5), .int (f6), .int (f7), .int (f8), .int (f9), .ref 85, .int (f10)] → (∃ F, g'.2 80 = aL 64 F) → (∃ s, g'.2 81 = aI 128 s) → fr3 g g' → Q (some (.int 0)) g') (hok : ∀ v, R = .inr [v] → ∀ g' p1 p3 p4, g'.2 73 = ob 9 [.ref 74, .ref 75, .ref 76, .ref 77, .ref 78, .ref 79, .int (f0), .int (p1), .int (-1), .ref 80, .int (p3), .ref 81, .int (p4), .ref 82, .long (v), .ref 83, .ref 84, .int (f5), .int (f6), .int (f7), .int (f8), .int (f9), .ref 85, .int (f10)] → (∃ F, g'.2 80 = aL 64 F) → (∃ s, g'.2 81 = aI 128 s) → fr3 g g' → Q (some (.int 1)) g') : wp 168 b 0 [.ref 73, .null, .null, .null, .null] [] g Q := by
  have e74 : ∀ g', fr3 g g' → g'.2 74 = aI 141 f := fun g' hf => by rw [hf.2 _ (by decide) (by decide) (by decide)]; exact h74
  have e82 : ∀ g', fr3 g g' → g'.2 82 = aL 6 Lt := fun g' hf => by rw [hf.2 _ (by decide) (by decide) (by decide)]; exact h82
  have rsx : ∀ {g' : mzG} {V : List Int64} {S : List Nat}, rs g' V S → (∃ F, g'.2 80 = aL 64 F) ∧ ∃ s, g'.2 81 = aI 128 s := fun h => ⟨⟨h.1.choose, h.1.choose_spec.1⟩, ⟨h.2.choose, h.2.choose_spec.1⟩⟩
  -- a fault
  have endf : ∀ (fl : Nat) (g' : mzG) (x1 x2 x4 : Value) (p1 p3 p4 : Int32), R = .inl fl → fl < 10000 → g'.2 73 = ob 9 [.ref 74, .ref 75, .ref 76, .ref 77, .ref 78, .ref 79, .int (f0), .int (p1), .int (nI fl), .ref 80, .int (p3), .ref 81, .int (p4), .ref 82, .long (r), .ref 83, .ref 84, .int (f5), .int (f6), .int (f7), .int (f8), .int (f9), .ref 85, .int (f10)] → (∃ F, g'.2 80 = aL 64 F) → (∃ s, g'.2 81 = aI 128 s) → fr3 g g' → wp 168 b 478 [.ref 73, x1, x2, .int 1, x4] [] g' Q := by
    intro fl g' x1 x2 x4 p1 p3 p4 hx hfl hM h8 h9 hf
    simp only [q_X11_reads_478, y_is, y_gf, y_pf, y_f0, y_f1, y_f3, y_nI, y_nK, y_nZ, y_nL, y_nR, y_k1i, y_k1r, y_k1l, y_k1n, y_tl, y_tn, y_s, y_ss, List.getElem?_cons_zero, List.getElem?_cons_succ, List.set_cons_zero, List.set_cons_succ, List.length_cons, List.length_nil, true_and, and_true]
    rw [q_X11_reads_26]
    simp only [q_X11_reads_27, y_is, y_gf, y_pf, y_f0, y_f1, y_f3, y_nI, y_nK, y_nZ, y_nL, y_nR, y_k1i, y_k1r, y_k1l, y_k1n, y_tl, y_tn, y_s, y_ss, List.getElem?_cons_zero, List.getElem?_cons_succ, List.set_cons_zero, List.set_cons_succ, List.length_cons, List.length_nil, true_and, and_true]
    refine br0 (by decide) ?_
    simp only [q_X11_reads_30, q_X11_reads_31, q_X11_reads_34, q_X11_reads_35, hM, y_is, y_gf, y_pf, y_f0, y_f1, y_f3, y_nI, y_nK, y_nZ, y_nL, y_nR, y_k1i, y_k1r, y_k1l, y_k1n, y_tl, y_tn, y_s, y_ss, List.getElem?_cons_zero, List.getElem?_cons_succ, List.set_cons_zero, List.set_cons_succ, List.length_cons, List.length_nil, true_and, and_true]
    refine br1 (fun z => (m1_ne (by omega)).mp z) ?_
    simp only [q_X11_reads_481, q_X11_reads_482, q_X11_reads_483, q_X11_reads_486, q_X11_reads_487, hM, y_is, y_gf, y_pf, y_f0, y_f1, y_f3, y_nI, y_nK, y_nZ, y_nL, y_nR, y_k1i, y_k1r, y_k1l, y_k1n, y_tl, y_tn, y_s, y_ss, List.getElem?_cons_zero, List.getElem?_cons_succ, List.set_cons_zero, List.set_cons_succ, List.length_cons, List.length_nil, true_and, and_true]
    refine br1 (fun z => (m1_ne (by omega)).mp z) ?_
    simp only [q_X11_reads_499, q_X11_reads_500, q_X11_reads_503, q_X11_reads_504, q_X11_reads_507, q_X11_reads_508, hM, y_is, y_gf, y_pf, y_f0, y_f1, y_f3, y_nI, y_nK, y_nZ, y_nL, y_nR, y_k1i, y_k1r, y_k1l, y_k1n, y_tl, y_tn, y_s, y_ss, List.getElem?_cons_zero, List.getElem?_cons_succ, List.set_cons_zero, List.set_cons_succ, List.length_cons, List.length_nil, true_and, and_true]
    refine ⟨by decide, br1 (fun z => (m1_ne (by omega)).mp z) ?_⟩
    simp only [q_X11_reads_515, q_X11_reads_516, y_is, y_gf, y_pf, y_f0, y_f1, y_f3, y_nI, y_nK, y_nZ, y_nL, y_nR, y_k1i, y_k1r, y_k1l, y_k1n, y_tl, y_tn, y_s, y_ss, List.getElem?_cons_zero, List.getElem?_cons_succ, List.set_cons_zero, List.set_cons_succ, List.length_cons, List.length_nil, true_and, and_true]
    obtain ⟨F, h8⟩ := h8
    obtain ⟨s, h9⟩ := h9
    exact ⟨by decide, hbad fl hx _ _ _ _ _ y_s ⟨F, by rw [y_ne (by decide)]; exact h8⟩ ⟨s, by rw [y_ne (by decide)]; exact h9⟩ (hf.hs (Or.inl rfl))⟩
  have loop : ∀ (d a : Nat) (V : List Int64) (S : List Nat) (op : Nat) (wants : Bool) (g' : mzG) (x4 : Value), len - a + 1 ≤ d → a ≤ len → rI a V S op wants → rrun env (chW W) len d a V S op wants = R → g'.2 73 = ob 9 [.ref 74, .ref 75, .ref 76, .ref 77, .ref 78, .ref 79, .int (f0), .int (nI a), .int (-1), .ref 80, .int (nI V.length), .ref 81, .int (nI S.length), .ref 82, .long (r), .ref 83, .ref 84, .int (f5), .int (f6), .int (f7), .int (f8), .int (f9), .ref 85, .int (f10)] → rs g' V S → fr3 g g' → wp 168 b 26 [.ref 73, .int (nI op), .int (bI wants), .int 1, x4] [] g' Q := by
    intro d
    induction d with
    | zero => intro a V S op wants g' x4 hd; omega
    | succ d ih =>
      intro a0 V S op wants g' x4 hd ha0 hI hRR hM hr hf
      obtain ⟨i1, i2, i3, i4, i5, i6, i7⟩ := hI
      rw [rrun] at hRR
      have hsk := skp_b (chW W) (len - a0) a0
      rw [q_X11_reads_26]
      simp only [q_X11_reads_27, y_is, y_gf, y_pf, y_f0, y_f1, y_f3, y_nI, y_nK, y_nZ, y_nL, y_nR, y_k1i, y_k1r, y_k1l, y_k1n, y_tl, y_tn, y_s, y_ss, List.getElem?_cons_zero, List.getElem?_cons_succ, List.set_cons_zero, List.set_cons_succ, List.length_cons, List.length_nil, true_and, and_true]
      refine br0 (by decide) ?_
      simp only [q_X11_reads_30, q_X11_reads_31, q_X11_reads_34, q_X11_reads_35, hM, y_is, y_gf, y_pf, y_f0, y_f1, y_f3, y_nI, y_nK, y_nZ, y_nL, y_nR, y_k1i, y_k1r, y_k1l, y_k1n, y_tl, y_tn, y_s, y_ss, List.getElem?_cons_zero, List.getElem?_cons_succ, List.set_cons_zero, List.set_cons_succ, List.length_cons, List.length_nil, true_and, and_true]
      refine br0 (fun z => z (by first | decide | omega | trivial | simp)) ?_
      simp only [q_X11_reads_38, q_X11_reads_39, hM, y_is, y_gf, y_pf, y_f0, y_f1, y_f3, y_nI, y_nK, y_nZ, y_nL, y_nR, y_k1i, y_k1r, y_k1l, y_k1n, y_tl, y_tn, y_s, y_ss, List.getElem?_cons_zero, List.getElem?_cons_succ, List.set_cons_zero, List.set_cons_succ, List.length_cons, List.length_nil, true_and, and_true]
      refine s_ahead (e74 g' hf) hW hl hlen hch (len - a0) a0 g' _ (by omega) hM fr.rf (fun g1 hM1 hf1 => ?_)
      generalize skp (chW W) (len - a0) a0 = a at hsk hRR hM1
      have hF1 : fr3 g g1 := hf.tr (fr3.of hf1)
      have hr1 : rs g1 V S := hr.frm (hf1.2 _ (by omega)) (hf1.2 _ (by omega))
      have hal : a ≤ len := by omega
      clear hM hr hf1
      -- on behind a sign
      have nx : ∀ (g2 : mzG) (x4 : Value) (V' : List Int64) (S' : List Nat) (op' : Nat) (w' : Bool) (a' : Nat), a < a' → a' ≤ len → rI a' V' S' op' w' → rrun env (chW W) len d a' V' S' op' w' = R → g2.2 73 = ob 9 [.ref 74, .ref 75, .ref 76, .ref 77, .ref 78, .ref 79, .int (f0), .int (nI a'), .int (-1), .ref 80, .int (nI V'.length), .ref 81, .int (nI S'.length), .ref 82, .long (r), .ref 83, .ref 84, .int (f5), .int (f6), .int (f7), .int (f8), .int (f9), .ref 85, .int (f10)] → rs g2 V' S' → fr3 g g2 → wp 168 b 478 [.ref 73, .int (nI op'), .int (bI w'), .int 1, x4] [] g2 Q := by
        intro g2 x4 V' S' op' w' a' q1 q2 q3 q4 q5 q6 q7
        simp only [q_X11_reads_478, y_is, y_gf, y_pf, y_f0, y_f1, y_f3, y_nI, y_nK, y_nZ, y_nL, y_nR, y_k1i, y_k1r, y_k1l, y_k1n, y_tl, y_tn, y_s, y_ss, List.getElem?_cons_zero, List.getElem?_cons_succ, List.set_cons_zero, List.set_cons_succ, List.length_cons, List.length_nil, true_and, and_true]
        exact ih a' V' S' op' w' g2 x4 (by omega) q2 q3 q4 q5 q6 q7
      by_cases hla : len ≤ a
      · -- the end of the text
        have hal' : a = len := by omega
        rw [if_pos hla]
        rw [rstep] at hRR
        cases wants with
        | true =>
          rw [if_pos rfl, if_pos hla] at hRR
          simp only [q_X11_reads_42, q_X11_reads_44, q_X11_reads_45, y_is, y_gf, y_pf, y_f0, y_f1, y_f3, y_nI, y_nK, y_nZ, y_nL, y_nR, y_k1i, y_k1r, y_k1l, y_k1n, y_tl, y_tn, y_s, y_ss, List.getElem?_cons_zero, List.getElem?_cons_succ, List.set_cons_zero, List.set_cons_succ, List.length_cons, List.length_nil, true_and, and_true]
          refine br0 (by decide) ?_
          simp only [q_X11_reads_48, q_X11_reads_50, y_is, y_gf, y_pf, y_f0, y_f1, y_f3, y_nI, y_nK, y_nZ, y_nL, y_nR, y_k1i, y_k1r, y_k1l, y_k1n, y_tl, y_tn, y_s, y_ss, List.getElem?_cons_zero, List.getElem?_cons_succ, List.set_cons_zero, List.set_cons_succ, List.length_cons, List.length_nil, true_and, and_true]
          refine s_misFig (fun z => by obtain ⟨j, h1, h2, h3⟩ := z; exact absurd h3.symm (by rw [m1_ne (by omega)]; exact id)) (fun _ => ?_)
          simp only [q_X11_reads_53, y_is, y_gf, y_pf, y_f0, y_f1, y_f3, y_nI, y_nK, y_nZ, y_nL, y_nR, y_k1i, y_k1r, y_k1l, y_k1n, y_tl, y_tn, y_s, y_ss, List.getElem?_cons_zero, List.getElem?_cons_succ, List.set_cons_zero, List.set_cons_succ, List.length_cons, List.length_nil, true_and, and_true]
          refine br1 (by decide) ?_
          simp only [q_X11_reads_69, q_X11_reads_71, y_is, y_gf, y_pf, y_f0, y_f1, y_f3, y_nI, y_nK, y_nZ, y_nL, y_nR, y_k1i, y_k1r, y_k1l, y_k1n, y_tl, y_tn, y_s, y_ss, List.getElem?_cons_zero, List.getElem?_cons_succ, List.set_cons_zero, List.set_cons_succ, List.length_cons, List.length_nil, true_and, and_true]
          refine s_letterOf0 ?_
          simp only [q_X11_reads_74, q_X11_reads_75, y_is, y_gf, y_pf, y_f0, y_f1, y_f3, y_nI, y_nK, y_nZ, y_nL, y_nR, y_k1i, y_k1r, y_k1l, y_k1n, y_tl, y_tn, y_s, y_ss, List.getElem?_cons_zero, List.getElem?_cons_succ, List.set_cons_zero, List.set_cons_succ, List.length_cons, List.length_nil, true_and, and_true]
          refine br1 (by first | decide | omega | trivial | simp) ?_
          simp only [q_X11_reads_107, q_X11_reads_109, q_X11_reads_111, y_is, y_gf, y_pf, y_f0, y_f1, y_f3, y_nI, y_nK, y_nZ, y_nL, y_nR, y_k1i, y_k1r, y_k1l, y_k1n, y_tl, y_tn, y_s, y_ss, List.getElem?_cons_zero, List.getElem?_cons_succ, List.set_cons_zero, List.set_cons_succ, List.length_cons, List.length_nil, true_and, and_true]
          refine br0 (by decide) ?_
          simp only [q_X11_reads_114, q_X11_reads_116, q_X11_reads_118, y_is, y_gf, y_pf, y_f0, y_f1, y_f3, y_nI, y_nK, y_nZ, y_nL, y_nR, y_k1i, y_k1r, y_k1l, y_k1n, y_tl, y_tn, y_s, y_ss, List.getElem?_cons_zero, List.getElem?_cons_succ, List.set_cons_zero, List.set_cons_succ, List.length_cons, List.length_nil, true_and, and_true]
          refine br1 (by decide) ?_
          simp only [q_X11_reads_169, q_X11_reads_171, q_X11_reads_173, y_is, y_gf, y_pf, y_f0, y_f1, y_f3, y_nI, y_nK, y_nZ, y_nL, y_nR, y_k1i, y_k1r, y_k1l, y_k1n, y_tl, y_tn, y_s, y_ss, List.getElem?_cons_zero, List.getElem?_cons_succ, List.set_cons_zero, List.set_cons_succ, List.length_cons, List.length_nil, true_and, and_true]
          refine br1 (by decide) ?_
          simp only [q_X11_reads_220, q_X11_reads_221, q_X11_reads_223, q_X11_reads_224, q_X11_reads_227, q_X11_reads_228, q_X11_reads_230, q_X11_reads_232, hM1, y_is, y_gf, y_pf, y_f0, y_f1, y_f3, y_nI, y_nK, y_nZ, y_nL, y_nR, y_k1i, y_k1r, y_k1l, y_k1n, y_tl, y_tn, y_s, y_ss, List.getElem?_cons_zero, List.getElem?_cons_succ, List.set_cons_zero, List.set_cons_succ, List.length_cons, List.length_nil, true_and, and_true]
          refine br1 (by decide) ?_
          simp (disch := omega) only [q_X11_reads_239, q_X11_reads_240, q_X11_reads_241, q_X11_reads_244, hM1, y_is, y_gf, y_pf, y_f0, y_f1, y_f3, y_nI, y_nK, y_nZ, y_nL, y_nR, y_k1i, y_k1r, y_k1l, y_k1n, y_tl, y_tn, y_s, y_ss, List.getElem?_cons_zero, List.getElem?_cons_succ, List.set_cons_zero, List.set_cons_succ, List.length_cons, List.length_nil, true_and, and_true, lit, pk_mul, nI_add]
          exact ⟨by decide, endf _ _ _ _ _ _ _ _ hRR.symm (by omega) y_s (rsx (hr1.frm (y_ne (by decide)) (y_ne (by decide)))).1 (rsx (hr1.frm (y_ne (by decide)) (y_ne (by decide)))).2 (hF1.hs (Or.inl rfl))⟩
        | false =>
          obtain ⟨j1, j2⟩ := i7 rfl
          rw [if_neg (by decide), if_pos hla] at hRR
          simp only [q_X11_reads_42, q_X11_reads_44, q_X11_reads_45, y_is, y_gf, y_pf, y_f0, y_f1, y_f3, y_nI, y_nK, y_nZ, y_nL, y_nR, y_k1i, y_k1r, y_k1l, y_k1n, y_tl, y_tn, y_s, y_ss, List.getElem?_cons_zero, List.getElem?_cons_succ, List.set_cons_zero, List.set_cons_succ, List.length_cons, List.length_nil, true_and, and_true]
          refine br1 (by decide) ?_
          simp only [q_X11_reads_247, q_X11_reads_249, q_X11_reads_251, y_is, y_gf, y_pf, y_f0, y_f1, y_f3, y_nI, y_nK, y_nZ, y_nL, y_nR, y_k1i, y_k1r, y_k1l, y_k1n, y_tl, y_tn, y_s, y_ss, List.getElem?_cons_zero, List.getElem?_cons_succ, List.set_cons_zero, List.set_cons_succ, List.length_cons, List.length_nil, true_and, and_true]
          refine br1 (by decide) ?_
          simp only [q_X11_reads_312, q_X11_reads_314, y_is, y_gf, y_pf, y_f0, y_f1, y_f3, y_nI, y_nK, y_nZ, y_nL, y_nR, y_k1i, y_k1r, y_k1l, y_k1n, y_tl, y_tn, y_s, y_ss, List.getElem?_cons_zero, List.getElem?_cons_succ, List.set_cons_zero, List.set_cons_succ, List.length_cons, List.length_nil, true_and, and_true]
          refine s_mrank0 ?_
          simp (disch := omega) only [q_X11_reads_317, y_is, y_gf, y_pf, y_f0, y_f1, y_f3, y_nI, y_nK, y_nZ, y_nL, y_nR, y_k1i, y_k1r, y_k1l, y_k1n, y_tl, y_tn, y_s, y_ss, List.getElem?_cons_zero, List.getElem?_cons_succ, List.set_cons_zero, List.set_cons_succ, List.length_cons, List.length_nil, true_and, and_true, lit, le_n]
          refine br1 (by first | decide | omega | trivial | simp) ?_
          simp only [q_X11_reads_445, q_X11_reads_447, q_X11_reads_448, y_is, y_gf, y_pf, y_f0, y_f1, y_f3, y_nI, y_nK, y_nZ, y_nL, y_nR, y_k1i, y_k1r, y_k1l, y_k1n, y_tl, y_tn, y_s, y_ss, List.getElem?_cons_zero, List.getElem?_cons_succ, List.set_cons_zero, List.set_cons_succ, List.length_cons, List.length_nil, true_and, and_true]
          refine br0 (fun z => z (by first | decide | omega | trivial | simp)) ?_
          simp (disch := omega) only [q_X11_reads_451, q_X11_reads_452, y_is, y_gf, y_pf, y_f0, y_f1, y_f3, y_nI, y_nK, y_nZ, y_nL, y_nR, y_k1i, y_k1r, y_k1l, y_k1n, y_tl, y_tn, y_s, y_ss, List.getElem?_cons_zero, List.getElem?_cons_succ, List.set_cons_zero, List.set_cons_succ, List.length_cons, List.length_nil, true_and, and_true, lit, eq_n]
          by_cases o0 : op = 0
          · rw [bnt o0]
            rw [if_pos o0] at hRR
            simp (disch := omega) only [q_X11_reads_455, q_X11_reads_456, q_X11_reads_457, hM1, y_is, y_gf, y_pf, y_f0, y_f1, y_f3, y_nI, y_nK, y_nZ, y_nL, y_nR, y_k1i, y_k1r, y_k1l, y_k1n, y_tl, y_tn, y_s, y_ss, List.getElem?_cons_zero, List.getElem?_cons_succ, List.set_cons_zero, List.set_cons_succ, List.length_cons, List.length_nil, true_and, and_true, lit]
            have hwb := wkd_b (r := 1) S V (by omega)
            refine s_workDown g1 (by decide) (wkd 1 S V) (fun g2 hM2 hr2 hf2 => ?_) S V g1 hM1 hr1 i1 (by omega) (by omega) (by omega) fr3.rf rfl
            have hnil : (wkd 1 S V).1 = [] := by
              rcases wkd1_40 (V := V) i1 i2 j2 with e | ⟨w1, e⟩
              · exact e
              · have := hwb.2.2.2.2.1
                rw [e, List.count_cons_self] at this
                omega
            have h1 := hwb.2.2.2.2.2
            rw [hnil] at h1
            have hlen1 : (wkd 1 S V).2.length = 1 := by
              have : binc [] = 0 := rfl
              omega
            obtain ⟨v, hv⟩ : ∃ v, (wkd 1 S V).2 = [v] := by
              match (wkd 1 S V).2, hlen1 with
              | [v], _ => exact ⟨v, rfl⟩
            rw [hv] at hM2 hr2 hRR
            simp only [q_X11_reads_460, q_X11_reads_461, q_X11_reads_462, q_X11_reads_478, y_is, y_gf, y_pf, y_f0, y_f1, y_f3, y_nI, y_nK, y_nZ, y_nL, y_nR, y_k1i, y_k1r, y_k1l, y_k1n, y_tl, y_tn, y_s, y_ss, List.getElem?_cons_zero, List.getElem?_cons_succ, List.set_cons_zero, List.set_cons_succ, List.length_cons, List.length_nil, true_and, and_true]
            rw [q_X11_reads_26]
            simp only [q_X11_reads_27, y_is, y_gf, y_pf, y_f0, y_f1, y_f3, y_nI, y_nK, y_nZ, y_nL, y_nR, y_k1i, y_k1r, y_k1l, y_k1n, y_tl, y_tn, y_s, y_ss, List.getElem?_cons_zero, List.getElem?_cons_succ, List.set_cons_zero, List.set_cons_succ, List.length_cons, List.length_nil, true_and, and_true]
            refine br1 (by decide) ?_
            obtain ⟨⟨F, a1, a2⟩, fs, a3, a4⟩ := id hr2
            have t1 : F 0 = v := a2.1
            simp only [q_X11_reads_481, q_X11_reads_482, q_X11_reads_483, q_X11_reads_486, q_X11_reads_487, hM2, y_is, y_gf, y_pf, y_f0, y_f1, y_f3, y_nI, y_nK, y_nZ, y_nL, y_nR, y_k1i, y_k1r, y_k1l, y_k1n, y_tl, y_tn, y_s, y_ss, List.getElem?_cons_zero, List.getElem?_cons_succ, List.set_cons_zero, List.set_cons_succ, List.length_cons, List.length_nil, true_and, and_true]
            refine br0 (fun z => z (by first | decide | omega | trivial | simp)) ?_
            simp (disch := omega) only [q_X11_reads_490, q_X11_reads_491, q_X11_reads_494, q_X11_reads_495, q_X11_reads_496, q_X11_reads_499, q_X11_reads_500, q_X11_reads_503, q_X11_reads_504, q_X11_reads_507, q_X11_reads_508, hM2, a1, y_is, y_gf, y_pf, y_f0, y_f1, y_f3, y_nI, y_nK, y_nZ, y_nL, y_nR, y_k1i, y_k1r, y_k1l, y_k1n, y_tl, y_tn, y_s, y_ss, List.getElem?_cons_zero, List.getElem?_cons_succ, List.set_cons_zero, List.set_cons_succ, List.length_cons, List.length_nil, true_and, and_true, y_lIn, y_lKn, y_lZn, y_lLn, y_wIn, y_wZn, y_wLn, lit, le_n, lt_n, eq_n, lit, t1]
            refine ⟨by decide, br0 (fun z => z (by first | decide | omega | trivial | simp)) ?_⟩
            simp only [q_X11_reads_511, q_X11_reads_512, q_X11_reads_516, y_is, y_gf, y_pf, y_f0, y_f1, y_f3, y_nI, y_nK, y_nZ, y_nL, y_nR, y_k1i, y_k1r, y_k1l, y_k1n, y_tl, y_tn, y_s, y_ss, List.getElem?_cons_zero, List.getElem?_cons_succ, List.set_cons_zero, List.set_cons_succ, List.length_cons, List.length_nil, true_and, and_true]
            exact ⟨by decide, hok v hRR.symm _ _ _ _ y_s ⟨F, by rw [y_ne (by decide)]; exact a1⟩ ⟨fs, by rw [y_ne (by decide)]; exact a3⟩ ((hF1.tr hf2).hs (Or.inl rfl))⟩
          · rw [bnf o0]
            rw [if_neg o0] at hRR
            simp (disch := omega) only [q_X11_reads_465, q_X11_reads_466, q_X11_reads_468, q_X11_reads_469, q_X11_reads_472, q_X11_reads_473, q_X11_reads_474, q_X11_reads_475, hM1, y_is, y_gf, y_pf, y_f0, y_f1, y_f3, y_nI, y_nK, y_nZ, y_nL, y_nR, y_k1i, y_k1r, y_k1l, y_k1n, y_tl, y_tn, y_s, y_ss, List.getElem?_cons_zero, List.getElem?_cons_succ, List.set_cons_zero, List.set_cons_succ, List.length_cons, List.length_nil, true_and, and_true, lit, pk_mul, nI_add]
            exact ⟨by decide, endf _ _ _ _ _ _ _ _ hRR.symm (by omega) y_s (rsx (hr1.frm (y_ne (by decide)) (y_ne (by decide)))).1 (rsx (hr1.frm (y_ne (by decide)) (y_ne (by decide)))).2 (hF1.hs (Or.inl rfl))⟩
      · -- a sign
        rw [if_neg hla]
        have hc := hch a (by omega)
        generalize hcc : chW W a = c at hc
        have hrst : rstep env (chW W) len (rrun env (chW W) len d) a V S op wants = R := hRR
        rw [rstep, hcc] at hRR
        cases wants with
        | true =>
          have j6 := i6 rfl
          rw [if_pos rfl, if_neg hla] at hRR
          have num : ∀ (g2 : mzG) (a' : Nat) (v : Int64), a < a' → a' ≤ len → rrun env (chW W) len d a' ((stn S v).2 :: V) (stn S v).1 op false = R → g2.2 73 = ob 9 [.ref 74, .ref 75, .ref 76, .ref 77, .ref 78, .ref 79, .int (f0), .int (nI a'), .int (-1), .ref 80, .int (nI (V.length + 1)), .ref 81, .int (nI (stn S v).1.length), .ref 82, .long (r), .ref 83, .ref 84, .int (f5), .int (f6), .int (f7), .int (f8), .int (f9), .ref 85, .int (f10)] → rs g2 ((stn S v).2 :: V) (stn S v).1 → fr3 g g2 → ∀ x4, wp 168 b 478 [.ref 73, .int (nI op), .int 0, .int 1, x4] [] g2 Q := by
            intro g2 a' v q1 q2 q3 q4 q5 q6 x4
            have sb := stn_b S v
            exact nx g2 x4 ((stn S v).2 :: V) (stn S v).1 op false a' q1 q2 ⟨fun e he => i1 e (sb.2.2.1 e he), stn_okw S v i2, by simp only [List.length_cons]; omega, by rw [sb.2.2.2]; exact i4, i5, fun z => by simp at z, fun _ => ⟨by rw [List.length_cons, sb.1, j6], stn_hd S v⟩⟩ q3 q4 q5 q6
          simp only [q_X11_reads_42, q_X11_reads_44, q_X11_reads_45, y_is, y_gf, y_pf, y_f0, y_f1, y_f3, y_nI, y_nK, y_nZ, y_nL, y_nR, y_k1i, y_k1r, y_k1l, y_k1n, y_tl, y_tn, y_s, y_ss, List.getElem?_cons_zero, List.getElem?_cons_succ, List.set_cons_zero, List.set_cons_succ, List.length_cons, List.length_nil, true_and, and_true]
          refine br0 (by decide) ?_
          simp only [q_X11_reads_48, q_X11_reads_50, y_is, y_gf, y_pf, y_f0, y_f1, y_f3, y_nI, y_nK, y_nZ, y_nL, y_nR, y_k1i, y_k1r, y_k1l, y_k1n, y_tl, y_tn, y_s, y_ss, List.getElem?_cons_zero, List.getElem?_cons_succ, List.set_cons_zero, List.set_cons_succ, List.length_cons, List.length_nil, true_and, and_true]
          refine s_misFig (fun z => ?_) (fun z => ?_)
          · have hD := (inR_dg (by omega)).mp z
            rw [if_pos hD] at hRR
            rw [← hcc] at hD
            have hdl := dn_le (chW W) (len - a) a
            have hdp := dn_pos (ch := chW W) (d := len - a) (e := a) (by omega) hD
            simp only [q_X11_reads_53, y_is, y_gf, y_pf, y_f0, y_f1, y_f3, y_nI, y_nK, y_nZ, y_nL, y_nR, y_k1i, y_k1r, y_k1l, y_k1n, y_tl, y_tn, y_s, y_ss, List.getElem?_cons_zero, List.getElem?_cons_succ, List.set_cons_zero, List.set_cons_succ, List.length_cons, List.length_nil, true_and, and_true]
            refine br0 (by decide) ?_
            simp only [q_X11_reads_56, q_X11_reads_57, q_X11_reads_58, hM1, y_is, y_gf, y_pf, y_f0, y_f1, y_f3, y_nI, y_nK, y_nZ, y_nL, y_nR, y_k1i, y_k1r, y_k1l, y_k1n, y_tl, y_tn, y_s, y_ss, List.getElem?_cons_zero, List.getElem?_cons_succ, List.set_cons_zero, List.set_cons_succ, List.length_cons, List.length_nil, true_and, and_true]
            refine s_digits hM1 (e74 g1 hF1) hW hl hlen hch (by omega) (fun h6 g2 pl hM2 hf2 => ?_) (fun h6 g2 hM2 hf2 => ?_)
            · rw [if_pos h6] at hRR
              simp only [q_X11_reads_61, hM2, y_is, y_gf, y_pf, y_f0, y_f1, y_f3, y_nI, y_nK, y_nZ, y_nL, y_nR, y_k1i, y_k1r, y_k1l, y_k1n, y_tl, y_tn, y_s, y_ss, List.getElem?_cons_zero, List.getElem?_cons_succ, List.set_cons_zero, List.set_cons_succ, List.length_cons, List.length_nil, true_and, and_true]
              simp only [q_X11_stands_0, q_X11_stands_1, y_is, y_gf, y_pf, y_f0, y_f1, y_f3, y_nI, y_nK, y_nZ, y_nL, y_nR, y_k1i, y_k1r, y_k1l, y_k1n, y_tl, y_tn, y_s, y_ss, List.getElem?_cons_zero, List.getElem?_cons_succ, List.set_cons_zero, List.set_cons_succ, List.length_cons, List.length_nil, true_and, and_true]
              have hr2 : rs g2 V S := hr1.frm (hf2.2 _ (by omega)) (hf2.2 _ (by omega))
              refine s_stands g2 (by omega) (stn S (lN 0)) (fun g3 hM3 hr3 hf3 => ?_) S _ (lN 0) g2 hM2 hr2 i1 (by omega) fr3.rf rfl
              simp only [q_X11_reads_64, q_X11_reads_65, q_X11_reads_66, y_is, y_gf, y_pf, y_f0, y_f1, y_f3, y_nI, y_nK, y_nZ, y_nL, y_nR, y_k1i, y_k1r, y_k1l, y_k1n, y_tl, y_tn, y_s, y_ss, List.getElem?_cons_zero, List.getElem?_cons_succ, List.set_cons_zero, List.set_cons_succ, List.length_cons, List.length_nil, true_and, and_true]
              exact endf _ _ _ _ _ _ _ _ hRR.symm (by omega) hM3 (rsx hr3).1 (rsx hr3).2 ((hF1.tr (fr3.of hf2)).tr hf3)
            · rw [if_neg h6] at hRR
              simp only [q_X11_reads_61, hM2, y_is, y_gf, y_pf, y_f0, y_f1, y_f3, y_nI, y_nK, y_nZ, y_nL, y_nR, y_k1i, y_k1r, y_k1l, y_k1n, y_tl, y_tn, y_s, y_ss, List.getElem?_cons_zero, List.getElem?_cons_succ, List.set_cons_zero, List.set_cons_succ, List.length_cons, List.length_nil, true_and, and_true]
              simp only [q_X11_stands_0, q_X11_stands_1, y_is, y_gf, y_pf, y_f0, y_f1, y_f3, y_nI, y_nK, y_nZ, y_nL, y_nR, y_k1i, y_k1r, y_k1l, y_k1n, y_tl, y_tn, y_s, y_ss, List.getElem?_cons_zero, List.getElem?_cons_succ, List.set_cons_zero, List.set_cons_succ, List.length_cons, List.length_nil, true_and, and_true]
              have hr2 : rs g2 V S := hr1.frm (hf2.2 _ (by omega)) (hf2.2 _ (by omega))
              refine s_stands g2 (by omega) (stn S (lN (dv (chW W) a (dn (chW W) (len - a) a)))) (fun g3 hM3 hr3 hf3 => ?_) S _ _ g2 hM2 hr2 i1 (by omega) fr3.rf rfl
              simp only [q_X11_reads_64, q_X11_reads_65, q_X11_reads_66, y_is, y_gf, y_pf, y_f0, y_f1, y_f3, y_nI, y_nK, y_nZ, y_nL, y_nR, y_k1i, y_k1r, y_k1l, y_k1n, y_tl, y_tn, y_s, y_ss, List.getElem?_cons_zero, List.getElem?_cons_succ, List.set_cons_zero, List.set_cons_succ, List.length_cons, List.length_nil, true_and, and_true]
              exact num g3 _ _ (by omega) (by omega) hRR hM3 hr3 ((hF1.tr (fr3.of hf2)).tr hf3) _
          · have hD : ¬ dg c = true := fun q => z ((inR_dg (by omega)).mpr q)
            rw [if_neg hD] at hRR
            simp only [q_X11_reads_53, y_is, y_gf, y_pf, y_f0, y_f1, y_f3, y_nI, y_nK, y_nZ, y_nL, y_nR, y_k1i, y_k1r, y_k1l, y_k1n, y_tl, y_tn, y_s, y_ss, List.getElem?_cons_zero, List.getElem?_cons_succ, List.set_cons_zero, List.set_cons_succ, List.length_cons, List.length_nil, true_and, and_true]
            refine br1 (by decide) ?_
            simp only [q_X11_reads_69, q_X11_reads_71, y_is, y_gf, y_pf, y_f0, y_f1, y_f3, y_nI, y_nK, y_nZ, y_nL, y_nR, y_k1i, y_k1r, y_k1l, y_k1n, y_tl, y_tn, y_s, y_ss, List.getElem?_cons_zero, List.getElem?_cons_succ, List.set_cons_zero, List.set_cons_succ, List.length_cons, List.length_nil, true_and, and_true]
            refine s_letterOf (by omega) ?_
            cases hnm : nm c with
            | true =>
              rw [if_pos hnm] at hRR
              have hlo : lof c < 6 := by unfold lof; (repeat' split) <;> omega
              have hen := henv c hnm
              simp only [if_true, q_X11_reads_74, q_X11_reads_75, y_is, y_gf, y_pf, y_f0, y_f1, y_f3, y_nI, y_nK, y_nZ, y_nL, y_nR, y_k1i, y_k1r, y_k1l, y_k1n, y_tl, y_tn, y_s, y_ss, List.getElem?_cons_zero, List.getElem?_cons_succ, List.set_cons_zero, List.set_cons_succ, List.length_cons, List.length_nil, true_and, and_true]
              refine br0 (fun z => (m1_ne (by omega)).mp z) ?_
              simp (disch := omega) only [q_X11_reads_78, q_X11_reads_79, q_X11_reads_80, q_X11_reads_83, q_X11_reads_84, q_X11_reads_85, q_X11_reads_88, q_X11_reads_89, q_X11_reads_90, q_X11_reads_93, q_X11_reads_95, hM1, y_is, y_gf, y_pf, y_f0, y_f1, y_f3, y_nI, y_nK, y_nZ, y_nL, y_nR, y_k1i, y_k1r, y_k1l, y_k1n, y_tl, y_tn, y_s, y_ss, List.getElem?_cons_zero, List.getElem?_cons_succ, List.set_cons_zero, List.set_cons_succ, List.length_cons, List.length_nil, true_and, and_true, lit, nI_add]
              refine ⟨by decide, s_letterOf (by omega) ?_⟩
              generalize hg2 : hs g1 73 _ = g2
              have hM2 : g2.2 73 = ob 9 [.ref 74, .ref 75, .ref 76, .ref 77, .ref 78, .ref 79, .int (f0), .int (nI (a + 1)), .int (-1), .ref 80, .int (nI V.length), .ref 81, .int (nI S.length), .ref 82, .long (r), .ref 83, .ref 84, .int (f5), .int (f6), .int (f7), .int (f8), .int (f9), .ref 85, .int (f10)] := by rw [← hg2, y_s]; rfl
              have hr2 : rs g2 V S := hr1.frm (by rw [← hg2, y_ne (by decide)]) (by rw [← hg2, y_ne (by decide)])
              have hF2 : fr3 g g2 := by rw [← hg2]; exact hF1.hs (Or.inl rfl)
              rw [if_pos hnm]
              simp (disch := omega) only [q_X11_reads_98, q_X11_reads_99, hM2, e82 g2 hF2, hen, y_is, y_gf, y_pf, y_f0, y_f1, y_f3, y_nI, y_nK, y_nZ, y_nL, y_nR, y_k1i, y_k1r, y_k1l, y_k1n, y_tl, y_tn, y_s, y_ss, List.getElem?_cons_zero, List.getElem?_cons_succ, List.set_cons_zero, List.set_cons_succ, List.length_cons, List.length_nil, true_and, and_true, y_lIn, y_lKn, y_lZn, y_lLn, y_wIn, y_wZn, y_wLn, lit, le_n, lt_n, eq_n]
              simp only [q_X11_stands_0, q_X11_stands_1, y_is, y_gf, y_pf, y_f0, y_f1, y_f3, y_nI, y_nK, y_nZ, y_nL, y_nR, y_k1i, y_k1r, y_k1l, y_k1n, y_tl, y_tn, y_s, y_ss, List.getElem?_cons_zero, List.getElem?_cons_succ, List.set_cons_zero, List.set_cons_succ, List.length_cons, List.length_nil, true_and, and_true]
              refine s_stands g2 (by omega) (stn S (env c)) (fun g3 hM3 hr3 hf3 => ?_) S _ _ g2 hM2 hr2 i1 (by omega) fr3.rf rfl
              simp only [q_X11_reads_102, q_X11_reads_103, q_X11_reads_104, y_is, y_gf, y_pf, y_f0, y_f1, y_f3, y_nI, y_nK, y_nZ, y_nL, y_nR, y_k1i, y_k1r, y_k1l, y_k1n, y_tl, y_tn, y_s, y_ss, List.getElem?_cons_zero, List.getElem?_cons_succ, List.set_cons_zero, List.set_cons_succ, List.length_cons, List.length_nil, true_and, and_true]
              exact num g3 _ _ (by omega) (by omega) hRR hM3 hr3 (hF2.tr hf3) _
            | false =>
              rw [if_neg (by rw [hnm]; decide)] at hRR
              simp only [Bool.false_eq_true, if_false, q_X11_reads_74, q_X11_reads_75, y_is, y_gf, y_pf, y_f0, y_f1, y_f3, y_nI, y_nK, y_nZ, y_nL, y_nR, y_k1i, y_k1r, y_k1l, y_k1n, y_tl, y_tn, y_s, y_ss, List.getElem?_cons_zero, List.getElem?_cons_succ, List.set_cons_zero, List.set_cons_succ, List.length_cons, List.length_nil, true_and, and_true]
              refine br1 (by first | decide | omega | trivial | simp) ?_
              -- a sign that waits
              have push : ∀ (e op' : Nat) (x4 : Value), wok e → (rk e = 6 ∨ e = 40) → op' = (e :: S).count 40 → op' ≤ 8 → rrun env (chW W) len d (a + 1) V (e :: S) op' true = R → ∀ (g2 : mzG) (fs : Nat → Int32) (F : Nat → Int64), g2.2 80 = aL 64 F → sfL F V → g2.2 81 = aI 128 (upd fs S.length (nI (sgc e))) → sfI fs (S.map (fun c => nI (sgc c))) → g2.2 73 = ob 9 [.ref 74, .ref 75, .ref 76, .ref 77, .ref 78, .ref 79, .int (f0), .int (nI (a + 1)), .int (-1), .ref 80, .int (nI V.length), .ref 81, .int (nI (S.length + 1)), .ref 82, .long (r), .ref 83, .ref 84, .int (f5), .int (f6), .int (f7), .int (f8), .int (f9), .ref 85, .int (f10)] → fr3 g g2 → wp 168 b 478 [.ref 73, .int (nI op'), .int 1, .int 1, x4] [] g2 Q := by
                intro e op' x4 q1 q2 q3 q4 q5 g2 fs F q6 q7 q8 q9 q10 q11
                have hsp := sfI_push (x := nI (sgc e)) q9
                rw [List.length_map] at hsp
                refine nx g2 x4 V (e :: S) op' true (a + 1) (by omega) (by omega) ⟨fun c' hc' => (List.mem_cons.mp hc').elim (fun z => by rw [z]; exact q1) (i1 c'), okw_cons i2 (fun _ _ _ _ => q2), by simp only [List.length_cons]; omega, q3, q4, fun _ => ?_, fun z => by simp at z⟩ q5 q10 ⟨⟨F, q6, q7⟩, _, q8, hsp⟩ q11
                rw [j6, binc, if_neg, Nat.zero_add]
                intro z
                rcases q2 with y | y
                · exact z.2 y
                · rw [y] at z; exact z.1 rfl
              obtain ⟨⟨F, a1, a2⟩, fs, a3, a4⟩ := id hr1
              simp (disch := omega) only [q_X11_reads_107, q_X11_reads_109, q_X11_reads_111, y_is, y_gf, y_pf, y_f0, y_f1, y_f3, y_nI, y_nK, y_nZ, y_nL, y_nR, y_k1i, y_k1r, y_k1l, y_k1n, y_tl, y_tn, y_s, y_ss, List.getElem?_cons_zero, List.getElem?_cons_succ, List.set_cons_zero, List.set_cons_succ, List.length_cons, List.length_nil, true_and, and_true, lit, eq_n]
              refine brs (fun h33 => ?_) (fun h33 => ?_)
              · rw [if_pos h33] at hRR
                simp (disch := omega) only [q_X11_reads_121, q_X11_reads_122, q_X11_reads_123, q_X11_reads_126, q_X11_reads_127, q_X11_reads_128, q_X11_reads_131, q_X11_reads_132, q_X11_reads_135, q_X11_reads_136, q_X11_reads_139, q_X11_reads_141, q_X11_reads_143, hM1, y_is, y_gf, y_pf, y_f0, y_f1, y_f3, y_nI, y_nK, y_nZ, y_nL, y_nR, y_k1i, y_k1r, y_k1l, y_k1n, y_tl, y_tn, y_s, y_ss, List.getElem?_cons_zero, List.getElem?_cons_succ, List.set_cons_zero, List.set_cons_succ, List.length_cons, List.length_nil, true_and, and_true, lit, nI_add, eq_n]
                refine ⟨by decide, ?_⟩
                rw [bnt h33]
                simp (disch := omega) only [q_X11_reads_146, q_X11_reads_149, q_X11_reads_155, q_X11_reads_156, q_X11_reads_157, q_X11_reads_158, q_X11_reads_161, q_X11_reads_162, q_X11_reads_163, q_X11_reads_166, a3, y_is, y_gf, y_pf, y_f0, y_f1, y_f3, y_nI, y_nK, y_nZ, y_nL, y_nR, y_k1i, y_k1r, y_k1l, y_k1n, y_tl, y_tn, y_s, y_ss, List.getElem?_cons_zero, List.getElem?_cons_succ, List.set_cons_zero, List.set_cons_succ, List.length_cons, List.length_nil, true_and, and_true, y_lIn, y_lKn, y_lZn, y_lLn, y_wIn, y_wZn, y_wLn, lit, le_n, lt_n, eq_n, lit, nI_add, y_ne]
                refine ⟨by decide, push 33 op _ (Or.inr (by decide)) (Or.inl rfl) (by rw [List.count_cons_of_ne (by decide)]; exact i4) i5 hRR _ fs F ?_ a2 ?_ a4 y_s (((hF1.hs (Or.inl rfl)).hs (Or.inr (Or.inr rfl))).hs (Or.inl rfl))⟩
                · rw [y_ne (by decide), y_ne (by decide), y_ne (by decide)]; exact a1
                · rw [y_ne (by decide), y_s]; rfl
              · rw [if_neg h33] at hRR
                simp (disch := omega) only [q_X11_reads_114, q_X11_reads_116, q_X11_reads_118, y_is, y_gf, y_pf, y_f0, y_f1, y_f3, y_nI, y_nK, y_nZ, y_nL, y_nR, y_k1i, y_k1r, y_k1l, y_k1n, y_tl, y_tn, y_s, y_ss, List.getElem?_cons_zero, List.getElem?_cons_succ, List.set_cons_zero, List.set_cons_succ, List.length_cons, List.length_nil, true_and, and_true, lit, eq_n]
                by_cases h45 : c = 45
                · rw [bnt h45]
                  rw [if_pos h45] at hRR
                  simp (disch := omega) only [q_X11_reads_121, q_X11_reads_122, q_X11_reads_123, q_X11_reads_126, q_X11_reads_127, q_X11_reads_128, q_X11_reads_131, q_X11_reads_132, q_X11_reads_135, q_X11_reads_136, q_X11_reads_139, q_X11_reads_141, q_X11_reads_143, hM1, y_is, y_gf, y_pf, y_f0, y_f1, y_f3, y_nI, y_nK, y_nZ, y_nL, y_nR, y_k1i, y_k1r, y_k1l, y_k1n, y_tl, y_tn, y_s, y_ss, List.getElem?_cons_zero, List.getElem?_cons_succ, List.set_cons_zero, List.set_cons_succ, List.length_cons, List.length_nil, true_and, and_true, lit, nI_add, eq_n]
                  refine ⟨by decide, ?_⟩
                  rw [bnf h33]
                  simp (disch := omega) only [q_X11_reads_152, q_X11_reads_155, q_X11_reads_156, q_X11_reads_157, q_X11_reads_158, q_X11_reads_161, q_X11_reads_162, q_X11_reads_163, q_X11_reads_166, a3, y_is, y_gf, y_pf, y_f0, y_f1, y_f3, y_nI, y_nK, y_nZ, y_nL, y_nR, y_k1i, y_k1r, y_k1l, y_k1n, y_tl, y_tn, y_s, y_ss, List.getElem?_cons_zero, List.getElem?_cons_succ, List.set_cons_zero, List.set_cons_succ, List.length_cons, List.length_nil, true_and, and_true, y_lIn, y_lKn, y_lZn, y_lLn, y_wIn, y_wZn, y_wLn, lit, le_n, lt_n, eq_n, lit, nI_add, y_ne]
                  refine ⟨by decide, push 126 op _ (Or.inr (by decide)) (Or.inl rfl) (by rw [List.count_cons_of_ne (by decide)]; exact i4) i5 hRR _ fs F ?_ a2 ?_ a4 y_s (((hF1.hs (Or.inl rfl)).hs (Or.inr (Or.inr rfl))).hs (Or.inl rfl))⟩
                  · rw [y_ne (by decide), y_ne (by decide), y_ne (by decide)]; exact a1
                  · rw [y_ne (by decide), y_s]; rfl
                · rw [bnf h45]
                  rw [if_neg h45] at hRR
                  simp (disch := omega) only [q_X11_reads_169, q_X11_reads_171, q_X11_reads_173, y_is, y_gf, y_pf, y_f0, y_f1, y_f3, y_nI, y_nK, y_nZ, y_nL, y_nR, y_k1i, y_k1r, y_k1l, y_k1n, y_tl, y_tn, y_s, y_ss, List.getElem?_cons_zero, List.getElem?_cons_succ, List.set_cons_zero, List.set_cons_succ, List.length_cons, List.length_nil, true_and, and_true, lit, eq_n]
                  by_cases h40 : c = 40
                  · rw [bnt h40]
                    rw [if_pos h40] at hRR
                    simp (disch := omega) only [q_X11_reads_176, q_X11_reads_177, q_X11_reads_179, y_is, y_gf, y_pf, y_f0, y_f1, y_f3, y_nI, y_nK, y_nZ, y_nL, y_nR, y_k1i, y_k1r, y_k1l, y_k1n, y_tl, y_tn, y_s, y_ss, List.getElem?_cons_zero, List.getElem?_cons_succ, List.set_cons_zero, List.set_cons_succ, List.length_cons, List.length_nil, true_and, and_true, lit, le_n]
                    refine brs (fun o8 => ?_) (fun o8 => ?_)
                    · rw [if_neg (by omega)] at hRR
                      simp (disch := omega) only [q_X11_reads_220, q_X11_reads_221, q_X11_reads_223, q_X11_reads_224, q_X11_reads_227, q_X11_reads_228, q_X11_reads_230, q_X11_reads_232, hM1, y_is, y_gf, y_pf, y_f0, y_f1, y_f3, y_nI, y_nK, y_nZ, y_nL, y_nR, y_k1i, y_k1r, y_k1l, y_k1n, y_tl, y_tn, y_s, y_ss, List.getElem?_cons_zero, List.getElem?_cons_succ, List.set_cons_zero, List.set_cons_succ, List.length_cons, List.length_nil, true_and, and_true, lit, eq_n, pk_mul]
                      rw [bnt h40]
                      simp (disch := omega) only [q_X11_reads_235, q_X11_reads_236, q_X11_reads_240, q_X11_reads_241, q_X11_reads_244, hM1, y_is, y_gf, y_pf, y_f0, y_f1, y_f3, y_nI, y_nK, y_nZ, y_nL, y_nR, y_k1i, y_k1r, y_k1l, y_k1n, y_tl, y_tn, y_s, y_ss, List.getElem?_cons_zero, List.getElem?_cons_succ, List.set_cons_zero, List.set_cons_succ, List.length_cons, List.length_nil, true_and, and_true, lit, nI_add]
                      exact ⟨by decide, endf _ _ _ _ _ _ _ _ hRR.symm (by omega) y_s ⟨F, by rw [y_ne (by decide)]; exact a1⟩ ⟨fs, by rw [y_ne (by decide)]; exact a3⟩ (hF1.hs (Or.inl rfl))⟩
                    · rw [if_pos (by omega)] at hRR
                      simp (disch := omega) only [q_X11_reads_182, q_X11_reads_183, q_X11_reads_184, q_X11_reads_187, q_X11_reads_188, q_X11_reads_189, q_X11_reads_192, q_X11_reads_195, q_X11_reads_196, q_X11_reads_199, q_X11_reads_200, q_X11_reads_203, q_X11_reads_206, q_X11_reads_207, q_X11_reads_208, q_X11_reads_209, q_X11_reads_212, q_X11_reads_213, q_X11_reads_214, q_X11_reads_217, hM1, a3, y_is, y_gf, y_pf, y_f0, y_f1, y_f3, y_nI, y_nK, y_nZ, y_nL, y_nR, y_k1i, y_k1r, y_k1l, y_k1n, y_tl, y_tn, y_s, y_ss, List.getElem?_cons_zero, List.getElem?_cons_succ, List.set_cons_zero, List.set_cons_succ, List.length_cons, List.length_nil, true_and, and_true, y_lIn, y_lKn, y_lZn, y_lLn, y_wIn, y_wZn, y_wLn, lit, le_n, lt_n, eq_n, lit, nI_add, y_ne]
                      refine ⟨by decide, by decide, push 40 (op + 1) _ (Or.inl rfl) (Or.inr rfl) (by rw [List.count_cons_self, i4]) (by omega) hRR _ fs F ?_ a2 ?_ a4 y_s (((hF1.hs (Or.inl rfl)).hs (Or.inr (Or.inr rfl))).hs (Or.inl rfl))⟩
                      · rw [y_ne (by decide), y_ne (by decide), y_ne (by decide)]; exact a1
                      · rw [y_ne (by decide), y_s]; rfl
                  · rw [bnf h40]
                    rw [if_neg h40] at hRR
                    simp (disch := omega) only [q_X11_reads_220, q_X11_reads_221, q_X11_reads_223, q_X11_reads_224, q_X11_reads_227, q_X11_reads_228, q_X11_reads_230, q_X11_reads_232, hM1, y_is, y_gf, y_pf, y_f0, y_f1, y_f3, y_nI, y_nK, y_nZ, y_nL, y_nR, y_k1i, y_k1r, y_k1l, y_k1n, y_tl, y_tn, y_s, y_ss, List.getElem?_cons_zero, List.getElem?_cons_succ, List.set_cons_zero, List.set_cons_succ, List.length_cons, List.length_nil, true_and, and_true, lit, eq_n, pk_mul]
                    rw [bnf h40]
                    simp (disch := omega) only [q_X11_reads_239, q_X11_reads_240, q_X11_reads_241, q_X11_reads_244, hM1, y_is, y_gf, y_pf, y_f0, y_f1, y_f3, y_nI, y_nK, y_nZ, y_nL, y_nR, y_k1i, y_k1r, y_k1l, y_k1n, y_tl, y_tn, y_s, y_ss, List.getElem?_cons_zero, List.getElem?_cons_succ, List.set_cons_zero, List.set_cons_succ, List.length_cons, List.length_nil, true_and, and_true, lit, nI_add]
                    exact ⟨by decide, endf _ _ _ _ _ _ _ _ hRR.symm (by omega) y_s ⟨F, by rw [y_ne (by decide)]; exact a1⟩ ⟨fs, by rw [y_ne (by decide)]; exact a3⟩ (hF1.hs (Or.inl rfl))⟩
        | false =>
          obtain ⟨j1, j2⟩ := i7 rfl
          rw [if_neg (by decide), if_neg hla] at hRR
          simp only [q_X11_reads_42, q_X11_reads_44, q_X11_reads_45, y_is, y_gf, y_pf, y_f0, y_f1, y_f3, y_nI, y_nK, y_nZ, y_nL, y_nR, y_k1i, y_k1r, y_k1l, y_k1n, y_tl, y_tn, y_s, y_ss, List.getElem?_cons_zero, List.getElem?_cons_succ, List.set_cons_zero, List.set_cons_succ, List.length_cons, List.length_nil, true_and, and_true]
          refine br1 (by decide) ?_
          have hwb := fun q => wkd_b (r := q) S V (by omega)
          -- a fault, or a sign between
          have at312 : ¬ (c = 41 ∧ 0 < op) → wp 168 b 312 [.ref 73, .int (nI op), .int (bI false), .int 1, .int (nI c)] [] g1 Q := by
            intro h41
            rw [if_neg h41] at hRR
            simp only [q_X11_reads_312, q_X11_reads_314, y_is, y_gf, y_pf, y_f0, y_f1, y_f3, y_nI, y_nK, y_nZ, y_nL, y_nR, y_k1i, y_k1r, y_k1l, y_k1n, y_tl, y_tn, y_s, y_ss, List.getElem?_cons_zero, List.getElem?_cons_succ, List.set_cons_zero, List.set_cons_succ, List.length_cons, List.length_nil, true_and, and_true]
            refine s_mrank (by omega) ?_
            have hkr : rkr c ≤ 6 := by unfold rkr; have := rk_le c; split <;> omega
            simp (disch := omega) only [q_X11_reads_317, y_is, y_gf, y_pf, y_f0, y_f1, y_f3, y_nI, y_nK, y_nZ, y_nL, y_nR, y_k1i, y_k1r, y_k1l, y_k1n, y_tl, y_tn, y_s, y_ss, List.getElem?_cons_zero, List.getElem?_cons_succ, List.set_cons_zero, List.set_cons_succ, List.length_cons, List.length_nil, true_and, and_true, lit, le_n]
            refine brs (fun z => ?_) (fun z => ?_)
            · rw [if_pos (by omega)] at hRR
              simp only [q_X11_reads_445, q_X11_reads_447, q_X11_reads_448, y_is, y_gf, y_pf, y_f0, y_f1, y_f3, y_nI, y_nK, y_nZ, y_nL, y_nR, y_k1i, y_k1r, y_k1l, y_k1n, y_tl, y_tn, y_s, y_ss, List.getElem?_cons_zero, List.getElem?_cons_succ, List.set_cons_zero, List.set_cons_succ, List.length_cons, List.length_nil, true_and, and_true]
              refine br1 (fun q => (m1_ne (by omega)).mp q) ?_
              simp (disch := omega) only [q_X11_reads_465, q_X11_reads_466, q_X11_reads_468, q_X11_reads_469, q_X11_reads_472, q_X11_reads_473, q_X11_reads_474, q_X11_reads_475, hM1, y_is, y_gf, y_pf, y_f0, y_f1, y_f3, y_nI, y_nK, y_nZ, y_nL, y_nR, y_k1i, y_k1r, y_k1l, y_k1n, y_tl, y_tn, y_s, y_ss, List.getElem?_cons_zero, List.getElem?_cons_succ, List.set_cons_zero, List.set_cons_succ, List.length_cons, List.length_nil, true_and, and_true, lit, pk_mul, nI_add]
              exact ⟨by decide, endf _ _ _ _ _ _ _ _ hRR.symm (by omega) y_s (rsx (hr1.frm (y_ne (by decide)) (y_ne (by decide)))).1 (rsx (hr1.frm (y_ne (by decide)) (y_ne (by decide)))).2 (hF1.hs (Or.inl rfl))⟩
            · rw [if_neg (by omega)] at hRR
              have hbin : bin c := by
                unfold rkr at z
                by_cases h6 : rk c = 6
                · rw [if_pos h6] at z; omega
                · rw [if_neg h6] at z; exact ⟨by omega, h6⟩
              have hrk := rkr_bin hbin
              -- what waits and is due, is worked
              have at342 : ∀ (q : Nat) (g2 : mzG), q = (if rkr c = 3 then 4 else rkr c) → g2.2 73 = ob 9 [.ref 74, .ref 75, .ref 76, .ref 77, .ref 78, .ref 79, .int (f0), .int (nI a), .int (-1), .ref 80, .int (nI (wkd q S V).2.length), .ref 81, .int (nI (wkd q S V).1.length), .ref 82, .long (r), .ref 83, .ref 84, .int (f5), .int (f6), .int (f7), .int (f8), .int (f9), .ref 85, .int (f10)] → rs g2 (wkd q S V).2 (wkd q S V).1 → fr3 g g2 → wp 168 b 342 [.ref 73, .int (nI op), .int (bI false), .int 1, .int (nI c)] [] g2 Q := by
                intro q g2 hq hM2 hr2 hF2
                have wb := hwb q
                have wk : ∀ e, e ∈ (wkd q S V).1 → wok e := fun e he => i1 e (wb.2.2.2.1 e he)
                have hle2 : (wkd q S V).1.length + (wkd q S V).2.length ≤ a := by
                  have := wb.2.1; have := wb.2.2.1; omega
                have hbl := wb.2.2.2.2.2
                have hcnt := wb.2.2.2.2.1
                have hgo : ¬ (rkr c = 3 ∧ hd3 (wkd q S V).1 = true) → wp 168 b 409 [.ref 73, .int (nI op), .int (bI false), .int 1, .int (nI c)] [] g2 Q := by
                  intro h3
                  have hR2 : rrun env (chW W) len d (a + 1) (wkd q S V).2 (c :: (wkd q S V).1) op true = R := by
                    rw [if_neg, ← hq] at hRR
                    · exact hRR
                    · intro w3
                      apply h3
                      rw [hq, if_pos w3.1]
                      exact w3
                  obtain ⟨⟨F, a1, a2⟩, fs, a3, a4⟩ := id hr2
                  have hsp := sfI_push (x := nI (sgc c)) a4
                  rw [List.length_map] at hsp
                  obtain ⟨-, -, -, -, w5⟩ := wok_sg (c := c) (Or.inr hbin.1)
                  rw [(w5 hbin).1] at hsp
                  simp (disch := omega) only [q_X11_reads_409, q_X11_reads_410, q_X11_reads_411, q_X11_reads_414, q_X11_reads_415, q_X11_reads_416, q_X11_reads_419, q_X11_reads_420, q_X11_reads_423, q_X11_reads_424, q_X11_reads_427, q_X11_reads_429, q_X11_reads_430, q_X11_reads_431, q_X11_reads_432, q_X11_reads_435, q_X11_reads_436, q_X11_reads_437, q_X11_reads_440, q_X11_reads_441, q_X11_reads_442, hM2, a3, y_is, y_gf, y_pf, y_f0, y_f1, y_f3, y_nI, y_nK, y_nZ, y_nL, y_nR, y_k1i, y_k1r, y_k1l, y_k1n, y_tl, y_tn, y_s, y_ss, List.getElem?_cons_zero, List.getElem?_cons_succ, List.set_cons_zero, List.set_cons_succ, List.length_cons, List.length_nil, true_and, and_true, y_lIn, y_lKn, y_lZn, y_lLn, y_wIn, y_wZn, y_wLn, lit, le_n, lt_n, eq_n, lit, nI_add, y_ne]
                  refine ⟨by decide, by decide, nx _ _ (wkd q S V).2 (c :: (wkd q S V).1) op true (a + 1) (by omega) (by omega) ⟨fun e he => (List.mem_cons.mp he).elim (fun y => by rw [y]; exact Or.inr hbin.1) (wk e), okw_cons (wkd_okw S V i2) (fun e t he h6 => absurd h6 (wkd_hd S V i2 j2 e t he)), by simp only [List.length_cons]; omega, by rw [List.count_cons_of_ne (fun e => by rw [e] at hbin; exact hbin.1 rfl), hcnt]; exact i4, i5, fun _ => by rw [binc, if_pos hbin]; omega, fun y => by simp at y⟩ hR2 y_s ⟨⟨F, by rw [y_ne (by decide), y_ne (by decide), y_ne (by decide)]; exact a1, a2⟩, _, by rw [y_ne (by decide), y_s], ?_⟩ (((hF2.hs (Or.inl rfl)).hs (Or.inr (Or.inr rfl))).hs (Or.inl rfl))⟩
                  rw [List.map_cons, (w5 hbin).1]
                  exact hsp
                simp only [q_X11_reads_342, q_X11_reads_344, y_is, y_gf, y_pf, y_f0, y_f1, y_f3, y_nI, y_nK, y_nZ, y_nL, y_nR, y_k1i, y_k1r, y_k1l, y_k1n, y_tl, y_tn, y_s, y_ss, List.getElem?_cons_zero, List.getElem?_cons_succ, List.set_cons_zero, List.set_cons_succ, List.length_cons, List.length_nil, true_and, and_true]
                refine s_mrank (by omega) ?_
                simp (disch := omega) only [q_X11_reads_347, q_X11_reads_348, y_is, y_gf, y_pf, y_f0, y_f1, y_f3, y_nI, y_nK, y_nZ, y_nL, y_nR, y_k1i, y_k1r, y_k1l, y_k1n, y_tl, y_tn, y_s, y_ss, List.getElem?_cons_zero, List.getElem?_cons_succ, List.set_cons_zero, List.set_cons_succ, List.length_cons, List.length_nil, true_and, and_true, lit, eq_n]
                by_cases h3 : rkr c = 3
                · rw [bnt h3]
                  have hq4 : q = 4 := by rw [hq, if_pos h3]
                  cases hS : (wkd q S V).1 with
                  | nil =>
                    have hgo := hgo (fun y => by rw [hS] at y; exact absurd y.2 (by decide))
                    rw [hS] at hM2
                    simp (disch := omega) only [q_X11_reads_351, q_X11_reads_352, q_X11_reads_355, hM2, y_is, y_gf, y_pf, y_f0, y_f1, y_f3, y_nI, y_nK, y_nZ, y_nL, y_nR, y_k1i, y_k1r, y_k1l, y_k1n, y_tl, y_tn, y_s, y_ss, List.getElem?_cons_zero, List.getElem?_cons_succ, List.set_cons_zero, List.set_cons_succ, List.length_cons, List.length_nil, true_and, and_true, lit, le_n]
                    exact br1 (by first | decide | omega | trivial | simp) hgo
                  | cons e t =>
                    rw [hS] at hM2 hr2 hle2
                    simp only [List.length_cons] at hle2
                    obtain ⟨⟨F, a1, a2⟩, fs, a3, a4⟩ := id hr2
                    have t1 : fs t.length = nI (sgc e) := by have := a4.1; rw [List.length_map] at this; exact this
                    obtain ⟨w1, w2, w3, w4, w5⟩ := wok_sg (wk e (by rw [hS]; exact List.mem_cons_self))
                    simp (disch := omega) only [q_X11_reads_351, q_X11_reads_352, q_X11_reads_355, q_X11_reads_358, q_X11_reads_359, q_X11_reads_362, q_X11_reads_363, q_X11_reads_366, q_X11_reads_367, q_X11_reads_368, q_X11_reads_369, q_X11_reads_372, hM2, a3, t1, y_is, y_gf, y_pf, y_f0, y_f1, y_f3, y_nI, y_nK, y_nZ, y_nL, y_nR, y_k1i, y_k1r, y_k1l, y_k1n, y_tl, y_tn, y_s, y_ss, List.getElem?_cons_zero, List.getElem?_cons_succ, List.set_cons_zero, List.set_cons_succ, List.length_cons, List.length_nil, true_and, and_true, y_lIn, y_lKn, y_lZn, y_lLn, y_wIn, y_wZn, y_wLn, lit, le_n, lt_n, eq_n, lit, le_n, pk_sub, Nat.add_sub_cancel]
                    refine br0 (by first | decide | omega | trivial | simp) (brs (fun y => ?_) (fun y => ?_))
                    · refine hgo (fun u => ?_)
                      rw [hS] at u
                      have h3e : rk e = 3 := by simpa [hd3] using u.2
                      have := w4.mpr ⟨by omega, by omega⟩
                      omega
                    · have hbe : bin e := w4.mp (by omega)
                      obtain ⟨w6, w7⟩ := w5 hbe
                      rw [w6] at t1
                      simp (disch := omega) only [q_X11_reads_375, q_X11_reads_376, q_X11_reads_379, q_X11_reads_380, q_X11_reads_383, q_X11_reads_384, q_X11_reads_385, q_X11_reads_386, hM2, a3, t1, y_is, y_gf, y_pf, y_f0, y_f1, y_f3, y_nI, y_nK, y_nZ, y_nL, y_nR, y_k1i, y_k1r, y_k1l, y_k1n, y_tl, y_tn, y_s, y_ss, List.getElem?_cons_zero, List.getElem?_cons_succ, List.set_cons_zero, List.set_cons_succ, List.length_cons, List.length_nil, true_and, and_true, y_lIn, y_lKn, y_lZn, y_lLn, y_wIn, y_wZn, y_wLn, lit, le_n, lt_n, eq_n, lit, pk_sub, Nat.add_sub_cancel]
                      refine s_mrank w7 ?_
                      rw [rkr_bin hbe]
                      have hke := rk_le e
                      simp (disch := omega) only [q_X11_reads_389, q_X11_reads_390, y_is, y_gf, y_pf, y_f0, y_f1, y_f3, y_nI, y_nK, y_nZ, y_nL, y_nR, y_k1i, y_k1r, y_k1l, y_k1n, y_tl, y_tn, y_s, y_ss, List.getElem?_cons_zero, List.getElem?_cons_succ, List.set_cons_zero, List.set_cons_succ, List.length_cons, List.length_nil, true_and, and_true, lit, eq_n]
                      by_cases e3 : rk e = 3
                      · rw [bnt e3]
                        have hRf : .inl (10 * a + 1) = R := by
                          rw [if_pos] at hRR
                          · exact hRR
                          · exact ⟨h3, by rw [← hq4, hS]; simp [hd3, e3]⟩
                        simp (disch := omega) only [q_X11_reads_393, q_X11_reads_394, q_X11_reads_396, q_X11_reads_397, q_X11_reads_400, q_X11_reads_401, q_X11_reads_402, q_X11_reads_403, q_X11_reads_406, hM2, y_is, y_gf, y_pf, y_f0, y_f1, y_f3, y_nI, y_nK, y_nZ, y_nL, y_nR, y_k1i, y_k1r, y_k1l, y_k1n, y_tl, y_tn, y_s, y_ss, List.getElem?_cons_zero, List.getElem?_cons_succ, List.set_cons_zero, List.set_cons_succ, List.length_cons, List.length_nil, true_and, and_true, lit, pk_mul, nI_add]
                        exact ⟨by decide, endf _ _ _ _ _ _ _ _ hRf.symm (by omega) y_s ⟨F, by rw [y_ne (by decide)]; exact a1⟩ ⟨fs, by rw [y_ne (by decide)]; exact a3⟩ (hF2.hs (Or.inl rfl))⟩
                      · rw [bnf e3]
                        exact hgo (fun u => by rw [hS] at u; have : rk e = 3 := by simpa [hd3] using u.2
                                               exact e3 this)
                · rw [bnf h3]
                  exact hgo (fun u => h3 u.1)
              simp (disch := omega) only [q_X11_reads_320, q_X11_reads_321, q_X11_reads_323, hM1, y_is, y_gf, y_pf, y_f0, y_f1, y_f3, y_nI, y_nK, y_nZ, y_nL, y_nR, y_k1i, y_k1r, y_k1l, y_k1n, y_tl, y_tn, y_s, y_ss, List.getElem?_cons_zero, List.getElem?_cons_succ, List.set_cons_zero, List.set_cons_succ, List.length_cons, List.length_nil, true_and, and_true]
              refine s_mrank (by omega) ?_
              simp (disch := omega) only [q_X11_reads_326, q_X11_reads_327, y_is, y_gf, y_pf, y_f0, y_f1, y_f3, y_nI, y_nK, y_nZ, y_nL, y_nR, y_k1i, y_k1r, y_k1l, y_k1n, y_tl, y_tn, y_s, y_ss, List.getElem?_cons_zero, List.getElem?_cons_succ, List.set_cons_zero, List.set_cons_succ, List.length_cons, List.length_nil, true_and, and_true, lit, eq_n]
              by_cases h3 : rkr c = 3
              · rw [bnt h3]
                simp (disch := omega) only [q_X11_reads_330, q_X11_reads_331, q_X11_reads_339, hM1, y_is, y_gf, y_pf, y_f0, y_f1, y_f3, y_nI, y_nK, y_nZ, y_nL, y_nR, y_k1i, y_k1r, y_k1l, y_k1n, y_tl, y_tn, y_s, y_ss, List.getElem?_cons_zero, List.getElem?_cons_succ, List.set_cons_zero, List.set_cons_succ, List.length_cons, List.length_nil, true_and, and_true, lit]
                refine s_workDown g1 (by decide) (wkd 4 S V) (fun g2 hM2 hr2 hf2 => ?_) S V g1 hM1 hr1 i1 (by omega) (by omega) (by omega) fr3.rf rfl
                exact at342 4 g2 (by rw [if_pos h3]) hM2 hr2 (hF1.tr hf2)
              · rw [bnf h3]
                simp (disch := omega) only [q_X11_reads_334, q_X11_reads_336, y_is, y_gf, y_pf, y_f0, y_f1, y_f3, y_nI, y_nK, y_nZ, y_nL, y_nR, y_k1i, y_k1r, y_k1l, y_k1n, y_tl, y_tn, y_s, y_ss, List.getElem?_cons_zero, List.getElem?_cons_succ, List.set_cons_zero, List.set_cons_succ, List.length_cons, List.length_nil, true_and, and_true]
                refine s_mrank (by omega) ?_
                simp (disch := omega) only [q_X11_reads_339, hM1, y_is, y_gf, y_pf, y_f0, y_f1, y_f3, y_nI, y_nK, y_nZ, y_nL, y_nR, y_k1i, y_k1r, y_k1l, y_k1n, y_tl, y_tn, y_s, y_ss, List.getElem?_cons_zero, List.getElem?_cons_succ, List.set_cons_zero, List.set_cons_succ, List.length_cons, List.length_nil, true_and, and_true]
                refine s_workDown g1 (by omega) (wkd (rkr c) S V) (fun g2 hM2 hr2 hf2 => ?_) S V g1 hM1 hr1 i1 (by omega) (by omega) (by omega) fr3.rf rfl
                exact at342 (rkr c) g2 (by rw [if_neg h3]) hM2 hr2 (hF1.tr hf2)
          simp (disch := omega) only [q_X11_reads_247, q_X11_reads_249, q_X11_reads_251, y_is, y_gf, y_pf, y_f0, y_f1, y_f3, y_nI, y_nK, y_nZ, y_nL, y_nR, y_k1i, y_k1r, y_k1l, y_k1n, y_tl, y_tn, y_s, y_ss, List.getElem?_cons_zero, List.getElem?_cons_succ, List.set_cons_zero, List.set_cons_succ, List.length_cons, List.length_nil, true_and, and_true, lit, eq_n]
          by_cases h41 : c = 41
          · rw [bnt h41]
            simp (disch := omega) only [q_X11_reads_254, q_X11_reads_255, y_is, y_gf, y_pf, y_f0, y_f1, y_f3, y_nI, y_nK, y_nZ, y_nL, y_nR, y_k1i, y_k1r, y_k1l, y_k1n, y_tl, y_tn, y_s, y_ss, List.getElem?_cons_zero, List.getElem?_cons_succ, List.set_cons_zero, List.set_cons_succ, List.length_cons, List.length_nil, true_and, and_true, lit, le_n]
            refine brs (fun z => at312 (fun q => by omega)) (fun z => ?_)
            rw [if_pos ⟨h41, by omega⟩] at hRR
            simp (disch := omega) only [q_X11_reads_258, q_X11_reads_259, q_X11_reads_260, q_X11_reads_263, q_X11_reads_264, q_X11_reads_265, q_X11_reads_268, q_X11_reads_271, q_X11_reads_272, q_X11_reads_273, hM1, y_is, y_gf, y_pf, y_f0, y_f1, y_f3, y_nI, y_nK, y_nZ, y_nL, y_nR, y_k1i, y_k1r, y_k1l, y_k1n, y_tl, y_tn, y_s, y_ss, List.getElem?_cons_zero, List.getElem?_cons_succ, List.set_cons_zero, List.set_cons_succ, List.length_cons, List.length_nil, true_and, and_true, lit, nI_add, m_neg, pk_sub]
            refine ⟨by decide, ?_⟩
            generalize hg2 : hs g1 73 _ = g2
            have hM2 : g2.2 73 = ob 9 [.ref 74, .ref 75, .ref 76, .ref 77, .ref 78, .ref 79, .int (f0), .int (nI (a + 1)), .int (-1), .ref 80, .int (nI V.length), .ref 81, .int (nI S.length), .ref 82, .long (r), .ref 83, .ref 84, .int (f5), .int (f6), .int (f7), .int (f8), .int (f9), .ref 85, .int (f10)] := by rw [← hg2, y_s]; rfl
            have hr2 : rs g2 V S := hr1.frm (by rw [← hg2, y_ne (by decide)]) (by rw [← hg2, y_ne (by decide)])
            have hF2 : fr3 g g2 := by rw [← hg2]; exact hF1.hs (Or.inl rfl)
            have wb := hwb 1
            have wk : ∀ e, e ∈ (wkd 1 S V).1 → wok e := fun e he => i1 e (wb.2.2.2.1 e he)
            refine s_workDown g2 (by decide) (wkd 1 S V) (fun g3 hM3 hr3 hf3 => ?_) S V g2 hM2 hr2 i1 (by omega) (by omega) (by omega) fr3.rf rfl
            have hokw := wkd_okw (r := 1) S V i2
            rcases wkd1_40 (V := V) i1 i2 j2 with e | ⟨w1, e⟩
            · exfalso
              have := wb.2.2.2.2.1
              rw [e] at this
              simp at this
              omega
            · have hcnt := wb.2.2.2.2.1
              have hbl := wb.2.2.2.2.2
              have hle2 : (wkd 1 S V).1.length + (wkd 1 S V).2.length ≤ a := by
                have := wb.2.1; have := wb.2.2.1; omega
              rw [e] at hM3 hr3 hRR hcnt hbl hokw hle2 wk
              rw [List.count_cons_self] at hcnt
              rw [binc, if_neg (fun q => q.1 rfl), Nat.zero_add] at hbl
              simp only [List.length_cons] at hle2
              cases hV2 : (wkd 1 S V).2 with
              | nil => rw [hV2] at hbl; simp at hbl; omega
              | cons v V' =>
                rw [hV2] at hM3 hr3 hRR hbl hle2
                simp only [List.length_cons] at hbl hle2
                obtain ⟨⟨F, a1, a2⟩, fs, a3, a4⟩ := id hr3
                have t1 : F V'.length = v := a2.1
                simp (disch := omega) only [q_X11_reads_276, q_X11_reads_277, q_X11_reads_278, q_X11_reads_281, q_X11_reads_282, q_X11_reads_283, q_X11_reads_286, q_X11_reads_287, q_X11_reads_288, q_X11_reads_291, q_X11_reads_292, q_X11_reads_293, q_X11_reads_296, q_X11_reads_297, q_X11_reads_298, q_X11_reads_301, q_X11_reads_302, q_X11_reads_305, q_X11_reads_306, hM3, a1, t1, y_is, y_gf, y_pf, y_f0, y_f1, y_f3, y_nI, y_nK, y_nZ, y_nL, y_nR, y_k1i, y_k1r, y_k1l, y_k1n, y_tl, y_tn, y_s, y_ss, List.getElem?_cons_zero, List.getElem?_cons_succ, List.set_cons_zero, List.set_cons_succ, List.length_cons, List.length_nil, true_and, and_true, y_lIn, y_lKn, y_lZn, y_lLn, y_wIn, y_wZn, y_wLn, lit, le_n, lt_n, eq_n, lit, pk_sub, Nat.add_sub_cancel, y_ne]
                refine ⟨by decide, by decide, ?_⟩
                simp only [q_X11_stands_0, q_X11_stands_1, y_is, y_gf, y_pf, y_f0, y_f1, y_f3, y_nI, y_nK, y_nZ, y_nL, y_nR, y_k1i, y_k1r, y_k1l, y_k1n, y_tl, y_tn, y_s, y_ss, List.getElem?_cons_zero, List.getElem?_cons_succ, List.set_cons_zero, List.set_cons_succ, List.length_cons, List.length_nil, true_and, and_true]
                generalize hg4 : hs g3 73 _ = g4
                have hM4 : g4.2 73 = ob 9 [.ref 74, .ref 75, .ref 76, .ref 77, .ref 78, .ref 79, .int (f0), .int (nI (a + 1)), .int (-1), .ref 80, .int (nI V'.length), .ref 81, .int (nI w1.length), .ref 82, .long (r), .ref 83, .ref 84, .int (f5), .int (f6), .int (f7), .int (f8), .int (f9), .ref 85, .int (f10)] := by rw [← hg4, y_s]; rfl
                have hr4 : rs g4 V' w1 := ⟨⟨F, by rw [← hg4, y_ne (by decide)]; exact a1, a2.2⟩, fs, by rw [← hg4, y_ne (by decide)]; exact a3, a4.2⟩
                have hF4 : fr3 g g4 := by rw [← hg4]; exact (hF2.tr hf3).hs (Or.inl rfl)
                have hRR : rrun env (chW W) len d (a + 1) ((stn w1 v).2 :: V') (stn w1 v).1 (op - 1) false = R := hRR
                have sb := stn_b w1 v
                refine s_stands g4 (by omega) (stn w1 v) (fun g5 hM5 hr5 hf5 => ?_) w1 _ v g4 hM4 hr4 (fun e' he' => wk e' (List.mem_cons_of_mem _ he')) (by omega) fr3.rf rfl
                simp only [q_X11_reads_309, y_is, y_gf, y_pf, y_f0, y_f1, y_f3, y_nI, y_nK, y_nZ, y_nL, y_nR, y_k1i, y_k1r, y_k1l, y_k1n, y_tl, y_tn, y_s, y_ss, List.getElem?_cons_zero, List.getElem?_cons_succ, List.set_cons_zero, List.set_cons_succ, List.length_cons, List.length_nil, true_and, and_true]
                exact nx g5 _ ((stn w1 v).2 :: V') (stn w1 v).1 (op - 1) false (a + 1) (by omega) (by omega) ⟨fun e' he' => wk e' (List.mem_cons_of_mem _ (sb.2.2.1 e' he')), stn_okw w1 v (okw_tail hokw), by simp only [List.length_cons]; omega, by rw [sb.2.2.2]; omega, by omega, fun q => by simp at q, fun _ => ⟨by rw [List.length_cons, sb.1]; omega, stn_hd w1 v⟩⟩ hRR hM5 hr5 (hF4.tr hf5)
          · rw [bnf h41]
            exact at312 (fun q => h41 q.1)
  simp (disch := omega) only [q_X11_reads_0, q_X11_reads_1, q_X11_reads_2, q_X11_reads_5, q_X11_reads_6, q_X11_reads_7, q_X11_reads_10, q_X11_reads_11, q_X11_reads_12, q_X11_reads_15, q_X11_reads_16, q_X11_reads_17, q_X11_reads_20, q_X11_reads_21, q_X11_reads_22, q_X11_reads_23, q_X11_reads_24, q_X11_reads_25, hM0, y_is, y_gf, y_pf, y_f0, y_f1, y_f3, y_nI, y_nK, y_nZ, y_nL, y_nR, y_k1i, y_k1r, y_k1l, y_k1n, y_tl, y_tn, y_s, y_ss, List.getElem?_cons_zero, List.getElem?_cons_succ, List.set_cons_zero, List.set_cons_succ, List.length_cons, List.length_nil, true_and, and_true]
  refine ⟨by decide, by decide, by decide, by decide, ?_⟩
  refine loop (len + 1) 0 [] [] 0 true _ _ (by omega) (by omega) ⟨fun c hc => by simp at hc, trivial, by simp, rfl, by decide, fun _ => rfl, fun z => by simp at z⟩ hR y_s ⟨⟨F0, by rw [y_ne (by decide)]; exact h80, trivial⟩, fs0, by rw [y_ne (by decide)]; exact h81, trivial⟩ (fr3.rf.hs (Or.inl rfl))
end MREADS
