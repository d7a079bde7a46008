/-! ===== Natural ===== -/
def rp (f : Nat → Int32) (z N : Nat) : Prop := (∀ i, i < z → f i = nI (N / BB ^ i % BB)) ∧ N < BB ^ z
def nt (g : mzG) (k : Nat) (f : Nat → Int32) (z : Nat) : Prop := g.2 k = ob 3 [.ref (k + 1), .int (nI z)] ∧ g.2 (k + 1) = aI 16 f
/-- the Natural at k holds N -/
def nv (g : mzG) (k N : Nat) : Prop := ∃ f z, nt g k f z ∧ z ≤ 16 ∧ rp f z N ∧ (z = 0 ∨ BB ^ (z - 1) ≤ N)
theorem nt.kept {g g' : mzG} {k z : Nat} {f : Nat → Int32} (h : nt g k f z) (h0 : g'.2 k = g.2 k) (h1 : g'.2 (k + 1) = g.2 (k + 1)) : nt g' k f z := ⟨h0.trans h.1, h1.trans h.2⟩
theorem nv.kept {g g' : mzG} {k N : Nat} (h : nv g k N) (h0 : g'.2 k = g.2 k) (h1 : g'.2 (k + 1) = g.2 (k + 1)) : nv g' k N := by
  obtain ⟨f, z, h2, h3⟩ := h
  exact ⟨f, z, h2.kept h0 h1, h3⟩
theorem nv.fr {g g' : mzG} {k N lo hi : Nat} (h : nv g k N) (hf : fr g g' lo hi) (ha : k + 1 < lo ∨ hi ≤ k) : nv g' k N := h.kept (hf.2 k (by omega)) (hf.2 (k + 1) (by omega))
theorem nt.sz {g : mzG} {k z z' : Nat} {f : Nat → Int32} (h : nt g k f z) : nt (hs g k (ob 3 [.ref (k + 1), .int (nI z')])) k f z' := ⟨y_s, by rw [y_ne (by omega)]; exact h.2⟩
theorem nt.lm {g : mzG} {k z : Nat} {f f' : Nat → Int32} (h : nt g k f z) : nt (hs g (k + 1) (aI 16 f')) k f' z := ⟨by rw [y_ne (by omega)]; exact h.1, y_s⟩
theorem bb_16 {c z : Nat} (hz : z ≤ 16) (h : c < BB ^ (16 - z)) (hc : 0 < c) : z < 16 := by
  by_cases q : z < 16
  · exact q
  · rw [show 16 - z = 0 by omega] at h
    simp at h; omega
theorem bb_mul_lt {a b i j : Nat} (h : a / BB ^ i < BB ^ j) : a < BB ^ (i + j) := by
  rw [Nat.pow_add]
  rw [Nat.div_lt_iff_lt_mul (bb_pos i)] at h
  rw [Nat.mul_comm]; exact h
theorem bb_low {N i z : Nat} (h : N < BB ^ z) (hi : z ≤ i) : N / BB ^ i % BB = 0 := by
  have : N < BB ^ i := Nat.lt_of_lt_of_le h (Nat.pow_le_pow_right (by decide) hi)
  rw [Nat.div_eq_of_lt this, Nat.zero_mod]
section NATURAL
variable {b : mzB} {Q : mzQ} {k : Nat}
theorem s_append_loop (g0 : mzG) {h : Int64} : ∀ (d z c : Nat) (g : mzG) (f : Nat → Int32), z + d = 16 → c < 9223372036854775808 → c < BB ^ (16 - z) → nt g k f z → fr g0 g k (k + 2) → (∀ g' f' z', nt g' k f' z' → z ≤ z' → z' ≤ 16 → (∀ i, i < z → f' i = f i) → (∀ j, z + j < z' → f' (z + j) = nI (c / BB ^ j % BB)) → c < BB ^ (z' - z) → (z' = z ∨ BB ^ (z' - z - 1) ≤ c) → fr g0 g' k (k + 2) → Q none g') → wp 31 b 2 [.ref k, .long h, .null, .long (lN c), .null] [] g Q := by
  intro d
  induction d with
  | zero =>
    intro z c g f hz hc hcz hN hf hQ
    have hz : z = 16 := by omega
    subst hz
    have hc0 : c = 0 := by simpa using hcz
    subst hc0
    rw [q_X3_append_2]
    simp (disch := omega) only [q_X3_append_3, q_X3_append_4, q_X3_append_5, q_X3_append_50, hN.1, y_is, y_gf, y_pf, y_f0, y_f1, y_f3, y_nI, y_nK, y_nZ, y_nL, y_nR, y_k1i, y_k1r, y_k1l, y_k1n, y_tl, y_tn, y_s, y_ss, List.getElem?_cons_zero, List.getElem?_cons_succ, List.set_cons_zero, List.set_cons_succ, List.length_cons, List.length_nil, true_and, and_true, litL, lit, lc_le]
    exact br1 (by omega) (hQ g f 16 hN (by omega) (by omega) (fun _ _ => rfl) (fun j hj => by omega) (by simp) (Or.inl rfl) hf)
  | succ d ih =>
    intro z c g f hz hc hcz hN hf hQ
    rw [q_X3_append_2]
    by_cases hc0 : c = 0
    · subst hc0
      simp (disch := omega) only [q_X3_append_3, q_X3_append_4, q_X3_append_5, q_X3_append_50, hN.1, y_is, y_gf, y_pf, y_f0, y_f1, y_f3, y_nI, y_nK, y_nZ, y_nL, y_nR, y_k1i, y_k1r, y_k1l, y_k1n, y_tl, y_tn, y_s, y_ss, List.getElem?_cons_zero, List.getElem?_cons_succ, List.set_cons_zero, List.set_cons_succ, List.length_cons, List.length_nil, true_and, and_true, litL, lit, lc_le]
      exact br1 (by omega) (hQ g f z hN (by omega) (by omega) (fun _ _ => rfl) (fun j hj => by omega) (by simp) (Or.inl rfl) hf)
    · have hlt := Nat.mod_lt c (show 0 < BB by decide)
      simp (disch := omega) only [q_X3_append_3, q_X3_append_4, q_X3_append_5, q_X3_append_8, q_X3_append_9, q_X3_append_12, q_X3_append_14, hN.1, y_is, y_gf, y_pf, y_f0, y_f1, y_f3, y_nI, y_nK, y_nZ, y_nL, y_nR, y_k1i, y_k1r, y_k1l, y_k1n, y_tl, y_tn, y_s, y_ss, List.getElem?_cons_zero, List.getElem?_cons_succ, List.set_cons_zero, List.set_cons_succ, List.length_cons, List.length_nil, true_and, and_true, litL, lit, lc_le, le_n]
      refine br0 (by omega) (br0 (by omega) ?_)
      simp (disch := omega) only [q_X3_append_17, q_X3_append_18, q_X3_append_21, q_X3_append_22, q_X3_append_25, q_X3_append_26, q_X3_append_29, q_X3_append_30, q_X3_append_31, q_X3_append_32, q_X3_append_33, q_X3_append_34, q_X3_append_37, q_X3_append_38, q_X3_append_39, q_X3_append_42, q_X3_append_43, q_X3_append_45, q_X3_append_46, q_X3_append_47, hN.1, hN.2, y_is, y_gf, y_pf, y_f0, y_f1, y_f3, y_nI, y_nK, y_nZ, y_nL, y_nR, y_k1i, y_k1r, y_k1l, y_k1n, y_tl, y_tn, y_s, y_ss, List.getElem?_cons_zero, List.getElem?_cons_succ, List.set_cons_zero, List.set_cons_succ, List.length_cons, List.length_nil, true_and, and_true, litL, y_lIn, y_lKn, y_lZn, y_lLn, y_wIn, y_wZn, y_wLn, lit, le_n, lt_n, eq_n, l_low, l_i, l_shr30, nI_add, y_ne]
      refine ⟨by decide, ?_⟩
      have hN1 := (hN.lm (f' := upd f z (nI (c % BB)))).sz (z' := z + 1)
      refine ih (z + 1) (c / BB) _ _ (by omega) (Nat.lt_of_le_of_lt (Nat.div_le_self _ _) hc) ?_ hN1 ((hf.hs (by omega) (by omega)).hs (by omega) (by omega)) ?_
      · rw [Nat.div_lt_iff_lt_mul (by decide), ← Nat.pow_succ, show (16 - (z + 1)).succ = 16 - z by omega]; exact hcz
      · intro g' f' z' h1 h2 h3 h4 h5 h6 h7 h8
        refine hQ g' f' z' h1 (by omega) h3 (fun i hi => ?_) (fun j hj => ?_) ?_ ?_ h8
        · rw [h4 i (by omega)]; exact pk_un (by omega)
        · cases j with
          | zero => rw [h4 (z + 0) (by omega)]; simp [upd]
          | succ j =>
            rw [show z + (j + 1) = z + 1 + j by omega, h5 j (by omega), Nat.div_div_eq_div_mul, Nat.pow_succ, Nat.mul_comm BB]
        · rw [show z' - z = (z' - (z + 1)) + 1 by omega, Nat.pow_succ, ← Nat.div_lt_iff_lt_mul (by decide)]; exact h6
        · right
          rcases h7 with h7 | h7
          · rw [h7, show z + 1 - z - 1 = 0 by omega]; simp; omega
          · by_cases hzz : z' = z + 1
            · rw [hzz, show z + 1 - z - 1 = 0 by omega]; simp; omega
            · rw [show z' - z - 1 = (z' - (z + 1) - 1) + 1 by omega, Nat.pow_succ]
              exact (Nat.le_div_iff_mul_le (by decide)).mp h7
theorem s_append {g : mzG} {z c : Nat} {f : Nat → Int32} (hz : z ≤ 16) (hc : c < 9223372036854775808) (hcz : c < BB ^ (16 - z)) (hN : nt g k f z) (hQ : ∀ g' f' z', nt g' k f' z' → z ≤ z' → z' ≤ 16 → (∀ i, i < z → f' i = f i) → (∀ j, z + j < z' → f' (z + j) = nI (c / BB ^ j % BB)) → c < BB ^ (z' - z) → (z' = z ∨ BB ^ (z' - z - 1) ≤ c) → fr g g' k (k + 2) → Q none g') : wp 31 b 0 [.ref k, .long (lN c), .null, .null, .null] [] g Q := by
  simp only [q_X3_append_0, q_X3_append_1, y_is, y_gf, y_pf, y_f0, y_f1, y_f3, y_nI, y_nK, y_nZ, y_nL, y_nR, y_k1i, y_k1r, y_k1l, y_k1n, y_tl, y_tn, y_s, y_ss, List.getElem?_cons_zero, List.getElem?_cons_succ, List.set_cons_zero, List.set_cons_succ, List.length_cons, List.length_nil, true_and, and_true]
  exact s_append_loop g (16 - z) z c g f (by omega) hc hcz hN fr.rf hQ
theorem s_trim (g0 : mzG) {N : Nat} {f : Nat → Int32} (hQ : ∀ g', nv g' k N → fr g0 g' k (k + 2) → Q none g') : ∀ (z : Nat) (g : mzG), z ≤ 16 → nt g k f z → rp f z N → fr g0 g k (k + 2) → wp 32 b 0 [.ref k] [] g Q := by
  intro z
  induction z with
  | zero =>
    intro g hz hN hr hf
    rw [q_X3_trim_0]
    simp (disch := omega) only [q_X3_trim_1, q_X3_trim_4, q_X3_trim_34, hN.1, y_is, y_gf, y_pf, y_f0, y_f1, y_f3, y_nI, y_nK, y_nZ, y_nL, y_nR, y_k1i, y_k1r, y_k1l, y_k1n, y_tl, y_tn, y_s, y_ss, List.getElem?_cons_zero, List.getElem?_cons_succ, List.set_cons_zero, List.set_cons_succ, List.length_cons, List.length_nil, true_and, and_true, lit, le_n]
    exact br1 (by omega) (hQ g ⟨f, 0, hN, by omega, hr, Or.inl rfl⟩ hf)
  | succ z ih =>
    intro g hz hN hr hf
    rw [q_X3_trim_0]
    have hd := bb_lt N z
    simp (disch := omega) only [q_X3_trim_1, q_X3_trim_4, q_X3_trim_7, q_X3_trim_8, q_X3_trim_11, q_X3_trim_12, q_X3_trim_15, q_X3_trim_16, q_X3_trim_17, q_X3_trim_18, hN.1, hN.2, y_is, y_gf, y_pf, y_f0, y_f1, y_f3, y_nI, y_nK, y_nZ, y_nL, y_nR, y_k1i, y_k1r, y_k1l, y_k1n, y_tl, y_tn, y_s, y_ss, List.getElem?_cons_zero, List.getElem?_cons_succ, List.set_cons_zero, List.set_cons_succ, List.length_cons, List.length_nil, true_and, and_true, y_lIn, y_lKn, y_lZn, y_lLn, y_wIn, y_wZn, y_wLn, lit, le_n, lt_n, eq_n, pk_sub, Nat.add_sub_cancel, hr.1 z (Nat.lt_succ_self z)]
    refine br0 (by omega) ?_
    refine brs (fun hne => ?_) (fun he => ?_)
    · simp only [q_X3_trim_34, y_is, y_gf, y_pf, y_f0, y_f1, y_f3, y_nI, y_nK, y_nZ, y_nL, y_nR, y_k1i, y_k1r, y_k1l, y_k1n, y_tl, y_tn, y_s, y_ss, List.getElem?_cons_zero, List.getElem?_cons_succ, List.set_cons_zero, List.set_cons_succ, List.length_cons, List.length_nil, true_and, and_true]
      refine hQ g ⟨f, z + 1, hN, by omega, hr, Or.inr ?_⟩ hf
      rw [Nat.add_sub_cancel]
      apply Nat.not_lt.mp
      intro hlt
      rw [Nat.div_eq_of_lt hlt] at hne
      exact hne rfl
    · have he : N / BB ^ z % BB = 0 := Classical.not_not.mp he
      simp (disch := omega) only [q_X3_trim_21, q_X3_trim_22, q_X3_trim_23, q_X3_trim_26, q_X3_trim_27, q_X3_trim_28, q_X3_trim_31, hN.1, hN.2, y_is, y_gf, y_pf, y_f0, y_f1, y_f3, y_nI, y_nK, y_nZ, y_nL, y_nR, y_k1i, y_k1r, y_k1l, y_k1n, y_tl, y_tn, y_s, y_ss, List.getElem?_cons_zero, List.getElem?_cons_succ, List.set_cons_zero, List.set_cons_succ, List.length_cons, List.length_nil, true_and, and_true, y_lIn, y_lKn, y_lZn, y_lLn, y_wIn, y_wZn, y_wLn, lit, le_n, lt_n, eq_n, pk_sub, Nat.add_sub_cancel]
      refine ⟨by decide, ih _ (by omega) hN.sz ⟨fun i hi => hr.1 i (by omega), ?_⟩ (hf.hs (by omega) (by omega))⟩
      have h1 : N / BB ^ z < BB := by
        rw [Nat.div_lt_iff_lt_mul (bb_pos z), Nat.mul_comm, ← bb_s]; exact hr.2
      rw [Nat.mod_eq_of_lt h1] at he
      exact (Nat.div_eq_zero_iff.mp he).resolve_left (by have := bb_pos z; omega)
theorem s_set {g : mzG} {N0 c : Nat} (hN : nv g k N0) (hc : c < 9223372036854775808) (hQ : ∀ g', nv g' k c → fr g g' k (k + 2) → Q none g') : wp 23 b 0 [.ref k, .long (lN c), .null] [] g Q := by
  obtain ⟨f, z, h1, h2, -⟩ := hN
  simp only [q_X3_set_0, q_X3_set_1, q_X3_set_2, q_X3_set_5, q_X3_set_6, q_X3_set_7, h1.1, y_is, y_gf, y_pf, y_f0, y_f1, y_f3, y_nI, y_nK, y_nZ, y_nL, y_nR, y_k1i, y_k1r, y_k1l, y_k1n, y_tl, y_tn, y_s, y_ss, List.getElem?_cons_zero, List.getElem?_cons_succ, List.set_cons_zero, List.set_cons_succ, List.length_cons, List.length_nil, true_and, and_true]
  refine ⟨by decide, ?_⟩
  refine s_append (z := 0) (f := f) (by omega) hc ?_ h1.sz (fun g' f' z' i1 i2 i3 i4 i5 i6 i7 i8 => ?_)
  · exact Nat.lt_trans hc (by decide)
  · simp only [q_X3_set_10, y_is, y_gf, y_pf, y_f0, y_f1, y_f3, y_nI, y_nK, y_nZ, y_nL, y_nR, y_k1i, y_k1r, y_k1l, y_k1n, y_tl, y_tn, y_s, y_ss, List.getElem?_cons_zero, List.getElem?_cons_succ, List.set_cons_zero, List.set_cons_succ, List.length_cons, List.length_nil, true_and, and_true]
    refine hQ g' ⟨f', z', i1, i3, ⟨fun i hi => ?_, i6⟩, ?_⟩ ⟨i8.1, fun j hj => by rw [i8.2 j hj, y_ne (by omega)]⟩
    · have := i5 i (by omega)
      rw [Nat.zero_add] at this; exact this
    · rcases i7 with h | h
      · exact Or.inl h
      · exact Or.inr h
theorem s_ncopy {g : mzG} {j M N : Nat} (hap : k + 1 < j ∨ j + 1 < k) (hM : nv g k M) (hN : nv g j N) (hQ : ∀ g', nv g' k N → fr g g' k (k + 2) → Q none g') : wp 25 b 0 [.ref k, .ref j] [] g Q := by
  obtain ⟨f, z, h1, h2, -⟩ := hM
  obtain ⟨f2, z2, i1, i2, i3, i4⟩ := hN
  simp (disch := omega) only [q_X3_copy_0, q_X3_copy_1, q_X3_copy_2, q_X3_copy_5, q_X3_copy_8, q_X3_copy_9, q_X3_copy_12, q_X3_copy_13, q_X3_copy_14, q_X3_copy_17, q_X3_copy_18, q_X3_copy_20, q_X3_copy_23, h1.1, h1.2, i1.1, i1.2, y_is, y_gf, y_pf, y_f0, y_f1, y_f3, y_nI, y_nK, y_nZ, y_nL, y_nR, y_k1i, y_k1r, y_k1l, y_k1n, y_tl, y_tn, y_s, y_ss, List.getElem?_cons_zero, List.getElem?_cons_succ, List.set_cons_zero, List.set_cons_succ, List.length_cons, List.length_nil, true_and, and_true, lit, y_ne, y_cpn]
  refine ⟨by decide, hQ _ ⟨_, z2, (h1.sz (z' := z2)).lm, i2, ⟨fun i hi => ?_, i3.2⟩, i4⟩ ((fr.rf.hs (by omega) (by omega)).hs (by omega) (by omega))⟩
  show (if i < 16 then f2 i else f i) = _
  rw [if_pos (by omega)]; exact i3.1 i hi
end NATURAL
