/-! ===== bits of posts ===== -/
def bitN (s p : Nat) : Nat := s / 2 ^ p % 2
theorem i_bit {s p : Nat} (hs : s < 512) (hp : p < 9) : nI s >>> (nI p &&& nI 31) &&& nI 1 = nI (bitN s p) := by
  have : ∀ s : Fin 512, ∀ p : Fin 9, nI s.val >>> (nI p.val &&& nI 31) &&& nI 1 = nI (bitN s.val p.val) := by decide +kernel
  exact this ⟨s, hs⟩ ⟨p, hp⟩
theorem i_or {s p : Nat} (hs : s < 512) (hp : p < 9) : nI s ||| nI 1 <<< (nI p &&& nI 31) = nI (s ||| 2 ^ p) := by
  have : ∀ s : Fin 512, ∀ p : Fin 9, nI s.val ||| nI 1 <<< (nI p.val &&& nI 31) = nI (s.val ||| 2 ^ p.val) := by decide +kernel
  exact this ⟨s, hs⟩ ⟨p, hp⟩
theorem or_lt {s p : Nat} (hs : s < 512) (hp : p < 9) : s ||| 2 ^ p < 512 := by
  have : ∀ s : Fin 512, ∀ p : Fin 9, s.val ||| 2 ^ p.val < 512 := by decide +kernel
  exact this ⟨s, hs⟩ ⟨p, hp⟩
theorem bit_lt (s p : Nat) : bitN s p < 2 := Nat.mod_lt _ (by decide)
/-- who waits to sleep -/
abbrev wai (ne : Nat → Nat) (s p : Nat) : Prop := 0 < ne p ∧ bitN s p = 0
def wsl (ne : Nat → Nat) (s : Nat) : Nat → Nat → Nat → Option Nat
  | 0, _, _ => none
  | d + 1, i, q => if wai ne s i then (if q = 0 then some i else wsl ne s d (i + 1) (q - 1)) else wsl ne s d (i + 1) q
def oI : Option Nat → Int32
  | some p => nI p
  | none => -1
section NIGHTS2
variable {b : mzB} {Q : mzQ} {g : mzG} {w : Nat} {v : Nat → Int32} {A : Nat → Nat → Int32}
theorem s_wsl_loop {n s : Nat} {x2 : Int64} {ne : Nat → Nat} (hW : wt g w v A) (hv : v 0 = nI n) (hn : n ≤ 9) (hne : ∀ i, i < n → A 2 i = nI (ne i) ∧ ne i ≤ 12) (hs : s < 512) (R : Int32) (hQ : Q (some (.int R)) g) : ∀ d i q, i + d = n → q < 9223372036854775808 → oI (wsl ne s d i q) = R → wp 37 b 6 [.ref w, .int (nI s), .long x2, .null, .long (lN q), .null, .int (nI i)] [] g Q := by
  intro d
  induction d with
  | zero =>
    intro i q hi hq hR
    have hi : i = n := by omega
    subst hi
    rw [wsl] at hR
    subst hR
    rw [q_X4_waitingSleeper_6]
    simp (disch := omega) only [q_X4_waitingSleeper_8, q_X4_waitingSleeper_9, q_X4_waitingSleeper_12, q_X4_waitingSleeper_58, q_X4_waitingSleeper_59, hW.1, hv, y_is, y_gf, y_pf, y_f0, y_f1, y_f3, y_nI, y_nK, y_nZ, y_nL, y_nR, y_k1i, y_k1r, y_k1l, y_k1n, y_tl, y_tn, y_s, y_ss, List.getElem?_cons_zero, List.getElem?_cons_succ, List.set_cons_zero, List.set_cons_succ, List.length_cons, List.length_nil, true_and, and_true, le_n]
    exact br1 (by omega) hQ
  | succ d ih =>
    intro i q hi hq hR
    obtain ⟨e, e2⟩ := hne i (by omega)
    have hb := bit_lt s i
    rw [wsl] at hR
    rw [q_X4_waitingSleeper_6]
    simp (disch := omega) only [q_X4_waitingSleeper_8, q_X4_waitingSleeper_9, q_X4_waitingSleeper_12, q_X4_waitingSleeper_15, q_X4_waitingSleeper_16, q_X4_waitingSleeper_19, q_X4_waitingSleeper_20, q_X4_waitingSleeper_21, q_X4_waitingSleeper_23, q_X4_waitingSleeper_24, hW.1, hW.2.1, hW.2.2.1, hv, y_is, y_gf, y_pf, y_f0, y_f1, y_f3, y_nI, y_nK, y_nZ, y_nL, y_nR, y_k1i, y_k1r, y_k1l, y_k1n, y_tl, y_tn, y_s, y_ss, List.getElem?_cons_zero, List.getElem?_cons_succ, List.set_cons_zero, List.set_cons_succ, List.length_cons, List.length_nil, true_and, and_true, y_lIn, y_lKn, y_lZn, y_lLn, y_wIn, y_wZn, y_wLn, lit, le_n, lt_n, eq_n, lit, y_row, e]
    refine br0 (by omega) (brs (fun z => ?_) (fun z => ?_))
    · rw [if_neg (fun h => by have := h.1; omega)] at hR
      simp (disch := omega) only [q_X4_waitingSleeper_52, q_X4_waitingSleeper_55, y_is, y_gf, y_pf, y_f0, y_f1, y_f3, y_nI, y_nK, y_nZ, y_nL, y_nR, y_k1i, y_k1r, y_k1l, y_k1n, y_tl, y_tn, y_s, y_ss, List.getElem?_cons_zero, List.getElem?_cons_succ, List.set_cons_zero, List.set_cons_succ, List.length_cons, List.length_nil, true_and, and_true, lit, nI_add]
      exact ih (i + 1) q (by omega) hq hR
    · simp (disch := omega) only [q_X4_waitingSleeper_27, q_X4_waitingSleeper_28, q_X4_waitingSleeper_30, q_X4_waitingSleeper_31, q_X4_waitingSleeper_32, q_X4_waitingSleeper_33, y_is, y_gf, y_pf, y_f0, y_f1, y_f3, y_nI, y_nK, y_nZ, y_nL, y_nR, y_k1i, y_k1r, y_k1l, y_k1n, y_tl, y_tn, y_s, y_ss, List.getElem?_cons_zero, List.getElem?_cons_succ, List.set_cons_zero, List.set_cons_succ, List.length_cons, List.length_nil, true_and, and_true, lit, i_bit, eq_n]
      by_cases y : bitN s i = 0
      · rw [bnt y]
        rw [if_pos ⟨by omega, y⟩] at hR
        simp (disch := omega) only [q_X4_waitingSleeper_36, q_X4_waitingSleeper_38, q_X4_waitingSleeper_39, q_X4_waitingSleeper_40, y_is, y_gf, y_pf, y_f0, y_f1, y_f3, y_nI, y_nK, y_nZ, y_nL, y_nR, y_k1i, y_k1r, y_k1l, y_k1n, y_tl, y_tn, y_s, y_ss, List.getElem?_cons_zero, List.getElem?_cons_succ, List.set_cons_zero, List.set_cons_succ, List.length_cons, List.length_nil, true_and, and_true, lit, litL, lc_eq]
        by_cases q0 : q = 0
        · rw [bnt q0]
          rw [if_pos q0] at hR
          subst hR
          simp (disch := omega) only [q_X4_waitingSleeper_43, q_X4_waitingSleeper_45, y_is, y_gf, y_pf, y_f0, y_f1, y_f3, y_nI, y_nK, y_nZ, y_nL, y_nR, y_k1i, y_k1r, y_k1l, y_k1n, y_tl, y_tn, y_s, y_ss, List.getElem?_cons_zero, List.getElem?_cons_succ, List.set_cons_zero, List.set_cons_succ, List.length_cons, List.length_nil, true_and, and_true]
          exact hQ
        · rw [bnf q0]
          rw [if_neg q0] at hR
          simp (disch := omega) only [q_X4_waitingSleeper_46, q_X4_waitingSleeper_48, q_X4_waitingSleeper_49, q_X4_waitingSleeper_50, q_X4_waitingSleeper_52, q_X4_waitingSleeper_55, y_is, y_gf, y_pf, y_f0, y_f1, y_f3, y_nI, y_nK, y_nZ, y_nL, y_nR, y_k1i, y_k1r, y_k1l, y_k1n, y_tl, y_tn, y_s, y_ss, List.getElem?_cons_zero, List.getElem?_cons_succ, List.set_cons_zero, List.set_cons_succ, List.length_cons, List.length_nil, true_and, and_true, lit, litL, l_sub, nI_add]
          exact ih (i + 1) (q - 1) (by omega) (by omega) hR
      · rw [bnf y]
        rw [if_neg (fun h => y h.2)] at hR
        simp (disch := omega) only [q_X4_waitingSleeper_52, q_X4_waitingSleeper_55, y_is, y_gf, y_pf, y_f0, y_f1, y_f3, y_nI, y_nK, y_nZ, y_nL, y_nR, y_k1i, y_k1r, y_k1l, y_k1n, y_tl, y_tn, y_s, y_ss, List.getElem?_cons_zero, List.getElem?_cons_succ, List.set_cons_zero, List.set_cons_succ, List.length_cons, List.length_nil, true_and, and_true, lit, nI_add]
        exact ih (i + 1) q (by omega) hq hR
theorem s_wsl {n s q : Nat} {ne : Nat → Nat} (hW : wt g w v A) (hv : v 0 = nI n) (hn : n ≤ 9) (hne : ∀ i, i < n → A 2 i = nI (ne i) ∧ ne i ≤ 12) (hs : s < 512) (hq : q < 9223372036854775808) (hQ : Q (some (.int (oI (wsl ne s n 0 q)))) g) : wp 37 b 0 [.ref w, .int (nI s), .long (lN q), .null, .null, .null, .null] [] g Q := by
  simp (disch := omega) only [q_X4_waitingSleeper_0, q_X4_waitingSleeper_1, q_X4_waitingSleeper_3, q_X4_waitingSleeper_4, y_is, y_gf, y_pf, y_f0, y_f1, y_f3, y_nI, y_nK, y_nZ, y_nL, y_nR, y_k1i, y_k1r, y_k1l, y_k1n, y_tl, y_tn, y_s, y_ss, List.getElem?_cons_zero, List.getElem?_cons_succ, List.set_cons_zero, List.set_cons_succ, List.length_cons, List.length_nil, true_and, and_true, lit]
  exact s_wsl_loop hW hv hn hne hs _ hQ n 0 q (by omega) hq rfl
end NIGHTS2
