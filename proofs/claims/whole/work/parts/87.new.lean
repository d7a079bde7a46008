/-! ===== what is made at the start ===== -/
theorem hn_1 {g : mzG} {c : mzC} : (hn g c).1 = g.1 + 1 := rfl
theorem hn_s {g : mzG} {c : mzC} {k : Nat} (h : k = g.1) : (hn g c).2 k = c := by
  subst h
  exact if_pos rfl
theorem hn_n {g : mzG} {c : mzC} {k : Nat} (h : k ≠ g.1) : (hn g c).2 k = g.2 k := if_neg h
/-- new cells from a to the count; what was stays -/
def nw (g g' : mzG) (n : Nat) : Prop := g'.1 = n ∧ ∀ k, k < g.1 ∨ n ≤ k → g'.2 k = g.2 k
section NEW
variable {b : mzB} {g : mzG} {Q : mzQ}
theorem n_nat {k : Nat} (h0 : g.2 k = ob 3 [.null, .int 0]) (hk : k + 1 = g.1) (hl : g.1 < 1000) (hQ : ∀ g', nv g' k 0 → g'.1 = g.1 + 1 → (∀ j, j ≠ k → j ≠ k + 1 → g'.2 j = g.2 j) → Q none g') : wp 22 (1, 16) 0 [.ref k] [] g Q := by
  simp (disch := omega) only [q_X3_init_0, q_X3_init_4, q_X3_init_5, q_X3_init_1, q_X3_init_7, y_is, y_gf, y_pf, y_f0, y_f1, y_f3, y_nI, y_nK, y_nZ, y_nL, y_nR, y_k1i, y_k1r, y_k1l, y_k1n, y_tl, y_tn, y_s, y_ss, List.getElem?_cons_zero, List.getElem?_cons_succ, List.set_cons_zero, List.set_cons_succ, List.length_cons, List.length_nil, true_and, and_true]
  refine ⟨by omega, ⟨by decide, by decide, hl⟩, ⟨by decide, by decide⟩, ?_⟩
  simp (disch := omega) only [q_X3_init_9, q_X3_init_12, h0, hn_n, y_is, y_gf, y_pf, y_f0, y_f1, y_f3, y_nI, y_nK, y_nZ, y_nL, y_nR, y_k1i, y_k1r, y_k1l, y_k1n, y_tl, y_tn, y_s, y_ss, List.getElem?_cons_zero, List.getElem?_cons_succ, List.set_cons_zero, List.set_cons_succ, List.length_cons, List.length_nil, true_and, and_true]
  refine ⟨by decide, hQ _ ?_ ?_ (fun j h1 h2 => ?_)⟩
  · refine ⟨fun _ => 0, 0, ⟨?_, ?_⟩, by omega, ⟨fun i hi => by omega, by decide⟩, Or.inl rfl⟩
    · rw [y_s, hk]; rfl
    · rw [y_ne (by omega), hn_s hk]; rfl
  · rfl
  · rw [y_ne h1, hn_n (by omega)]
end NEW
