/-! ===== Watch: copy, mix ===== -/
section WATCH4
variable {b : mzB} {g : mzG} {Q : mzQ} {w : Nat} {v : Nat → Int32} {A : Nat → Nat → Int32}
/-- a Watch copied whole -/
def cpA (A B : Nat → Nat → Int32) : Nat → Nat → Int32 := fun r => if r < 5 then (fun q => if q < 9 then B r q else A r q) else if r < 9 then (fun q => if q < 12 then B r q else A r q) else if r = 9 then (fun q => if q < 40 then B r q else A r q) else A r
theorem s_copy {w2 : Nat} {v2 : Nat → Int32} {B : Nat → Nat → Int32} (hap : w + 12 ≤ w2 ∨ w2 + 12 ≤ w) (hW : wt g w v A) (hW2 : wt g w2 v2 B) (hQ : ∀ g', wt g' w v2 (cpA A B) → fr g g' w (w + 12) → Q none g') : wp 80 b 0 [.ref w, .ref w2] [] g Q := by
  obtain ⟨h0, -⟩ := id hW
  obtain ⟨k0, -⟩ := id hW2
  simp (disch := omega) only [q_X9_copy_0, q_X9_copy_1, q_X9_copy_2, q_X9_copy_5, h0, k0, y_is, y_gf, y_pf, y_f0, y_f1, y_f3, y_nI, y_nK, y_nZ, y_nL, y_nR, y_k1i, y_k1r, y_k1l, y_k1n, y_tl, y_tn, y_s, y_ss, List.getElem?_cons_zero, List.getElem?_cons_succ, List.set_cons_zero, List.set_cons_succ, List.length_cons, List.length_nil, true_and, and_true]
  refine ⟨by decide, ?_⟩
  generalize hv1 : (fun k => if k = 0 then v2 0 else v k) = v1
  have hW1 := hW.nums (v' := v1)
  rw [show ob 7 [.int (v1 0), .ref (w + 1), .int (v1 1), .int (v1 2), .int (v1 3), .int (v1 4), .ref (w + 7), .ref (w + 8), .ref (w + 9), .int (v1 5), .ref (w + 10), .int (v1 6), .ref (w + 11), .int (v1 7)] = ob 7 [.int (v2 0), .ref (w + 1), .int (v 1), .int (v 2), .int (v 3), .int (v 4), .ref (w + 7), .ref (w + 8), .ref (w + 9), .int (v 5), .ref (w + 10), .int (v 6), .ref (w + 11), .int (v 7)] by rw [← hv1]; rfl] at hW1
  generalize hg1 : hs g w (ob 7 [.int (v2 0), .ref (w + 1), .int (v 1), .int (v 2), .int (v 3), .int (v 4), .ref (w + 7), .ref (w + 8), .ref (w + 9), .int (v 5), .ref (w + 10), .int (v 6), .ref (w + 11), .int (v 7)]) = g1 at hW1 ⊢
  have hf1 : fr g g1 w (w + 12) := by rw [← hg1]; exact fr.rf.hs (by omega) (by omega)
  have hW21 : wt g1 w2 v2 B := hW2.kept (fun k h1 h2 => hf1.2 k (by omega))
  obtain ⟨h0', -⟩ := id hW1
  simp (disch := omega) only [q_X9_copy_8, q_X9_copy_9, q_X9_copy_10, h0', y_is, y_gf, y_pf, y_f0, y_f1, y_f3, y_nI, y_nK, y_nZ, y_nL, y_nR, y_k1i, y_k1r, y_k1l, y_k1n, y_tl, y_tn, y_s, y_ss, List.getElem?_cons_zero, List.getElem?_cons_succ, List.set_cons_zero, List.set_cons_succ, List.length_cons, List.length_nil, true_and, and_true]
  refine s_copyRows0 hap hW1 hW21 (fun g2 hW2' hf2 => ?_)
  have hW22 : wt g2 w2 v2 B := hW21.kept (fun k h1 h2 => hf2.2 k (by omega))
  have hf2 := hf1.tr hf2
  obtain ⟨h0, h1, h2, h5, h6, h7, h8, h9⟩ := id hW2'
  obtain ⟨k0, k1, k2, k5, k6, k7, k8, k9⟩ := id hW22
  simp (disch := omega) only [q_X9_copy_13, q_X9_copy_14, q_X9_copy_15, q_X9_copy_18, q_X9_copy_21, q_X9_copy_22, q_X9_copy_23, q_X9_copy_26, q_X9_copy_29, q_X9_copy_30, q_X9_copy_31, q_X9_copy_34, q_X9_copy_37, q_X9_copy_38, q_X9_copy_39, q_X9_copy_42, q_X9_copy_45, q_X9_copy_46, q_X9_copy_47, q_X9_copy_50, q_X9_copy_53, q_X9_copy_54, q_X9_copy_57, q_X9_copy_58, q_X9_copy_59, q_X9_copy_62, q_X9_copy_63, q_X9_copy_65, q_X9_copy_68, q_X9_copy_69, q_X9_copy_72, q_X9_copy_73, q_X9_copy_74, q_X9_copy_77, q_X9_copy_78, q_X9_copy_80, q_X9_copy_83, q_X9_copy_84, q_X9_copy_87, q_X9_copy_88, q_X9_copy_89, q_X9_copy_92, q_X9_copy_93, q_X9_copy_95, q_X9_copy_98, q_X9_copy_99, q_X9_copy_100, q_X9_copy_103, q_X9_copy_106, q_X9_copy_107, q_X9_copy_110, q_X9_copy_111, q_X9_copy_112, q_X9_copy_115, q_X9_copy_116, q_X9_copy_118, q_X9_copy_121, q_X9_copy_122, q_X9_copy_123, q_X9_copy_126, q_X9_copy_129, q_X9_copy_130, q_X9_copy_133, q_X9_copy_134, q_X9_copy_135, q_X9_copy_138, q_X9_copy_139, q_X9_copy_141, q_X9_copy_144, h0, h5, h6, h7, h8, h9, k0, k5, k6, k7, k8, k9, y_is, y_gf, y_pf, y_f0, y_f1, y_f3, y_nI, y_nK, y_nZ, y_nL, y_nR, y_k1i, y_k1r, y_k1l, y_k1n, y_tl, y_tn, y_s, y_ss, List.getElem?_cons_zero, List.getElem?_cons_succ, List.set_cons_zero, List.set_cons_succ, List.length_cons, List.length_nil, true_and, and_true, lit, y_ne, y_cpn]
  refine ⟨by decide, by decide, by decide, by decide, by decide, by decide, by decide, hQ _ ?_ ?_⟩
  · refine ⟨?_, ?_, fun i hi => ?_, ?_, ?_, ?_, ?_, ?_⟩
    · simp (disch := omega) only [y_ne, y_s]
      rw [← hv1]; rfl
    · simp (disch := omega) only [y_ne, y_s]; exact h1
    · simp (disch := omega) only [y_ne, y_s, h2]
      unfold cp5 cpA; rw [if_pos hi, if_pos hi]
    all_goals (simp (disch := omega) only [y_ne, y_s]; rfl)
  · refine ⟨hf2.1, fun k hk => ?_⟩
    simp (disch := omega) only [y_ne]
    exact hf2.2 k hk
end WATCH4
