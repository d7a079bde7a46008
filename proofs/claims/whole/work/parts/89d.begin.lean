/-! ===== the law from its start ===== -/
theorem wv0 : wv W0 := by
  unfold wv
  decide
theorem sv0 : sv S0 := ⟨wv0, (fun i X h => by
  have h : (none : Option (Nat → Nat)) = some X := h
  cases h), by decide⟩
theorem strc0 {L : Nat} {xs : Nat → Int32} {k : Nat} {wd : List Nat} {bs : List Int32} (h1 : kz_g L xs k = ob 700 [.ref (k + 4), .int 0]) (h2 : kz_g L xs (k + 4) = aY wd.length (fun j => bs.getD j 0)) (h3 : bs = wd.map nI) (h4 : ∀ c, c ∈ wd → c < 128) : strc (0, kz_g L xs) k wd := by
  refine ⟨h1, _, h2, fun i c hc => ⟨?_, h4 c (List.mem_of_getElem? hc)⟩⟩
  subst h3
  show (wd.map nI).getD i 0 = nI c
  rw [List.getD_eq_getElem?_getD, List.getElem?_map, hc]
  rfl
theorem kc0 {L : Nat} {xs : Nat → Int32} : kc (0, kz_g L xs) := ⟨strc0 rfl rfl rfl (by decide), strc0 rfl rfl rfl (by decide), strc0 rfl rfl rfl (by decide), strc0 rfl rfl rfl (by decide), rfl, rfl⟩
theorem law_wp {L : Nat} {xs : Nat → Int32} (hL : L ≤ 2560) : wp 0 (600000, 7302250) 0 [.ref 1011, .null, .null, .null] [] (0, kz_g L xs) (fun rv _ => rv = some (.int 1)) := by
  have x11 : kz_g L xs 1011 = aK L xs := rfl
  have k0 : kc (0, kz_g L xs) := kc0
  generalize hz : ((0, kz_g L xs) : mzG) = z at k0
  have z1 : z.1 = 0 := by rw [← hz]
  have z2 : z.2 1011 = aK L xs := by rw [← hz]; exact x11
  clear hz x11
  simp (disch := omega) only [q_L_law_0, q_L_law_3, z1, y_is, y_gf, y_pf, y_f0, y_f1, y_f3, y_nI, y_nK, y_nZ, y_nL, y_nR, y_k1i, y_k1r, y_k1l, y_k1n, y_tl, y_tn, y_s, y_ss, List.getElem?_cons_zero, List.getElem?_cons_succ, List.set_cons_zero, List.set_cons_succ, List.length_cons, List.length_nil, true_and, and_true]
  refine ⟨by decide, ⟨by decide, by decide⟩, ?_⟩
  generalize hg : hn z _ = gA
  obtain ⟨a1, a2, a3⟩ := hn_f z1 hg
  clear hg
  rw [q_L_law_4 ⟨by decide, by decide⟩, a2, y_is]
  have kA : kc gA := (show kc (gA.1, z.2) from k0).frm (lo := 0) (hi := 1000) ⟨rfl, fun j hj => a3 _ (by omega)⟩ (by omega)
  refine ⟨trivial, n_main a2 a1 kA (fun g1 b1 b2 b3 => ?_)⟩
  simp (disch := omega) only [q_L_law_7, q_L_law_8, q_L_law_11, b2, Option.toList_none, List.nil_append, y_is, y_gf, y_pf, y_f0, y_f1, y_f3, y_nI, y_nK, y_nZ, y_nL, y_nR, y_k1i, y_k1r, y_k1l, y_k1n, y_tl, y_tn, y_s, y_ss, List.getElem?_cons_zero, List.getElem?_cons_succ, List.set_cons_zero, List.set_cons_succ, List.length_cons, List.length_nil, true_and, and_true]
  refine ⟨by decide, ⟨by decide, by decide⟩, ?_⟩
  generalize hg : hn g1 _ = gB
  obtain ⟨c1, c2, c3⟩ := hn_f b2 hg
  clear hg
  rw [q_L_law_12 ⟨by decide, by decide⟩, c2, y_is]
  refine ⟨trivial, n_model c2 c1 (fun g2 d1 d2 d3 => ?_)⟩
  simp (disch := omega) only [q_L_law_15, q_L_law_16, q_L_law_17, Option.toList_none, List.nil_append, y_is, y_gf, y_pf, y_f0, y_f1, y_f3, y_nI, y_nK, y_nZ, y_nL, y_nR, y_k1i, y_k1r, y_k1l, y_k1n, y_tl, y_tn, y_s, y_ss, List.getElem?_cons_zero, List.getElem?_cons_succ, List.set_cons_zero, List.set_cons_succ, List.length_cons, List.length_nil, true_and, and_true]
  refine l_loop (sc := xs) hL (fun _ => rfl) L 0 g2 S0 (by omega) (by omega) ⟨?_, d1, sv0, ?_⟩
  · exact (show CR (g2.1, g1.2) S0 from b1).frm (lo := 73) (hi := 86) ⟨rfl, fun j hj => (d3 _ (by omega)).trans (c3 _ (by omega))⟩ (by omega) (by omega)
  · rw [d3 _ (by omega), c3 _ (by omega), b3 _ (by omega), a3 _ (by omega)]
    exact z2
