/-! ===== the reference: products, divisors, fractions ===== -/
/-- a digit set anew -/
def sd (T p t : Nat) : Nat := T % BB ^ p + BB ^ p * (t + BB * (T / BB ^ (p + 1)))
theorem bb_split (T p : Nat) : T = T % BB ^ p + BB ^ p * (T / BB ^ p % BB + BB * (T / BB ^ (p + 1))) := by
  rw [← bb_dd, Nat.add_comm (T / BB ^ p % BB), Nat.div_add_mod, Nat.add_comm]
  exact (Nat.div_add_mod _ _).symm
theorem sd_eq (T p t : Nat) : sd T p t + (T / BB ^ p % BB) * BB ^ p = T + t * BB ^ p := by
  have h := bb_split T p
  unfold sd
  generalize T % BB ^ p = a at *
  generalize T / BB ^ p % BB = d at *
  generalize T / BB ^ (p + 1) = e at *
  generalize BB ^ p = P at *
  rw [h, Nat.mul_add, Nat.mul_add, Nat.mul_comm d P, Nat.mul_comm t P]
  omega
theorem sd_mod (T p t : Nat) : sd T p t % BB ^ p = T % BB ^ p := by
  unfold sd
  rw [Nat.add_mul_mod_self_left, Nat.mod_mod]
theorem sd_div (T p t : Nat) : sd T p t / BB ^ p = t + BB * (T / BB ^ (p + 1)) := by
  unfold sd
  rw [Nat.add_mul_div_left _ _ (bb_pos p), Nat.div_eq_of_lt (Nat.mod_lt _ (bb_pos p)), Nat.zero_add]
theorem sd_up {T p t : Nat} (ht : t < BB) : ∀ e, p < e → sd T p t / BB ^ e = T / BB ^ e := by
  intro e he
  have h1 : sd T p t / BB ^ (p + 1) = T / BB ^ (p + 1) := by
    rw [← bb_dd, sd_div, Nat.add_mul_div_left _ _ (by decide), Nat.div_eq_of_lt ht, Nat.zero_add]
  obtain ⟨d, rfl⟩ : ∃ d, e = p + 1 + d := ⟨e - (p + 1), by omega⟩
  rw [Nat.pow_add, ← Nat.div_div_eq_div_mul, ← Nat.div_div_eq_div_mul, h1]
theorem mod_dig {T S p q : Nat} (h : T % BB ^ p = S % BB ^ p) (hq : q < p) : T / BB ^ q % BB = S / BB ^ q % BB := by
  apply bb_dig
  have e : ∀ X, X % BB ^ (q + 1) = X % BB ^ p % BB ^ (q + 1) := fun X => (Nat.mod_mod_of_dvd X (Nat.pow_dvd_pow BB hq)).symm
  rw [e T, e S, h]
theorem sd_dig {T p t q : Nat} (ht : t < BB) : sd T p t / BB ^ q % BB = if q = p then t else T / BB ^ q % BB := by
  rcases Nat.lt_trichotomy q p with h | h | h
  · rw [if_neg (by omega)]; exact mod_dig (sd_mod T p t) h
  · subst h
    rw [if_pos rfl, sd_div, Nat.add_mul_mod_self_left, Nat.mod_eq_of_lt ht]
  · rw [if_neg (by omega), sd_up ht q h]
def eS (s : Nat) (f : Nat → Int64) (z : Int32) : mE := fun t => if t = s then some (f, z) else none
theorem eS_n {s t : Nat} {f : Nat → Int64} {z : Int32} (h : t ≠ s) : eS s f z t = none := by unfold eS; rw [if_neg h]
/-- a slot is laid open -/
theorem ms_open {g' : mzG} {E : mE} {F F' : Nat → Int64} {Z : Nat → Int32} {V : Nat → Nat} {s : Nat} {f' : Nat → Int64} (hE : ∀ t, t ≠ s → E t = none) (h : ∀ t, t < 11 → slotE F (Z t) t (V t) (E t)) (hr : mr g' F' Z) (ho : ∀ j, j < 64 * s ∨ 64 * s + 64 ≤ j → F' j = F j) (hf : ∀ i, i < 64 → F' (64 * s + i) = f' i) : ms g' (eS s f' (Z s)) V := by
  refine ⟨F', Z, hr, fun t ht => ?_⟩
  by_cases e : t = s
  · subst e
    unfold eS
    rw [if_pos rfl]
    exact ⟨fun q => by simp at q, fun q hq => by rw [← Option.some.inj hq]; exact ⟨rfl, hf⟩⟩
  · rw [eS_n e]
    have := slotE_keep (h t ht) (F' := F') (fun i hi => ho _ (by omega))
    rw [hE t e] at this
    exact this
section MNUM3
variable {b : mzB} {Q : mzQ} {x : Nat → Int32} {r : Int64}
theorem s_maddOne {g : mzG} {E : mE} {V : Nat → Nat} (hM : g.2 73 = ob 9 [.ref 74, .ref 75, .ref 76, .ref 77, .ref 78, .ref 79, .int (x 0), .int (x 1), .int (x 2), .ref 80, .int (x 3), .ref 81, .int (x 4), .ref 82, .long (r), .ref 83, .ref 84, .int (x 5), .int (x 6), .int (x 7), .int (x 8), .int (x 9), .ref 85, .int (x 10)]) (hV : ms g E V) (hE : E 9 = none) (h2 : V 9 % 2 = 0) (hQ : ∀ g', g'.2 73 = ob 9 [.ref 74, .ref 75, .ref 76, .ref 77, .ref 78, .ref 79, .int (x 0), .int (x 1), .int (x 2), .ref 80, .int (x 3), .ref 81, .int (x 4), .ref 82, .long (r), .ref 83, .ref 84, .int (x 5), .int (x 6), .int (x 7), .int (x 8), .int (x 9), .ref 85, .int (x 10)] → ms g' E (va_up V 9 (V 9 + 1)) → fr g g' 78 80 → Q none g') : wp 147 b 0 [.ref 73] [] g Q := by
  have hV0 := hV
  obtain ⟨F, Z, hr, hsl⟩ := hV
  obtain ⟨k, hk, hk64, hd, hN, hm⟩ := (hsl 9 (by decide)).1 hE
  generalize hNN : V 9 = N at *
  simp (disch := omega) only [q_X11_addOne_0, q_X11_addOne_1, q_X11_addOne_4, q_X11_addOne_6, q_X11_addOne_7, hM, hr.2, hk, y_is, y_gf, y_pf, y_f0, y_f1, y_f3, y_nI, y_nK, y_nZ, y_nL, y_nR, y_k1i, y_k1r, y_k1l, y_k1n, y_tl, y_tn, y_s, y_ss, List.getElem?_cons_zero, List.getElem?_cons_succ, List.set_cons_zero, List.set_cons_succ, List.length_cons, List.length_nil, true_and, and_true, y_lIn, y_lKn, y_lZn, y_lLn, y_wIn, y_wZn, y_wLn, lit, le_n, lt_n, eq_n]
  by_cases c : k = 0
  · subst c
    have hN0 : N = 0 := by simpa using hN
    subst hN0
    rw [bnt rfl]
    simp (disch := omega) only [q_X11_addOne_10, q_X11_addOne_11, q_X11_addOne_13, q_X11_addOne_14, hM, y_is, y_gf, y_pf, y_f0, y_f1, y_f3, y_nI, y_nK, y_nZ, y_nL, y_nR, y_k1i, y_k1r, y_k1l, y_k1n, y_tl, y_tn, y_s, y_ss, List.getElem?_cons_zero, List.getElem?_cons_succ, List.set_cons_zero, List.set_cons_succ, List.length_cons, List.length_nil, true_and, and_true, lit, litL]
    refine s_mset hM hV0 (by decide) hE (by decide) (fun g1 hM1 hV1 hf1 => ?_)
    simp only [q_X11_addOne_17, q_X11_addOne_32, y_is, y_gf, y_pf, y_f0, y_f1, y_f3, y_nI, y_nK, y_nZ, y_nL, y_nR, y_k1i, y_k1r, y_k1l, y_k1n, y_tl, y_tn, y_s, y_ss, List.getElem?_cons_zero, List.getElem?_cons_succ, List.set_cons_zero, List.set_cons_succ, List.length_cons, List.length_nil, true_and, and_true]
    exact hQ g1 hM1 hV1 hf1
  · rw [bnf c]
    have d0 : F 576 = lN (N / BB ^ 0 % BB) := hd 0 (by omega)
    rw [Nat.pow_zero, Nat.div_one] at d0
    have e2 : N % BB % 2 = N % 2 := Nat.mod_mod_of_dvd N (by decide)
    have hb : N % BB < 1073741824 := Nat.mod_lt N (show 0 < BB by decide)
    have hB : BB = 1073741824 := rfl
    have hq : (N + 1) / BB = N / BB := by
      have h1 := Nat.div_add_mod N BB
      rw [← h1, Nat.add_assoc, Nat.mul_add_div (by decide), Nat.div_eq_of_lt (show N % BB + 1 < BB by omega), Nat.add_zero, Nat.mul_add_div (by decide), Nat.div_eq_of_lt (show N % BB < BB by omega), Nat.add_zero]
    have hup : ∀ i, 0 < i → (N + 1) / BB ^ i = N / BB ^ i := fun i hi => by
      obtain ⟨j, rfl⟩ : ∃ j, i = j + 1 := ⟨i - 1, by omega⟩
      rw [bb_s, Nat.mul_comm, ← Nat.div_div_eq_div_mul, ← Nat.div_div_eq_div_mul, hq]
    have h0 : (N + 1) % BB = N % BB + 1 := by
      have h1 := Nat.div_add_mod N BB
      rw [← h1, Nat.add_assoc, Nat.mul_add_mod, Nat.mod_eq_of_lt (show N % BB + 1 < BB by omega), Nat.mul_add_mod, Nat.mod_mod]
    simp (disch := omega) only [q_X11_addOne_20, q_X11_addOne_21, q_X11_addOne_24, q_X11_addOne_27, q_X11_addOne_28, q_X11_addOne_29, q_X11_addOne_30, q_X11_addOne_31, q_X11_addOne_32, hM, hr.1, d0, y_is, y_gf, y_pf, y_f0, y_f1, y_f3, y_nI, y_nK, y_nZ, y_nL, y_nR, y_k1i, y_k1r, y_k1l, y_k1n, y_tl, y_tn, y_s, y_ss, List.getElem?_cons_zero, List.getElem?_cons_succ, List.set_cons_zero, List.set_cons_succ, List.length_cons, List.length_nil, true_and, and_true, y_lIn, y_lKn, y_lZn, y_lLn, y_wIn, y_wZn, y_wLn, lit, le_n, lt_n, eq_n, lit, litL, l_add]
    refine hQ _ (by rw [y_ne (by decide)]; exact hM) (ms_mk hE hsl ⟨y_s, by rw [y_ne (by decide)]; exact hr.2⟩ (fun j hj => uL_n (by omega)) (fun _ _ => rfl) ⟨k, hk, hk64, fun i hi => ?_, ?_, ?_⟩) (fr.rf.hs (by omega) (by omega))
    · by_cases q : i = 0
      · subst q
        rw [show 64 * 9 + 0 = 576 from rfl, uL_s, Nat.pow_zero, Nat.div_one, h0]
      · rw [uL_n (by omega), hup i (by omega)]; exact hd i hi
    · have : (N + 1) / BB ^ k = 0 := by rw [hup k (by omega)]; exact Nat.div_eq_of_lt hN
      exact (Nat.div_eq_zero_iff.mp this).resolve_left (by have := bb_pos k; omega)
    · rcases hm with e | e
      · exact Or.inl e
      · exact Or.inr (by omega)
theorem s_mproduct {g : mzG} {E : mE} {V : Nat → Nat} {s a c : Nat} (hM : g.2 73 = ob 9 [.ref 74, .ref 75, .ref 76, .ref 77, .ref 78, .ref 79, .int (x 0), .int (x 1), .int (x 2), .ref 80, .int (x 3), .ref 81, .int (x 4), .ref 82, .long (r), .ref 83, .ref 84, .int (x 5), .int (x 6), .int (x 7), .int (x 8), .int (x 9), .ref 85, .int (x 10)]) (hV : ms g E V) (hs11 : s < 11) (hE : E s = none) (ha11 : a < 11) (hEa : E a = none) (hc11 : c < 11) (hEc : E c = none) (hsa : s ≠ a) (hsc : s ≠ c) (hA : V a < BB ^ 31) (hC : V c < BB ^ 31) (hQ : ∀ g', g'.2 73 = ob 9 [.ref 74, .ref 75, .ref 76, .ref 77, .ref 78, .ref 79, .int (x 0), .int (x 1), .int (x 2), .ref 80, .int (x 3), .ref 81, .int (x 4), .ref 82, .long (r), .ref 83, .ref 84, .int (x 5), .int (x 6), .int (x 7), .int (x 8), .int (x 9), .ref 85, .int (x 10)] → ms g' E (va_up V s (V a * V c)) → fr g g' 78 80 → Q none g') : wp 139 b 0 [.ref 73, .int (nI s), .int (nI a), .int (nI c), .null, .null, .null, .null, .null, .null, .null, .null] [] g Q := by
  obtain ⟨F, Z, hr, hsl⟩ := hV
  obtain ⟨k, hk, hk64, hd, hN, hm⟩ := (hsl a ha11).1 hEa
  obtain ⟨k', hk', hk64', hd', hN', hm'⟩ := (hsl c hc11).1 hEc
  generalize hNN : V a = A at *
  generalize hMM : V c = B at *
  have l1 : k ≤ 31 := slot_b (F := F) (s := 0) hm hA
  have l2 : k' ≤ 31 := slot_b (F := F) (s := 0) hm' hC
  have hBB : BB = 1073741824 := rfl
  have fin : ∀ (g' : mzG) (F' : Nat → Int64) (x6 x7 x8 x9 x10 x11 : Value), g'.2 73 = ob 9 [.ref 74, .ref 75, .ref 76, .ref 77, .ref 78, .ref 79, .int (x 0), .int (x 1), .int (x 2), .ref 80, .int (x 3), .ref 81, .int (x 4), .ref 82, .long (r), .ref 83, .ref 84, .int (x 5), .int (x 6), .int (x 7), .int (x 8), .int (x 9), .ref 85, .int (x 10)] → mr g' F' Z → (∀ j, j < 64 * s ∨ 64 * s + 64 ≤ j → F' j = F j) → dgs F' s (k + k') (A * B) → fr g g' 78 80 → wp 139 b 179 [.ref 73, .int (nI s), .int (nI a), .int (nI c), .int (nI (k + k')), .int (nI k), x6, x7, x8, x9, x10, x11] [] g' Q := by
    intro g' F' x6 x7 x8 x9 x10 x11 hM' hr' ho hdd hf
    simp (disch := omega) only [q_X11_product_179, q_X11_product_180, q_X11_product_183, q_X11_product_184, q_X11_product_186, q_X11_product_187, q_X11_product_188, q_X11_product_189, hM', hr'.2, y_is, y_gf, y_pf, y_f0, y_f1, y_f3, y_nI, y_nK, y_nZ, y_nL, y_nR, y_k1i, y_k1r, y_k1l, y_k1n, y_tl, y_tn, y_s, y_ss, List.getElem?_cons_zero, List.getElem?_cons_succ, List.set_cons_zero, List.set_cons_succ, List.length_cons, List.length_nil, true_and, and_true, y_lIn, y_lKn, y_lZn, y_lLn, y_wIn, y_wZn, y_wLn, lit, le_n, lt_n, eq_n, y_ne]
    refine s_mtrim (N := A * B) g hs11 Z (fun g3 Z3 r1 r2 r3 r4 r5 => ?_) (k + k') _ (upd Z s (nI (k + k'))) (by rw [y_ne (by decide)]; exact hM') ⟨by rw [y_ne (by decide)]; exact hr'.1, y_s⟩ (fun q hq => u_n hq) u_s (by omega) hdd ?_ (hf.hs (by omega) (by omega))
    · simp only [q_X11_product_192, y_is, y_gf, y_pf, y_f0, y_f1, y_f3, y_nI, y_nK, y_nZ, y_nL, y_nR, y_k1i, y_k1r, y_k1l, y_k1n, y_tl, y_tn, y_s, y_ss, List.getElem?_cons_zero, List.getElem?_cons_succ, List.set_cons_zero, List.set_cons_succ, List.length_cons, List.length_nil, true_and, and_true]
      exact hQ g3 r1 (ms_mk hE hsl r2 ho r3 r4) r5
    · rw [Nat.pow_add]
      exact Nat.mul_lt_mul'' hN hN'
  have inner : ∀ (i : Nat) (x10 x11 : Value), i < k → (∀ (g2 : mzG) (F2 : Nat → Int64) (x6 x7 x8 x9 x10 x11 : Value), g2.2 73 = ob 9 [.ref 74, .ref 75, .ref 76, .ref 77, .ref 78, .ref 79, .int (x 0), .int (x 1), .int (x 2), .ref 80, .int (x 3), .ref 81, .int (x 4), .ref 82, .long (r), .ref 83, .ref 84, .int (x 5), .int (x 6), .int (x 7), .int (x 8), .int (x 9), .ref 85, .int (x 10)] → mr g2 F2 Z → (∀ j, j < 64 * s ∨ 64 * s + 64 ≤ j → F2 j = F j) → dgs F2 s (k + k') ((A % BB ^ (i + 1)) * B) → fr g g2 78 80 → wp 139 b 47 [.ref 73, .int (nI s), .int (nI a), .int (nI c), .int (nI (k + k')), .int (nI (i + 1)), x6, x7, x8, x9, x10, x11] [] g2 Q) → ∀ (d j : Nat) (g' : mzG) (F' : Nat → Int64) (T C : Nat) (x9 x10 x11 : Value), j + d = k' → g'.2 73 = ob 9 [.ref 74, .ref 75, .ref 76, .ref 77, .ref 78, .ref 79, .int (x 0), .int (x 1), .int (x 2), .ref 80, .int (x 3), .ref 81, .int (x 4), .ref 82, .long (r), .ref 83, .ref 84, .int (x 5), .int (x 6), .int (x 7), .int (x 8), .int (x 9), .ref 85, .int (x 10)] → mr g' F' Z → (∀ j, j < 64 * s ∨ 64 * s + 64 ≤ j → F' j = F j) → dgs F' s (k + k') T → T < BB ^ (i + k') → C < BB → T + C * BB ^ (i + j) = (A % BB ^ i) * B + (A / BB ^ i % BB) * BB ^ i * (B % BB ^ j) → fr g g' 78 80 → wp 139 b 64 [.ref 73, .int (nI s), .int (nI a), .int (nI c), .int (nI (k + k')), .int (nI i), .long (lN C), .null, .int (nI j), x9, x10, x11] [] g' Q := by
    intro i _ _ hik hnext d
    induction d with
    | zero =>
      intro j g' F' T C x9 x10 x11 hj hM' hr' ho hdd hT hCb hinv hf
      have hj : j = k' := by omega
      subst hj
      rw [q_X11_product_64]
      simp (disch := omega) only [q_X11_product_66, q_X11_product_67, q_X11_product_70, q_X11_product_71, q_X11_product_72, q_X11_product_152, q_X11_product_153, q_X11_product_156, q_X11_product_158, q_X11_product_159, q_X11_product_160, q_X11_product_162, q_X11_product_163, q_X11_product_164, q_X11_product_167, q_X11_product_168, q_X11_product_169, q_X11_product_170, q_X11_product_172, q_X11_product_173, q_X11_product_176, hM', hr'.1, hr'.2, hk', y_is, y_gf, y_pf, y_f0, y_f1, y_f3, y_nI, y_nK, y_nZ, y_nL, y_nR, y_k1i, y_k1r, y_k1l, y_k1n, y_tl, y_tn, y_s, y_ss, List.getElem?_cons_zero, List.getElem?_cons_succ, List.set_cons_zero, List.set_cons_succ, List.length_cons, List.length_nil, true_and, and_true, y_lIn, y_lKn, y_lZn, y_lLn, y_wIn, y_wZn, y_wLn, lit, le_n, lt_n, eq_n, lit, litL, le_n, lt_n, eq_n, nI_add, m_neg, pk_sub, pk_mul, i_l, l_i, l_add, l_mul, l_sub, lc_le, lc_ge, lc_lt, lc_gt, lc_eq, l_rem2, l_rem3, i_rem2, i_rem3]
      refine br1 (by omega) (hnext _ _ _ _ _ _ _ _ (by rw [y_ne (by decide)]; exact hM') ⟨y_s, by rw [y_ne (by decide)]; exact hr'.2⟩ (fun q hq => by rw [uL_n (by omega)]; exact ho q hq) (fun q hq => ?_) (hf.hs (by omega) (by omega)))
      have ev : sd T (i + j) C = (A % BB ^ (i + 1)) * B := by
        have h1 := sd_eq T (i + j) C
        rw [Nat.div_eq_of_lt hT, Nat.zero_mod, Nat.zero_mul, Nat.add_zero, hinv, Nat.mod_eq_of_lt hN'] at h1
        rw [h1, bb_succ, Nat.add_mul, Nat.mul_comm (BB ^ i)]
      rw [← ev, sd_dig hCb]
      by_cases e : q = i + j
      · subst e; rw [if_pos rfl, show 64 * s + (i + j) = 64 * s + i + j by omega, uL_s]
      · rw [if_neg e, uL_n (by omega)]; exact hdd q hq
    | succ d ih =>
      intro j g' F' T C x9 x10 x11 hj hM' hr' ho hdd hT hCb hinv hf
      have e1 : F' (64 * a + i) = lN (A / BB ^ i % BB) := by rw [ho _ (by omega)]; exact hd i (by omega)
      have e2 : F' (64 * c + j) = lN (B / BB ^ j % BB) := by rw [ho _ (by omega)]; exact hd' j (by omega)
      have e3 := hdd (i + j) (by omega)
      rw [← Nat.add_assoc] at e3
      have b1 := bb_lt A i
      have b2 := bb_lt B j
      have b3 := bb_lt T (i + j)
      have hs := bb_succ B j
      have hsd := sd_eq T (i + j)
      have hpp : BB ^ (i + j) = BB ^ i * BB ^ j := Nat.pow_add _ _ _
      have hps : BB ^ (i + (j + 1)) = BB ^ (i + j) * BB := by rw [show i + (j + 1) = i + j + 1 by omega]; exact bb_s _
      generalize hAi : A / BB ^ i % BB = Ai at *
      generalize hBj : B / BB ^ j % BB = Bj at *
      generalize hTt : T / BB ^ (i + j) % BB = t at *
      have hprod : Ai * Bj ≤ 1073741823 * 1073741823 := Nat.mul_le_mul (by omega) (by omega)
      have hx : Ai * Bj + t + C < 1073741824 * 1073741824 := by omega
      rw [q_X11_product_64]
      simp (disch := omega) only [q_X11_product_66, q_X11_product_67, q_X11_product_70, q_X11_product_71, q_X11_product_72, q_X11_product_75, q_X11_product_77, q_X11_product_78, q_X11_product_79, q_X11_product_81, q_X11_product_82, q_X11_product_84, q_X11_product_85, q_X11_product_87, q_X11_product_88, q_X11_product_91, q_X11_product_93, q_X11_product_94, q_X11_product_95, q_X11_product_97, q_X11_product_98, q_X11_product_99, q_X11_product_100, q_X11_product_103, q_X11_product_105, q_X11_product_106, q_X11_product_107, q_X11_product_109, q_X11_product_110, q_X11_product_111, q_X11_product_112, q_X11_product_113, q_X11_product_116, q_X11_product_118, q_X11_product_119, q_X11_product_120, q_X11_product_122, q_X11_product_123, q_X11_product_125, q_X11_product_126, q_X11_product_129, q_X11_product_131, q_X11_product_133, q_X11_product_136, q_X11_product_137, q_X11_product_138, q_X11_product_140, q_X11_product_143, q_X11_product_144, q_X11_product_146, q_X11_product_149, hM', hr'.1, hr'.2, hk', e1, e2, e3, y_is, y_gf, y_pf, y_f0, y_f1, y_f3, y_nI, y_nK, y_nZ, y_nL, y_nR, y_k1i, y_k1r, y_k1l, y_k1n, y_tl, y_tn, y_s, y_ss, List.getElem?_cons_zero, List.getElem?_cons_succ, List.set_cons_zero, List.set_cons_succ, List.length_cons, List.length_nil, true_and, and_true, y_lIn, y_lKn, y_lZn, y_lLn, y_wIn, y_wZn, y_wLn, lit, le_n, lt_n, eq_n, lit, litL, pk_mul, nI_add, l_mul, l_add, l_eq, l_divB, l_remB, l_remC, y_ne]
      have hx2 : (Ai * Bj + t + C) / BB < BB := by rw [Nat.div_lt_iff_lt_mul (by decide)]; exact hx
      have hx1 : (Ai * Bj + t + C) % BB < BB := Nat.mod_lt _ (by decide)
      have hdm := Nat.div_add_mod (Ai * Bj + t + C) BB
      generalize (Ai * Bj + t + C) / BB = c' at *
      generalize hMod : (Ai * Bj + t + C) % BB = t' at *
      refine br0 (by omega) ⟨by omega, by omega, ih (j + 1) _ _ (sd T (i + j) t') c' _ _ _ (by omega) (by rw [y_ne (by decide)]; exact hM') ⟨y_s, by rw [y_ne (by decide)]; exact hr'.2⟩ (fun q hq => by rw [uL_n (by omega)]; exact ho q hq) (fun q hq => ?_) ?_ hx2 ?_ (hf.hs (by omega) (by omega))⟩
      · rw [sd_dig hx1]
        by_cases e : q = i + j
        · subst e; rw [if_pos rfl, ← Nat.add_assoc, uL_s]
        · rw [if_neg e, uL_n (by omega)]; exact hdd q hq
      · have : sd T (i + j) t' / BB ^ (i + k') = 0 := by rw [sd_up hx1 _ (by omega)]; exact Nat.div_eq_of_lt hT
        exact (Nat.div_eq_zero_iff.mp this).resolve_left (by have := bb_pos (i + k'); omega)
      · have h1 := hsd t'
        rw [hs, hps]
        rw [Nat.mul_add]
        rw [show Ai * BB ^ i * (BB ^ j * Bj) = Ai * Bj * BB ^ (i + j) by rw [hpp]; ac_rfl]
        have h2 : (BB * c' + t') * BB ^ (i + j) = (Ai * Bj + t + C) * BB ^ (i + j) := by rw [hdm]
        rw [Nat.add_mul, Nat.add_mul, Nat.add_mul, show BB * c' * BB ^ (i + j) = c' * (BB ^ (i + j) * BB) by ac_rfl] at h2
        omega
  have outer : ∀ (d i : Nat) (g' : mzG) (F' : Nat → Int64) (x6 x7 x8 x9 x10 x11 : Value), i + d = k → g'.2 73 = ob 9 [.ref 74, .ref 75, .ref 76, .ref 77, .ref 78, .ref 79, .int (x 0), .int (x 1), .int (x 2), .ref 80, .int (x 3), .ref 81, .int (x 4), .ref 82, .long (r), .ref 83, .ref 84, .int (x 5), .int (x 6), .int (x 7), .int (x 8), .int (x 9), .ref 85, .int (x 10)] → mr g' F' Z → (∀ j, j < 64 * s ∨ 64 * s + 64 ≤ j → F' j = F j) → dgs F' s (k + k') ((A % BB ^ i) * B) → fr g g' 78 80 → wp 139 b 47 [.ref 73, .int (nI s), .int (nI a), .int (nI c), .int (nI (k + k')), .int (nI i), x6, x7, x8, x9, x10, x11] [] g' Q := by
    intro d
    induction d with
    | zero =>
      intro i g' F' x6 x7 x8 x9 x10 x11 hi hM' hr' ho hdd hf
      have hi : i = k := by omega
      subst hi
      rw [Nat.mod_eq_of_lt hN] at hdd
      rw [q_X11_product_47]
      simp (disch := omega) only [q_X11_product_49, q_X11_product_50, q_X11_product_53, q_X11_product_54, q_X11_product_55, hM', hr'.2, hk, y_is, y_gf, y_pf, y_f0, y_f1, y_f3, y_nI, y_nK, y_nZ, y_nL, y_nR, y_k1i, y_k1r, y_k1l, y_k1n, y_tl, y_tn, y_s, y_ss, List.getElem?_cons_zero, List.getElem?_cons_succ, List.set_cons_zero, List.set_cons_succ, List.length_cons, List.length_nil, true_and, and_true, y_lIn, y_lKn, y_lZn, y_lLn, y_wIn, y_wZn, y_wLn, lit, le_n, lt_n, eq_n, lit, litL, le_n, lt_n, eq_n, nI_add, m_neg, pk_sub, pk_mul, i_l, l_i, l_add, l_mul, l_sub, lc_le, lc_ge, lc_lt, lc_gt, lc_eq, l_rem2, l_rem3, i_rem2, i_rem3]
      exact br1 (by omega) (fin g' F' _ _ _ _ _ _ hM' hr' ho hdd hf)
    | succ d ih =>
      intro i g' F' x6 x7 x8 x9 x10 x11 hi hM' hr' ho hdd hf
      rw [q_X11_product_47]
      simp (disch := omega) only [q_X11_product_49, q_X11_product_50, q_X11_product_53, q_X11_product_54, q_X11_product_55, q_X11_product_58, q_X11_product_59, q_X11_product_61, q_X11_product_62, hM', hr'.2, hk, y_is, y_gf, y_pf, y_f0, y_f1, y_f3, y_nI, y_nK, y_nZ, y_nL, y_nR, y_k1i, y_k1r, y_k1l, y_k1n, y_tl, y_tn, y_s, y_ss, List.getElem?_cons_zero, List.getElem?_cons_succ, List.set_cons_zero, List.set_cons_succ, List.length_cons, List.length_nil, true_and, and_true, y_lIn, y_lKn, y_lZn, y_lLn, y_wIn, y_wZn, y_wLn, lit, le_n, lt_n, eq_n, lit, litL, le_n, lt_n, eq_n, nI_add, m_neg, pk_sub, pk_mul, i_l, l_i, l_add, l_mul, l_sub, lc_le, lc_ge, lc_lt, lc_gt, lc_eq, l_rem2, l_rem3, i_rem2, i_rem3]
      refine br0 (by omega) (inner i .null .null (by omega) (fun g2 F2 x6 x7 x8 x9 x10 x11 q1 q2 q3 q4 q5 => ih (i + 1) g2 F2 _ _ _ _ _ _ (by omega) q1 q2 q3 q4 q5) k' 0 g' F' _ 0 _ _ _ (by omega) hM' hr' ho hdd ?_ (by decide) ?_ hf)
      · rw [Nat.pow_add]
        exact Nat.mul_lt_mul'' (Nat.mod_lt _ (bb_pos i)) hN'
      · simp [Nat.mod_one]
  have zero : ∀ (d i : Nat) (g' : mzG) (F' : Nat → Int64) (x6 x7 x8 x9 x10 x11 : Value), i + d = k + k' → g'.2 73 = ob 9 [.ref 74, .ref 75, .ref 76, .ref 77, .ref 78, .ref 79, .int (x 0), .int (x 1), .int (x 2), .ref 80, .int (x 3), .ref 81, .int (x 4), .ref 82, .long (r), .ref 83, .ref 84, .int (x 5), .int (x 6), .int (x 7), .int (x 8), .int (x 9), .ref 85, .int (x 10)] → mr g' F' Z → (∀ j, j < 64 * s ∨ 64 * s + 64 ≤ j → F' j = F j) → dgs F' s i 0 → fr g g' 78 80 → wp 139 b 18 [.ref 73, .int (nI s), .int (nI a), .int (nI c), .int (nI (k + k')), .int (nI i), x6, x7, x8, x9, x10, x11] [] g' Q := by
    intro d
    induction d with
    | zero =>
      intro i g' F' x6 x7 x8 x9 x10 x11 hi hM' hr' ho hdd hf
      have hi : i = k + k' := by omega
      subst hi
      rw [q_X11_product_18]
      simp (disch := omega) only [q_X11_product_20, q_X11_product_22, q_X11_product_44, q_X11_product_45, y_is, y_gf, y_pf, y_f0, y_f1, y_f3, y_nI, y_nK, y_nZ, y_nL, y_nR, y_k1i, y_k1r, y_k1l, y_k1n, y_tl, y_tn, y_s, y_ss, List.getElem?_cons_zero, List.getElem?_cons_succ, List.set_cons_zero, List.set_cons_succ, List.length_cons, List.length_nil, true_and, and_true, y_lIn, y_lKn, y_lZn, y_lLn, y_wIn, y_wZn, y_wLn, lit, le_n, lt_n, eq_n, lit, litL, le_n, lt_n, eq_n, nI_add, m_neg, pk_sub, pk_mul, i_l, l_i, l_add, l_mul, l_sub, lc_le, lc_ge, lc_lt, lc_gt, lc_eq, l_rem2, l_rem3, i_rem2, i_rem3]
      exact br1 (by omega) (outer k 0 g' F' _ _ _ _ _ _ (by omega) hM' hr' ho (by rw [Nat.pow_zero, Nat.mod_one, Nat.zero_mul]; exact hdd) hf)
    | succ d ih =>
      intro i g' F' x6 x7 x8 x9 x10 x11 hi hM' hr' ho hdd hf
      rw [q_X11_product_18]
      simp (disch := omega) only [q_X11_product_20, q_X11_product_22, q_X11_product_25, q_X11_product_26, q_X11_product_29, q_X11_product_31, q_X11_product_32, q_X11_product_33, q_X11_product_35, q_X11_product_36, q_X11_product_37, q_X11_product_38, q_X11_product_41, hM', hr'.1, y_is, y_gf, y_pf, y_f0, y_f1, y_f3, y_nI, y_nK, y_nZ, y_nL, y_nR, y_k1i, y_k1r, y_k1l, y_k1n, y_tl, y_tn, y_s, y_ss, List.getElem?_cons_zero, List.getElem?_cons_succ, List.set_cons_zero, List.set_cons_succ, List.length_cons, List.length_nil, true_and, and_true, y_lIn, y_lKn, y_lZn, y_lLn, y_wIn, y_wZn, y_wLn, lit, le_n, lt_n, eq_n, lit, litL, le_n, lt_n, eq_n, nI_add, m_neg, pk_sub, pk_mul, i_l, l_i, l_add, l_mul, l_sub, lc_le, lc_ge, lc_lt, lc_gt, lc_eq, l_rem2, l_rem3, i_rem2, i_rem3]
      refine br0 (by omega) (ih (i + 1) _ _ _ _ _ _ _ _ (by omega) (by rw [y_ne (by decide)]; exact hM') ⟨y_s, by rw [y_ne (by decide)]; exact hr'.2⟩ (fun q hq => by rw [uL_n (by omega)]; exact ho q hq) (fun q hq => ?_) (hf.hs (by omega) (by omega)))
      rw [Nat.zero_div, Nat.zero_mod]
      by_cases e : q = i
      · subst e; rw [uL_s]
      · rw [uL_n (by omega)]
        have := hdd q (by omega)
        rw [Nat.zero_div, Nat.zero_mod] at this
        exact this
  simp (disch := omega) only [q_X11_product_0, q_X11_product_1, q_X11_product_4, q_X11_product_5, q_X11_product_6, q_X11_product_7, q_X11_product_10, q_X11_product_11, q_X11_product_12, q_X11_product_13, q_X11_product_15, q_X11_product_16, hM, hr.2, hk, hk', y_is, y_gf, y_pf, y_f0, y_f1, y_f3, y_nI, y_nK, y_nZ, y_nL, y_nR, y_k1i, y_k1r, y_k1l, y_k1n, y_tl, y_tn, y_s, y_ss, List.getElem?_cons_zero, List.getElem?_cons_succ, List.set_cons_zero, List.set_cons_succ, List.length_cons, List.length_nil, true_and, and_true, y_lIn, y_lKn, y_lZn, y_lLn, y_wIn, y_wZn, y_wLn, lit, le_n, lt_n, eq_n, lit, nI_add]
  exact zero (k + k') 0 g F _ _ _ _ _ _ (by omega) hM hr (fun j hj => rfl) (fun i hi => by omega) fr.rf
end MNUM3
