/-! ===== the reference: what was seen ===== -/
/-! soon: both count alike -/
theorem trn_mod {n s t h : Nat} : trn n s t (h % n) = trn n s t h := by
  unfold trn
  rw [Nat.add_mod, Nat.mul_mod, Nat.mod_mod, ← Nat.mul_mod, ← Nat.add_mod]
theorem trn_mods {n s t h : Nat} : trn n (s % n) (t % n) h = trn n s t h := by
  unfold trn
  rw [Nat.add_mod, Nat.mod_mod, Nat.mul_mod, Nat.mod_mod, ← Nat.mul_mod, ← Nat.add_mod]
/-- no unlike hour ahead of h -/
def alh (n post cs cp i j : Nat) : Nat → Bool
  | 0 => true
  | h + 1 => alh n post cs cp i j h && !unl n post cs cp i j h
theorem alh_iff {n post cs cp i j : Nat} : ∀ h, alh n post cs cp i j h = true ↔ ∀ y, y < h → unl n post cs cp i j y = false
  | 0 => by simp [alh]
  | h + 1 => by
    rw [alh, Bool.and_eq_true, alh_iff h]
    constructor
    · rintro ⟨a, c⟩ y hy
      by_cases e : y = h
      · subst e; simpa using c
      · exact a y (by omega)
    · intro a
      exact ⟨fun y hy => a y (by omega), by simpa using a h (by omega)⟩
theorem fud_s {n post cs cp i j : Nat} : ∀ d h, (∀ y, fud n post cs cp i j d h = some y → h ≤ y ∧ y < h + d ∧ unl n post cs cp i j y = true ∧ ∀ z, h ≤ z → z < y → unl n post cs cp i j z = false) ∧ (fud n post cs cp i j d h = none → ∀ z, h ≤ z → z < h + d → unl n post cs cp i j z = false)
  | 0, h => ⟨fun y e => by simp [fud] at e, fun _ z h1 h2 => by omega⟩
  | d + 1, h => by
    have ih := fud_s (n := n) (post := post) (cs := cs) (cp := cp) (i := i) (j := j) d (h + 1)
    rw [fud]
    by_cases c : unl n post cs cp i j h = true
    · rw [if_pos c]
      exact ⟨fun y e => by have := Option.some.inj e; subst this; exact ⟨by omega, by omega, c, fun z h1 h2 => by omega⟩, fun e => by simp at e⟩
    · rw [if_neg c]
      have c' : unl n post cs cp i j h = false := by simpa using c
      refine ⟨fun y e => ?_, fun e z h1 h2 => ?_⟩
      · obtain ⟨a1, a2, a3, a4⟩ := ih.1 y e
        refine ⟨by omega, by omega, a3, fun z h1 h2 => ?_⟩
        by_cases q : z = h
        · rw [q]; exact c'
        · exact a4 z (by omega) h2
      · by_cases q : z = h
        · rw [q]; exact c'
        · exact ih.2 e z (by omega) (by omega)
/-- alive behind the hour h: by the first unlike hour -/
theorem alh_f {n post cs cp i j h : Nat} (hn : 1 ≤ n) : alh n post cs cp i j (h + 1) = (match fud n post cs cp i j n 0 with
    | none => true
    | some y => decide (h < y)) := by
  have hs := fud_s (n := n) (post := post) (cs := cs) (cp := cp) (i := i) (j := j) n 0
  cases e : fud n post cs cp i j n 0 with
  | none =>
    show _ = true
    rw [alh_iff]
    intro y hy
    have h1 := hs.2 e (y % n) (Nat.zero_le _) (by rw [Nat.zero_add]; exact Nat.mod_lt _ (by omega))
    unfold unl at h1 ⊢
    rw [trn_mod, trn_mod] at h1
    exact h1
  | some y =>
    obtain ⟨a1, a2, a3, a4⟩ := hs.1 y e
    show _ = decide (h < y)
    by_cases c : h < y
    · rw [decide_eq_true c, alh_iff]
      exact fun z hz => a4 z (Nat.zero_le _) (by omega)
    · rw [decide_eq_false c]
      cases q : alh n post cs cp i j (h + 1) with
      | false => rfl
      | true =>
        have := (alh_iff _).mp q y (by omega)
        rw [this] at a3
        simp at a3
/-- how many of the first m pairs are alive -/
def cfl (n post cs cp h : Nat) : Nat → Nat
  | 0 => 0
  | m + 1 => cfl n post cs cp h m + (if alh n post cs cp (m / n) (m % n) h then 1 else 0)
theorem cfl_le {n post cs cp h : Nat} : ∀ m, cfl n post cs cp h m ≤ m
  | 0 => Nat.le_refl _
  | m + 1 => by
    have := cfl_le (n := n) (post := post) (cs := cs) (cp := cp) (h := h) m
    rw [cfl]
    split <;> omega
def cinv (C h : Nat) (s : Nat × Nat) : Prop := (s.2 ≤ h → C = s.1) ∧ (h < s.2 → s.1 + 1 ≤ C)
theorem cinv_in {n post cs cp h : Nat} (hn : 1 ≤ n) (p : Nat) (s : Nat × Nat) (hs : cinv (cfl n post cs cp (h + 1) (p * n)) h s) : ∀ k, k ≤ n → cinv (cfl n post cs cp (h + 1) (p * n + k)) h (fhi (fun i j => fud n post cs cp i j n 0) p k s)
  | 0, _ => hs
  | k + 1, hk => by
    have ih := cinv_in hn p s hs k (by omega)
    have hd : (p * n + k) / n = p := by
      rw [Nat.mul_comm, Nat.mul_add_div (by omega), Nat.div_eq_of_lt (by omega), Nat.add_zero]
    have hm : (p * n + k) % n = k := by
      rw [Nat.mul_comm, Nat.mul_add_mod, Nat.mod_eq_of_lt (by omega)]
    rw [show p * n + (k + 1) = p * n + k + 1 by omega, cfl, hd, hm, alh_f hn, fhi]
    generalize fhi (fun i j => fud n post cs cp i j n 0) p k s = u at ih
    generalize cfl n post cs cp (h + 1) (p * n + k) = C at ih
    obtain ⟨i1, i2⟩ := ih
    cases fud n post cs cp p k n 0 with
    | none =>
      unfold fh1
      exact ⟨fun z => by simp; exact i1 z, fun z => by simp; exact i2 z⟩
    | some y =>
      unfold fh1
      simp only
      by_cases c : h < y
      · rw [if_pos (by simpa using c)]
        refine ⟨fun z => ?_, fun z => ?_⟩
        · exfalso
          simp only at z
          split at z <;> omega
        · show u.1 + 1 ≤ C + 1
          by_cases q : u.2 ≤ h
          · rw [i1 q]; omega
          · have := i2 (by omega); omega
      · rw [if_neg (by simpa using c), Nat.add_zero]
        refine ⟨fun z => ?_, fun z => ?_⟩
        · simp only at z
          exact i1 (by split at z <;> omega)
        · simp only at z
          exact i2 (by split at z <;> omega)
theorem cinv_out {n post cs cp h : Nat} (hn : 1 ≤ n) : ∀ p, p ≤ n → cinv (cfl n post cs cp (h + 1) (p * n)) h (fho (fun i j => fud n post cs cp i j n 0) n p)
  | 0, _ => by rw [Nat.zero_mul]; exact ⟨fun _ => rfl, fun z => by simp [fho] at z⟩
  | p + 1, hp => by
    have := cinv_in hn p _ (cinv_out (n := n) (post := post) (cs := cs) (cp := cp) (h := h) hn p (by omega)) n (Nat.le_refl _)
    rw [Nat.add_mul, Nat.one_mul, fho]
    exact this
/-- the captain's own pair is alike -/
theorem alike_pos {n post cs cp : Nat} (hn : 1 ≤ n) : 1 ≤ (fho (fun i j => fud n post cs cp i j n 0) n n).1 := by
  have hno : fud n post cs cp (cs % n) (cp % n) n 0 = none := by
    cases e : fud n post cs cp (cs % n) (cp % n) n 0 with
    | none => rfl
    | some y =>
      have := (fud_s (n := n) (post := post) (cs := cs) (cp := cp) (i := cs % n) (j := cp % n) n 0).1 y e
      have h3 := this.2.2.1
      unfold unl at h3
      rw [trn_mods] at h3
      simp at h3
  have mono_i : ∀ p s k, s.1 ≤ (fhi (fun i j => fud n post cs cp i j n 0) p k s).1 := by
    intro p s k
    induction k with
    | zero => exact Nat.le_refl _
    | succ k ih =>
      rw [fhi]
      unfold fh1
      split
      · show s.1 ≤ _ + 1; omega
      · exact ih
  have hit : ∀ s k, cp % n < k → s.1 + 1 ≤ (fhi (fun i j => fud n post cs cp i j n 0) (cs % n) k s).1 := by
    intro s k
    induction k with
    | zero => intro h; omega
    | succ k ih =>
      intro h
      rw [fhi]
      by_cases e : k = cp % n
      · subst e
        rw [hno]
        show s.1 + 1 ≤ _ + 1
        have := mono_i (cs % n) s (cp % n)
        omega
      · have := ih (by omega)
        unfold fh1
        split
        · show s.1 + 1 ≤ _ + 1; omega
        · exact this
  have out : ∀ p, cs % n < p → 1 ≤ (fho (fun i j => fud n post cs cp i j n 0) n p).1 := by
    intro p
    induction p with
    | zero => intro h; omega
    | succ p ih =>
      intro h
      rw [fho]
      by_cases e : p = cs % n
      · subst e
        have := hit (fho (fun i j => fud n post cs cp i j n 0) n (cs % n)) n (Nat.mod_lt _ (by omega))
        omega
      · have h1 := ih (by omega)
        have h2 := mono_i p (fho (fun i j => fud n post cs cp i j n 0) n p) n
        omega
  exact out n (Nat.mod_lt _ (by omega))
/-- the first hour behind which one is left -/
def srch (n post cs cp : Nat) : Nat → Nat → Option Nat
  | 0, _ => none
  | d + 1, h => if cfl n post cs cp (h + 1) (n * n) = 1 then some h else srch n post cs cp d (h + 1)
theorem srch_soon {n post cs cp : Nat} (hn : 1 ≤ n) (hn9 : n ≤ 9) : srch n post cs cp 100 0 = soonA n post cs cp := by
  have hp := alike_pos (post := post) (cs := cs) (cp := cp) hn
  have hc := fun h => cinv_out (n := n) (post := post) (cs := cs) (cp := cp) (h := h) hn n (Nat.le_refl _)
  have hF : ∀ i j y, (fun i j => fud n post cs cp i j n 0) i j = some y → y < n := fun i j y e => by
    have := fud_lt n 0 y e; omega
  have hle := (fho_le hF n).2
  unfold soonA
  generalize fho (fun i j => fud n post cs cp i j n 0) n n = s at hp hc hle
  have key : ∀ d h, h + d = 100 → (s.1 = 1 → h ≤ s.2) → srch n post cs cp d h = if s.1 = 1 ∧ s.2 < 100 then some s.2 else none := by
    intro d
    induction d with
    | zero =>
      intro h hd hh
      rw [srch, if_neg]
      intro z
      have := hh z.1
      omega
    | succ d ih =>
      intro h hd hh
      rw [srch]
      obtain ⟨c1, c2⟩ := hc h
      by_cases q : s.2 ≤ h
      · have e := c1 q
        by_cases o : s.1 = 1
        · have := hh o
          rw [if_pos (by omega), if_pos ⟨o, by omega⟩]
          rw [show h = s.2 by omega]
        · rw [if_neg (by omega), ih (h + 1) (by omega) (fun z => absurd z o)]
      · have e := c2 (by omega)
        rw [if_neg (by omega), ih (h + 1) (by omega) (fun z => by have := hh z; omega)]
  rw [key 100 0 (by omega) (fun _ => Nat.zero_le _)]
  by_cases o : s.1 = 1
  · rw [if_pos ⟨o, by omega⟩, if_pos o]
  · rw [if_neg (fun z => o z.1), if_neg o]
section MSEEN
variable {b : mzB} {Q : mzQ} {g : mzG} {x : Nat → Int32} {r : Int64} {f : Nat → Int32} {W : Nat → Nat}
theorem s_isSeen {start step : Nat} (hM : g.2 73 = ob 9 [.ref 74, .ref 75, .ref 76, .ref 77, .ref 78, .ref 79, .int (x 0), .int (x 1), .int (x 2), .ref 80, .int (x 3), .ref 81, .int (x 4), .ref 82, .long (r), .ref 83, .ref 84, .int (x 5), .int (x 6), .int (x 7), .int (x 8), .int (x 9), .ref 85, .int (x 10)]) (h74 : g.2 74 = aI 141 f) (hW : nwf f W) (hv : wv W) (hs : start ≤ 9) (ht : step ≤ 9) (hQ : Q (some (.int (if agd (W 0) (hrW W) (poW W) (asW W) start step (W 50) 0 then 1 else 0))) g) : wp 203 b 0 [.ref 73, .int (nI start), .int (nI step), .null, .null, .null] [] g Q := by
  obtain ⟨⟨n1, n9⟩, hpp, ⟨-, -, -, -, h50⟩, hkk, -, -⟩ := id hv
  have e50 := hW 50 (by omega)
  rw [wI_n (by omega)] at e50
  have loop : ∀ (d i : Nat) (acc : Bool) (x5 : Value), i + d = W 50 → (acc && agd (W 0) (hrW W) (poW W) (asW W) start step d i) = agd (W 0) (hrW W) (poW W) (asW W) start step (W 50) 0 → wp 203 b 5 [.ref 73, .int (nI start), .int (nI step), .int (bI acc), .int (nI i), x5] [] g Q := by
    intro d
    induction d with
    | zero =>
      intro i acc x5 hi he
      rw [agd, Bool.and_true] at he
      rw [← he] at hQ
      rw [q_X11_isSeen_5]
      simp (disch := omega) only [q_X11_isSeen_7, q_X11_isSeen_8, q_X11_isSeen_11, q_X11_isSeen_13, q_X11_isSeen_14, q_X11_isSeen_106, q_X11_isSeen_107, hM, h74, e50, y_is, y_gf, y_pf, y_f0, y_f1, y_f3, y_nI, y_nK, y_nZ, y_nL, y_nR, y_k1i, y_k1r, y_k1l, y_k1n, y_tl, y_tn, y_s, y_ss, List.getElem?_cons_zero, List.getElem?_cons_succ, List.set_cons_zero, List.set_cons_succ, List.length_cons, List.length_nil, true_and, and_true, y_lIn, y_lKn, y_lZn, y_lLn, y_wIn, y_wZn, y_wLn, lit, le_n, lt_n, eq_n, lit, litL, le_n, lt_n, eq_n, nI_add, m_neg, pk_sub, pk_mul, i_l, l_i, l_add, l_mul, l_sub, lc_le, lc_ge, lc_lt, lc_gt, lc_eq, l_rem2, l_rem3, i_rem2, i_rem3]
      refine br1 (by omega) ?_
      cases acc with
      | true => exact ⟨by decide, hQ⟩
      | false => exact ⟨by decide, hQ⟩
    | succ d ih =>
      intro i acc x5 hi he
      rw [agd] at he
      obtain ⟨b1, b2, b3, -⟩ := hkk i (by omega)
      have e1 := hW (51 + 3 * i) (by omega)
      have e2 := hW (51 + 3 * i + 1) (by omega)
      have e3 := hW (51 + 3 * i + 2) (by omega)
      rw [wI_n (by omega)] at e1 e2 e3
      have hm : W (51 + 3 * i) * step ≤ 999 * 9 := Nat.mul_le_mul b1 ht
      rw [q_X11_isSeen_5]
      simp (disch := omega) only [q_X11_isSeen_7, q_X11_isSeen_8, q_X11_isSeen_11, q_X11_isSeen_13, q_X11_isSeen_14, q_X11_isSeen_17, q_X11_isSeen_18, q_X11_isSeen_19, q_X11_isSeen_22, q_X11_isSeen_24, q_X11_isSeen_25, q_X11_isSeen_27, q_X11_isSeen_28, q_X11_isSeen_29, q_X11_isSeen_30, q_X11_isSeen_31, q_X11_isSeen_32, q_X11_isSeen_33, q_X11_isSeen_34, hM, h74, e50, e1, y_is, y_gf, y_pf, y_f0, y_f1, y_f3, y_nI, y_nK, y_nZ, y_nL, y_nR, y_k1i, y_k1r, y_k1l, y_k1n, y_tl, y_tn, y_s, y_ss, List.getElem?_cons_zero, List.getElem?_cons_succ, List.set_cons_zero, List.set_cons_succ, List.length_cons, List.length_nil, true_and, and_true, y_lIn, y_lKn, y_lZn, y_lLn, y_wIn, y_wZn, y_wLn, lit, le_n, lt_n, eq_n, lit, le_n, pk_mul, nI_add]
      refine br0 (by omega) (s_watched hM h74 hW ?_)
      have hT := trn_lt (start := start) (step := step) (hour := W (51 + 3 * i)) n1
      simp (disch := omega) only [q_X11_isSeen_37, q_X11_isSeen_38, q_X11_isSeen_39, q_X11_isSeen_42, q_X11_isSeen_44, q_X11_isSeen_45, q_X11_isSeen_47, q_X11_isSeen_48, q_X11_isSeen_49, q_X11_isSeen_50, q_X11_isSeen_51, q_X11_isSeen_52, hM, h74, e2, y_is, y_gf, y_pf, y_f0, y_f1, y_f3, y_nI, y_nK, y_nZ, y_nL, y_nR, y_k1i, y_k1r, y_k1l, y_k1n, y_tl, y_tn, y_s, y_ss, List.getElem?_cons_zero, List.getElem?_cons_succ, List.set_cons_zero, List.set_cons_succ, List.length_cons, List.length_nil, true_and, and_true, y_lIn, y_lKn, y_lZn, y_lLn, y_wIn, y_wZn, y_wLn, lit, le_n, lt_n, eq_n, lit, pk_mul, nI_add, eq_n, i_rem1]
      refine ⟨by omega, ?_⟩
      have hsg : sgb (W 0) (hrW W) (poW W) (asW W) start step i = ((trn (W 0) start step (W (51 + 3 * i)) == W (51 + 3 * i + 1)) == (W (51 + 3 * i + 2) == 1)) := rfl
      rw [hsg] at he
      have hTd : (start + W (51 + 3 * i) * step) % W 0 = trn (W 0) start step (W (51 + 3 * i)) := rfl
      rw [hTd]
      generalize trn (W 0) start step (W (51 + 3 * i)) = T at hT he ⊢
      have nx : ∀ (acc' : Bool) (x5 : Value), (acc' && agd (W 0) (hrW W) (poW W) (asW W) start step d (i + 1)) = agd (W 0) (hrW W) (poW W) (asW W) start step (W 50) 0 → wp 203 b 99 [.ref 73, .int (nI start), .int (nI step), .int (bI acc), .int (nI i), x5] [.int (bI acc')] g Q := by
        intro acc' x5 h
        simp (disch := omega) only [q_X11_isSeen_99, q_X11_isSeen_100, q_X11_isSeen_103, y_is, y_gf, y_pf, y_f0, y_f1, y_f3, y_nI, y_nK, y_nZ, y_nL, y_nR, y_k1i, y_k1r, y_k1l, y_k1n, y_tl, y_tn, y_s, y_ss, List.getElem?_cons_zero, List.getElem?_cons_succ, List.set_cons_zero, List.set_cons_succ, List.length_cons, List.length_nil, true_and, and_true, lit, nI_add]
        exact ih (i + 1) acc' x5 (by omega) h
      have mid : ∀ (th : Bool), (T == W (51 + 3 * i + 1)) = th → wp 203 b 60 [.ref 73, .int (nI start), .int (nI step), .int (bI acc), .int (nI i), x5] [.int (bI th)] g Q := by
        intro th hth
        rw [hth] at he
        simp (disch := omega) only [q_X11_isSeen_60, q_X11_isSeen_62, q_X11_isSeen_63, y_is, y_gf, y_pf, y_f0, y_f1, y_f3, y_nI, y_nK, y_nZ, y_nL, y_nR, y_k1i, y_k1r, y_k1l, y_k1n, y_tl, y_tn, y_s, y_ss, List.getElem?_cons_zero, List.getElem?_cons_succ, List.set_cons_zero, List.set_cons_succ, List.length_cons, List.length_nil, true_and, and_true]
        cases acc with
        | false =>
          refine br1 (by decide) ?_
          simp only [q_X11_isSeen_98, y_is, y_gf, y_pf, y_f0, y_f1, y_f3, y_nI, y_nK, y_nZ, y_nL, y_nR, y_k1i, y_k1r, y_k1l, y_k1n, y_tl, y_tn, y_s, y_ss, List.getElem?_cons_zero, List.getElem?_cons_succ, List.set_cons_zero, List.set_cons_succ, List.length_cons, List.length_nil, true_and, and_true]
          exact nx false _ (by rw [Bool.false_and] at he ⊢; exact he)
        | true =>
          rw [Bool.true_and] at he
          refine br0 (by decide) ?_
          simp (disch := omega) only [q_X11_isSeen_66, q_X11_isSeen_68, q_X11_isSeen_69, q_X11_isSeen_72, q_X11_isSeen_74, q_X11_isSeen_75, q_X11_isSeen_77, q_X11_isSeen_78, q_X11_isSeen_79, q_X11_isSeen_80, q_X11_isSeen_81, q_X11_isSeen_82, q_X11_isSeen_83, hM, h74, e3, y_is, y_gf, y_pf, y_f0, y_f1, y_f3, y_nI, y_nK, y_nZ, y_nL, y_nR, y_k1i, y_k1r, y_k1l, y_k1n, y_tl, y_tn, y_s, y_ss, List.getElem?_cons_zero, List.getElem?_cons_succ, List.set_cons_zero, List.set_cons_succ, List.length_cons, List.length_nil, true_and, and_true, y_lIn, y_lKn, y_lZn, y_lLn, y_wIn, y_wZn, y_wLn, lit, le_n, lt_n, eq_n, lit, pk_mul, nI_add, eq_n]
          by_cases a : W (51 + 3 * i + 2) = 1
          · rw [bnt a]
            rw [show (W (51 + 3 * i + 2) == 1) = true by simp [a]] at he
            simp only [q_X11_isSeen_86, q_X11_isSeen_87, q_X11_isSeen_91, y_is, y_gf, y_pf, y_f0, y_f1, y_f3, y_nI, y_nK, y_nZ, y_nL, y_nR, y_k1i, y_k1r, y_k1l, y_k1n, y_tl, y_tn, y_s, y_ss, List.getElem?_cons_zero, List.getElem?_cons_succ, List.set_cons_zero, List.set_cons_succ, List.length_cons, List.length_nil, true_and, and_true]
            cases th with
            | true =>
              refine br0 (by decide) ?_
              simp only [q_X11_isSeen_94, q_X11_isSeen_95, y_is, y_gf, y_pf, y_f0, y_f1, y_f3, y_nI, y_nK, y_nZ, y_nL, y_nR, y_k1i, y_k1r, y_k1l, y_k1n, y_tl, y_tn, y_s, y_ss, List.getElem?_cons_zero, List.getElem?_cons_succ, List.set_cons_zero, List.set_cons_succ, List.length_cons, List.length_nil, true_and, and_true]
              exact nx true _ he
            | false =>
              refine br1 (by decide) ?_
              simp only [q_X11_isSeen_98, y_is, y_gf, y_pf, y_f0, y_f1, y_f3, y_nI, y_nK, y_nZ, y_nL, y_nR, y_k1i, y_k1r, y_k1l, y_k1n, y_tl, y_tn, y_s, y_ss, List.getElem?_cons_zero, List.getElem?_cons_succ, List.set_cons_zero, List.set_cons_succ, List.length_cons, List.length_nil, true_and, and_true]
              exact nx false _ he
          · rw [bnf a]
            rw [beq_false_of_ne a] at he
            simp only [q_X11_isSeen_90, q_X11_isSeen_91, y_is, y_gf, y_pf, y_f0, y_f1, y_f3, y_nI, y_nK, y_nZ, y_nL, y_nR, y_k1i, y_k1r, y_k1l, y_k1n, y_tl, y_tn, y_s, y_ss, List.getElem?_cons_zero, List.getElem?_cons_succ, List.set_cons_zero, List.set_cons_succ, List.length_cons, List.length_nil, true_and, and_true]
            cases th with
            | true =>
              refine br1 (by decide) ?_
              simp only [q_X11_isSeen_98, y_is, y_gf, y_pf, y_f0, y_f1, y_f3, y_nI, y_nK, y_nZ, y_nL, y_nR, y_k1i, y_k1r, y_k1l, y_k1n, y_tl, y_tn, y_s, y_ss, List.getElem?_cons_zero, List.getElem?_cons_succ, List.set_cons_zero, List.set_cons_succ, List.length_cons, List.length_nil, true_and, and_true]
              exact nx false _ he
            | false =>
              refine br0 (by decide) ?_
              simp only [q_X11_isSeen_94, q_X11_isSeen_95, y_is, y_gf, y_pf, y_f0, y_f1, y_f3, y_nI, y_nK, y_nZ, y_nL, y_nR, y_k1i, y_k1r, y_k1l, y_k1n, y_tl, y_tn, y_s, y_ss, List.getElem?_cons_zero, List.getElem?_cons_succ, List.set_cons_zero, List.set_cons_succ, List.length_cons, List.length_nil, true_and, and_true]
              exact nx true _ he
      simp (disch := omega) only [eq_n]
      by_cases t : T = W (51 + 3 * i + 1)
      · rw [bnt t]
        simp only [q_X11_isSeen_55, q_X11_isSeen_56, y_is, y_gf, y_pf, y_f0, y_f1, y_f3, y_nI, y_nK, y_nZ, y_nL, y_nR, y_k1i, y_k1r, y_k1l, y_k1n, y_tl, y_tn, y_s, y_ss, List.getElem?_cons_zero, List.getElem?_cons_succ, List.set_cons_zero, List.set_cons_succ, List.length_cons, List.length_nil, true_and, and_true]
        exact mid true (by simp [t])
      · rw [bnf t]
        simp only [q_X11_isSeen_59, y_is, y_gf, y_pf, y_f0, y_f1, y_f3, y_nI, y_nK, y_nZ, y_nL, y_nR, y_k1i, y_k1r, y_k1l, y_k1n, y_tl, y_tn, y_s, y_ss, List.getElem?_cons_zero, List.getElem?_cons_succ, List.set_cons_zero, List.set_cons_succ, List.length_cons, List.length_nil, true_and, and_true]
        exact mid false (beq_false_of_ne t)
  simp only [q_X11_isSeen_0, q_X11_isSeen_1, q_X11_isSeen_2, q_X11_isSeen_3, y_is, y_gf, y_pf, y_f0, y_f1, y_f3, y_nI, y_nK, y_nZ, y_nL, y_nR, y_k1i, y_k1r, y_k1l, y_k1n, y_tl, y_tn, y_s, y_ss, List.getElem?_cons_zero, List.getElem?_cons_succ, List.set_cons_zero, List.set_cons_succ, List.length_cons, List.length_nil, true_and, and_true]
  exact loop (W 50) 0 true _ (by omega) (Bool.true_and _)
/-- which pairs agree -/
def agW (W : Nat → Nat) (i j : Nat) : Bool := agd (W 0) (hrW W) (poW W) (asW W) i j (W 50) 0
theorem s_mrounds {what : Nat} (hM : g.2 73 = ob 9 [.ref 74, .ref 75, .ref 76, .ref 77, .ref 78, .ref 79, .int (x 0), .int (x 1), .int (x 2), .ref 80, .int (x 3), .ref 81, .int (x 4), .ref 82, .long (r), .ref 83, .ref 84, .int (x 5), .int (x 6), .int (x 7), .int (x 8), .int (x 9), .ref 85, .int (x 10)]) (h74 : g.2 74 = aI 141 f) (hW : nwf f W) (hv : wv W) (hw : what ≤ 1) (hQ : Q (some (.int (if what = 0 then nI (rdo (agW W) (W 0) (W 0)).1 else oI (rdo (agW W) (W 0) (W 0)).2))) g) : wp 204 b 17 [.ref 73, .int (nI what), .null, .null, .null, .null] [] g Q := by
  obtain ⟨⟨n1, n9⟩, -⟩ := id hv
  generalize hn : W 0 = n at *
  have inn : ∀ (st : Nat) (s : Nat × Option Nat), st < n → s.1 ≤ 999 → (∀ x5, wp 204 b 82 [.ref 73, .int (nI what), .int (nI (rdi (agW W) st n s).1), .int (oI (rdi (agW W) st n s).2), .int (nI st), x5] [] g Q) → ∀ d j, j + d = n → wp 204 b 36 [.ref 73, .int (nI what), .int (nI (rdi (agW W) st j s).1), .int (oI (rdi (agW W) st j s).2), .int (nI st), .int (nI j)] [] g Q := by
    intro st s hst hs1 hnext d
    induction d with
    | zero =>
      intro j hj
      have hj : j = n := by omega
      subst hj
      rw [q_X11_rounds_36]
      simp (disch := omega) only [q_X11_rounds_38, q_X11_rounds_39, hM, y_is, y_gf, y_pf, y_f0, y_f1, y_f3, y_nI, y_nK, y_nZ, y_nL, y_nR, y_k1i, y_k1r, y_k1l, y_k1n, y_tl, y_tn, y_s, y_ss, List.getElem?_cons_zero, List.getElem?_cons_succ, List.set_cons_zero, List.set_cons_succ, List.length_cons, List.length_nil, true_and, and_true]
      refine s_watched hM h74 hW ?_
      rw [hn]
      simp (disch := omega) only [q_X11_rounds_42, y_is, y_gf, y_pf, y_f0, y_f1, y_f3, y_nI, y_nK, y_nZ, y_nL, y_nR, y_k1i, y_k1r, y_k1l, y_k1n, y_tl, y_tn, y_s, y_ss, List.getElem?_cons_zero, List.getElem?_cons_succ, List.set_cons_zero, List.set_cons_succ, List.length_cons, List.length_nil, true_and, and_true, le_n]
      exact br1 (by omega) (hnext _)
    | succ d ih =>
      intro j hj
      have ihn := ih (j + 1) (by omega)
      rw [rdi] at ihn
      have hle := rdi_le (agW W) st s j
      rw [q_X11_rounds_36]
      simp (disch := omega) only [q_X11_rounds_38, q_X11_rounds_39, hM, y_is, y_gf, y_pf, y_f0, y_f1, y_f3, y_nI, y_nK, y_nZ, y_nL, y_nR, y_k1i, y_k1r, y_k1l, y_k1n, y_tl, y_tn, y_s, y_ss, List.getElem?_cons_zero, List.getElem?_cons_succ, List.set_cons_zero, List.set_cons_succ, List.length_cons, List.length_nil, true_and, and_true]
      refine s_watched hM h74 hW ?_
      rw [hn]
      simp (disch := omega) only [q_X11_rounds_42, q_X11_rounds_45, q_X11_rounds_46, q_X11_rounds_48, q_X11_rounds_50, hM, y_is, y_gf, y_pf, y_f0, y_f1, y_f3, y_nI, y_nK, y_nZ, y_nL, y_nR, y_k1i, y_k1r, y_k1l, y_k1n, y_tl, y_tn, y_s, y_ss, List.getElem?_cons_zero, List.getElem?_cons_succ, List.set_cons_zero, List.set_cons_succ, List.length_cons, List.length_nil, true_and, and_true, le_n]
      refine br0 (by omega) (s_isSeen hM h74 hW hv (by omega) (by omega) ?_)
      rw [show agd (W 0) (hrW W) (poW W) (asW W) st j (W 50) 0 = agW W st j from rfl]
      cases hp : agW W st j with
      | true =>
        rw [if_pos hp] at ihn
        simp only [if_true, q_X11_rounds_53, y_is, y_gf, y_pf, y_f0, y_f1, y_f3, y_nI, y_nK, y_nZ, y_nL, y_nR, y_k1i, y_k1r, y_k1l, y_k1n, y_tl, y_tn, y_s, y_ss, List.getElem?_cons_zero, List.getElem?_cons_succ, List.set_cons_zero, List.set_cons_succ, List.length_cons, List.length_nil, true_and, and_true]
        refine br0 (by decide) ?_
        simp (disch := omega) only [q_X11_rounds_56, q_X11_rounds_57, y_is, y_gf, y_pf, y_f0, y_f1, y_f3, y_nI, y_nK, y_nZ, y_nL, y_nR, y_k1i, y_k1r, y_k1l, y_k1n, y_tl, y_tn, y_s, y_ss, List.getElem?_cons_zero, List.getElem?_cons_succ, List.set_cons_zero, List.set_cons_succ, List.length_cons, List.length_nil, true_and, and_true, lit, eq_n]
        by_cases z : (rdi (agW W) st j s).1 = 0
        · rw [bnt z]
          rw [if_pos z] at ihn
          simp (disch := omega) only [q_X11_rounds_60, q_X11_rounds_62, q_X11_rounds_64, q_X11_rounds_65, q_X11_rounds_67, q_X11_rounds_68, q_X11_rounds_72, q_X11_rounds_73, q_X11_rounds_76, q_X11_rounds_79, y_is, y_gf, y_pf, y_f0, y_f1, y_f3, y_nI, y_nK, y_nZ, y_nL, y_nR, y_k1i, y_k1r, y_k1l, y_k1n, y_tl, y_tn, y_s, y_ss, List.getElem?_cons_zero, List.getElem?_cons_succ, List.set_cons_zero, List.set_cons_succ, List.length_cons, List.length_nil, true_and, and_true, lit, pk_mul, nI_add]
          exact ihn
        · rw [bnf z]
          rw [if_neg z] at ihn
          simp (disch := omega) only [q_X11_rounds_71, q_X11_rounds_72, q_X11_rounds_73, q_X11_rounds_76, q_X11_rounds_79, y_is, y_gf, y_pf, y_f0, y_f1, y_f3, y_nI, y_nK, y_nZ, y_nL, y_nR, y_k1i, y_k1r, y_k1l, y_k1n, y_tl, y_tn, y_s, y_ss, List.getElem?_cons_zero, List.getElem?_cons_succ, List.set_cons_zero, List.set_cons_succ, List.length_cons, List.length_nil, true_and, and_true, lit, nI_add]
          exact ihn
      | false =>
        rw [if_neg (by rw [hp]; decide)] at ihn
        simp only [Bool.false_eq_true, if_false, q_X11_rounds_53, y_is, y_gf, y_pf, y_f0, y_f1, y_f3, y_nI, y_nK, y_nZ, y_nL, y_nR, y_k1i, y_k1r, y_k1l, y_k1n, y_tl, y_tn, y_s, y_ss, List.getElem?_cons_zero, List.getElem?_cons_succ, List.set_cons_zero, List.set_cons_succ, List.length_cons, List.length_nil, true_and, and_true]
        refine br1 (by decide) ?_
        simp (disch := omega) only [q_X11_rounds_76, q_X11_rounds_79, y_is, y_gf, y_pf, y_f0, y_f1, y_f3, y_nI, y_nK, y_nZ, y_nL, y_nR, y_k1i, y_k1r, y_k1l, y_k1n, y_tl, y_tn, y_s, y_ss, List.getElem?_cons_zero, List.getElem?_cons_succ, List.set_cons_zero, List.set_cons_succ, List.length_cons, List.length_nil, true_and, and_true, lit, nI_add]
        exact ihn
  have out : ∀ d p (x5 : Value), p + d = n → wp 204 b 24 [.ref 73, .int (nI what), .int (nI (rdo (agW W) n p).1), .int (oI (rdo (agW W) n p).2), .int (nI p), x5] [] g Q := by
    intro d
    induction d with
    | zero =>
      intro p x5 hp
      have hp : p = n := by omega
      subst hp
      rw [q_X11_rounds_24]
      simp (disch := omega) only [q_X11_rounds_26, q_X11_rounds_27, hM, y_is, y_gf, y_pf, y_f0, y_f1, y_f3, y_nI, y_nK, y_nZ, y_nL, y_nR, y_k1i, y_k1r, y_k1l, y_k1n, y_tl, y_tn, y_s, y_ss, List.getElem?_cons_zero, List.getElem?_cons_succ, List.set_cons_zero, List.set_cons_succ, List.length_cons, List.length_nil, true_and, and_true]
      refine s_watched hM h74 hW ?_
      rw [hn]
      simp (disch := omega) only [q_X11_rounds_30, q_X11_rounds_88, q_X11_rounds_89, y_is, y_gf, y_pf, y_f0, y_f1, y_f3, y_nI, y_nK, y_nZ, y_nL, y_nR, y_k1i, y_k1r, y_k1l, y_k1n, y_tl, y_tn, y_s, y_ss, List.getElem?_cons_zero, List.getElem?_cons_succ, List.set_cons_zero, List.set_cons_succ, List.length_cons, List.length_nil, true_and, and_true, lit, le_n, eq_n]
      refine br1 (by omega) ?_
      by_cases w0 : what = 0
      · rw [bnt w0]
        rw [if_pos w0] at hQ
        simp only [q_X11_rounds_92, q_X11_rounds_93, q_X11_rounds_97, y_is, y_gf, y_pf, y_f0, y_f1, y_f3, y_nI, y_nK, y_nZ, y_nL, y_nR, y_k1i, y_k1r, y_k1l, y_k1n, y_tl, y_tn, y_s, y_ss, List.getElem?_cons_zero, List.getElem?_cons_succ, List.set_cons_zero, List.set_cons_succ, List.length_cons, List.length_nil, true_and, and_true]
        exact hQ
      · rw [bnf w0]
        rw [if_neg w0] at hQ
        simp only [q_X11_rounds_96, q_X11_rounds_97, y_is, y_gf, y_pf, y_f0, y_f1, y_f3, y_nI, y_nK, y_nZ, y_nL, y_nR, y_k1i, y_k1r, y_k1l, y_k1n, y_tl, y_tn, y_s, y_ss, List.getElem?_cons_zero, List.getElem?_cons_succ, List.set_cons_zero, List.set_cons_succ, List.length_cons, List.length_nil, true_and, and_true]
        exact hQ
    | succ d ih =>
      intro p x5 hp
      have hle := rdo_le (agW W) n p
      have hpn : p * n ≤ 9 * 9 := Nat.mul_le_mul (by omega) n9
      rw [q_X11_rounds_24]
      simp (disch := omega) only [q_X11_rounds_26, q_X11_rounds_27, hM, y_is, y_gf, y_pf, y_f0, y_f1, y_f3, y_nI, y_nK, y_nZ, y_nL, y_nR, y_k1i, y_k1r, y_k1l, y_k1n, y_tl, y_tn, y_s, y_ss, List.getElem?_cons_zero, List.getElem?_cons_succ, List.set_cons_zero, List.set_cons_succ, List.length_cons, List.length_nil, true_and, and_true]
      refine s_watched hM h74 hW ?_
      rw [hn]
      simp (disch := omega) only [q_X11_rounds_30, q_X11_rounds_33, q_X11_rounds_34, y_is, y_gf, y_pf, y_f0, y_f1, y_f3, y_nI, y_nK, y_nZ, y_nL, y_nR, y_k1i, y_k1r, y_k1l, y_k1n, y_tl, y_tn, y_s, y_ss, List.getElem?_cons_zero, List.getElem?_cons_succ, List.set_cons_zero, List.set_cons_succ, List.length_cons, List.length_nil, true_and, and_true, lit, le_n]
      refine br0 (by omega) (inn p (rdo (agW W) n p) (by omega) (by omega) (fun x5 => ?_) n 0 (by omega))
      simp (disch := omega) only [q_X11_rounds_82, q_X11_rounds_85, y_is, y_gf, y_pf, y_f0, y_f1, y_f3, y_nI, y_nK, y_nZ, y_nL, y_nR, y_k1i, y_k1r, y_k1l, y_k1n, y_tl, y_tn, y_s, y_ss, List.getElem?_cons_zero, List.getElem?_cons_succ, List.set_cons_zero, List.set_cons_succ, List.length_cons, List.length_nil, true_and, and_true, lit, nI_add]
      exact ih (p + 1) _ (by omega)
  simp (disch := omega) only [q_X11_rounds_17, q_X11_rounds_18, q_X11_rounds_19, q_X11_rounds_20, q_X11_rounds_21, q_X11_rounds_22, y_is, y_gf, y_pf, y_f0, y_f1, y_f3, y_nI, y_nK, y_nZ, y_nL, y_nR, y_k1i, y_k1r, y_k1l, y_k1n, y_tl, y_tn, y_s, y_ss, List.getElem?_cons_zero, List.getElem?_cons_succ, List.set_cons_zero, List.set_cons_succ, List.length_cons, List.length_nil, true_and, and_true, lit]
  exact out n 0 _ (by omega)
theorem s_msoon {post : Nat} (hM : g.2 73 = ob 9 [.ref 74, .ref 75, .ref 76, .ref 77, .ref 78, .ref 79, .int (x 0), .int (x 1), .int (x 2), .ref 80, .int (x 3), .ref 81, .int (x 4), .ref 82, .long (r), .ref 83, .ref 84, .int (x 5), .int (x 6), .int (x 7), .int (x 8), .int (x 9), .ref 85, .int (x 10)]) (h74 : g.2 74 = aI 141 f) (hW : nwf f W) (hv : wv W) (hp : post < W 0) (h83 : ∃ z, g.2 83 = aZ 81 z) (hQ : ∀ g', (∃ z, g'.2 83 = aZ 81 z) → fr g g' 83 84 → Q (some (.int (oI (soonA (W 0) post (W 47) (W 48))))) g') : wp 205 b 15 [.ref 73, .int (nI post), .null, .null, .null, .null, .null, .null] [] g Q := by
  obtain ⟨⟨n1, n9⟩, -, ⟨-, h47, h48, -⟩, -⟩ := id hv
  rw [← srch_soon n1 n9] at hQ
  simp (disch := omega) only [q_X11_soon_15, q_X11_soon_16, hM, y_is, y_gf, y_pf, y_f0, y_f1, y_f3, y_nI, y_nK, y_nZ, y_nL, y_nR, y_k1i, y_k1r, y_k1l, y_k1n, y_tl, y_tn, y_s, y_ss, List.getElem?_cons_zero, List.getElem?_cons_succ, List.set_cons_zero, List.set_cons_succ, List.length_cons, List.length_nil, true_and, and_true]
  refine s_watched hM h74 hW ?_
  generalize hn : W 0 = n at *
  have hnn : n * n ≤ 9 * 9 := Nat.mul_le_mul n9 n9
  have nar1 : vp_nar .boolean (nI 1) = nI 1 := by decide +kernel
  have nar0 : vp_nar .boolean (nI 0) = nI 0 := by decide +kernel
  have e74 : ∀ g', fr g g' 83 84 → g'.2 74 = aI 141 f := fun g' hf => by rw [hf.2 _ (by omega)]; exact h74
  have e73 : ∀ g', fr g g' 83 84 → g'.2 73 = ob 9 [.ref 74, .ref 75, .ref 76, .ref 77, .ref 78, .ref 79, .int (x 0), .int (x 1), .int (x 2), .ref 80, .int (x 3), .ref 81, .int (x 4), .ref 82, .long (r), .ref 83, .ref 84, .int (x 5), .int (x 6), .int (x 7), .int (x 8), .int (x 9), .ref 85, .int (x 10)] := fun g' hf => by rw [hf.2 _ (by omega)]; exact hM
  -- an hour over all pairs
  have inn : ∀ (h : Nat), h < 100 → (∀ (g' : mzG) (z : Nat → Int32) (x7 : Value), g'.2 83 = aZ 81 z → (∀ k, k < n * n → z k = bI (alh n post (W 47) (W 48) (k / n) (k % n) (h + 1))) → fr g g' 83 84 → ∀ x5, wp 205 b 179 [.ref 73, .int (nI post), .int (nI n), .int (nI (cfl n post (W 47) (W 48) (h + 1) (n * n))), .int (nI h), x5, .int (nI (n * n)), x7] [] g' Q) → ∀ (d k : Nat) (g' : mzG) (z : Nat → Int32) (x7 : Value), k + d = n * n → g'.2 83 = aZ 81 z → (∀ j, j < k → z j = bI (alh n post (W 47) (W 48) (j / n) (j % n) (h + 1))) → (∀ j, k ≤ j → j < n * n → z j = bI (alh n post (W 47) (W 48) (j / n) (j % n) h)) → fr g g' 83 84 → wp 205 b 86 [.ref 73, .int (nI post), .int (nI n), .int (nI (cfl n post (W 47) (W 48) (h + 1) k + (cfl n post (W 47) (W 48) h (n * n) - cfl n post (W 47) (W 48) h k))), .int (nI h), .int (bI (trn n (W 47) (W 48) h == post)), .int (nI k), x7] [] g' Q := by
    intro h hh hnext d
    have hmono : ∀ j m, cfl n post (W 47) (W 48) h m ≤ cfl n post (W 47) (W 48) h (m + j) := by
      intro j
      induction j with
      | zero => intro m; exact Nat.le_refl _
      | succ j ih =>
        intro m
        have := ih m
        rw [show m + (j + 1) = m + j + 1 by omega, cfl]
        split <;> omega
    induction d with
    | zero =>
      intro k g' z x7 hk h83' hz1 hz2 hf
      have hk : k = n * n := by omega
      subst hk
      rw [q_X11_soon_86]
      simp (disch := omega) only [q_X11_soon_88, q_X11_soon_89, q_X11_soon_90, q_X11_soon_91, y_is, y_gf, y_pf, y_f0, y_f1, y_f3, y_nI, y_nK, y_nZ, y_nL, y_nR, y_k1i, y_k1r, y_k1l, y_k1n, y_tl, y_tn, y_s, y_ss, List.getElem?_cons_zero, List.getElem?_cons_succ, List.set_cons_zero, List.set_cons_succ, List.length_cons, List.length_nil, true_and, and_true, pk_mul, le_n]
      have := hnext g' z x7 h83' hz1 hf (.int (bI (trn n (W 47) (W 48) h == post)))
      rw [Nat.sub_self, Nat.add_zero]
      exact br1 (by omega) this
    | succ d ih =>
      intro k g' z x7 hk h83' hz1 hz2 hf
      have hM' := e73 g' hf
      have hkd : k / n ≤ 9 := by
        have : k / n < n := (Nat.div_lt_iff_lt_mul (by omega)).mpr (by omega)
        omega
      have hkm : k % n < n := Nat.mod_lt _ (by omega)
      have hT := trn_lt (start := k / n) (step := k % n) (hour := h) n1
      have hmul : h * (k % n) ≤ 99 * 9 := Nat.mul_le_mul (by omega) (by omega)
      have zk := hz2 k (Nat.le_refl _) (by omega)
      have hcl := cfl_le (n := n) (post := post) (cs := W 47) (cp := W 48) (h := h + 1) k
      have hcl2 := cfl_le (n := n) (post := post) (cs := W 47) (cp := W 48) (h := h) (n * n)
      have hm1 := hmono (n * n - (k + 1)) (k + 1)
      rw [show k + 1 + (n * n - (k + 1)) = n * n by omega] at hm1
      have c1 : cfl n post (W 47) (W 48) (h + 1) (k + 1) = cfl n post (W 47) (W 48) (h + 1) k + (if alh n post (W 47) (W 48) (k / n) (k % n) (h + 1) then 1 else 0) := rfl
      have c2 : cfl n post (W 47) (W 48) h (k + 1) = cfl n post (W 47) (W 48) h k + (if alh n post (W 47) (W 48) (k / n) (k % n) h then 1 else 0) := rfl
      have al1 : alh n post (W 47) (W 48) (k / n) (k % n) (h + 1) = (alh n post (W 47) (W 48) (k / n) (k % n) h && !((trn n (k / n) (k % n) h == post) != (trn n (W 47) (W 48) h == post))) := rfl
      have ihn := fun g2 z2 x7 => ih (k + 1) g2 z2 x7 (by omega)
      -- the truth is laid down
      have fin : ∀ (v : Bool) (x7 : Value) (lf : Nat), v = alh n post (W 47) (W 48) (k / n) (k % n) (h + 1) → lf = cfl n post (W 47) (W 48) (h + 1) (k + 1) + (cfl n post (W 47) (W 48) h (n * n) - cfl n post (W 47) (W 48) h (k + 1)) → wp 205 b 172 [.ref 73, .int (nI post), .int (nI n), .int (nI lf), .int (nI h), .int (bI (trn n (W 47) (W 48) h == post)), .int (nI k), x7] [.int (bI v), .int (nI k), .ref 83] g' Q := by
        intro v x7 lf hv' hlf
        have hnar : vp_nar .boolean (bI v) = bI v := by cases v <;> decide +kernel
        simp (disch := omega) only [q_X11_soon_172, q_X11_soon_173, q_X11_soon_176, h83', hnar, y_is, y_gf, y_pf, y_f0, y_f1, y_f3, y_nI, y_nK, y_nZ, y_nL, y_nR, y_k1i, y_k1r, y_k1l, y_k1n, y_tl, y_tn, y_s, y_ss, List.getElem?_cons_zero, List.getElem?_cons_succ, List.set_cons_zero, List.set_cons_succ, List.length_cons, List.length_nil, true_and, and_true, y_lIn, y_lKn, y_lZn, y_lLn, y_wIn, y_wZn, y_wLn, lit, le_n, lt_n, eq_n, lit, nI_add]
        rw [hlf]
        refine ihn _ _ _ y_s (fun j hj => ?_) (fun j hj1 hj2 => ?_) (hf.hs (by omega) (by omega))
        · by_cases e : j = k
          · subst e; rw [u_s, hv']
          · rw [u_n e]; exact hz1 j (by omega)
        · rw [u_n (by omega)]; exact hz2 j (by omega) hj2
      have mid : ∀ (th : Bool), (trn n (k / n) (k % n) h == post) = th → wp 205 b 117 [.ref 73, .int (nI post), .int (nI n), .int (nI (cfl n post (W 47) (W 48) (h + 1) k + (cfl n post (W 47) (W 48) h (n * n) - cfl n post (W 47) (W 48) h k))), .int (nI h), .int (bI (trn n (W 47) (W 48) h == post)), .int (nI k), x7] [.int (bI th)] g' Q := by
        intro th hth
        rw [hth] at al1
        simp (disch := omega) only [q_X11_soon_117, q_X11_soon_119, q_X11_soon_120, q_X11_soon_121, q_X11_soon_124, q_X11_soon_126, q_X11_soon_127, hM', h83', zk, y_is, y_gf, y_pf, y_f0, y_f1, y_f3, y_nI, y_nK, y_nZ, y_nL, y_nR, y_k1i, y_k1r, y_k1l, y_k1n, y_tl, y_tn, y_s, y_ss, List.getElem?_cons_zero, List.getElem?_cons_succ, List.set_cons_zero, List.set_cons_succ, List.length_cons, List.length_nil, true_and, and_true, y_lIn, y_lKn, y_lZn, y_lLn, y_wIn, y_wZn, y_wLn, lit, le_n, lt_n, eq_n]
        cases ha : alh n post (W 47) (W 48) (k / n) (k % n) h with
        | false =>
          rw [ha, Bool.false_and] at al1
          rw [ha] at c2 zk
          rw [al1] at c1
          simp only [Bool.false_eq_true, if_false, Nat.add_zero] at c1 c2
          refine br1 (by decide) ?_
          simp (disch := omega) only [q_X11_soon_141, q_X11_soon_142, q_X11_soon_143, q_X11_soon_144, q_X11_soon_145, q_X11_soon_148, q_X11_soon_150, q_X11_soon_151, q_X11_soon_154, q_X11_soon_156, q_X11_soon_157, hM', h83', zk, y_is, y_gf, y_pf, y_f0, y_f1, y_f3, y_nI, y_nK, y_nZ, y_nL, y_nR, y_k1i, y_k1r, y_k1l, y_k1n, y_tl, y_tn, y_s, y_ss, List.getElem?_cons_zero, List.getElem?_cons_succ, List.set_cons_zero, List.set_cons_succ, List.length_cons, List.length_nil, true_and, and_true, y_lIn, y_lKn, y_lZn, y_lLn, y_wIn, y_wZn, y_wLn, lit, le_n, lt_n, eq_n, lit, pk_sub, Nat.sub_zero]
          refine br1 (by decide) ?_
          simp (disch := omega) only [q_X11_soon_171, y_is, y_gf, y_pf, y_f0, y_f1, y_f3, y_nI, y_nK, y_nZ, y_nL, y_nR, y_k1i, y_k1r, y_k1l, y_k1n, y_tl, y_tn, y_s, y_ss, List.getElem?_cons_zero, List.getElem?_cons_succ, List.set_cons_zero, List.set_cons_succ, List.length_cons, List.length_nil, true_and, and_true]
          exact fin false _ _ al1.symm (by omega)
        | true =>
          rw [ha, Bool.true_and] at al1
          rw [ha] at c2 zk
          simp only [if_true] at c2
          refine br0 (by decide) ?_
          cases hs : (trn n (W 47) (W 48) h == post) with
          | true =>
            rw [hs] at al1 fin
            cases th with
            | true =>
              simp only [bne_self_eq_false, Bool.not_false] at al1
              rw [al1] at c1
              simp only [if_true] at c1
              simp only [q_X11_soon_130, q_X11_soon_132, q_X11_soon_134, y_is, y_gf, y_pf, y_f0, y_f1, y_f3, y_nI, y_nK, y_nZ, y_nL, y_nR, y_k1i, y_k1r, y_k1l, y_k1n, y_tl, y_tn, y_s, y_ss, List.getElem?_cons_zero, List.getElem?_cons_succ, List.set_cons_zero, List.set_cons_succ, List.length_cons, List.length_nil, true_and, and_true]
              refine br1 trivial ?_
              simp (disch := omega) only [q_X11_soon_141, q_X11_soon_142, q_X11_soon_143, q_X11_soon_144, q_X11_soon_145, q_X11_soon_148, q_X11_soon_150, q_X11_soon_151, q_X11_soon_154, q_X11_soon_156, q_X11_soon_157, hM', h83', zk, y_is, y_gf, y_pf, y_f0, y_f1, y_f3, y_nI, y_nK, y_nZ, y_nL, y_nR, y_k1i, y_k1r, y_k1l, y_k1n, y_tl, y_tn, y_s, y_ss, List.getElem?_cons_zero, List.getElem?_cons_succ, List.set_cons_zero, List.set_cons_succ, List.length_cons, List.length_nil, true_and, and_true, y_lIn, y_lKn, y_lZn, y_lLn, y_wIn, y_wZn, y_wLn, lit, le_n, lt_n, eq_n, lit, pk_sub, Nat.sub_zero]
              refine br0 (by decide) ?_
              simp only [q_X11_soon_160, q_X11_soon_162, q_X11_soon_164, y_is, y_gf, y_pf, y_f0, y_f1, y_f3, y_nI, y_nK, y_nZ, y_nL, y_nR, y_k1i, y_k1r, y_k1l, y_k1n, y_tl, y_tn, y_s, y_ss, List.getElem?_cons_zero, List.getElem?_cons_succ, List.set_cons_zero, List.set_cons_succ, List.length_cons, List.length_nil, true_and, and_true]
              refine br0 (fun q => q trivial) ?_
              simp only [q_X11_soon_167, q_X11_soon_168, y_is, y_gf, y_pf, y_f0, y_f1, y_f3, y_nI, y_nK, y_nZ, y_nL, y_nR, y_k1i, y_k1r, y_k1l, y_k1n, y_tl, y_tn, y_s, y_ss, List.getElem?_cons_zero, List.getElem?_cons_succ, List.set_cons_zero, List.set_cons_succ, List.length_cons, List.length_nil, true_and, and_true]
              exact fin true _ _ al1.symm (by omega)
            | false =>
              have al1 : alh n post (W 47) (W 48) (k / n) (k % n) (h + 1) = false := al1
              rw [al1] at c1
              simp only [Bool.false_eq_true, if_false, Nat.add_zero] at c1
              simp only [q_X11_soon_130, q_X11_soon_132, q_X11_soon_134, y_is, y_gf, y_pf, y_f0, y_f1, y_f3, y_nI, y_nK, y_nZ, y_nL, y_nR, y_k1i, y_k1r, y_k1l, y_k1n, y_tl, y_tn, y_s, y_ss, List.getElem?_cons_zero, List.getElem?_cons_succ, List.set_cons_zero, List.set_cons_succ, List.length_cons, List.length_nil, true_and, and_true]
              refine br0 (by decide) ?_
              simp (disch := omega) only [q_X11_soon_137, q_X11_soon_138, q_X11_soon_142, q_X11_soon_143, q_X11_soon_144, q_X11_soon_145, q_X11_soon_148, q_X11_soon_150, q_X11_soon_151, q_X11_soon_154, q_X11_soon_156, q_X11_soon_157, hM', h83', zk, y_is, y_gf, y_pf, y_f0, y_f1, y_f3, y_nI, y_nK, y_nZ, y_nL, y_nR, y_k1i, y_k1r, y_k1l, y_k1n, y_tl, y_tn, y_s, y_ss, List.getElem?_cons_zero, List.getElem?_cons_succ, List.set_cons_zero, List.set_cons_succ, List.length_cons, List.length_nil, true_and, and_true, y_lIn, y_lKn, y_lZn, y_lLn, y_wIn, y_wZn, y_wLn, lit, le_n, lt_n, eq_n, lit, pk_sub]
              refine br0 (by decide) ?_
              simp only [q_X11_soon_160, q_X11_soon_162, q_X11_soon_164, y_is, y_gf, y_pf, y_f0, y_f1, y_f3, y_nI, y_nK, y_nZ, y_nL, y_nR, y_k1i, y_k1r, y_k1l, y_k1n, y_tl, y_tn, y_s, y_ss, List.getElem?_cons_zero, List.getElem?_cons_succ, List.set_cons_zero, List.set_cons_succ, List.length_cons, List.length_nil, true_and, and_true]
              refine br1 (by decide) ?_
              simp only [q_X11_soon_171, y_is, y_gf, y_pf, y_f0, y_f1, y_f3, y_nI, y_nK, y_nZ, y_nL, y_nR, y_k1i, y_k1r, y_k1l, y_k1n, y_tl, y_tn, y_s, y_ss, List.getElem?_cons_zero, List.getElem?_cons_succ, List.set_cons_zero, List.set_cons_succ, List.length_cons, List.length_nil, true_and, and_true]
              exact fin false _ _ al1.symm (by omega)
          | false =>
            rw [hs] at al1 fin
            cases th with
            | true =>
              have al1 : alh n post (W 47) (W 48) (k / n) (k % n) (h + 1) = false := al1
              rw [al1] at c1
              simp only [Bool.false_eq_true, if_false, Nat.add_zero] at c1
              simp only [q_X11_soon_130, q_X11_soon_132, q_X11_soon_134, y_is, y_gf, y_pf, y_f0, y_f1, y_f3, y_nI, y_nK, y_nZ, y_nL, y_nR, y_k1i, y_k1r, y_k1l, y_k1n, y_tl, y_tn, y_s, y_ss, List.getElem?_cons_zero, List.getElem?_cons_succ, List.set_cons_zero, List.set_cons_succ, List.length_cons, List.length_nil, true_and, and_true]
              refine br0 (by decide) ?_
              simp (disch := omega) only [q_X11_soon_137, q_X11_soon_138, q_X11_soon_142, q_X11_soon_143, q_X11_soon_144, q_X11_soon_145, q_X11_soon_148, q_X11_soon_150, q_X11_soon_151, q_X11_soon_154, q_X11_soon_156, q_X11_soon_157, hM', h83', zk, y_is, y_gf, y_pf, y_f0, y_f1, y_f3, y_nI, y_nK, y_nZ, y_nL, y_nR, y_k1i, y_k1r, y_k1l, y_k1n, y_tl, y_tn, y_s, y_ss, List.getElem?_cons_zero, List.getElem?_cons_succ, List.set_cons_zero, List.set_cons_succ, List.length_cons, List.length_nil, true_and, and_true, y_lIn, y_lKn, y_lZn, y_lLn, y_wIn, y_wZn, y_wLn, lit, le_n, lt_n, eq_n, lit, pk_sub]
              refine br0 (by decide) ?_
              simp only [q_X11_soon_160, q_X11_soon_162, q_X11_soon_164, y_is, y_gf, y_pf, y_f0, y_f1, y_f3, y_nI, y_nK, y_nZ, y_nL, y_nR, y_k1i, y_k1r, y_k1l, y_k1n, y_tl, y_tn, y_s, y_ss, List.getElem?_cons_zero, List.getElem?_cons_succ, List.set_cons_zero, List.set_cons_succ, List.length_cons, List.length_nil, true_and, and_true]
              refine br1 (by decide) ?_
              simp only [q_X11_soon_171, y_is, y_gf, y_pf, y_f0, y_f1, y_f3, y_nI, y_nK, y_nZ, y_nL, y_nR, y_k1i, y_k1r, y_k1l, y_k1n, y_tl, y_tn, y_s, y_ss, List.getElem?_cons_zero, List.getElem?_cons_succ, List.set_cons_zero, List.set_cons_succ, List.length_cons, List.length_nil, true_and, and_true]
              exact fin false _ _ al1.symm (by omega)
            | false =>
              have al1 : alh n post (W 47) (W 48) (k / n) (k % n) (h + 1) = true := al1
              rw [al1] at c1
              simp only [if_true] at c1
              simp only [q_X11_soon_130, q_X11_soon_132, q_X11_soon_134, y_is, y_gf, y_pf, y_f0, y_f1, y_f3, y_nI, y_nK, y_nZ, y_nL, y_nR, y_k1i, y_k1r, y_k1l, y_k1n, y_tl, y_tn, y_s, y_ss, List.getElem?_cons_zero, List.getElem?_cons_succ, List.set_cons_zero, List.set_cons_succ, List.length_cons, List.length_nil, true_and, and_true]
              refine br1 trivial ?_
              simp (disch := omega) only [q_X11_soon_141, q_X11_soon_142, q_X11_soon_143, q_X11_soon_144, q_X11_soon_145, q_X11_soon_148, q_X11_soon_150, q_X11_soon_151, q_X11_soon_154, q_X11_soon_156, q_X11_soon_157, hM', h83', zk, y_is, y_gf, y_pf, y_f0, y_f1, y_f3, y_nI, y_nK, y_nZ, y_nL, y_nR, y_k1i, y_k1r, y_k1l, y_k1n, y_tl, y_tn, y_s, y_ss, List.getElem?_cons_zero, List.getElem?_cons_succ, List.set_cons_zero, List.set_cons_succ, List.length_cons, List.length_nil, true_and, and_true, y_lIn, y_lKn, y_lZn, y_lLn, y_wIn, y_wZn, y_wLn, lit, le_n, lt_n, eq_n, lit, pk_sub, Nat.sub_zero]
              refine br0 (by decide) ?_
              simp only [q_X11_soon_160, q_X11_soon_162, q_X11_soon_164, y_is, y_gf, y_pf, y_f0, y_f1, y_f3, y_nI, y_nK, y_nZ, y_nL, y_nR, y_k1i, y_k1r, y_k1l, y_k1n, y_tl, y_tn, y_s, y_ss, List.getElem?_cons_zero, List.getElem?_cons_succ, List.set_cons_zero, List.set_cons_succ, List.length_cons, List.length_nil, true_and, and_true]
              refine br0 (fun q => q trivial) ?_
              simp only [q_X11_soon_167, q_X11_soon_168, y_is, y_gf, y_pf, y_f0, y_f1, y_f3, y_nI, y_nK, y_nZ, y_nL, y_nR, y_k1i, y_k1r, y_k1l, y_k1n, y_tl, y_tn, y_s, y_ss, List.getElem?_cons_zero, List.getElem?_cons_succ, List.set_cons_zero, List.set_cons_succ, List.length_cons, List.length_nil, true_and, and_true]
              exact fin true _ _ al1.symm (by omega)
      rw [q_X11_soon_86]
      simp (disch := omega) only [q_X11_soon_88, q_X11_soon_89, q_X11_soon_90, q_X11_soon_91, q_X11_soon_94, q_X11_soon_96, q_X11_soon_97, q_X11_soon_98, q_X11_soon_100, q_X11_soon_102, q_X11_soon_103, q_X11_soon_104, q_X11_soon_105, q_X11_soon_106, q_X11_soon_107, q_X11_soon_108, q_X11_soon_109, y_is, y_gf, y_pf, y_f0, y_f1, y_f3, y_nI, y_nK, y_nZ, y_nL, y_nR, y_k1i, y_k1r, y_k1l, y_k1n, y_tl, y_tn, y_s, y_ss, List.getElem?_cons_zero, List.getElem?_cons_succ, List.set_cons_zero, List.set_cons_succ, List.length_cons, List.length_nil, true_and, and_true, lit, pk_mul, le_n, nI_add, eq_n, pk_div, i_rem1, i_rem2, i_rem3]
      refine br0 (by omega) ⟨by omega, by omega, by omega, ?_⟩
      rw [show (k / n + h * (k % n)) % n = trn n (k / n) (k % n) h from rfl]
      by_cases t : trn n (k / n) (k % n) h = post
      · rw [show (¬ nI (trn n (k / n) (k % n) h) = nI post) = (¬ trn n (k / n) (k % n) h = post) by rw [eq_n (by omega) (by omega)], bnt t]
        simp only [q_X11_soon_112, q_X11_soon_113, y_is, y_gf, y_pf, y_f0, y_f1, y_f3, y_nI, y_nK, y_nZ, y_nL, y_nR, y_k1i, y_k1r, y_k1l, y_k1n, y_tl, y_tn, y_s, y_ss, List.getElem?_cons_zero, List.getElem?_cons_succ, List.set_cons_zero, List.set_cons_succ, List.length_cons, List.length_nil, true_and, and_true]
        exact mid true (by simp [t])
      · rw [show (¬ nI (trn n (k / n) (k % n) h) = nI post) = (¬ trn n (k / n) (k % n) h = post) by rw [eq_n (by omega) (by omega)], bnf t]
        simp only [q_X11_soon_116, y_is, y_gf, y_pf, y_f0, y_f1, y_f3, y_nI, y_nK, y_nZ, y_nL, y_nR, y_k1i, y_k1r, y_k1l, y_k1n, y_tl, y_tn, y_s, y_ss, List.getElem?_cons_zero, List.getElem?_cons_succ, List.set_cons_zero, List.set_cons_succ, List.length_cons, List.length_nil, true_and, and_true]
        exact mid false (beq_false_of_ne t)
  have c0 : ∀ m, cfl n post (W 47) (W 48) 0 m = m := by
    intro m
    induction m with
    | zero => rfl
    | succ m ih => rw [cfl, ih, alh, if_pos rfl]
  have outer : ∀ (R : Option Nat), (∀ g', (∃ z, g'.2 83 = aZ 81 z) → fr g g' 83 84 → Q (some (.int (oI R))) g') → ∀ (d h : Nat) (g' : mzG) (z : Nat → Int32) (x5 x6 x7 : Value), h + d = 100 → g'.2 83 = aZ 81 z → (∀ k, k < n * n → z k = bI (alh n post (W 47) (W 48) (k / n) (k % n) h)) → fr g g' 83 84 → srch n post (W 47) (W 48) d h = R → wp 205 b 59 [.ref 73, .int (nI post), .int (nI n), .int (nI (cfl n post (W 47) (W 48) h (n * n))), .int (nI h), x5, x6, x7] [] g' Q := by
    intro R hR d
    induction d with
    | zero =>
      intro h g' z x5 x6 x7 hd h83' hz hf hs
      rw [srch] at hs
      subst hs
      rw [q_X11_soon_59]
      simp (disch := omega) only [q_X11_soon_61, q_X11_soon_63, q_X11_soon_193, q_X11_soon_194, y_is, y_gf, y_pf, y_f0, y_f1, y_f3, y_nI, y_nK, y_nZ, y_nL, y_nR, y_k1i, y_k1r, y_k1l, y_k1n, y_tl, y_tn, y_s, y_ss, List.getElem?_cons_zero, List.getElem?_cons_succ, List.set_cons_zero, List.set_cons_succ, List.length_cons, List.length_nil, true_and, and_true, y_lIn, y_lKn, y_lZn, y_lLn, y_wIn, y_wZn, y_wLn, lit, le_n, lt_n, eq_n, lit, litL, le_n, lt_n, eq_n, nI_add, m_neg, pk_sub, pk_mul, i_l, l_i, l_add, l_mul, l_sub, lc_le, lc_ge, lc_lt, lc_gt, lc_eq, l_rem2, l_rem3, i_rem2, i_rem3]
      exact br1 (by omega) (hR g' ⟨z, h83'⟩ hf)
    | succ d ih =>
      intro h g' z x5 x6 x7 hd h83' hz hf hs
      rw [srch] at hs
      have hM' := e73 g' hf
      have h74' := e74 g' hf
      have go : ∀ x5' : Value, x5' = .int (bI (trn n (W 47) (W 48) h == post)) → wp 205 b 83 [.ref 73, .int (nI post), .int (nI n), .int (nI (cfl n post (W 47) (W 48) h (n * n))), .int (nI h), x5', x6, x7] [] g' Q := by
        intro x5' hx
        subst hx
        simp (disch := omega) only [q_X11_soon_83, q_X11_soon_84, y_is, y_gf, y_pf, y_f0, y_f1, y_f3, y_nI, y_nK, y_nZ, y_nL, y_nR, y_k1i, y_k1r, y_k1l, y_k1n, y_tl, y_tn, y_s, y_ss, List.getElem?_cons_zero, List.getElem?_cons_succ, List.set_cons_zero, List.set_cons_succ, List.length_cons, List.length_nil, true_and, and_true, lit]
        have := inn h (by omega) (fun g2 z2 x7 q1 q2 q3 x5 => ?_) (n * n) 0 g' z x7 (by omega) h83' (fun j hj => by omega) (fun j _ hj => hz j hj) hf
        · rw [show cfl n post (W 47) (W 48) (h + 1) 0 + (cfl n post (W 47) (W 48) h (n * n) - cfl n post (W 47) (W 48) h 0) = cfl n post (W 47) (W 48) h (n * n) by show 0 + (_ - 0) = _; omega] at this
          exact this
        · have hcl := cfl_le (n := n) (post := post) (cs := W 47) (cp := W 48) (h := h + 1) (n * n)
          simp (disch := omega) only [q_X11_soon_179, q_X11_soon_180, q_X11_soon_181, y_is, y_gf, y_pf, y_f0, y_f1, y_f3, y_nI, y_nK, y_nZ, y_nL, y_nR, y_k1i, y_k1r, y_k1l, y_k1n, y_tl, y_tn, y_s, y_ss, List.getElem?_cons_zero, List.getElem?_cons_succ, List.set_cons_zero, List.set_cons_succ, List.length_cons, List.length_nil, true_and, and_true, lit, eq_n]
          by_cases o : cfl n post (W 47) (W 48) (h + 1) (n * n) = 1
          · rw [bnt o]
            rw [if_pos o] at hs
            subst hs
            simp (disch := omega) only [q_X11_soon_184, q_X11_soon_186, y_is, y_gf, y_pf, y_f0, y_f1, y_f3, y_nI, y_nK, y_nZ, y_nL, y_nR, y_k1i, y_k1r, y_k1l, y_k1n, y_tl, y_tn, y_s, y_ss, List.getElem?_cons_zero, List.getElem?_cons_succ, List.set_cons_zero, List.set_cons_succ, List.length_cons, List.length_nil, true_and, and_true]
            exact hR g2 ⟨z2, q1⟩ q3
          · rw [bnf o]
            rw [if_neg o] at hs
            simp (disch := omega) only [q_X11_soon_187, q_X11_soon_190, y_is, y_gf, y_pf, y_f0, y_f1, y_f3, y_nI, y_nK, y_nZ, y_nL, y_nR, y_k1i, y_k1r, y_k1l, y_k1n, y_tl, y_tn, y_s, y_ss, List.getElem?_cons_zero, List.getElem?_cons_succ, List.set_cons_zero, List.set_cons_succ, List.length_cons, List.length_nil, true_and, and_true, lit, nI_add]
            exact ih (h + 1) g2 z2 _ _ _ (by omega) q1 q2 q3 hs
      have hT := trn_lt (start := W 47) (step := W 48) (hour := h) n1
      rw [q_X11_soon_59]
      simp (disch := omega) only [q_X11_soon_61, q_X11_soon_63, q_X11_soon_66, q_X11_soon_67, q_X11_soon_69, hM', y_is, y_gf, y_pf, y_f0, y_f1, y_f3, y_nI, y_nK, y_nZ, y_nL, y_nR, y_k1i, y_k1r, y_k1l, y_k1n, y_tl, y_tn, y_s, y_ss, List.getElem?_cons_zero, List.getElem?_cons_succ, List.set_cons_zero, List.set_cons_succ, List.length_cons, List.length_nil, true_and, and_true, lit, lt_n]
      refine br0 (by omega) (s_byRound hM' h74' hW hv (by omega) ?_)
      rw [hn]
      simp (disch := omega) only [q_X11_soon_72, q_X11_soon_73, y_is, y_gf, y_pf, y_f0, y_f1, y_f3, y_nI, y_nK, y_nZ, y_nL, y_nR, y_k1i, y_k1r, y_k1l, y_k1n, y_tl, y_tn, y_s, y_ss, List.getElem?_cons_zero, List.getElem?_cons_succ, List.set_cons_zero, List.set_cons_succ, List.length_cons, List.length_nil, true_and, and_true, eq_n]
      by_cases t : trn n (W 47) (W 48) h = post
      · rw [bnt t]
        simp only [q_X11_soon_76, q_X11_soon_77, q_X11_soon_81, y_is, y_gf, y_pf, y_f0, y_f1, y_f3, y_nI, y_nK, y_nZ, y_nL, y_nR, y_k1i, y_k1r, y_k1l, y_k1n, y_tl, y_tn, y_s, y_ss, List.getElem?_cons_zero, List.getElem?_cons_succ, List.set_cons_zero, List.set_cons_succ, List.length_cons, List.length_nil, true_and, and_true]
        exact go _ (by rw [show (trn n (W 47) (W 48) h == post) = true by simp [t]]; rfl)
      · rw [bnf t]
        simp only [q_X11_soon_80, q_X11_soon_81, y_is, y_gf, y_pf, y_f0, y_f1, y_f3, y_nI, y_nK, y_nZ, y_nL, y_nR, y_k1i, y_k1r, y_k1l, y_k1n, y_tl, y_tn, y_s, y_ss, List.getElem?_cons_zero, List.getElem?_cons_succ, List.set_cons_zero, List.set_cons_succ, List.length_cons, List.length_nil, true_and, and_true]
        exact go _ (by rw [beq_false_of_ne t]; rfl)
  have init : ∀ (d k : Nat) (g' : mzG) (z : Nat → Int32) (x4 x5 x6 x7 : Value), k + d = 81 → g'.2 83 = aZ 81 z → (∀ j, j < k → z j = bI (decide (j < n * n))) → fr g g' 83 84 → wp 205 b 22 [.ref 73, .int (nI post), .int (nI n), .int (nI k), x4, x5, x6, x7] [] g' Q := by
    intro d
    induction d with
    | zero =>
      intro k g' z x4 x5 x6 x7 hk h83' hz hf
      rw [q_X11_soon_22]
      simp (disch := omega) only [q_X11_soon_23, q_X11_soon_25, q_X11_soon_52, q_X11_soon_53, q_X11_soon_54, q_X11_soon_55, q_X11_soon_56, q_X11_soon_57, y_is, y_gf, y_pf, y_f0, y_f1, y_f3, y_nI, y_nK, y_nZ, y_nL, y_nR, y_k1i, y_k1r, y_k1l, y_k1n, y_tl, y_tn, y_s, y_ss, List.getElem?_cons_zero, List.getElem?_cons_succ, List.set_cons_zero, List.set_cons_succ, List.length_cons, List.length_nil, true_and, and_true, y_lIn, y_lKn, y_lZn, y_lLn, y_wIn, y_wZn, y_wLn, lit, le_n, lt_n, eq_n, lit, litL, le_n, lt_n, eq_n, nI_add, m_neg, pk_sub, pk_mul, i_l, l_i, l_add, l_mul, l_sub, lc_le, lc_ge, lc_lt, lc_gt, lc_eq, l_rem2, l_rem3, i_rem2, i_rem3]
      refine br1 (by omega) ?_
      have := outer _ hQ 100 0 g' z x5 x6 x7 (by omega) h83' (fun j hj => by rw [hz j (by omega), alh, decide_eq_true hj]) hf rfl
      rw [c0] at this
      exact this
    | succ d ih =>
      intro k g' z x4 x5 x6 x7 hk h83' hz hf
      have hM' := e73 g' hf
      have put : ∀ (v : Bool), v = decide (k < n * n) → wp 205 b 45 [.ref 73, .int (nI post), .int (nI n), .int (nI k), x4, x5, x6, x7] [.int (bI v), .int (nI k), .ref 83] g' Q := by
        intro v hv'
        have hnar : vp_nar .boolean (bI v) = bI v := by cases v <;> decide +kernel
        simp (disch := omega) only [q_X11_soon_45, q_X11_soon_46, q_X11_soon_49, h83', hnar, y_is, y_gf, y_pf, y_f0, y_f1, y_f3, y_nI, y_nK, y_nZ, y_nL, y_nR, y_k1i, y_k1r, y_k1l, y_k1n, y_tl, y_tn, y_s, y_ss, List.getElem?_cons_zero, List.getElem?_cons_succ, List.set_cons_zero, List.set_cons_succ, List.length_cons, List.length_nil, true_and, and_true, y_lIn, y_lKn, y_lZn, y_lLn, y_wIn, y_wZn, y_wLn, lit, le_n, lt_n, eq_n, lit, nI_add]
        refine ih (k + 1) _ _ _ _ _ _ (by omega) y_s (fun j hj => ?_) (hf.hs (by omega) (by omega))
        by_cases e : j = k
        · subst e; rw [u_s, hv']
        · rw [u_n e]; exact hz j (by omega)
      rw [q_X11_soon_22]
      simp (disch := omega) only [q_X11_soon_23, q_X11_soon_25, q_X11_soon_28, q_X11_soon_29, q_X11_soon_32, q_X11_soon_33, q_X11_soon_34, q_X11_soon_35, q_X11_soon_36, q_X11_soon_37, hM', y_is, y_gf, y_pf, y_f0, y_f1, y_f3, y_nI, y_nK, y_nZ, y_nL, y_nR, y_k1i, y_k1r, y_k1l, y_k1n, y_tl, y_tn, y_s, y_ss, List.getElem?_cons_zero, List.getElem?_cons_succ, List.set_cons_zero, List.set_cons_succ, List.length_cons, List.length_nil, true_and, and_true, lit, le_n, pk_mul]
      refine br0 (by omega) (brs (fun y => ?_) (fun y => ?_))
      · simp only [q_X11_soon_44, y_is, y_gf, y_pf, y_f0, y_f1, y_f3, y_nI, y_nK, y_nZ, y_nL, y_nR, y_k1i, y_k1r, y_k1l, y_k1n, y_tl, y_tn, y_s, y_ss, List.getElem?_cons_zero, List.getElem?_cons_succ, List.set_cons_zero, List.set_cons_succ, List.length_cons, List.length_nil, true_and, and_true]
        exact put false (decide_eq_false (by omega)).symm
      · simp only [q_X11_soon_40, q_X11_soon_41, y_is, y_gf, y_pf, y_f0, y_f1, y_f3, y_nI, y_nK, y_nZ, y_nL, y_nR, y_k1i, y_k1r, y_k1l, y_k1n, y_tl, y_tn, y_s, y_ss, List.getElem?_cons_zero, List.getElem?_cons_succ, List.set_cons_zero, List.set_cons_succ, List.length_cons, List.length_nil, true_and, and_true]
        exact put true (decide_eq_true (by omega)).symm
  obtain ⟨z0, h83⟩ := h83
  simp (disch := omega) only [q_X11_soon_19, q_X11_soon_20, q_X11_soon_21, y_is, y_gf, y_pf, y_f0, y_f1, y_f3, y_nI, y_nK, y_nZ, y_nL, y_nR, y_k1i, y_k1r, y_k1l, y_k1n, y_tl, y_tn, y_s, y_ss, List.getElem?_cons_zero, List.getElem?_cons_succ, List.set_cons_zero, List.set_cons_succ, List.length_cons, List.length_nil, true_and, and_true, lit]
  exact init 81 0 g z0 _ _ _ _ (by omega) h83 (fun j hj => by omega) fr.rf
end MSEEN
