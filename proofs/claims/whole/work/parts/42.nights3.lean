/-! ===== Nights: the one of a number ===== -/
theorem bitN_t (x i : Nat) : bitN x i = (x.testBit i).toNat := by
  unfold bitN
  rw [Nat.testBit_eq_decide_div_mod_eq]
  by_cases h : x / 2 ^ i % 2 = 1
  · simp [h]
  · have : x / 2 ^ i % 2 = 0 := by omega
    simp [this]
theorem bitN_or {s p q : Nat} : bitN (s ||| 2 ^ p) q = if q = p then 1 else bitN s q := by
  rw [bitN_t, bitN_t, Nat.testBit_or, Nat.testBit_two_pow]
  by_cases h : q = p
  · subst h; simp
  · have h' : ¬ p = q := fun e => h e.symm
    simp [h, h']
theorem wai_or {ne : Nat → Nat} {s p q : Nat} : wai ne (s ||| 2 ^ p) q ↔ q ≠ p ∧ wai ne s q := by
  show (0 < ne q ∧ bitN (s ||| 2 ^ p) q = 0) ↔ (q ≠ p ∧ 0 < ne q ∧ bitN s q = 0)
  rw [bitN_or]
  by_cases h : q = p
  · simp [h]
  · simp [h]
/-- those who wait, and their hours, from i on -/
def wcd (ne : Nat → Nat) (s : Nat) : Nat → Nat → Nat
  | 0, _ => 0
  | d + 1, i => wcd ne s d (i + 1) + (if wai ne s i then 1 else 0)
def wsd (ne : Nat → Nat) (s : Nat) : Nat → Nat → Nat
  | 0, _ => 0
  | d + 1, i => wsd ne s d (i + 1) + (if wai ne s i then ne i else 0)
theorem wsl_ex {ne : Nat → Nat} {s : Nat} : ∀ d i q, q < wcd ne s d i → ∃ p, wsl ne s d i q = some p ∧ i ≤ p ∧ p < i + d ∧ wai ne s p
  | 0, i, q, h => by simp [wcd] at h
  | d + 1, i, q, h => by
    rw [wcd] at h
    rw [wsl]
    by_cases c : wai ne s i
    · rw [if_pos c] at h
      rw [if_pos c]
      by_cases q0 : q = 0
      · rw [if_pos q0]; exact ⟨i, rfl, by omega, by omega, c⟩
      · rw [if_neg q0]
        obtain ⟨p, a, b, c', e⟩ := wsl_ex (ne := ne) (s := s) d (i + 1) (q - 1) (by omega)
        exact ⟨p, a, by omega, by omega, e⟩
    · rw [if_neg c] at h
      rw [if_neg c]
      obtain ⟨p, a, b, c', e⟩ := wsl_ex (ne := ne) (s := s) d (i + 1) q (by omega)
      exact ⟨p, a, by omega, by omega, e⟩
theorem wcd_out {ne : Nat → Nat} {s p : Nat} : ∀ d i, (p < i ∨ i + d ≤ p) → wcd ne (s ||| 2 ^ p) d i = wcd ne s d i ∧ wsd ne (s ||| 2 ^ p) d i = wsd ne s d i
  | 0, i, h => ⟨rfl, rfl⟩
  | d + 1, i, h => by
    have e := wcd_out (ne := ne) (s := s) (p := p) d (i + 1) (by omega)
    have c : wai ne (s ||| 2 ^ p) i ↔ wai ne s i := by
      rw [wai_or]
      exact ⟨fun z => z.2, fun z => ⟨by omega, z⟩⟩
    rw [wcd, wcd, wsd, wsd, e.1, e.2]
    by_cases c1 : wai ne s i
    · rw [if_pos c1, if_pos (c.mpr c1), if_pos c1, if_pos (c.mpr c1)]; exact ⟨rfl, rfl⟩
    · rw [if_neg c1, if_neg (fun z => c1 (c.mp z)), if_neg c1, if_neg (fun z => c1 (c.mp z))]; exact ⟨rfl, rfl⟩
theorem wcd_or {ne : Nat → Nat} {s p : Nat} (hp : wai ne s p) : ∀ d i, i ≤ p → p < i + d → wcd ne (s ||| 2 ^ p) d i + 1 = wcd ne s d i ∧ wsd ne (s ||| 2 ^ p) d i + ne p = wsd ne s d i
  | 0, i, h, h2 => by omega
  | d + 1, i, h, h2 => by
    rw [wcd, wcd, wsd, wsd]
    by_cases e : i = p
    · subst e
      have o := wcd_out (ne := ne) (s := s) (p := i) d (i + 1) (by omega)
      rw [o.1, o.2, if_pos hp, if_neg (fun z => (wai_or.mp z).1 rfl), if_pos hp, if_neg (fun z => (wai_or.mp z).1 rfl)]
      exact ⟨rfl, rfl⟩
    · have o := wcd_or hp d (i + 1) (by omega) (by omega)
      have c : wai ne (s ||| 2 ^ p) i ↔ wai ne s i := by
        rw [wai_or]
        exact ⟨fun z => z.2, fun z => ⟨e, z⟩⟩
      by_cases c1 : wai ne s i
      · rw [if_pos c1, if_pos (c.mpr c1), if_pos c1, if_pos (c.mpr c1)]; omega
      · rw [if_neg c1, if_neg (fun z => c1 (c.mp z)), if_neg c1, if_neg (fun z => c1 (c.mp z))]; omega
theorem wcd_0 {ne : Nat → Nat} {s : Nat} : ∀ d i, wcd ne s d i = 0 → wsd ne s d i = 0
  | 0, i, _ => rfl
  | d + 1, i, h => by
    rw [wcd] at h
    rw [wsd]
    by_cases c : wai ne s i
    · rw [if_pos c] at h; omega
    · rw [if_neg c] at h ⊢
      rw [wcd_0 d (i + 1) (by omega)]
theorem wcd_le {ne : Nat → Nat} {s : Nat} : ∀ d i, wcd ne s d i ≤ d
  | 0, i => by simp [wcd]
  | d + 1, i => by
    rw [wcd]
    have := wcd_le (ne := ne) (s := s) d (i + 1)
    split <;> omega
theorem wys_shift : ∀ (s j : Nat), wys j (s + 1) = (j + 1) * wys (j + 1) s
  | 0, j => by simp [wys]
  | s + 1, j => by
    rw [wys, wys_shift s j, wys, Nat.mul_assoc, show j + (s + 1 + 1) = j + 1 + (s + 1) by omega]
theorem wys_rec (idle s : Nat) : wys idle (s + 1) = (if 0 < idle then wys (idle - 1) (s + 1) else 0) + (s + 1) * wys idle s := by
  by_cases h : 0 < idle
  · rw [if_pos h]
    obtain ⟨j, rfl⟩ : ∃ j, idle = j + 1 := ⟨idle - 1, by omega⟩
    rw [Nat.add_sub_cancel, wys_shift s j]
    show wys (j + 1) s * (j + 1 + (s + 1)) = _
    rw [Nat.mul_comm, Nat.add_mul]
  · rw [if_neg h, wys, show idle = 0 by omega, Nat.zero_add, Nat.zero_add, Nat.mul_comm]
theorem wys_pos : ∀ (idle s : Nat), 0 < wys idle s
  | _, 0 => by simp [wys]
  | idle, s + 1 => by rw [wys]; exact Nat.mul_pos (wys_pos idle s) (by omega)
theorem wys_le {idle : Nat} : ∀ {s : Nat}, idle + s ≤ 32 → wys idle s ≤ 32 ^ s
  | 0, _ => by simp [wys]
  | s + 1, h => by
    rw [wys, Nat.pow_succ]
    exact Nat.mul_le_mul (wys_le (by omega)) (by omega)
theorem wys_b {idle s : Nat} (h : idle ≤ 12) (hs : s ≤ 9) : wys idle s ≤ 35184372088832 := Nat.le_trans (wys_le (by omega)) (Nat.le_trans (Nat.pow_le_pow_right (by decide) hs) (by decide))
/-- nights that begin with an hour of nobody -/
def nob (idle str : Nat) : Nat := if 0 < idle then wys (idle - 1) str else 0
/-- how a night is told by its number -/
def nrun (ne : Nat → Nat) (n hour : Nat) : Nat → Nat → Nat → Nat → Nat → Nat → Option Nat → Option Nat
  | 0, _, _, _, _, _, who => who
  | f + 1, idle, str, slept, left, next, who => if hour < next then who else if left < nob idle str then nrun ne n hour f (idle - 1) str slept left (next + 1) none else match wsl ne slept n 0 ((left - nob idle str) / wys idle (str - 1)) with
    | some p => nrun ne n hour f idle (str - 1) (slept ||| 2 ^ p) ((left - nob idle str) % wys idle (str - 1)) (next + ne p) (some p)
    | none => none
def ninv (ne : Nat → Nat) (n idle str slept left next : Nat) : Prop := left < wys idle str ∧ str = wcd ne slept n 0 ∧ next + idle + wsd ne slept n 0 = 12 ∧ slept < 512
theorem nstep1 {ne : Nat → Nat} {n idle str slept left next : Nat} (h : ninv ne n idle str slept left next) (hl : left < nob idle str) : 0 < idle ∧ ninv ne n (idle - 1) str slept left (next + 1) := by
  unfold nob at hl
  by_cases c : 0 < idle
  · rw [if_pos c] at hl
    obtain ⟨h1, h2, h3, h4⟩ := h
    exact ⟨c, hl, h2, by omega, h4⟩
  · rw [if_neg c] at hl; omega
theorem nstep2 {ne : Nat → Nat} {n idle str slept left next : Nat} (hn : n ≤ 9) (hx : next < 12) (h : ninv ne n idle str slept left next) (hl : ¬ left < nob idle str) : 1 ≤ str ∧ nob idle str ≤ left ∧ ∃ p, wsl ne slept n 0 ((left - nob idle str) / wys idle (str - 1)) = some p ∧ p < n ∧ wai ne slept p ∧ ninv ne n idle (str - 1) (slept ||| 2 ^ p) ((left - nob idle str) % wys idle (str - 1)) (next + ne p) := by
  obtain ⟨h1, h2, h3, h4⟩ := h
  cases str with
  | zero =>
    exfalso
    unfold nob at hl
    by_cases c : 0 < idle
    · rw [if_pos c] at hl; simp [wys] at h1 hl; omega
    · -- nothing is left
      have := wcd_0 n 0 h2.symm
      omega
  | succ s =>
    have e := wys_rec idle s
    have hp := wys_pos idle s
    have e' : wys idle (s + 1) = nob idle (s + 1) + (s + 1) * wys idle s := e
    rw [e'] at h1
    have hq : (left - nob idle (s + 1)) / wys idle s < s + 1 := by
      rw [Nat.div_lt_iff_lt_mul hp]; omega
    rw [Nat.add_sub_cancel]
    obtain ⟨p, a1, a2, a3, a4⟩ := wsl_ex (ne := ne) (s := slept) n 0 _ (Nat.lt_of_lt_of_eq hq h2)
    have o := wcd_or a4 n 0 (by omega) (by omega)
    refine ⟨by omega, by omega, p, a1, by omega, a4, Nat.mod_lt _ hp, by omega, by omega, or_lt h4 (by omega)⟩
theorem m1_n {a : Nat} (ha : a < 2147483648) : ¬ nI a = -(nI 1) := fun e => (m1_ne ha).mp e
section NIGHTS3
variable {b : mzB} {Q : mzQ} {g : mzG} {w : Nat} {v : Nat → Int32} {A : Nat → Nat → Int32}
theorem s_nsl_loop {n hour : Nat} {x1 : Int64} {ne : Nat → Nat} (hW : wt g w v A) (hv : v 0 = nI n) (hn : n ≤ 9) (hne : ∀ i, i < n → A 2 i = nI (ne i) ∧ ne i ≤ 12) (hh : hour < 12) (R : Int32) (hQ : Q (some (.int R)) g) : ∀ (d k idle str slept left next : Nat) (who : Option Nat) (x12 x13 x14 x15 : Value), k + d = 12 → ninv ne n idle str slept left next → oI (nrun ne n hour d idle str slept left next who) = R → wp 36 b 27 [.ref w, .long x1, .null, .int (nI hour), .int (nI idle), .int (nI str), .int (nI slept), .long (lN left), .null, .int (nI next), .int (oI who), .int (nI k), x12, x13, x14, x15] [] g Q := by
  intro d
  induction d with
  | zero =>
    intro k idle str slept left next who x12 x13 x14 x15 hk hi hR
    rw [nrun] at hR
    subst hR
    rw [q_X4_sleeper_27]
    simp (disch := omega) only [q_X4_sleeper_29, q_X4_sleeper_31, q_X4_sleeper_180, q_X4_sleeper_182, hv, y_is, y_gf, y_pf, y_f0, y_f1, y_f3, y_nI, y_nK, y_nZ, y_nL, y_nR, y_k1i, y_k1r, y_k1l, y_k1n, y_tl, y_tn, y_s, y_ss, List.getElem?_cons_zero, List.getElem?_cons_succ, List.set_cons_zero, List.set_cons_succ, List.length_cons, List.length_nil, true_and, and_true, y_lIn, y_lKn, y_lZn, y_lLn, y_wIn, y_wZn, y_wLn, lit, le_n, lt_n, eq_n, lit, litL, le_n, lt_n, eq_n, nI_add, m_neg, pk_sub, pk_mul, i_l, l_i, l_add, l_mul, l_sub, lc_le, lc_ge, lc_lt, lc_gt, lc_eq, l_rem2, l_rem3, i_rem2, i_rem3]
    exact br1 (by omega) hQ
  | succ d ih =>
    intro k idle str slept left next who x12 x13 x14 x15 hk hi hR
    rw [nrun] at hR
    obtain ⟨i1, i2, i3, i4⟩ := id hi
    have hsl := wcd_le (ne := ne) (s := slept) n 0
    have hb1 := wys_b (idle := idle) (s := str) (by omega) (by omega)
    rw [q_X4_sleeper_27]
    simp (disch := omega) only [q_X4_sleeper_29, q_X4_sleeper_31, q_X4_sleeper_34, q_X4_sleeper_36, q_X4_sleeper_37, hv, y_is, y_gf, y_pf, y_f0, y_f1, y_f3, y_nI, y_nK, y_nZ, y_nL, y_nR, y_k1i, y_k1r, y_k1l, y_k1n, y_tl, y_tn, y_s, y_ss, List.getElem?_cons_zero, List.getElem?_cons_succ, List.set_cons_zero, List.set_cons_succ, List.length_cons, List.length_nil, true_and, and_true, y_lIn, y_lKn, y_lZn, y_lLn, y_wIn, y_wZn, y_wLn, lit, le_n, lt_n, eq_n, lit, litL, le_n, lt_n, eq_n, nI_add, m_neg, pk_sub, pk_mul, i_l, l_i, l_add, l_mul, l_sub, lc_le, lc_ge, lc_lt, lc_gt, lc_eq, l_rem2, l_rem3, i_rem2, i_rem3]
    refine br0 (by omega) (brs (fun c => ?_) (fun c => ?_))
    · rw [if_pos c] at hR
      subst hR
      simp only [q_X4_sleeper_180, q_X4_sleeper_182, y_is, y_gf, y_pf, y_f0, y_f1, y_f3, y_nI, y_nK, y_nZ, y_nL, y_nR, y_k1i, y_k1r, y_k1l, y_k1n, y_tl, y_tn, y_s, y_ss, List.getElem?_cons_zero, List.getElem?_cons_succ, List.set_cons_zero, List.set_cons_succ, List.length_cons, List.length_nil, true_and, and_true]
      exact hQ
    · rw [if_neg c] at hR
      have key : wp 36 b 58 [.ref w, .long x1, .null, .int (nI hour), .int (nI idle), .int (nI str), .int (nI slept), .long (lN left), .null, .int (nI next), .int (oI who), .int (nI k), x12, x13, x14, x15] [.long (lN (nob idle str))] g Q := by
        have hnb : nob idle str ≤ 35184372088832 := by
          unfold nob
          split
          · exact wys_b (by omega) (by omega)
          · omega
        by_cases hl : left < nob idle str
        · rw [if_pos hl] at hR
          obtain ⟨j1, j2⟩ := nstep1 hi hl
          simp (disch := omega) only [q_X4_sleeper_58, q_X4_sleeper_60, q_X4_sleeper_62, q_X4_sleeper_64, q_X4_sleeper_65, y_is, y_gf, y_pf, y_f0, y_f1, y_f3, y_nI, y_nK, y_nZ, y_nL, y_nR, y_k1i, y_k1r, y_k1l, y_k1n, y_tl, y_tn, y_s, y_ss, List.getElem?_cons_zero, List.getElem?_cons_succ, List.set_cons_zero, List.set_cons_succ, List.length_cons, List.length_nil, true_and, and_true, lit, litL, lc_ge]
          refine br0 (by omega) ?_
          simp (disch := omega) only [q_X4_sleeper_68, q_X4_sleeper_69, q_X4_sleeper_71, q_X4_sleeper_74, q_X4_sleeper_77, q_X4_sleeper_174, q_X4_sleeper_177, y_is, y_gf, y_pf, y_f0, y_f1, y_f3, y_nI, y_nK, y_nZ, y_nL, y_nR, y_k1i, y_k1r, y_k1l, y_k1n, y_tl, y_tn, y_s, y_ss, List.getElem?_cons_zero, List.getElem?_cons_succ, List.set_cons_zero, List.set_cons_succ, List.length_cons, List.length_nil, true_and, and_true, lit, m_neg, pk_sub, nI_add]
          exact ih (k + 1) (idle - 1) str slept left (next + 1) none _ _ _ _ (by omega) j2 hR
        · rw [if_neg hl] at hR
          obtain ⟨j1, j2, p, j3, j4, j5, j6⟩ := nstep2 hn (by omega) hi hl
          rw [j3] at hR
          simp (disch := omega) only [q_X4_sleeper_58, q_X4_sleeper_60, q_X4_sleeper_62, q_X4_sleeper_64, q_X4_sleeper_65, y_is, y_gf, y_pf, y_f0, y_f1, y_f3, y_nI, y_nK, y_nZ, y_nL, y_nR, y_k1i, y_k1r, y_k1l, y_k1n, y_tl, y_tn, y_s, y_ss, List.getElem?_cons_zero, List.getElem?_cons_succ, List.set_cons_zero, List.set_cons_succ, List.length_cons, List.length_nil, true_and, and_true, lit, litL, lc_ge]
          refine br1 (by omega) ?_
          simp (disch := omega) only [q_X4_sleeper_80, q_X4_sleeper_82, q_X4_sleeper_83, q_X4_sleeper_84, q_X4_sleeper_86, y_is, y_gf, y_pf, y_f0, y_f1, y_f3, y_nI, y_nK, y_nZ, y_nL, y_nR, y_k1i, y_k1r, y_k1l, y_k1n, y_tl, y_tn, y_s, y_ss, List.getElem?_cons_zero, List.getElem?_cons_succ, List.set_cons_zero, List.set_cons_succ, List.length_cons, List.length_nil, true_and, and_true, lit, pk_sub]
          refine s_ways (by omega) (by omega) ?_
          have e1 := wys_pos idle (str - 1)
          have e2 := wys_b (idle := idle) (s := str - 1) (by omega) (by omega)
          generalize hE : wys idle (str - 1) = E at e1 e2 j3 j6 hR ⊢
          simp (disch := omega) only [q_X4_sleeper_89, q_X4_sleeper_91, q_X4_sleeper_93, q_X4_sleeper_95, q_X4_sleeper_96, q_X4_sleeper_98, q_X4_sleeper_99, q_X4_sleeper_101, q_X4_sleeper_103, q_X4_sleeper_104, q_X4_sleeper_105, y_is, y_gf, y_pf, y_f0, y_f1, y_f3, y_nI, y_nK, y_nZ, y_nL, y_nR, y_k1i, y_k1r, y_k1l, y_k1n, y_tl, y_tn, y_s, y_ss, List.getElem?_cons_zero, List.getElem?_cons_succ, List.set_cons_zero, List.set_cons_succ, List.length_cons, List.length_nil, true_and, and_true, lit, litL, l_sub, lc_ge]
          refine br1 (by omega) ?_
          simp (disch := omega) only [q_X4_sleeper_112, q_X4_sleeper_114, q_X4_sleeper_116, q_X4_sleeper_117, y_is, y_gf, y_pf, y_f0, y_f1, y_f3, y_nI, y_nK, y_nZ, y_nL, y_nR, y_k1i, y_k1r, y_k1l, y_k1n, y_tl, y_tn, y_s, y_ss, List.getElem?_cons_zero, List.getElem?_cons_succ, List.set_cons_zero, List.set_cons_succ, List.length_cons, List.length_nil, true_and, and_true, lit, litL, l_eq, l_div]
          refine ⟨by omega, s_wsl hW hv hn hne i4 (Nat.lt_of_le_of_lt (Nat.div_le_self _ _) (by omega)) ?_⟩
          rw [j3]
          obtain ⟨k1, k2⟩ := hne p j4
          simp (disch := omega) only [q_X4_sleeper_120, q_X4_sleeper_122, q_X4_sleeper_124, q_X4_sleeper_125, q_X4_sleeper_126, y_is, y_gf, y_pf, y_f0, y_f1, y_f3, y_nI, y_nK, y_nZ, y_nL, y_nR, y_k1i, y_k1r, y_k1l, y_k1n, y_tl, y_tn, y_s, y_ss, List.getElem?_cons_zero, List.getElem?_cons_succ, List.set_cons_zero, List.set_cons_succ, List.length_cons, List.length_nil, true_and, and_true, lit, litL, oI, lc_ge]
          refine br1 (by omega) ?_
          simp (disch := omega) only [q_X4_sleeper_133, q_X4_sleeper_135, q_X4_sleeper_137, q_X4_sleeper_138, q_X4_sleeper_140, q_X4_sleeper_143, q_X4_sleeper_145, q_X4_sleeper_146, y_is, y_gf, y_pf, y_f0, y_f1, y_f3, y_nI, y_nK, y_nZ, y_nL, y_nR, y_k1i, y_k1r, y_k1l, y_k1n, y_tl, y_tn, y_s, y_ss, List.getElem?_cons_zero, List.getElem?_cons_succ, List.set_cons_zero, List.set_cons_succ, List.length_cons, List.length_nil, true_and, and_true, lit, litL, l_eq, l_rem, l_rem2, l_rem3, m_neg, pk_sub]
          refine ⟨by omega, br1 (m1_n (by omega)) ?_⟩
          simp (disch := omega) only [q_X4_sleeper_151, q_X4_sleeper_153, q_X4_sleeper_154, q_X4_sleeper_156, q_X4_sleeper_157, q_X4_sleeper_158, q_X4_sleeper_160, q_X4_sleeper_162, q_X4_sleeper_163, q_X4_sleeper_166, q_X4_sleeper_167, q_X4_sleeper_168, q_X4_sleeper_170, q_X4_sleeper_171, q_X4_sleeper_172, q_X4_sleeper_174, q_X4_sleeper_177, hW.1, hW.2.1, hW.2.2.1, y_is, y_gf, y_pf, y_f0, y_f1, y_f3, y_nI, y_nK, y_nZ, y_nL, y_nR, y_k1i, y_k1r, y_k1l, y_k1n, y_tl, y_tn, y_s, y_ss, List.getElem?_cons_zero, List.getElem?_cons_succ, List.set_cons_zero, List.set_cons_succ, List.length_cons, List.length_nil, true_and, and_true, y_lIn, y_lKn, y_lZn, y_lLn, y_wIn, y_wZn, y_wLn, lit, le_n, lt_n, eq_n, lit, y_row, k1, i_or, nI_add]
          exact ih (k + 1) idle (str - 1) (slept ||| 2 ^ p) ((left - nob idle str) % E) (next + ne p) (some p) _ _ _ _ (by omega) j6 hR
      simp (disch := omega) only [q_X4_sleeper_40, q_X4_sleeper_42, y_is, y_gf, y_pf, y_f0, y_f1, y_f3, y_nI, y_nK, y_nZ, y_nL, y_nR, y_k1i, y_k1r, y_k1l, y_k1n, y_tl, y_tn, y_s, y_ss, List.getElem?_cons_zero, List.getElem?_cons_succ, List.set_cons_zero, List.set_cons_succ, List.length_cons, List.length_nil, true_and, and_true, lit, le_n]
      refine brs (fun z => ?_) (fun z => ?_)
      · simp (disch := omega) only [q_X4_sleeper_57, y_is, y_gf, y_pf, y_f0, y_f1, y_f3, y_nI, y_nK, y_nZ, y_nL, y_nR, y_k1i, y_k1r, y_k1l, y_k1n, y_tl, y_tn, y_s, y_ss, List.getElem?_cons_zero, List.getElem?_cons_succ, List.set_cons_zero, List.set_cons_succ, List.length_cons, List.length_nil, true_and, and_true, litL]
        rw [show nob idle str = 0 by unfold nob; rw [if_neg (by omega)]] at key
        exact key
      · simp (disch := omega) only [q_X4_sleeper_45, q_X4_sleeper_47, q_X4_sleeper_49, q_X4_sleeper_50, q_X4_sleeper_51, y_is, y_gf, y_pf, y_f0, y_f1, y_f3, y_nI, y_nK, y_nZ, y_nL, y_nR, y_k1i, y_k1r, y_k1l, y_k1n, y_tl, y_tn, y_s, y_ss, List.getElem?_cons_zero, List.getElem?_cons_succ, List.set_cons_zero, List.set_cons_succ, List.length_cons, List.length_nil, true_and, and_true, lit, pk_sub]
        refine s_ways (by omega) (by omega) ?_
        simp (disch := omega) only [q_X4_sleeper_54, y_is, y_gf, y_pf, y_f0, y_f1, y_f3, y_nI, y_nK, y_nZ, y_nL, y_nR, y_k1i, y_k1r, y_k1l, y_k1n, y_tl, y_tn, y_s, y_ss, List.getElem?_cons_zero, List.getElem?_cons_succ, List.set_cons_zero, List.set_cons_succ, List.length_cons, List.length_nil, true_and, and_true]
        rw [show nob idle str = wys (idle - 1) str by unfold nob; rw [if_pos (by omega)]] at key
        exact key
theorem ninv_0 {ne : Nat → Nat} {n i : Nat} (hs : sm ne n ≤ 12) (hi : i < wys (12 - sm ne n) (slp ne n)) : ninv ne n (12 - sm ne n) (slp ne n) 0 i 0 := by
  have b0 : ∀ p, bitN 0 p = 0 := fun p => by unfold bitN; simp
  have e : ∀ d j, j + d = n → slp ne n = slp ne j + wcd ne 0 d j ∧ sm ne n = sm ne j + wsd ne 0 d j := by
    intro d
    induction d with
    | zero => intro j hj; rw [show j = n by omega]; exact ⟨rfl, rfl⟩
    | succ d ih =>
      intro j hj
      have := ih (j + 1) (by omega)
      rw [wcd, wsd]
      have s1 : slp ne (j + 1) = slp ne j + (if 0 < ne j then 1 else 0) := rfl
      have s2 : sm ne (j + 1) = sm ne j + ne j := rfl
      have cc : wai ne 0 j ↔ 0 < ne j := ⟨fun z => z.1, fun z => ⟨z, b0 j⟩⟩
      by_cases c : 0 < ne j
      · rw [if_pos c] at s1
        rw [if_pos (cc.mpr c), if_pos (cc.mpr c)]; omega
      · rw [if_neg c] at s1
        rw [if_neg (fun z => c (cc.mp z)), if_neg (fun z => c (cc.mp z))]; omega
  have e0 := e n 0 (by omega)
  have z1 : slp ne 0 = 0 := rfl
  have z2 : sm ne 0 = 0 := rfl
  exact ⟨hi, by omega, by omega, by decide⟩
theorem s_nsl {n hour i : Nat} {ne : Nat → Nat} (hW : wt g w v A) (hv : v 0 = nI n) (hn : n ≤ 9) (hne : ∀ i, i < n → A 2 i = nI (ne i) ∧ ne i ≤ 12) (hh : hour < 12) (hs : sm ne n ≤ 12) (hi : i < wys (12 - sm ne n) (slp ne n)) (hQ : Q (some (.int (oI (nrun ne n hour 12 (12 - sm ne n) (slp ne n) 0 i 0 none)))) g) : wp 36 b 0 [.ref w, .long (lN i), .null, .int (nI hour), .null, .null, .null, .null, .null, .null, .null, .null, .null, .null, .null, .null] [] g Q := by
  simp (disch := omega) only [q_X4_sleeper_0, q_X4_sleeper_1, y_is, y_gf, y_pf, y_f0, y_f1, y_f3, y_nI, y_nK, y_nZ, y_nL, y_nR, y_k1i, y_k1r, y_k1l, y_k1n, y_tl, y_tn, y_s, y_ss, List.getElem?_cons_zero, List.getElem?_cons_succ, List.set_cons_zero, List.set_cons_succ, List.length_cons, List.length_nil, true_and, and_true]
  refine s_idle hW hv hn (fun i hi => (hne i hi).1) ?_
  simp (disch := omega) only [q_X4_sleeper_4, q_X4_sleeper_6, q_X4_sleeper_7, y_is, y_gf, y_pf, y_f0, y_f1, y_f3, y_nI, y_nK, y_nZ, y_nL, y_nR, y_k1i, y_k1r, y_k1l, y_k1n, y_tl, y_tn, y_s, y_ss, List.getElem?_cons_zero, List.getElem?_cons_succ, List.set_cons_zero, List.set_cons_succ, List.length_cons, List.length_nil, true_and, and_true, pk_sub]
  refine s_slp hW hv hn hne ?_
  simp (disch := omega) only [q_X4_sleeper_10, q_X4_sleeper_12, q_X4_sleeper_13, q_X4_sleeper_15, q_X4_sleeper_16, q_X4_sleeper_18, q_X4_sleeper_19, q_X4_sleeper_21, q_X4_sleeper_22, q_X4_sleeper_24, q_X4_sleeper_25, y_is, y_gf, y_pf, y_f0, y_f1, y_f3, y_nI, y_nK, y_nZ, y_nL, y_nR, y_k1i, y_k1r, y_k1l, y_k1n, y_tl, y_tn, y_s, y_ss, List.getElem?_cons_zero, List.getElem?_cons_succ, List.set_cons_zero, List.set_cons_succ, List.length_cons, List.length_nil, true_and, and_true, lit]
  exact s_nsl_loop hW hv hn hne hh _ hQ 12 0 _ _ 0 i 0 none _ _ _ _ (by omega) (ninv_0 hs hi) rfl
/-! the first hour that isn't lawful -/
/-- what is told, by a number: 0 nobody, else a POST and 1 -/
def tI (t : Nat) : Int32 := if t = 0 then -1 else nI (t - 1)
def jrun (ne t : Nat → Nat) : Nat → Nat → Int32 → Nat → Nat → Nat → Int32
  | 0, _, _, _, _, _ => -1
  | d + 1, k, idle, slept, sl, more =>
    if 0 < more then (if t k = sl + 1 then (if 0 ≤ idle then jrun ne t d (k + 1) idle slept sl (more - 1) else nI k) else nI k)
    else if t k = 0 then (if 0 ≤ idle + -1 then jrun ne t d (k + 1) (idle + -1) slept sl 0 else nI k)
    else if ne (t k - 1) = 0 ∨ bitN slept (t k - 1) = 1 then nI k
    else if 0 ≤ idle then jrun ne t d (k + 1) idle (slept ||| 2 ^ (t k - 1)) (t k - 1) (ne (t k - 1) - 1) else nI k
theorem tI_eq {t s : Nat} (ht : t < 1000) (hs : s < 1000) : (tI t = nI s) = (t = s + 1) := by
  unfold tI
  by_cases h : t = 0
  · rw [if_pos h]
    apply propext
    constructor
    · intro e; exact absurd e.symm (by rw [m1_ne (by omega)]; exact id)
    · intro e; omega
  · rw [if_neg h, eq_n (by omega) (by omega)]
    apply propext; omega
theorem tI_ge {t : Nat} (ht : t < 1000) : (nI 0 ≤ tI t) = (t ≠ 0) := by
  unfold tI
  by_cases h : t = 0
  · rw [if_pos h]
    apply propext
    exact ⟨fun e => absurd e (by decide), fun e => absurd h e⟩
  · rw [if_neg h, le_n (by omega) (by omega)]
    apply propext; omega
theorem tI_nn {t : Nat} (h : t ≠ 0) : tI t = nI (t - 1) := by unfold tI; rw [if_neg h]
theorem s_jud_loop {n m : Nat} {ne t : Nat → Nat} (hW : wt g w v A) (hv6 : v 6 = nI m) (hm : m ≤ 12) (hne : ∀ i, i < 9 → A 2 i = nI (ne i) ∧ ne i ≤ 12) (ht : ∀ k, k < 12 → A 8 k = tI (t k) ∧ t k ≤ 9) (R : Int32) (hQ : Q (some (.int R)) g) : ∀ (d k : Nat) (idle : Int32) (slept sl more : Nat) (x3 : Int32) (x6 : Value), k + d = m → slept < 512 → sl < 9 → more ≤ 12 → (0 < more → x3 = nI sl) → jrun ne t d k idle slept sl more = R → wp 38 b 15 [.ref w, .int idle, .int (nI slept), .int x3, .int (nI more), .int (nI k), x6] [] g Q := by
  have hW' := hW
  obtain ⟨h0, h1, h2, -, -, -, h8, -⟩ := hW
  intro d
  induction d with
  | zero =>
    intro k idle slept sl more x3 x6 hk hsl hs hmo hx hR
    rw [jrun] at hR
    subst hR
    rw [q_X4_firstUnlawful_15]
    simp (disch := omega) only [q_X4_firstUnlawful_17, q_X4_firstUnlawful_18, q_X4_firstUnlawful_21, q_X4_firstUnlawful_125, q_X4_firstUnlawful_126, h0, hv6, y_is, y_gf, y_pf, y_f0, y_f1, y_f3, y_nI, y_nK, y_nZ, y_nL, y_nR, y_k1i, y_k1r, y_k1l, y_k1n, y_tl, y_tn, y_s, y_ss, List.getElem?_cons_zero, List.getElem?_cons_succ, List.set_cons_zero, List.set_cons_succ, List.length_cons, List.length_nil, true_and, and_true, y_lIn, y_lKn, y_lZn, y_lLn, y_wIn, y_wZn, y_wLn, lit, le_n, lt_n, eq_n, lit, litL, le_n, lt_n, eq_n, nI_add, m_neg, pk_sub, pk_mul, i_l, l_i, l_add, l_mul, l_sub, lc_le, lc_ge, lc_lt, lc_gt, lc_eq, l_rem2, l_rem3, i_rem2, i_rem3]
    exact br1 (by omega) hQ
  | succ d ih =>
    intro k idle slept sl more x3 x6 hk hsl hs hmo hx hR
    rw [jrun] at hR
    obtain ⟨e1, e2⟩ := ht k (by omega)
    have nd : ∀ x6 idle slept sl more x3, slept < 512 → sl < 9 → more ≤ 12 → (0 < more → x3 = nI sl) → (if 0 ≤ idle then jrun ne t d (k + 1) idle slept sl more else nI k) = R → wp 38 b 112 [.ref w, .int idle, .int (nI slept), .int x3, .int (nI more), .int (nI k), .int x6] [] g Q := by
      intro x6 idle slept sl more x3 q1 q2 q3 q4 q5
      simp (disch := omega) only [q_X4_firstUnlawful_112, q_X4_firstUnlawful_113, y_is, y_gf, y_pf, y_f0, y_f1, y_f3, y_nI, y_nK, y_nZ, y_nL, y_nR, y_k1i, y_k1r, y_k1l, y_k1n, y_tl, y_tn, y_s, y_ss, List.getElem?_cons_zero, List.getElem?_cons_succ, List.set_cons_zero, List.set_cons_succ, List.length_cons, List.length_nil, true_and, and_true]
      refine brs (fun z => ?_) (fun z => ?_)
      · rw [if_pos z] at q5
        simp (disch := omega) only [q_X4_firstUnlawful_119, q_X4_firstUnlawful_122, y_is, y_gf, y_pf, y_f0, y_f1, y_f3, y_nI, y_nK, y_nZ, y_nL, y_nR, y_k1i, y_k1r, y_k1l, y_k1n, y_tl, y_tn, y_s, y_ss, List.getElem?_cons_zero, List.getElem?_cons_succ, List.set_cons_zero, List.set_cons_succ, List.length_cons, List.length_nil, true_and, and_true, lit, nI_add]
        exact ih (k + 1) idle slept sl more x3 _ (by omega) q1 q2 q3 q4 q5
      · rw [if_neg z] at q5
        subst q5
        simp (disch := omega) only [q_X4_firstUnlawful_116, q_X4_firstUnlawful_118, y_is, y_gf, y_pf, y_f0, y_f1, y_f3, y_nI, y_nK, y_nZ, y_nL, y_nR, y_k1i, y_k1r, y_k1l, y_k1n, y_tl, y_tn, y_s, y_ss, List.getElem?_cons_zero, List.getElem?_cons_succ, List.set_cons_zero, List.set_cons_succ, List.length_cons, List.length_nil, true_and, and_true]
        exact hQ
    rw [q_X4_firstUnlawful_15]
    simp (disch := omega) only [q_X4_firstUnlawful_17, q_X4_firstUnlawful_18, q_X4_firstUnlawful_21, q_X4_firstUnlawful_24, q_X4_firstUnlawful_25, q_X4_firstUnlawful_28, q_X4_firstUnlawful_30, q_X4_firstUnlawful_31, q_X4_firstUnlawful_33, q_X4_firstUnlawful_35, h0, hv6, h8, e1, y_is, y_gf, y_pf, y_f0, y_f1, y_f3, y_nI, y_nK, y_nZ, y_nL, y_nR, y_k1i, y_k1r, y_k1l, y_k1n, y_tl, y_tn, y_s, y_ss, List.getElem?_cons_zero, List.getElem?_cons_succ, List.set_cons_zero, List.set_cons_succ, List.length_cons, List.length_nil, true_and, and_true, y_lIn, y_lKn, y_lZn, y_lLn, y_wIn, y_wZn, y_wLn, lit, le_n, lt_n, eq_n, lit, litL, le_n, lt_n, eq_n, nI_add, m_neg, pk_sub, pk_mul, i_l, l_i, l_add, l_mul, l_sub, lc_le, lc_ge, lc_lt, lc_gt, lc_eq, l_rem2, l_rem3, i_rem2, i_rem3]
    refine br0 (by omega) (brs (fun c => ?_) (fun c => ?_))
    · rw [if_neg (by omega)] at hR
      simp (disch := omega) only [q_X4_firstUnlawful_53, q_X4_firstUnlawful_55, y_is, y_gf, y_pf, y_f0, y_f1, y_f3, y_nI, y_nK, y_nZ, y_nL, y_nR, y_k1i, y_k1r, y_k1l, y_k1n, y_tl, y_tn, y_s, y_ss, List.getElem?_cons_zero, List.getElem?_cons_succ, List.set_cons_zero, List.set_cons_succ, List.length_cons, List.length_nil, true_and, and_true, lit, tI_ge]
      refine brs (fun z => ?_) (fun z => ?_)
      · rw [if_neg z] at hR
        rw [tI_nn z]
        obtain ⟨f1, f2⟩ := hne (t k - 1) (by omega)
        have hbl := bit_lt slept (t k - 1)
        simp (disch := omega) only [q_X4_firstUnlawful_64, q_X4_firstUnlawful_65, q_X4_firstUnlawful_68, q_X4_firstUnlawful_69, q_X4_firstUnlawful_70, q_X4_firstUnlawful_72, q_X4_firstUnlawful_73, h0, h1, h2, y_is, y_gf, y_pf, y_f0, y_f1, y_f3, y_nI, y_nK, y_nZ, y_nL, y_nR, y_k1i, y_k1r, y_k1l, y_k1n, y_tl, y_tn, y_s, y_ss, List.getElem?_cons_zero, List.getElem?_cons_succ, List.set_cons_zero, List.set_cons_succ, List.length_cons, List.length_nil, true_and, and_true, y_lIn, y_lKn, y_lZn, y_lLn, y_wIn, y_wZn, y_wLn, lit, le_n, lt_n, eq_n, lit, y_row, f1]
        refine brs (fun y => ?_) (fun y => ?_)
        · rw [if_pos (Or.inl y)] at hR
          subst hR
          simp (disch := omega) only [q_X4_firstUnlawful_86, q_X4_firstUnlawful_88, y_is, y_gf, y_pf, y_f0, y_f1, y_f3, y_nI, y_nK, y_nZ, y_nL, y_nR, y_k1i, y_k1r, y_k1l, y_k1n, y_tl, y_tn, y_s, y_ss, List.getElem?_cons_zero, List.getElem?_cons_succ, List.set_cons_zero, List.set_cons_succ, List.length_cons, List.length_nil, true_and, and_true]
          exact hQ
        · simp (disch := omega) only [q_X4_firstUnlawful_76, q_X4_firstUnlawful_77, q_X4_firstUnlawful_79, q_X4_firstUnlawful_80, q_X4_firstUnlawful_81, q_X4_firstUnlawful_82, q_X4_firstUnlawful_83, y_is, y_gf, y_pf, y_f0, y_f1, y_f3, y_nI, y_nK, y_nZ, y_nL, y_nR, y_k1i, y_k1r, y_k1l, y_k1n, y_tl, y_tn, y_s, y_ss, List.getElem?_cons_zero, List.getElem?_cons_succ, List.set_cons_zero, List.set_cons_succ, List.length_cons, List.length_nil, true_and, and_true, lit, i_bit, eq_n]
          by_cases u : bitN slept (t k - 1) = 1
          · rw [bnt u]
            rw [if_pos (Or.inr u)] at hR
            subst hR
            simp (disch := omega) only [q_X4_firstUnlawful_86, q_X4_firstUnlawful_88, y_is, y_gf, y_pf, y_f0, y_f1, y_f3, y_nI, y_nK, y_nZ, y_nL, y_nR, y_k1i, y_k1r, y_k1l, y_k1n, y_tl, y_tn, y_s, y_ss, List.getElem?_cons_zero, List.getElem?_cons_succ, List.set_cons_zero, List.set_cons_succ, List.length_cons, List.length_nil, true_and, and_true]
            exact hQ
          · rw [bnf u]
            rw [if_neg (by omega)] at hR
            simp (disch := omega) only [q_X4_firstUnlawful_89, q_X4_firstUnlawful_91, q_X4_firstUnlawful_92, q_X4_firstUnlawful_93, q_X4_firstUnlawful_94, q_X4_firstUnlawful_96, q_X4_firstUnlawful_97, q_X4_firstUnlawful_98, q_X4_firstUnlawful_99, q_X4_firstUnlawful_100, q_X4_firstUnlawful_103, q_X4_firstUnlawful_104, q_X4_firstUnlawful_105, q_X4_firstUnlawful_107, q_X4_firstUnlawful_108, q_X4_firstUnlawful_109, q_X4_firstUnlawful_110, h0, h1, h2, y_is, y_gf, y_pf, y_f0, y_f1, y_f3, y_nI, y_nK, y_nZ, y_nL, y_nR, y_k1i, y_k1r, y_k1l, y_k1n, y_tl, y_tn, y_s, y_ss, List.getElem?_cons_zero, List.getElem?_cons_succ, List.set_cons_zero, List.set_cons_succ, List.length_cons, List.length_nil, true_and, and_true, y_lIn, y_lKn, y_lZn, y_lLn, y_wIn, y_wZn, y_wLn, lit, le_n, lt_n, eq_n, lit, y_row, f1, i_or, pk_sub]
            exact nd _ idle _ _ _ _ (or_lt hsl (by omega)) (by omega) (by omega) (fun _ => rfl) hR
      · have z : t k = 0 := Classical.not_not.mp z
        rw [if_pos z] at hR
        have hm0 : more = 0 := by omega
        subst hm0
        simp (disch := omega) only [q_X4_firstUnlawful_58, q_X4_firstUnlawful_61, y_is, y_gf, y_pf, y_f0, y_f1, y_f3, y_nI, y_nK, y_nZ, y_nL, y_nR, y_k1i, y_k1r, y_k1l, y_k1n, y_tl, y_tn, y_s, y_ss, List.getElem?_cons_zero, List.getElem?_cons_succ, List.set_cons_zero, List.set_cons_succ, List.length_cons, List.length_nil, true_and, and_true]
        exact nd _ (idle + -1) slept sl 0 x3 hsl hs (by omega) (fun z => absurd z (by decide)) hR
    · rw [if_pos (by omega)] at hR
      have hx := hx (by omega)
      subst hx
      simp (disch := omega) only [q_X4_firstUnlawful_38, q_X4_firstUnlawful_40, q_X4_firstUnlawful_41, y_is, y_gf, y_pf, y_f0, y_f1, y_f3, y_nI, y_nK, y_nZ, y_nL, y_nR, y_k1i, y_k1r, y_k1l, y_k1n, y_tl, y_tn, y_s, y_ss, List.getElem?_cons_zero, List.getElem?_cons_succ, List.set_cons_zero, List.set_cons_succ, List.length_cons, List.length_nil, true_and, and_true, tI_eq]
      refine brs (fun z => ?_) (fun z => ?_)
      · rw [if_pos z] at hR
        simp (disch := omega) only [q_X4_firstUnlawful_47, q_X4_firstUnlawful_50, y_is, y_gf, y_pf, y_f0, y_f1, y_f3, y_nI, y_nK, y_nZ, y_nL, y_nR, y_k1i, y_k1r, y_k1l, y_k1n, y_tl, y_tn, y_s, y_ss, List.getElem?_cons_zero, List.getElem?_cons_succ, List.set_cons_zero, List.set_cons_succ, List.length_cons, List.length_nil, true_and, and_true, lit, m_neg, pk_sub]
        exact nd _ idle slept sl (more - 1) _ hsl hs (by omega) (fun _ => rfl) hR
      · rw [if_neg z] at hR
        subst hR
        simp (disch := omega) only [q_X4_firstUnlawful_44, q_X4_firstUnlawful_46, y_is, y_gf, y_pf, y_f0, y_f1, y_f3, y_nI, y_nK, y_nZ, y_nL, y_nR, y_k1i, y_k1r, y_k1l, y_k1n, y_tl, y_tn, y_s, y_ss, List.getElem?_cons_zero, List.getElem?_cons_succ, List.set_cons_zero, List.set_cons_succ, List.length_cons, List.length_nil, true_and, and_true]
        exact hQ
theorem s_jud {n m : Nat} {ne t : Nat → Nat} (hW : wt g w v A) (hv : v 0 = nI n) (hn : n ≤ 9) (hv6 : v 6 = nI m) (hm : m ≤ 12) (hne : ∀ i, i < 9 → A 2 i = nI (ne i) ∧ ne i ≤ 12) (ht : ∀ k, k < 12 → A 8 k = tI (t k) ∧ t k ≤ 9) (hQ : Q (some (.int (jrun ne t m 0 (nI 12 - nI (sm ne n)) 0 0 0))) g) : wp 38 b 0 [.ref w, .null, .null, .null, .null, .null, .null] [] g Q := by
  simp (disch := omega) only [q_X4_firstUnlawful_0, q_X4_firstUnlawful_1, y_is, y_gf, y_pf, y_f0, y_f1, y_f3, y_nI, y_nK, y_nZ, y_nL, y_nR, y_k1i, y_k1r, y_k1l, y_k1n, y_tl, y_tn, y_s, y_ss, List.getElem?_cons_zero, List.getElem?_cons_succ, List.set_cons_zero, List.set_cons_succ, List.length_cons, List.length_nil, true_and, and_true]
  refine s_idle hW hv hn (fun i hi => (hne i (by omega)).1) ?_
  simp (disch := omega) only [q_X4_firstUnlawful_4, q_X4_firstUnlawful_5, q_X4_firstUnlawful_6, q_X4_firstUnlawful_7, q_X4_firstUnlawful_8, q_X4_firstUnlawful_9, q_X4_firstUnlawful_10, q_X4_firstUnlawful_12, q_X4_firstUnlawful_13, y_is, y_gf, y_pf, y_f0, y_f1, y_f3, y_nI, y_nK, y_nZ, y_nL, y_nR, y_k1i, y_k1r, y_k1l, y_k1n, y_tl, y_tn, y_s, y_ss, List.getElem?_cons_zero, List.getElem?_cons_succ, List.set_cons_zero, List.set_cons_succ, List.length_cons, List.length_nil, true_and, and_true, lit]
  exact s_jud_loop (n := n) hW hv6 hm hne ht _ hQ m 0 _ 0 0 0 _ _ (by omega) (by decide) (by decide) (by decide) (fun h => absurd h (by decide)) rfl
end NIGHTS3
