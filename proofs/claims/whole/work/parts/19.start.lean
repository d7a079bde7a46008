/-! THE CLAIM OUT OF ONE WALK OF THE LAW'S BODY. Your part is whole_start (and what it stands on); all else here is the same for every law, but numbers. -/
def R_law : String := "WatchSleepLaw"
def lw_P (b : Addr) (xs : List Int32) (args : Array Value) (s : State) : Prop := args = #[.ref b] ∧ s.IntsAt b xs ∧ xs.length ≤ 2560 ∧ (Jvm.Cond.and given_1 narrow_1).before args s = true
def lw_Q (_ : Array Value) (s : State) (o : Outcome) (t : State) : Prop := o = .returned (some (.int 1)) ∧ Framed s o t [] 600000 7302250
def lw_Z (below : List Frame) (a : Array Value) (s : State) : State → Prop := fun t => ∃ o, t.status = .running ∧ Ended t below o ∧ lw_Q a s o t
/-- the law's own end, with 1 on the stack, nothing written that was there before, its room as the claim has it -/
theorem lw_ret {p : Program} {l : Launch} {e : Env} {s : State} {m : MethodId} {below : List Frame} {meth : Method} {c : Code} {b : Nat} (hx : p.tables.exec = Jvm.exec) (hb : c.code = code) (hr : meth.sig.returnType = ret) (hlocks : meth.locks = false) {pc : Nat} {H : Heap} {ls : Array Slot} (hdg : decode code pc = .ok (.ireturn, 1)) : W p l e room_1 s m #[Value.ref b] below meth c H [] 600000 7302250 (lw_Z below #[Value.ref b] s) (F0 m pc ls [.int 1]) := by
  intro T hT X
  obtain ⟨fs, hret, hrun, hended, hW, hframe⟩ := X.leave (v := some (.int 1)) (hlocks := hlocks) (fun h => by rw [hr] at h; cases h)
  have hmeth' : T.vm.method? m = some meth := X.method'
  refine ⟨T.setFrames fs, ?_, .returned (some (.int 1)), hrun, hended, rfl, ⟨_, rfl⟩, hW, hframe⟩
  jvm_step X.here [X.here.top, hx, hb, hdg, hmeth', hr, ret, narrow_b1]
  (try refine ⟨rfl, ?_⟩); (try refine ⟨rfl, ?_⟩)
  first | (intro acts; rw [hret _ acts rfl rfl rfl]) | rw [hret _ _ rfl rfl rfl]
  exact Steps.refl _
/-- what holds at the law's entry: the machine, the code, the tables' words (any of lw_tbl by 'hts w (by decide +kernel)'), the script of L ints xs at the cell b, what the Statement gives of the start (any of its parts by flat_of_before) -/
def lw_At (p : Program) (s : State) (m : MethodId) (meth : Method) (c : Code) (b L : Nat) (xs : Nat → Int32) : Prop :=
  p.tables.exec = Jvm.exec ∧ c.code = code ∧ meth.sig.returnType = ret ∧ c.maxLocals = 4 ∧ s.vm.findClass R_law = some m.cls ∧ (∀ w ∈ lw_tbl, w.before #[Value.ref b] s = true) ∧ va_X b L xs s s.heap ∧ b < s.heap.size ∧ meth.locks = false ∧ (Jvm.Cond.and given_1 narrow_1).before #[Value.ref b] s = true

/-- the texts' bytes -/
def kz_b : List (List Int32) := [[112, 111, 115, 116, 115], [119, 111, 114, 116, 104], [115, 104, 97, 114, 101], [110, 101, 101, 100]]
def kz_at : Nat → Int32 := fun j => ([10, 1, 0, 0, 0] : List Int32).getD j 0
def kz_mo : Nat → Int32 := fun j => ([99, 99, 12, 40, 40] : List Int32).getD j 0
/-- the constants' cells -/
def kz_g (L : Nat) (xs : Nat → Int32) : Nat → mzC := fun k => if k = 1000 then aK 5 kz_at else if k = 1001 then aK 5 kz_mo else if 1002 ≤ k ∧ k < 1006 then ob 700 [.ref (k + 4), .int 0] else if 1006 ≤ k ∧ k < 1010 then aY (([5, 5, 5, 4] : List Nat).getD (k - 1006) 0) (fun j => (kz_b.getD (k - 1006) []).getD j 0) else if k = 1011 then aK L xs else ob 999 []

set_option maxHeartbeats 4000000 in
set_option maxRecDepth 100000 in
theorem kz_start {p : Program} {e : Env} {s : State} {m : MethodId} {below : List Frame} {meth : Method} {c : Code} (l : Launch) {b L : Nat} {xs : Nat → Int32} (hL : L ≤ 2560) (C0 : lw_At p s m meth c b L xs) (hwp : wp 0 (600000, 7302250) 0 [.ref 1011, .null, .null, .null] [] (0, kz_g L xs) (fun rv _ => rv = some (.int 1))) : W p l e room_1 s m #[Value.ref b] below meth c s.heap [] 0 0 (lw_Z below #[Value.ref b] s) (entryFrame m ([Value.ref b] : List Value).toArray 4) := by
  obtain ⟨hx, hb, hr, hml, hown, hts, hX, hbl, hlocks, hgv⟩ := id C0
  have hA : ∀ a : Nat, a < s.heap.size → ¬ mzA s.heap.size a := fun a h => Nat.not_le.mpr h
  have hgt : ∀ w ∈ mz_gt, w.before #[Value.ref b] s = true := fun w h => hts w (List.mem_filter.mp h).1
  have hs := flat_of_before _ hgv
  obtain ⟨tA, etA, TtA⟩ := va_Tof (args := #[Value.ref b]) (s := s) (tm := .static "WatchSleep" "AT_FIRST" "[I") (ty := .int) (N := 5) (f := fun j => .int (kz_at j)) (A := mzA s.heap.size) (by decide) (hs _ (by decide +kernel)) (va_eqt (hs _ (by decide +kernel))) (fun j hj => by
    match j, hj with
    | 0, _ => exact va_eqt (z := 10) (hs _ (by decide +kernel))
    | 1, _ => exact va_eqt (z := 1) (hs _ (by decide +kernel))
    | 2, _ => exact va_eqt (z := 0) (hs _ (by decide +kernel))
    | 3, _ => exact va_eqt (z := 0) (hs _ (by decide +kernel))
    | 4, _ => exact va_eqt (z := 0) (hs _ (by decide +kernel))
    | j + 5, hj => exact absurd hj (by omega)) hA
  have ZtA := va_Zof (hts _ (List.mem_of_getElem? (i := 117) (by decide +kernel))) (hgt _ wd_1) etA hA
  obtain ⟨tM, etM, TtM⟩ := va_Tof (args := #[Value.ref b]) (s := s) (tm := .static "WatchSleep" "MOST" "[I") (ty := .int) (N := 5) (f := fun j => .int (kz_mo j)) (A := mzA s.heap.size) (by decide) (hs _ (by decide +kernel)) (va_eqt (hs _ (by decide +kernel))) (fun j hj => by
    match j, hj with
    | 0, _ => exact va_eqt (z := 99) (hs _ (by decide +kernel))
    | 1, _ => exact va_eqt (z := 99) (hs _ (by decide +kernel))
    | 2, _ => exact va_eqt (z := 12) (hs _ (by decide +kernel))
    | 3, _ => exact va_eqt (z := 40) (hs _ (by decide +kernel))
    | 4, _ => exact va_eqt (z := 40) (hs _ (by decide +kernel))
    | j + 5, hj => exact absurd hj (by omega)) hA
  have ZtM := va_Zof (hts _ (List.mem_of_getElem? (i := 410) (by decide +kernel))) (hgt _ wd_1) etM hA
  have ZC := va_Zof (C := "java/lang/String") (n := "COMPACT_STRINGS") (d := "Z") (v := .int 1) (hts _ (List.mem_of_getElem? (i := 464) (by decide +kernel))) (hgt _ wd_11) (va_eqi (hs _ (by decide +kernel))) hA
  have ZF := va_Zqof (C := "jdk/internal/util/Preconditions") (n := "SIOOBE_FORMATTER") (d := "Ljava/util/function/BiFunction;") (hts _ (List.mem_of_getElem? (i := 480) (by decide +kernel))) (hgt _ wd_13) (hs _ (by decide +kernel)) hA
  obtain ⟨vF, hvF, ZF⟩ : ∃ v, (v = .null ∨ ∃ a, v = .ref a) ∧ va_Z "jdk/internal/util/Preconditions" "SIOOBE_FORMATTER" "Ljava/util/function/BiFunction;" v (mzA s.heap.size) s s.heap := by
    rcases ZF with h | ⟨t, h⟩
    · exact ⟨_, Or.inl rfl, h⟩
    · exact ⟨_, Or.inr ⟨t, rfl⟩, h⟩
  obtain ⟨adK, adV, hStr, hev⟩ := vk_Sof (args := #[Value.ref b]) (s := s) (N := 4) (tm := (fun i => Term.string "WatchSleep$WallText" (([32, 76, 78, 80] : List Nat).getD i 0))) (len := [5, 5, 5, 4]) (byt := kz_b) (A := mzA s.heap.size) (fun i hi => by
    match i, hi with
    | 0, _ => decide
    | 1, _ => decide
    | 2, _ => decide
    | 3, _ => decide
    | i + 4, hi => exact absurd hi (by omega)) (fun i hi => by
    match i, hi with
    | 0, _ => exact hs _ (by decide +kernel)
    | 1, _ => exact hs _ (by decide +kernel)
    | 2, _ => exact hs _ (by decide +kernel)
    | 3, _ => exact hs _ (by decide +kernel)
    | i + 4, hi => exact absurd hi (by omega)) (fun i hi => by
    match i, hi with
    | 0, _ => exact hs _ (by decide +kernel)
    | 1, _ => exact hs _ (by decide +kernel)
    | 2, _ => exact hs _ (by decide +kernel)
    | 3, _ => exact hs _ (by decide +kernel)
    | i + 4, hi => exact absurd hi (by omega)) (fun i hi => by
    match i, hi with
    | 0, _ => exact hs _ (by decide +kernel)
    | 1, _ => exact hs _ (by decide +kernel)
    | 2, _ => exact hs _ (by decide +kernel)
    | 3, _ => exact hs _ (by decide +kernel)
    | i + 4, hi => exact absurd hi (by omega)) (fun i hi => by
    match i, hi with
    | 0, _ => exact hs _ (by decide +kernel)
    | 1, _ => exact hs _ (by decide +kernel)
    | 2, _ => exact hs _ (by decide +kernel)
    | 3, _ => exact hs _ (by decide +kernel)
    | i + 4, hi => exact absurd hi (by omega)) (fun i hi j hj => by
    match i, hi with
    | 0, _ =>
      have hj : j < 5 := hj
      match j, hj with
      | 0, _ => exact hs _ (by decide +kernel)
      | 1, _ => exact hs _ (by decide +kernel)
      | 2, _ => exact hs _ (by decide +kernel)
      | 3, _ => exact hs _ (by decide +kernel)
      | 4, _ => exact hs _ (by decide +kernel)
      | j + 5, hj => exact absurd hj (by omega)
    | 1, _ =>
      have hj : j < 5 := hj
      match j, hj with
      | 0, _ => exact hs _ (by decide +kernel)
      | 1, _ => exact hs _ (by decide +kernel)
      | 2, _ => exact hs _ (by decide +kernel)
      | 3, _ => exact hs _ (by decide +kernel)
      | 4, _ => exact hs _ (by decide +kernel)
      | j + 5, hj => exact absurd hj (by omega)
    | 2, _ =>
      have hj : j < 5 := hj
      match j, hj with
      | 0, _ => exact hs _ (by decide +kernel)
      | 1, _ => exact hs _ (by decide +kernel)
      | 2, _ => exact hs _ (by decide +kernel)
      | 3, _ => exact hs _ (by decide +kernel)
      | 4, _ => exact hs _ (by decide +kernel)
      | j + 5, hj => exact absurd hj (by omega)
    | 3, _ =>
      have hj : j < 4 := hj
      match j, hj with
      | 0, _ => exact hs _ (by decide +kernel)
      | 1, _ => exact hs _ (by decide +kernel)
      | 2, _ => exact hs _ (by decide +kernel)
      | 3, _ => exact hs _ (by decide +kernel)
      | j + 4, hj => exact absurd hj (by omega)
    | i + 4, hi => exact absurd hi (by omega)) (fun i j hi hj hij => by
    match i, hi, j, hj with
    | 0, _, 0, _ => exact absurd rfl hij
    | 0, _, 1, _ => exact Or.inl (hs _ (by decide +kernel))
    | 0, _, 2, _ => exact Or.inl (hs _ (by decide +kernel))
    | 0, _, 3, _ => exact Or.inl (hs _ (by decide +kernel))
    | 1, _, 0, _ => exact Or.inr (hs _ (by decide +kernel))
    | 1, _, 1, _ => exact absurd rfl hij
    | 1, _, 2, _ => exact Or.inl (hs _ (by decide +kernel))
    | 1, _, 3, _ => exact Or.inl (hs _ (by decide +kernel))
    | 2, _, 0, _ => exact Or.inr (hs _ (by decide +kernel))
    | 2, _, 1, _ => exact Or.inr (hs _ (by decide +kernel))
    | 2, _, 2, _ => exact absurd rfl hij
    | 2, _, 3, _ => exact Or.inl (hs _ (by decide +kernel))
    | 3, _, 0, _ => exact Or.inr (hs _ (by decide +kernel))
    | 3, _, 1, _ => exact Or.inr (hs _ (by decide +kernel))
    | 3, _, 2, _ => exact Or.inr (hs _ (by decide +kernel))
    | 3, _, 3, _ => exact absurd rfl hij
    | i + 4, hi, _, _ => exact absurd hi (by omega)
    | _, _, j + 4, hj => exact absurd hj (by omega)) hA
  obtain ⟨c0, iS0, hKn0⟩ := u_known (C := RX0) (T := TX0) (N := 4) (n := 4) hgt ui_X0 (hgt _ wd_209)
  obtain ⟨c1, iS1, hKn1⟩ := u_known (C := RX1) (T := TX1) (N := 1) (n := 1) hgt ui_X1 (hgt _ wd_160)
  obtain ⟨c2, iS2, hKn2⟩ := u_known (C := RX2) (T := TX2) (N := 2) (n := 2) hgt ui_X2 (hgt _ wd_262)
  obtain ⟨c3, iS3, hKn3⟩ := u_known (C := RX3) (T := TX3) (N := 2) (n := 2) hgt ui_X3 (hgt _ wd_236)
  obtain ⟨c4, iS4, hKn4⟩ := u_known (C := RX5) (T := TX5) (N := 9) (n := 9) hgt ui_X5 (hgt _ wd_166)
  obtain ⟨c5, iS5, hKn5⟩ := u_known (C := RX7) (T := TX7) (N := 3) (n := 3) hgt ui_X7 (hgt _ wd_230)
  obtain ⟨c6, iS6, hKn6⟩ := u_known (C := RX8) (T := TX8) (N := 7) (n := 7) hgt ui_X8 (hgt _ wd_127)
  obtain ⟨c7, iS7, hKn7⟩ := u_known (C := RX9) (T := TX9) (N := 14) (n := 14) hgt ui_X9 (hgt _ wd_28)
  obtain ⟨c8, iS8, hKn8⟩ := u_known (C := RX10) (T := TX10) (N := 9) (n := 9) hgt ui_X10 (hgt _ wd_20)
  obtain ⟨c9, iS9, hKn9⟩ := u_known (C := RX11) (T := TX11) (N := 24) (n := 24) hgt ui_X11 (hgt _ wd_852)
  obtain ⟨dC, dI, hKc⟩ : ∃ (dC : Nat → ClassId) (dI : Nat → Nat → Nat), ∀ (k : Nat) (q : vw_C), mzCl[k]? = some q → u_Kn s q.1 q.2.1 q.2.2 (dC k) (dI k) := by
    refine ⟨fun k => if k = 0 then c0 else if k = 1 then c1 else if k = 2 then c2 else if k = 3 then c3 else if k = 4 then c4 else if k = 5 then c5 else if k = 6 then c6 else if k = 7 then c7 else if k = 8 then c8 else c9, fun k => if k = 0 then iS0 else if k = 1 then iS1 else if k = 2 then iS2 else if k = 3 then iS3 else if k = 4 then iS4 else if k = 5 then iS5 else if k = 6 then iS6 else if k = 7 then iS7 else if k = 8 then iS8 else iS9, ?_⟩
    intro k q hq
    match k, hq with
    | 0, hq => cases hq; exact hKn0
    | 1, hq => cases hq; exact hKn1
    | 2, hq => cases hq; exact hKn2
    | 3, hq => cases hq; exact hKn3
    | 4, hq => cases hq; exact hKn4
    | 5, hq => cases hq; exact hKn5
    | 6, hq => cases hq; exact hKn6
    | 7, hq => cases hq; exact hKn7
    | 8, hq => cases hq; exact hKn8
    | 9, hq => cases hq; exact hKn9
    | k + 10, hq => exact absurd (List.getElem?_eq_some_iff.mp hq).1 (by simp [mzCl])
  have hK : va_K (dC, dI) mzCl [] s := ⟨hKc, fun k q h => by simp at h⟩
  obtain ⟨kv, hkv⟩ : ∃ kv : Nat → Value, kv = fun k => if k = 0 then .ref tA else if k = 1 then .ref tM else if 2 ≤ k ∧ k < 6 then .ref (adK (k - 2)) else if 6 ≤ k ∧ k < 10 then .ref (adV (k - 6)) else if k = 10 then vF else if k = 11 then .ref b else .null := ⟨_, rfl⟩
  have k0 : kv 0 = .ref tA := by rw [hkv]; rfl
  have k1 : kv 1 = .ref tM := by rw [hkv]; rfl
  have k10 : kv 10 = vF := by rw [hkv]; rfl
  have k11 : kv 11 = .ref b := by rw [hkv]; rfl
  have kK : ∀ i, i < 4 → kv (i + 2) = .ref (adK i) := fun i hi => by
    rw [hkv]; show (if i + 2 = 0 then _ else _) = _
    rw [if_neg (by omega), if_neg (by omega), if_pos (by omega)]; rfl
  have kV : ∀ i, i < 4 → kv (i + 6) = .ref (adV i) := fun i hi => by
    rw [hkv]; show (if i + 6 = 0 then _ else _) = _
    rw [if_neg (by omega), if_neg (by omega), if_neg (by omega), if_pos (by omega)]; rfl
  have hk : mz_kv kv := fun k => by
    rw [hkv]; dsimp only
    repeat' split
    all_goals first | exact hvF | exact Or.inr ⟨_, rfl⟩ | exact Or.inl rfl
  have hN : mz_N kv s := by
    refine ⟨fun q hq => ?_, fun q hq => ?_, fun q hq => ?_, ?_, ?_⟩
    · simp only [mz_nf, List.mem_cons, List.not_mem_nil, or_false] at hq
      rcases hq with rfl | rfl
      · exact va_Nw.of rfl (hts _ (List.mem_of_getElem? (i := 116) (by decide +kernel)))
      · exact va_Nw.of rfl (hts _ (List.mem_of_getElem? (i := 523) (by decide +kernel)))
    · simp only [mz_nm9, List.mem_cons, List.not_mem_nil, or_false] at hq
      rcases hq with rfl | rfl | rfl | rfl | rfl | rfl | rfl
      · exact va_Nw.of rfl (hts _ (List.mem_of_getElem? (i := 205) (by decide +kernel)))
      · exact va_Nw.of rfl (hts _ (List.mem_of_getElem? (i := 238) (by decide +kernel)))
      · exact va_Nw.of rfl (hts _ (List.mem_of_getElem? (i := 244) (by decide +kernel)))
      · exact va_Nw.of rfl (hts _ (List.mem_of_getElem? (i := 287) (by decide +kernel)))
      · exact va_Nw.of rfl (hts _ (List.mem_of_getElem? (i := 308) (by decide +kernel)))
      · exact va_Nw.of rfl (hts _ (List.mem_of_getElem? (i := 314) (by decide +kernel)))
      · exact va_Nw.of rfl (hts _ (List.mem_of_getElem? (i := 345) (by decide +kernel)))
    · simp only [mz_tx, List.mem_cons, List.not_mem_nil, or_false] at hq
      rcases hq with rfl | rfl | rfl | rfl
      · exact ⟨adK 0, kK 0 (by decide), vk_R.of (A := #[Value.ref b]) (hts _ (List.mem_of_getElem? (i := 450) (by decide +kernel))) (hev 0 (by decide))⟩
      · exact ⟨adK 1, kK 1 (by decide), vk_R.of (A := #[Value.ref b]) (hts _ (List.mem_of_getElem? (i := 520) (by decide +kernel))) (hev 1 (by decide))⟩
      · exact ⟨adK 2, kK 2 (by decide), vk_R.of (A := #[Value.ref b]) (hts _ (List.mem_of_getElem? (i := 521) (by decide +kernel))) (hev 2 (by decide))⟩
      · exact ⟨adK 3, kK 3 (by decide), vk_R.of (A := #[Value.ref b]) (hts _ (List.mem_of_getElem? (i := 522) (by decide +kernel))) (hev 3 (by decide))⟩
    · exact va_AO.of (A := #[Value.ref b]) (hts _ (List.mem_of_getElem? (i := 202) (by decide +kernel)))
    · exact over_moved (a := #[Value.ref b]) (Vm.Alike.refl _) (hts _ (List.mem_of_getElem? (i := 111) (by decide +kernel)))
  have hZ : mz_z s.heap.size kv s s.heap := ⟨by rw [k0]; exact ZtA, by rw [k1]; exact ZtM, ZC, by rw [k10]; exact ZF⟩
  have hAA : mz_A s.heap.size kv (dC, dI) (0, kz_g L xs) s s.heap := by
    refine ⟨⟨rfl, Nat.zero_le _⟩, fun k => ?_, hZ, hK⟩
    show mz_at s.heap.size kv (dC, dI) 0 s s.heap k (kz_g L xs k)
    unfold kz_g
    split
    · rename_i q; subst q
      exact ⟨tA, kz_at, by decide, k0, rfl, TtA⟩
    · split
      · rename_i q; subst q
        exact ⟨tM, kz_mo, by decide, k1, rfl, TtM⟩
      · split
        · rename_i q
          obtain ⟨i, hi, rfl⟩ : ∃ i, i < 4 ∧ k = 1002 + i := ⟨k - 1002, by omega, by omega⟩
          obtain ⟨h1, h2, h3, h4⟩ := hStr.1 i hi
          refine ⟨adK i, _, _, by omega, by rw [show 1002 + i - 1000 = i + 2 by omega]; exact kK i hi, rfl, h1, ?_, h2⟩
          rw [mz_em_ge (by omega), show 1002 + i + 4 - 1000 = i + 6 by omega, kV i hi]
          exact h3
        · split
          · rename_i q
            obtain ⟨i, hi, rfl⟩ : ∃ i, i < 4 ∧ k = 1006 + i := ⟨k - 1006, by omega, by omega⟩
            obtain ⟨h1, h2, h3, h4⟩ := hStr.1 i hi
            show ∃ (a : Nat) (f : Nat → Int32), 1000 ≤ 1006 + i ∧ kv (1006 + i - 1000) = .ref a ∧ Sum.inl (fun j => (kz_b.getD (1006 + i - 1006) []).getD j 0) = (Sum.inl f : (Nat → Int32) ⊕ (Nat → Int64) ⊕ (Nat → Option Nat)) ∧ va_T .byte a (([5, 5, 5, 4] : List Nat).getD (1006 + i - 1006) 0) (fun j => .int (f j)) (mzA s.heap.size) s s.heap
            refine ⟨adV i, _, by omega, by rw [show 1006 + i - 1000 = i + 6 by omega]; exact kV i hi, rfl, ?_⟩
            rw [show 1006 + i - 1006 = i by omega]
            exact h4
          · split
            · rename_i q; subst q
              obtain ⟨scr, h1, h2, h3, h4, h5⟩ := hX
              exact ⟨b, xs, by decide, k11, rfl, scr, h1, h2, h3, by omega, by rw [h4], h5, hA b hbl⟩
            · simp only [ob, mz_at]
              rw [if_neg (by decide)]
              intro r hr
              exact absurd (List.getElem?_eq_some_iff.mp hr).1 (by simp [mzCl])
  have hgo := mz_sound (l := l) (base := s.heap.size) (D := (dC, dI)) hk hwp
  rw [lg_entry_eq]
  have hent := mz_lr_entry (base := s.heap.size) (as := [.ref 1011]) (n := 4) hk (by decide)
  have hem : [Value.ref 1011].map (mz_em s.heap.size kv) = [Value.ref b] := by rw [List.map_cons, mz_em_ge (by decide), k11]; rfl
  rw [hem] at hent
  refine hgo p e room_1 s m _ below meth c s.heap [] 0 0 _ _ ⟨hx, hb, hml, hown, hgt, hN, hZ, hlocks, hr, fun h => absurd h (by decide), ⟨by decide, by decide⟩, Nat.le_refl _⟩ hAA va_S.rf hent ⟨by decide, by decide⟩ ?_
  intro rv g' H' locs' pc' cells' slots' lr' hq _ hS' hc' hrd
  subst hq
  refine W.widen (k := 600000) (n := 7302250) hc'.1 hc'.2 ?_
  refine va_forget (fun q hq => hS'.2.2 q hq) ?_
  exact lw_ret hx hb hr hlocks hrd.1
