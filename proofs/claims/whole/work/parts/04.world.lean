/-! ===== THE WORLD: what the small machine's heap says of the machine's ===== -/
abbrev mzCl : List vw_C := [(RX0, TX0, 4), (RX1, TX1, 1), (RX2, TX2, 2), (RX3, TX3, 2), (RX5, TX5, 9), (RX7, TX7, 3), (RX8, TX8, 7), (RX9, TX9, 14), (RX10, TX10, 9), (RX11, TX11, 24)]
def mzA (base : Nat) : Nat → Prop := fun q => base ≤ q
/-- a value of the small machine as one of the machine's: cells that were made lie from base on, places from 1000 on are constants -/
def mz_em (base : Nat) (kv : Nat → Value) : Value → Value
  | .ref k => if k < 1000 then .ref (base + k) else kv (k - 1000)
  | v => v
def mz_vs (base : Nat) (kv : Nat → Value) (x : (Nat → Int32) ⊕ (Nat → Int64) ⊕ (Nat → Option Nat)) (j : Nat) : Value := match x with
  | .inl f => .int (f j)
  | .inr (.inl f) => .long (f j)
  | .inr (.inr f) => match f j with
    | none => .null
    | some a => mz_em base kv (.ref a)
def mz_at (base : Nat) (kv : Nat → Value) (D : va_G) (nxt : Nat) (s : State) (H : Heap) (k : Nat) (c : mzC) : Prop := match c with
  | .inl (ty, n, x) => if ty = .short then (∃ a f, 1000 ≤ k ∧ kv (k - 1000) = .ref a ∧ x = .inl f ∧ va_T .int a n (fun j => .int (f j)) (mzA base) s H)
    else if ty = .char then (∃ a f, 1000 ≤ k ∧ kv (k - 1000) = .ref a ∧ x = .inl f ∧ va_T .byte a n (fun j => .int (f j)) (mzA base) s H)
    else (k < nxt ∧ ∃ cA, H[base + k]? = some (arrV cA n (mz_vs base kv x)) ∧ ArrOfT s cA ty ∧ va_RA s cA ty)
  | .inr (ci, fs) => if ci = 700 then (∃ a v w, 1000 ≤ k ∧ kv (k - 1000) = .ref a ∧ fs = [v, w] ∧ va_O "java/lang/String" a (mzA base) s H ∧ va_OF "java/lang/String" "value" "[B" (mz_em base kv v) a (mzA base) s H ∧ va_OF "java/lang/String" "coder" "B" (mz_em base kv w) a (mzA base) s H)
    else (∀ r, mzCl[ci]? = some r → k < nxt ∧ fs.length = r.2.2 ∧ t_OB (base + k) (D.1 ci) r.2.2 (D.2 ci) H (vp_V (fs.map (mz_em base kv))))
/-- statics -/
def mz_z (base : Nat) (kv : Nat → Value) (s : State) (H : Heap) : Prop := va_Z "WatchSleep" "AT_FIRST" "[I" (kv 0) (mzA base) s H ∧ va_Z "WatchSleep" "MOST" "[I" (kv 1) (mzA base) s H ∧ va_Z "java/lang/String" "COMPACT_STRINGS" "Z" (.int 1) (mzA base) s H ∧ va_Z "jdk/internal/util/Preconditions" "SIOOBE_FORMATTER" "Ljava/util/function/BiFunction;" (kv 10) (mzA base) s H
def mz_A (base : Nat) (kv : Nat → Value) (D : va_G) (g : mzG) (s : State) (H : Heap) : Prop := (H.size = base + g.1 ∧ g.1 ≤ 1000) ∧ (∀ k, mz_at base kv D g.1 s H k (g.2 k)) ∧ mz_z base kv s H ∧ va_K D mzCl [] s
/-- words of nests, texts and rows: they hold in every later state -/
def mz_nf : List (String × Nat × String) := [("WatchSleep$Watch", 40, "AT_FIRST"), ("WatchSleep$WallText", 69, "MOST")]
def mz_nm9 : List (String × Nat × String) := [("WatchSleep", 26, "WatchSleep$WallText"), ("WatchSleep", 33, "WatchSleep$Captain"), ("WatchSleep$Captain", 11, "WatchSleep$Rule"), ("WatchSleep", 40, "WatchSleep$Balance"), ("WatchSleep", 47, "WatchSleep$Thieves"), ("WatchSleep$Thieves", 11, "WatchSleep$Natural"), ("WatchSleep$Fraction", 9, "WatchSleep$Natural")]
def mz_tx : List (Nat × String × Nat) := [(32, "posts", 2), (76, "worth", 3), (78, "share", 4), (80, "need", 5)]
def mz_N (kv : Nat → Value) (s : State) : Prop := (∀ q ∈ mz_nf, va_Nw (.fieldLinkNest q.1 q.2.1 "WatchSleep" q.2.2 "[I" "WatchSleep") s) ∧ (∀ q ∈ mz_nm9, va_Nw (.methodLinkNest q.1 q.2.1 ⟨q.2.2, "<init>", "()V"⟩ "WatchSleep") s) ∧ (∀ q ∈ mz_tx, ∃ a, kv q.2.2 = .ref a ∧ vk_R "WatchSleep$WallText" q.1 q.2.1 a s) ∧ va_AO "WatchSleep$Watch" s ∧ (Cond.arrayOver (.array .int)).before #[] s = true
def mz_kv (kv : Nat → Value) : Prop := ∀ k, kv k = .null ∨ ∃ a, kv k = .ref a
theorem mz_em_int (base : Nat) (kv : Nat → Value) (x : Int32) : mz_em base kv (.int x) = .int x := rfl
theorem mz_em_long (base : Nat) (kv : Nat → Value) (x : Int64) : mz_em base kv (.long x) = .long x := rfl
theorem mz_em_null (base : Nat) (kv : Nat → Value) : mz_em base kv .null = .null := rfl
theorem mz_em_ref {base : Nat} {kv : Nat → Value} (hk : mz_kv kv) (k : Nat) : mz_em base kv (.ref k) = .null ∨ ∃ a, mz_em base kv (.ref k) = .ref a := by
  unfold mz_em
  split
  · rename_i h; cases h
    split
    · exact Or.inr ⟨_, rfl⟩
    · exact hk _
  · rename_i h; exact absurd rfl (h k)
theorem mz_em_lt {base : Nat} {kv : Nat → Value} {k : Nat} (h : k < 1000) : mz_em base kv (.ref k) = .ref (base + k) := by
  show (if k < 1000 then _ else _) = _
  rw [if_pos h]
theorem mz_em_ge {base : Nat} {kv : Nat → Value} {k : Nat} (h : 1000 ≤ k) : mz_em base kv (.ref k) = kv (k - 1000) := by
  show (if k < 1000 then _ else _) = _
  rw [if_neg (by omega)]
theorem mz_em_cat {base : Nat} {kv : Nat → Value} (hk : mz_kv kv) (v : Value) : (mz_em base kv v).category = v.category := by
  cases v with
  | ref k =>
    rcases mz_em_ref (base := base) hk k with h | ⟨a, h⟩ <;> rw [h] <;> rfl
  | _ => rfl
theorem mz_em_cats {base : Nat} {kv : Nat → Value} (hk : mz_kv kv) (st : List Value) : ((st.map (mz_em base kv)).map fun v => v.category) = st.map fun v => v.category := by
  rw [List.map_map]
  exact List.map_congr_left (fun v _ => mz_em_cat hk v)
/-! moving along -/
theorem mz_at.moved {base : Nat} {kv : Nat → Value} {D : va_G} {nxt : Nat} {s U : State} {H : Heap} {k : Nat} {c : mzC} (hvm : s.vm.Alike U.vm) (h : mz_at base kv D nxt s H k c) : mz_at base kv D nxt U H k c := by
  unfold mz_at at h ⊢
  split at h
  · split at h
    · rename_i q; rw [if_pos q]
      obtain ⟨a, f, h1, h2, h3, h4⟩ := h
      exact ⟨a, f, h1, h2, h3, h4.moved hvm⟩
    · rename_i q; rw [if_neg q]
      split at h
      · rename_i q; rw [if_pos q]
        obtain ⟨a, f, h1, h2, h3, h4⟩ := h
        exact ⟨a, f, h1, h2, h3, h4.moved hvm⟩
      · rename_i q; rw [if_neg q]
        obtain ⟨h0, cA, h1, h2, h3⟩ := h
        exact ⟨h0, cA, h1, arrOfT_moved hvm h2, h3.moved hvm⟩
  · split at h
    · rename_i q; rw [if_pos q]
      obtain ⟨a, v, w, h1, h2, h3, h4, h5, h6⟩ := h
      exact ⟨a, v, w, h1, h2, h3, va_O.moved hvm h4, va_OF.moved hvm h5, va_OF.moved hvm h6⟩
    · rename_i q; rw [if_neg q]
      exact h
theorem mz_z.moved {base : Nat} {kv : Nat → Value} {s U : State} {H : Heap} (hvm : s.vm.Alike U.vm) (h : mz_z base kv s H) : mz_z base kv U H := ⟨h.1.moved hvm, h.2.1.moved hvm, h.2.2.1.moved hvm, h.2.2.2.moved hvm⟩
theorem mz_A.moved {base : Nat} {kv : Nat → Value} {D : va_G} {g : mzG} {s U : State} {H : Heap} (hvm : s.vm.Alike U.vm) (h : mz_A base kv D g s H) : mz_A base kv D g U H := ⟨h.1, fun k => (h.2.1 k).moved hvm, h.2.2.1.moved hvm, va_K.moved hvm h.2.2.2⟩
theorem mz_N.warm {kv : Nat → Value} {s U : State} (hW : s.WarmedH U.vm) (h : mz_N kv s) : mz_N kv U :=
  ⟨fun q hq => (h.1 q hq).warmF hW, fun q hq => (h.2.1 q hq).warmM hW, fun q hq => by
    obtain ⟨a, h1, h2⟩ := h.2.2.1 q hq
    exact ⟨a, h1, h2.warm hW⟩, h.2.2.2.1.moved hW.alike, over_moved hW.alike h.2.2.2.2⟩
theorem mz_N.same {kv : Nat → Value} {s U : State} (hv : U.vm = s.vm) (h : mz_N kv s) : mz_N kv U :=
  ⟨fun q hq => va_Nw.same rfl hv.symm (h.1 q hq), fun q hq => va_Nw.same rfl hv.symm (h.2.1 q hq), fun q hq => by
    obtain ⟨a, h1, h2⟩ := h.2.2.1 q hq
    exact ⟨a, h1, h2.same hv⟩, h.2.2.2.1.moved (by rw [hv]; exact Vm.Alike.refl _), over_moved (by rw [hv]; exact Vm.Alike.refl _) h.2.2.2.2⟩
theorem mz_z.kept {base : Nat} {kv : Nat → Value} {s : State} {H H1 : Heap} (h : mz_z base kv s H) (hq : ∀ a : Nat, a < H.size → ¬ mzA base a → H1[a]? = H[a]?) : mz_z base kv s H1 := ⟨h.1.kept hq, h.2.1.kept hq, h.2.2.1.kept hq, h.2.2.2.kept hq⟩
/-- a cell that nobody touched -/
theorem mz_at.kept {base : Nat} {kv : Nat → Value} {D : va_G} {nxt nxt' : Nat} {s : State} {H H1 : Heap} {k : Nat} {c : mzC} (h : mz_at base kv D nxt s H k c) (hn : nxt ≤ nxt') (hb : H.size = base + nxt) (hq : ∀ a : Nat, a < H.size → ¬ mzA base a → H1[a]? = H[a]?) (hk : k < nxt → H1[base + k]? = H[base + k]?) : mz_at base kv D nxt' s H1 k c := by
  unfold mz_at at h ⊢
  split at h
  · split at h
    · rename_i q; rw [if_pos q]
      obtain ⟨a, f, h1, h2, h3, h4⟩ := h
      exact ⟨a, f, h1, h2, h3, h4.kept hq⟩
    · rename_i q; rw [if_neg q]
      split at h
      · rename_i q; rw [if_pos q]
        obtain ⟨a, f, h1, h2, h3, h4⟩ := h
        exact ⟨a, f, h1, h2, h3, h4.kept hq⟩
      · rename_i q; rw [if_neg q]
        obtain ⟨h0, cA, h1, h2, h3⟩ := h
        exact ⟨by omega, cA, by rw [hk h0]; exact h1, h2, h3⟩
  · split at h
    · rename_i q; rw [if_pos q]
      obtain ⟨a, v, w, h1, h2, h3, h4, h5, h6⟩ := h
      exact ⟨a, v, w, h1, h2, h3, h4.kept hq, h5.kept hq, h6.kept hq⟩
    · rename_i q; rw [if_neg q]
      intro r hr
      obtain ⟨h1, h2, h3⟩ := h r hr
      exact ⟨by omega, h2, h3.kept (hk h1)⟩
/-- one cell is written -/
theorem mz_A.set {base : Nat} {kv : Nat → Value} {D : va_G} {g : mzG} {s : State} {H H1 : Heap} {k : Nat} {c : mzC} (h : mz_A base kv D g s H) (hz : H1.size = H.size) (ho : ∀ q : Nat, q ≠ base + k → H1[q]? = H[q]?) (hc : mz_at base kv D g.1 s H1 k c) : mz_A base kv D (hs g k c) s H1 := by
  have hq : ∀ a : Nat, a < H.size → ¬ mzA base a → H1[a]? = H[a]? := fun a _ hA => ho a (fun e => hA (by show base ≤ a; omega))
  refine ⟨⟨hz.trans h.1.1, h.1.2⟩, fun j => ?_, h.2.2.1.kept hq, h.2.2.2⟩
  show mz_at base kv D g.1 s H1 j (va_up g.2 k c j)
  unfold va_up
  split
  · rename_i e; rw [e]; exact hc
  · rename_i e
    exact (h.2.1 j).kept (Nat.le_refl _) h.1.1 hq (fun _ => ho _ (by omega))
/-- one cell is made -/
theorem mz_A.new {base : Nat} {kv : Nat → Value} {D : va_G} {g : mzG} {s : State} {H H1 : Heap} {c : mzC} (h : mz_A base kv D g s H) (hg : g.1 < 1000) (hz : H1.size = H.size + 1) (ho : ∀ q : Nat, q < H.size → H1[q]? = H[q]?) (hc : mz_at base kv D (g.1 + 1) s H1 g.1 c) : mz_A base kv D (hn g c) s H1 := by
  have hb := h.1.1
  have hq : ∀ a : Nat, a < H.size → ¬ mzA base a → H1[a]? = H[a]? := fun a ha _ => ho a ha
  refine ⟨⟨by show H1.size = base + (g.1 + 1); omega, by show g.1 + 1 ≤ 1000; omega⟩, fun j => ?_, h.2.2.1.kept hq, h.2.2.2⟩
  show mz_at base kv D (g.1 + 1) s H1 j (va_up g.2 g.1 c j)
  unfold va_up
  split
  · rename_i e; rw [e]; exact hc
  · exact (h.2.1 j).kept (by omega) h.1.1 hq (fun hj => ho _ (by omega))
theorem va_S.mz {base : Nat} {H0 H H1 : Heap} {locs : List Loc} (h : va_S (mzA base) H0 H locs) (hz : H.size ≤ H1.size) (ho : ∀ q : Nat, q < H.size → ¬ mzA base q → H1[q]? = H[q]?) {L : List Loc} (hL : ∀ q ∈ L, mzA base q.base) : va_S (mzA base) H0 H1 (locs ++ L) :=
  ⟨Nat.le_trans h.1 hz, fun q h1 h2 => (ho q (Nat.lt_of_lt_of_le h1 h.1) h2).trans (h.2.1 q h1 h2), fun q hq => by
    rcases List.mem_append.mp hq with h' | h'
    · exact h.2.2 q h'
    · exact hL q h'⟩
/-! the locals -/
def mz_lr (base : Nat) (kv : Nat → Value) (ls : List Value) (lr : Array Slot) (n : Nat) : Prop := ls.length = n ∧ lr.size = n ∧ lv_wf lr ∧ ∀ (i : Nat) (v : Value), ls[i]? = some v → v ≠ .null → lr[i]? = some (.val (mz_em base kv v))
/-- the places that hold something -/
def mz_ll (base : Nat) (kv : Nat → Value) (ls : List Value) (n : Nat) : List (Nat × Value) := (List.range n).filterMap (fun i => match ls[i]? with
  | some v => if v = .null then none else some (i, mz_em base kv v)
  | none => none)
theorem mz_ll_mem {base : Nat} {kv : Nat → Value} {ls : List Value} {n : Nat} {q : Nat × Value} : q ∈ mz_ll base kv ls n ↔ ∃ v, q.1 < n ∧ ls[q.1]? = some v ∧ v ≠ .null ∧ q.2 = mz_em base kv v := by
  unfold mz_ll
  rw [List.mem_filterMap]
  constructor
  · rintro ⟨i, hi, h⟩
    have hi := List.mem_range.mp hi
    split at h
    · rename_i v hv
      split at h
      · cases h
      · rename_i hn; cases h; exact ⟨v, hi, hv, hn, rfl⟩
    · cases h
  · rintro ⟨v, h1, h2, h3, h4⟩
    refine ⟨q.1, List.mem_range.mpr h1, ?_⟩
    rw [h2]
    show (if v = .null then none else some (q.1, mz_em base kv v)) = some q
    rw [if_neg h3, ← h4]
theorem mz_lr.has {base : Nat} {kv : Nat → Value} {ls : List Value} {lr : Array Slot} {n : Nat} (h : mz_lr base kv ls lr n) : lv_has lr n (mz_ll base kv ls n) :=
  ⟨h.2.1, h.2.2.1, fun q hq => by
    obtain ⟨v, h1, h2, h3, h4⟩ := mz_ll_mem.mp hq
    rw [h4]; exact h.2.2.2 q.1 v h2 h3⟩
theorem mz_s1_len : ∀ (ls : List Value) (i : Nat) (v : Value), (mz_s1 ls i v).length = ls.length
  | [], _, _ => rfl
  | _ :: r, 0, v => rfl
  | a :: r, 1, v => by show (_ :: r.set 0 v).length = _; simp
  | a :: r, i + 2, v => by show (a :: mz_s1 r (i + 1) v).length = _; simp [mz_s1_len r (i + 1) v]
theorem mz_s2_len : ∀ (ls : List Value) (i : Nat) (v : Value), (mz_s2 ls i v).length = ls.length
  | [], _, _ => rfl
  | _ :: r, 0, v => by show (_ :: r.set 0 _).length = _; simp
  | a :: r, 1, v => by show (_ :: (r.set 0 v).set 1 _).length = _; simp
  | a :: r, i + 2, v => by show (a :: mz_s2 r (i + 1) v).length = _; simp [mz_s2_len r (i + 1) v]
theorem mz_k1_cat {w v : Value} (h : mz_k1 w = v) (hn : v ≠ .null) : w = v ∧ v.category = 1 := by
  cases w <;> simp_all [mz_k1, Value.category] <;> subst h <;> simp_all
/-- what stands behind a store of one word -/
theorem mz_s1_get : ∀ (ls : List Value) (i : Nat) (x : Value) (j : Nat) (v : Value), (mz_s1 ls i x)[j]? = some v → v ≠ .null → (j = i ∧ v = x) ∨ (j ≠ i ∧ ls[j]? = some v ∧ (j + 1 = i → v.category = 1))
  | [], i, x, j, v, h, hn => by simp [mz_s1] at h
  | a :: r, 0, x, j, v, h, hn => by
    cases j with
    | zero => left; simp [mz_s1] at h; exact ⟨rfl, h.symm⟩
    | succ j => right; simp [mz_s1] at h; exact ⟨by omega, by simpa using h, by omega⟩
  | a :: r, 1, x, j, v, h, hn => by
    cases j with
    | zero =>
      right
      simp [mz_s1] at h
      obtain ⟨h1, h2⟩ := mz_k1_cat h hn
      exact ⟨by omega, by simp [h1], fun _ => h2⟩
    | succ j =>
      simp [mz_s1] at h
      cases j with
      | zero =>
        cases r with
        | nil => simp at h
        | cons b r => left; simp at h; exact ⟨rfl, h.symm⟩
      | succ j =>
        right
        cases r with
        | nil => simp at h
        | cons b r => simp at h; exact ⟨by omega, by simpa using h, by omega⟩
  | a :: r, i + 2, x, j, v, h, hn => by
    cases j with
    | zero => right; simp [mz_s1] at h; exact ⟨by omega, by simp [h], by omega⟩
    | succ j =>
      have h' : (mz_s1 r (i + 1) x)[j]? = some v := by simpa [mz_s1] using h
      rcases mz_s1_get r (i + 1) x j v h' hn with ⟨h1, h2⟩ | ⟨h1, h2, h3⟩
      · left; exact ⟨by omega, h2⟩
      · right; exact ⟨by omega, by simpa using h2, fun e => h3 (by omega)⟩
theorem mz_s2_get : ∀ (ls : List Value) (i : Nat) (x : Value) (j : Nat) (v : Value), (mz_s2 ls i x)[j]? = some v → v ≠ .null → (j = i ∧ v = x) ∨ (j ≠ i ∧ j ≠ i + 1 ∧ ls[j]? = some v ∧ (j + 1 = i → v.category = 1))
  | [], i, x, j, v, h, hn => by simp [mz_s2] at h
  | a :: r, 0, x, j, v, h, hn => by
    cases j with
    | zero => left; simp [mz_s2] at h; exact ⟨rfl, h.symm⟩
    | succ j =>
      right; simp [mz_s2] at h
      cases r with
      | nil => simp at h
      | cons b r =>
        cases j with
        | zero => simp at h; exact absurd h.symm hn
        | succ j => simp at h; exact ⟨by omega, by omega, by simpa using h, by omega⟩
  | a :: r, 1, x, j, v, h, hn => by
    cases j with
    | zero =>
      right
      simp [mz_s2] at h
      obtain ⟨h1, h2⟩ := mz_k1_cat h hn
      exact ⟨by omega, by omega, by simp [h1], fun _ => h2⟩
    | succ j =>
      simp [mz_s2] at h
      cases r with
      | nil => simp at h
      | cons b r =>
        cases j with
        | zero => left; simp at h; exact ⟨rfl, h.symm⟩
        | succ j =>
          cases r with
          | nil => simp at h
          | cons d r =>
            cases j with
            | zero => simp at h; exact absurd h.symm hn
            | succ j => right; simp at h; exact ⟨by omega, by omega, by simpa using h, by omega⟩
  | a :: r, i + 2, x, j, v, h, hn => by
    cases j with
    | zero => right; simp [mz_s2] at h; exact ⟨by omega, by omega, by simp [h], by omega⟩
    | succ j =>
      have h' : (mz_s2 r (i + 1) x)[j]? = some v := by simpa [mz_s2] using h
      rcases mz_s2_get r (i + 1) x j v h' hn with ⟨h1, h2⟩ | ⟨h1, h4, h2, h3⟩
      · left; exact ⟨by omega, h2⟩
      · right; exact ⟨by omega, by omega, by simpa using h2, fun e => h3 (by omega)⟩
theorem mz_lr.st1 {base : Nat} {kv : Nat → Value} {ls : List Value} {lr lr' : Array Slot} {n i : Nat} {x : Value} (hk : mz_kv kv) (h : mz_lr base kv ls lr n) (h' : lv_has lr' n ((i, mz_em base kv x) :: (mz_ll base kv ls n).filter (fun q => !(q.1 == i) && !(q.1 + 1 == i && q.2.category == 2)))) : mz_lr base kv (mz_s1 ls i x) lr' n := by
  refine ⟨by rw [mz_s1_len]; exact h.1, h'.1, h'.2.1, fun j v hj hn => ?_⟩
  rcases mz_s1_get ls i x j v hj hn with ⟨rfl, rfl⟩ | ⟨h1, h2, h3⟩
  · exact h'.2.2 (j, mz_em base kv v) List.mem_cons_self
  · refine h'.2.2 (j, mz_em base kv v) (List.mem_cons_of_mem _ (List.mem_filter.mpr ⟨mz_ll_mem.mpr ⟨v, ?_, h2, hn, rfl⟩, ?_⟩))
    · have := (List.getElem?_eq_some_iff.mp h2).1
      show j < n
      rw [← h.1]; exact this
    · show (!(j == i) && !(j + 1 == i && (mz_em base kv v).category == 2)) = true
      rw [mz_em_cat hk]
      by_cases e : j + 1 = i
      · have := h3 e; simp [h1, this]
      · simp [h1, e]
theorem mz_lr.st2 {base : Nat} {kv : Nat → Value} {ls : List Value} {lr lr' : Array Slot} {n i : Nat} {x : Value} (hk : mz_kv kv) (h : mz_lr base kv ls lr n) (h' : lv_has lr' n ((i, mz_em base kv x) :: (mz_ll base kv ls n).filter (fun q => !(q.1 == i) && (!(q.1 == i + 1) && !(q.1 + 1 == i && q.2.category == 2))))) : mz_lr base kv (mz_s2 ls i x) lr' n := by
  refine ⟨by rw [mz_s2_len]; exact h.1, h'.1, h'.2.1, fun j v hj hn => ?_⟩
  rcases mz_s2_get ls i x j v hj hn with ⟨rfl, rfl⟩ | ⟨h1, h4, h2, h3⟩
  · exact h'.2.2 (j, mz_em base kv v) List.mem_cons_self
  · refine h'.2.2 (j, mz_em base kv v) (List.mem_cons_of_mem _ (List.mem_filter.mpr ⟨mz_ll_mem.mpr ⟨v, ?_, h2, hn, rfl⟩, ?_⟩))
    · have := (List.getElem?_eq_some_iff.mp h2).1
      show j < n
      rw [← h.1]; exact this
    · show (!(j == i) && (!(j == i + 1) && !(j + 1 == i && (mz_em base kv v).category == 2))) = true
      rw [mz_em_cat hk]
      by_cases e : j + 1 = i
      · have := h3 e; simp [h1, h4, this]
      · simp [h1, h4, e]
