/-! ===== THE SMALL MACHINE: a heap of cells by number, one frame, transformers of an instruction; wp is the least predicate that the rows of the tables close ===== -/
/-- a cell: an array (kind, length, contents; .short: ints that nobody writes, .char: bytes that nobody writes), or an object (class, fields) -/
abbrev mzC : Type := (FieldType × Nat × ((Nat → Int32) ⊕ (Nat → Int64) ⊕ (Nat → Option Nat))) ⊕ (Nat × List Value)
/-- how many cells were made; the cells -/
abbrev mzG : Type := Nat × (Nat → mzC)
abbrev mzB : Type := Nat × Nat
abbrev mzQ : Type := Option Value → mzG → Prop
abbrev mzX : Type := Nat → mzB → Nat → List Value → List Value → mzG → mzQ → Prop
abbrev mzT : Type := mzX → mzB → List Value → List Value → mzG → mzQ → Prop
def aI (n : Nat) (f : Nat → Int32) : mzC := .inl (.int, n, .inl f)
def aZ (n : Nat) (f : Nat → Int32) : mzC := .inl (.boolean, n, .inl f)
def aK (n : Nat) (f : Nat → Int32) : mzC := .inl (.short, n, .inl f)
def aY (n : Nat) (f : Nat → Int32) : mzC := .inl (.char, n, .inl f)
def aL (n : Nat) (f : Nat → Int64) : mzC := .inl (.long, n, .inr (.inl f))
def aR (ty : FieldType) (n : Nat) (f : Nat → Option Nat) : mzC := .inl (ty, n, .inr (.inr f))
def ob (ci : Nat) (fs : List Value) : mzC := .inr (ci, fs)
def hs (g : mzG) (k : Nat) (c : mzC) : mzG := (g.1, va_up g.2 k c)
/-- a new cell -/
def hn (g : mzG) (c : mzC) : mzG := (g.1 + 1, va_up g.2 g.1 c)
/-! the nine shapes -/
def tr_st (m nx : Nat) (f : List Value → Option (List Value)) : mzT := fun X b ls st g Q => match f st with
  | some st' => X m b nx ls st' g Q
  | none => False
def tr_lc (m nx : Nat) (f : List Value → List Value → Option (List Value × List Value)) : mzT := fun X b ls st g Q => match f ls st with
  | some (ls', st') => X m b nx ls' st' g Q
  | none => False
def tr_if (m tgt nx : Nat) (f : List Value → Option (Prop × List Value)) : mzT := fun X b ls st g Q => match f st with
  | some (c, st') => (c → X m b tgt ls st' g Q) ∧ (¬ c → X m b nx ls st' g Q)
  | none => False
def tr_go (m tgt : Nat) : mzT := fun X b ls st g Q => X m b tgt ls st g Q
def tr_sw (m : Nat) (f : Int32 → Nat) : mzT := fun X b ls st g Q => match st with
  | .int x :: r => X m b (f x) ls r g Q
  | _ => False
def tr_hp (m nx : Nat) (f : List Value → mzG → Option (Prop × List Value × mzG)) : mzT := fun X b ls st g Q => match f st g with
  | some (c, st', g') => c ∧ X m b nx ls st' g' Q
  | none => False
def tr_al (m nx : Nat) (f : List Value → mzG → Option (Prop × List Value × mzG × Nat × Nat)) : mzT := fun X b ls st g Q => match f st g with
  | some (c, st', g', k, n) => c ∧ (k ≤ b.1 ∧ n ≤ b.2) ∧ X m (b.1 - k, b.2 - n) nx ls st' g' Q
  | none => False
/-- the stack's top n values, the deepest first, and the rest -/
def mz_args : Nat → List Value → List Value → Option (List Value × List Value)
  | 0, acc, st => some (acc, st)
  | _ + 1, _, [] => none
  | n + 1, acc, v :: st => mz_args n (v :: acc) st
/-- a method's locals at its entry -/
def mz_lay : List Value → List Value
  | [] => []
  | .long x :: r => .long x :: .null :: mz_lay r
  | .double x :: r => .double x :: .null :: mz_lay r
  | v :: r => v :: mz_lay r
def mz_ent (as : List Value) (n : Nat) : List Value := mz_lay as ++ List.replicate (n - (mz_lay as).length) .null
/-- a virtual call's receiver is of this class (999: nothing is asked) -/
def mz_rc (rc : Nat) (as : List Value) (g : mzG) : Prop := rc = 999 ∨ match as with
  | .ref k :: _ => match g.2 k with
    | .inr (ci, _) => ci = rc
    | _ => False
  | _ => False
def tr_call (m nx y n mL rc mc ms : Nat) : mzT := fun X b ls st g Q => match mz_args n [] st with
  | some (as, r) => ((mc ≤ b.1 ∧ ms ≤ b.2) ∧ (r.map fun v => v.category).sum ≤ 8 ∧ (mz_lay as).length ≤ mL ∧ mz_rc rc as g) ∧ X y (mc, ms) 0 (mz_ent as mL) [] g (fun rv g1 => X m (b.1 - mc, b.2 - ms) nx ls (rv.toList ++ r) g1 Q)
  | none => False
def tr_ret (f : List Value → Option (Prop × Option Value)) : mzT := fun _ _ _ st g Q => match f st with
  | some (c, rv) => c ∧ Q rv g
  | none => False
def mz_qm (X : mzX) : Prop := ∀ m b pc ls st g (Q Q' : mzQ), (∀ r g, Q r g → Q' r g) → X m b pc ls st g Q → X m b pc ls st g Q'
def mz_ok (t : mzT) : Prop := ∀ X Y : mzX, mz_qm Y → (∀ m b pc ls st g Q, X m b pc ls st g Q → Y m b pc ls st g Q) → ∀ b ls st g (Q Q' : mzQ), (∀ r g, Q r g → Q' r g) → t X b ls st g Q → t Y b ls st g Q'
theorem ok_st (m nx : Nat) (f : List Value → Option (List Value)) : mz_ok (tr_st m nx f) := by
  intro X Y hY h b ls st g Q Q' hQ
  unfold tr_st
  split
  · exact fun k => hY _ _ _ _ _ _ _ _ hQ (h _ _ _ _ _ _ _ k)
  · exact id
theorem ok_lc (m nx : Nat) (f : List Value → List Value → Option (List Value × List Value)) : mz_ok (tr_lc m nx f) := by
  intro X Y hY h b ls st g Q Q' hQ
  unfold tr_lc
  split
  · exact fun k => hY _ _ _ _ _ _ _ _ hQ (h _ _ _ _ _ _ _ k)
  · exact id
theorem ok_if (m tgt nx : Nat) (f : List Value → Option (Prop × List Value)) : mz_ok (tr_if m tgt nx f) := by
  intro X Y hY h b ls st g Q Q' hQ
  unfold tr_if
  split
  · exact fun k => ⟨fun c => hY _ _ _ _ _ _ _ _ hQ (h _ _ _ _ _ _ _ (k.1 c)), fun c => hY _ _ _ _ _ _ _ _ hQ (h _ _ _ _ _ _ _ (k.2 c))⟩
  · exact id
theorem ok_go (m tgt : Nat) : mz_ok (tr_go m tgt) := by
  intro X Y hY h b ls st g Q Q' hQ k
  exact hY _ _ _ _ _ _ _ _ hQ (h _ _ _ _ _ _ _ k)
theorem ok_sw (m : Nat) (f : Int32 → Nat) : mz_ok (tr_sw m f) := by
  intro X Y hY h b ls st g Q Q' hQ
  unfold tr_sw
  split
  · exact fun k => hY _ _ _ _ _ _ _ _ hQ (h _ _ _ _ _ _ _ k)
  · exact id
theorem ok_hp (m nx : Nat) (f : List Value → mzG → Option (Prop × List Value × mzG)) : mz_ok (tr_hp m nx f) := by
  intro X Y hY h b ls st g Q Q' hQ
  unfold tr_hp
  split
  · exact fun k => ⟨k.1, hY _ _ _ _ _ _ _ _ hQ (h _ _ _ _ _ _ _ k.2)⟩
  · exact id
theorem ok_al (m nx : Nat) (f : List Value → mzG → Option (Prop × List Value × mzG × Nat × Nat)) : mz_ok (tr_al m nx f) := by
  intro X Y hY h b ls st g Q Q' hQ
  unfold tr_al
  split
  · exact fun k => ⟨k.1, k.2.1, hY _ _ _ _ _ _ _ _ hQ (h _ _ _ _ _ _ _ k.2.2)⟩
  · exact id
theorem ok_call (m nx y n mL rc mc ms : Nat) : mz_ok (tr_call m nx y n mL rc mc ms) := by
  intro X Y hY h b ls st g Q Q' hQ
  unfold tr_call
  split
  · exact fun k => ⟨k.1, hY _ _ _ _ _ _ _ _ (fun r g1 k1 => hY _ _ _ _ _ _ _ _ hQ (h _ _ _ _ _ _ _ k1)) (h _ _ _ _ _ _ _ k.2)⟩
  · exact id
theorem ok_ret (f : List Value → Option (Prop × Option Value)) : mz_ok (tr_ret f) := by
  intro X Y hY h b ls st g Q Q' hQ
  unfold tr_ret
  split
  · exact fun k => ⟨k.1, hQ _ _ k.2⟩
  · exact id
/-! the tables: a row an instruction (its place, its decoding, its transformer) -/
abbrev mzE : Type := Nat × Instr × Nat × mzT
def mz_none : mzT := fun _ _ _ _ _ _ => False
theorem ok_none : mz_ok mz_none := fun _ _ _ _ _ _ _ _ _ _ _ k => k
def mz_find : List mzE → Nat → mzT
  | [], _ => mz_none
  | e :: l, pc => if e.1 = pc then e.2.2.2 else mz_find l pc
theorem mz_find_ok {l : List mzE} (h : ∀ e ∈ l, mz_ok e.2.2.2) (pc : Nat) : mz_ok (mz_find l pc) := by
  induction l with
  | nil => exact ok_none
  | cons e l ih =>
    unfold mz_find
    split
    · exact h e List.mem_cons_self
    · exact ih (fun e' h' => h e' (List.mem_cons_of_mem _ h'))
/-- a property of the row that is found, out of the rows' -/
theorem mz_find_of {l : List mzE} {P : mzT → Prop} {pc : Nat} (h0 : P mz_none) (h : ∀ e ∈ l, e.1 = pc → P e.2.2.2) : P (mz_find l pc) := by
  induction l with
  | nil => exact h0
  | cons e l ih =>
    unfold mz_find
    split
    · rename_i q; exact h e List.mem_cons_self q
    · exact ih (fun e' h' => h e' (List.mem_cons_of_mem _ h'))
section MZW
variable (T : Nat → Nat → mzT)
def mz_cl (X : mzX) : Prop := ∀ m b pc ls st g Q, T m pc X b ls st g Q → X m b pc ls st g Q
def mz_wp : mzX := fun m b pc ls st g Q => ∀ X : mzX, mz_qm X → mz_cl T X → X m b pc ls st g Q
variable {T}
theorem mz_wp_qm : mz_qm (mz_wp T) := fun _ _ _ _ _ _ _ _ hQ k X hX hc => hX _ _ _ _ _ _ _ _ hQ (k X hX hc)
theorem mz_wp_cl (hT : ∀ m pc, mz_ok (T m pc)) : mz_cl T (mz_wp T) := by
  intro m b pc ls st g Q k X hX hc
  exact hc _ _ _ _ _ _ _ (hT m pc _ X hX (fun _ _ _ _ _ _ _ k' => k' X hX hc) _ _ _ _ Q Q (fun _ _ h => h) k)
theorem mz_wp_eq (hT : ∀ m pc, mz_ok (T m pc)) (m : Nat) (b : mzB) (pc : Nat) (ls st : List Value) (g : mzG) (Q : mzQ) : mz_wp T m b pc ls st g Q = T m pc (mz_wp T) b ls st g Q := by
  apply propext
  constructor
  · intro k
    refine k (fun m b pc ls st g Q => T m pc (mz_wp T) b ls st g Q) ?_ ?_
    · intro m b pc ls st g Q Q' hQ k
      exact hT m pc _ _ mz_wp_qm (fun _ _ _ _ _ _ _ h => h) _ _ _ _ _ _ hQ k
    · intro m b pc ls st g Q k
      exact hT m pc _ _ mz_wp_qm (fun _ _ _ _ _ _ _ h => mz_wp_cl hT _ _ _ _ _ _ _ h) _ _ _ _ _ _ (fun _ _ h => h) k
  · exact mz_wp_cl hT m b pc ls st g Q
end MZW
/-! what the instructions do to stack and locals -/
def f_const (v : Value) : List Value → Option (List Value) := fun st => some (v :: st)
def f_ii (o : Int32 → Int32 → Int32) : List Value → Option (List Value)
  | .int y :: .int x :: r => some (.int (o x y) :: r)
  | _ => none
def f_ll (o : Int64 → Int64 → Int64) : List Value → Option (List Value)
  | .long y :: .long x :: r => some (.long (o x y) :: r)
  | _ => none
def f_li (o : Int64 → Int32 → Int64) : List Value → Option (List Value)
  | .int y :: .long x :: r => some (.long (o x y) :: r)
  | _ => none
def f_i (o : Int32 → Value) : List Value → Option (List Value)
  | .int x :: r => some (o x :: r)
  | _ => none
def f_l (o : Int64 → Value) : List Value → Option (List Value)
  | .long x :: r => some (o x :: r)
  | _ => none
def f_lcmp : List Value → Option (List Value)
  | .long y :: .long x :: r => some (.int (lg_cmp x y) :: r)
  | _ => none
def f_dupR : List Value → Option (List Value)
  | .ref k :: r => some (.ref k :: .ref k :: r)
  | _ => none
def f_dupI : List Value → Option (List Value)
  | .int k :: r => some (.int k :: .int k :: r)
  | _ => none
def f_dup2 : List Value → Option (List Value)
  | .int x :: .ref k :: r => some (.int x :: .ref k :: .int x :: .ref k :: r)
  | _ => none
def f_popI : List Value → Option (List Value)
  | .int _ :: r => some r
  | _ => none
def f_ldI (i : Nat) : List Value → List Value → Option (List Value × List Value) := fun ls st => match ls[i]? with
  | some (.int x) => some (ls, .int x :: st)
  | _ => none
def f_ldL (i : Nat) : List Value → List Value → Option (List Value × List Value) := fun ls st => match ls[i]? with
  | some (.long x) => some (ls, .long x :: st)
  | _ => none
def f_ldR (i : Nat) : List Value → List Value → Option (List Value × List Value) := fun ls st => match ls[i]? with
  | some (.ref x) => some (ls, .ref x :: st)
  | _ => none
/-- a long whose second half is overwritten is gone -/
def mz_k1 : Value → Value
  | .long _ => .null
  | .double _ => .null
  | v => v
/-- a value of one word into place i -/
def mz_s1 : List Value → Nat → Value → List Value
  | [], _, _ => []
  | _ :: r, 0, v => v :: r
  | a :: r, 1, v => mz_k1 a :: (r.set 0 v)
  | a :: r, i + 2, v => a :: mz_s1 r (i + 1) v
def mz_s2 : List Value → Nat → Value → List Value
  | [], _, _ => []
  | _ :: r, 0, v => v :: (r.set 0 .null)
  | a :: r, 1, v => mz_k1 a :: ((r.set 0 v).set 1 .null)
  | a :: r, i + 2, v => a :: mz_s2 r (i + 1) v
def f_stI (i : Nat) : List Value → List Value → Option (List Value × List Value) := fun ls st => match st with
  | .int x :: r => some (mz_s1 ls i (.int x), r)
  | _ => none
def f_stR (i : Nat) : List Value → List Value → Option (List Value × List Value) := fun ls st => match st with
  | .ref x :: r => some (mz_s1 ls i (.ref x), r)
  | _ => none
def f_stL (i : Nat) : List Value → List Value → Option (List Value × List Value) := fun ls st => match st with
  | .long x :: r => some (mz_s2 ls i (.long x), r)
  | _ => none
def f_inc (i : Nat) (n : Int) : List Value → List Value → Option (List Value × List Value) := fun ls st => match ls[i]? with
  | some (.int x) => some (mz_s1 ls i (.int (x + Int32.ofInt n)), st)
  | _ => none
def f_c2 (o : Int32 → Int32 → Prop) : List Value → Option (Prop × List Value)
  | .int y :: .int x :: r => some (o x y, r)
  | _ => none
def f_c1 (o : Int32 → Prop) : List Value → Option (Prop × List Value)
  | .int x :: r => some (o x, r)
  | _ => none
/-! and to the heap -/
def f_divI (o : Int32 → Int32 → Int32) : List Value → mzG → Option (Prop × List Value × mzG) := fun st g => match st with
  | .int y :: .int x :: r => some (¬ y = 0, .int (o x y) :: r, g)
  | _ => none
def f_divL (o : Int64 → Int64 → Int64) : List Value → mzG → Option (Prop × List Value × mzG) := fun st g => match st with
  | .long y :: .long x :: r => some (¬ y = 0, .long (o x y) :: r, g)
  | _ => none
/-- a field's value -/
def mz_gf (c : mzC) (ci j : Nat) (K : Value → Prop) : Prop := match c with
  | .inr (ci', fs) => ci' = ci ∧ match fs[j]? with
    | some v => K v
    | none => False
  | _ => False
def f_get (ci j : Nat) : List Value → mzG → Option (Prop × List Value × mzG) := fun st g => match st with
  | .ref k :: r => match g.2 k with
    | .inr (ci', fs) => match fs[j]? with
      | some v => some (ci' = ci, v :: r, g)
      | none => none
    | _ => none
  | _ => none
/-- what may lie in a field: 0 an int, 1 a long, 2 a truth, 3 a reference -/
def mz_fit : Nat → Value → Prop
  | 0, .int _ => True
  | 1, .long _ => True
  | 2, .int x => x = 0 ∨ x = 1
  | 3, .ref _ => True
  | _, _ => False
def mz_pf (c : mzC) (ci j ty : Nat) (v : Value) (K : mzC → Prop) : Prop := match c with
  | .inr (ci', fs) => (ci' = ci ∧ j < fs.length ∧ mz_fit ty v) ∧ K (.inr (ci', fs.set j v))
  | _ => False
def f_put (ci j ty : Nat) : List Value → mzG → Option (Prop × List Value × mzG) := fun st g => match st with
  | v :: .ref k :: r => match g.2 k with
    | .inr (ci', fs) => some ((ci' = ci ∧ j < fs.length ∧ mz_fit ty v), r, hs g k (.inr (ci', fs.set j v)))
    | _ => none
  | _ => none
/-- ints of an array; of a constant one too -/
def mz_lI (c : mzC) (i : Int32) (K : Int32 → Prop) : Prop := match c with
  | .inl (ty, n, .inl f) => ((ty = .int ∨ ty = .short) ∧ vp_in i n) ∧ K (f i.toNatClampNeg)
  | _ => False
def f_ial : List Value → mzG → Option (Prop × List Value × mzG) := fun st g => match st with
  | .int i :: .ref k :: r => match g.2 k with
    | .inl (ty, n, .inl f) => some (((ty = .int ∨ ty = .short) ∧ vp_in i n), .int (f i.toNatClampNeg) :: r, g)
    | _ => none
  | _ => none
def mz_lZ (c : mzC) (i : Int32) (K : Int32 → Prop) : Prop := match c with
  | .inl (ty, n, .inl f) => ((ty = .boolean ∨ ty = .char) ∧ vp_in i n) ∧ K (f i.toNatClampNeg)
  | _ => False
def f_zal : List Value → mzG → Option (Prop × List Value × mzG) := fun st g => match st with
  | .int i :: .ref k :: r => match g.2 k with
    | .inl (ty, n, .inl f) => some (((ty = .boolean ∨ ty = .char) ∧ vp_in i n), .int (f i.toNatClampNeg) :: r, g)
    | _ => none
  | _ => none
def mz_lL (c : mzC) (i : Int32) (K : Int64 → Prop) : Prop := match c with
  | .inl (ty, n, .inr (.inl f)) => (ty = .long ∧ vp_in i n) ∧ K (f i.toNatClampNeg)
  | _ => False
def f_lal : List Value → mzG → Option (Prop × List Value × mzG) := fun st g => match st with
  | .int i :: .ref k :: r => match g.2 k with
    | .inl (ty, n, .inr (.inl f)) => some ((ty = .long ∧ vp_in i n), .long (f i.toNatClampNeg) :: r, g)
    | _ => none
  | _ => none
def mz_lR (c : mzC) (i : Int32) (K : Nat → Prop) : Prop := match c with
  | .inl (ty, n, .inr (.inr f)) => (ty.isReference = true ∧ vp_in i n) ∧ match f i.toNatClampNeg with
    | some a => K a
    | none => False
  | _ => False
def f_aal : List Value → mzG → Option (Prop × List Value × mzG) := fun st g => match st with
  | .int i :: .ref k :: r => match g.2 k with
    | .inl (ty, n, .inr (.inr f)) => match f i.toNatClampNeg with
      | some a => some ((ty.isReference = true ∧ vp_in i n), .ref a :: r, g)
      | none => none
    | _ => none
  | _ => none
def mz_wI (c : mzC) (i : Int32) (x : Int32) (K : mzC → Prop) : Prop := match c with
  | .inl (ty, n, .inl f) => (ty = .int ∧ vp_in i n) ∧ K (.inl (ty, n, .inl (upd f i.toNatClampNeg x)))
  | _ => False
def f_ias : List Value → mzG → Option (Prop × List Value × mzG) := fun st g => match st with
  | .int x :: .int i :: .ref k :: r => match g.2 k with
    | .inl (ty, n, .inl f) => some ((ty = .int ∧ vp_in i n), r, hs g k (.inl (ty, n, .inl (upd f i.toNatClampNeg x))))
    | _ => none
  | _ => none
def mz_wZ (c : mzC) (i : Int32) (x : Int32) (K : mzC → Prop) : Prop := match c with
  | .inl (ty, n, .inl f) => (ty = .boolean ∧ vp_in i n) ∧ K (.inl (ty, n, .inl (upd f i.toNatClampNeg (vp_nar .boolean x))))
  | _ => False
def f_zas : List Value → mzG → Option (Prop × List Value × mzG) := fun st g => match st with
  | .int x :: .int i :: .ref k :: r => match g.2 k with
    | .inl (ty, n, .inl f) => some ((ty = .boolean ∧ vp_in i n), r, hs g k (.inl (ty, n, .inl (upd f i.toNatClampNeg (vp_nar .boolean x)))))
    | _ => none
  | _ => none
def mz_wL (c : mzC) (i : Int32) (x : Int64) (K : mzC → Prop) : Prop := match c with
  | .inl (ty, n, .inr (.inl f)) => (ty = .long ∧ vp_in i n) ∧ K (.inl (ty, n, .inr (.inl (vp_updL f i.toNatClampNeg x))))
  | _ => False
def f_las : List Value → mzG → Option (Prop × List Value × mzG) := fun st g => match st with
  | .long x :: .int i :: .ref k :: r => match g.2 k with
    | .inl (ty, n, .inr (.inl f)) => some ((ty = .long ∧ vp_in i n), r, hs g k (.inl (ty, n, .inr (.inl (vp_updL f i.toNatClampNeg x)))))
    | _ => none
  | _ => none
/-- a Watch into a row of Watches -/
def f_aas : List Value → mzG → Option (Prop × List Value × mzG) := fun st g => match st with
  | .ref v :: .int i :: .ref k :: r => match g.2 k, g.2 v with
    | .inl (ty, n, .inr (.inr f)), .inr (ci, _) => some ((ty = .object "WatchSleep$Watch" ∧ ci = 7 ∧ vp_in i n), r, hs g k (.inl (ty, n, .inr (.inr (va_up f i.toNatClampNeg (some v))))))
    | _, _ => none
  | _ => none
def f_len : List Value → mzG → Option (Prop × List Value × mzG) := fun st g => match st with
  | .ref k :: r => match g.2 k with
    | .inl (_, n, _) => some (True, .int (Int32.ofNat n) :: r, g)
    | _ => none
  | _ => none
/-- System.arraycopy of ints between two rows -/
def f_cpy : List Value → mzG → Option (Prop × List Value × mzG) := fun st g => match st with
  | .int n :: .int dp :: .ref k1 :: .int sp :: .ref k0 :: r => match g.2 k0, g.2 k1 with
    | .inl (ty0, n0, .inl f0), .inl (ty1, n1, .inl f1) => some ((ty0 = .int ∧ ty1 = .int ∧ (¬ sp < 0 ∧ ¬ dp < 0 ∧ ¬ n < 0) ∧ (sp.toNatClampNeg + n.toNatClampNeg ≤ n0 ∧ dp.toNatClampNeg + n.toNatClampNeg ≤ n1) ∧ (r.map fun v => v.category).sum ≤ 8), r, hs g k1 (.inl (ty1, n1, .inl (va_cpy f0 f1 sp.toNatClampNeg dp.toNatClampNeg n.toNatClampNeg))))
    | _, _ => none
  | _ => none
/-- Object.<init> -/
def f_oin : List Value → mzG → Option (Prop × List Value × mzG) := fun st g => match st with
  | .ref k :: r => some (((r.map fun v => v.category).sum ≤ 8 ∧ k < 1000), r, g)
  | _ => none
/-! what makes cells -/
def f_new (ci : Nat) (fs : List Value) : List Value → mzG → Option (Prop × List Value × mzG × Nat × Nat) := fun st g => some (g.1 < 1000, .ref g.1 :: st, hn g (ob ci fs), 1, fs.length)
def f_nwI : List Value → mzG → Option (Prop × List Value × mzG × Nat × Nat) := fun st g => match st with
  | .int n :: r => some ((¬ n < 0 ∧ n.toNatClampNeg ≤ 1000 ∧ g.1 < 1000), .ref g.1 :: r, hn g (aI n.toNatClampNeg (fun _ => 0)), 1, n.toNatClampNeg)
  | _ => none
def f_nwZ : List Value → mzG → Option (Prop × List Value × mzG × Nat × Nat) := fun st g => match st with
  | .int n :: r => some ((¬ n < 0 ∧ n.toNatClampNeg ≤ 1000 ∧ g.1 < 1000), .ref g.1 :: r, hn g (aZ n.toNatClampNeg (fun _ => 0)), 1, n.toNatClampNeg)
  | _ => none
def f_nwL : List Value → mzG → Option (Prop × List Value × mzG × Nat × Nat) := fun st g => match st with
  | .int n :: r => some ((¬ n < 0 ∧ n.toNatClampNeg ≤ 1000 ∧ g.1 < 1000), .ref g.1 :: r, hn g (aL n.toNatClampNeg (fun _ => 0)), 1, n.toNatClampNeg)
  | _ => none
def f_nwR (C : String) : List Value → mzG → Option (Prop × List Value × mzG × Nat × Nat) := fun st g => match st with
  | .int n :: r => some ((¬ n < 0 ∧ n.toNatClampNeg ≤ 1000 ∧ g.1 < 1000), .ref g.1 :: r, hn g (aR (.object C) n.toNatClampNeg (fun _ => none)), 1, n.toNatClampNeg)
  | _ => none
/-- five rows of nine ints -/
def mz_rows (g : mzG) : mzG := (g.1 + 6, fun k => if k = g.1 then aR (.array .int) 5 (fun i => if i < 5 then some (g.1 + 1 + i) else none) else if g.1 < k ∧ k < g.1 + 6 then aI 9 (fun _ => 0) else g.2 k)
def f_nw2 : List Value → mzG → Option (Prop × List Value × mzG × Nat × Nat) := fun st g => match st with
  | .int k :: .int n :: r => some ((n = 5 ∧ k = 9 ∧ g.1 + 6 ≤ 1000), .ref g.1 :: r, mz_rows g, 6, 50)
  | _ => none
/-! the end of a method -/
def f_rv : List Value → Option (Prop × Option Value)
  | [] => some (True, none)
  | _ => none
def f_ri : List Value → Option (Prop × Option Value)
  | [.int v] => some (True, some (.int v))
  | _ => none
def f_rz : List Value → Option (Prop × Option Value)
  | [.int v] => some (v = 0 ∨ v = 1, some (.int v))
  | _ => none
def f_rb : List Value → Option (Prop × Option Value)
  | [.int v] => some (vp_nar .byte v = v, some (.int v))
  | _ => none
def f_rc : List Value → Option (Prop × Option Value)
  | [.int v] => some (vp_nar .char v = v, some (.int v))
  | _ => none
def f_rl : List Value → Option (Prop × Option Value)
  | [.long v] => some (True, some (.long v))
  | _ => none
