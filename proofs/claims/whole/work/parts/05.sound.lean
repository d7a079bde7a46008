/-! ===== SOUNDNESS: the machine itself closes every row of the tables ===== -/
def mz_gt : List Cond := lw_tbl.filter goodWord
theorem mz_gt_in {i : Nat} {w : Cond} (h : lw_tbl[i]? = some w) (hg : goodWord w = true) : w ∈ mz_gt := List.mem_filter.mpr ⟨List.mem_of_getElem? h, hg⟩
theorem mz_gt_good (ws : List Cond) (h : ∀ w ∈ ws, w ∈ mz_gt) : GoodIn mz_gt ws := fun w hw => ⟨h w hw, good_of_word (List.mem_filter.mp (h w hw)).2⟩
section MZS
variable (l : Launch) (base : Nat) (kv : Nat → Value) (D : va_G)
def mz_fx (m : Nat) (p : Program) (R : Room) (s : State) (mi : MethodId) (args : Array Value) (meth : Method) (c : Code) : Prop :=
  p.tables.exec = Jvm.exec ∧ c.code = mz_cd m ∧ c.maxLocals = mz_mL m ∧ s.vm.findClass (mz_nm m).cls = some mi.cls ∧ (∀ w ∈ mz_gt, w.before args s = true) ∧ mz_N kv s ∧ mz_z base kv s s.heap ∧ meth.locks = false ∧ meth.sig.returnType = mz_rt m ∧ ((mz_nm m).name = "<init>" → meth.name = "<init>") ∧ (mz_fr m ≤ R.frames ∧ mz_lo m ≤ R.locals) ∧ base ≤ s.heap.size
/-- a method's end: the instruction that returns this answer -/
def mz_rd (m pc : Nat) (rv : Option Value) : Prop := match rv with
  | none => decode (mz_cd m) pc = .ok (.return_, 1) ∧ mz_rt m = none
  | some (.int v) => decode (mz_cd m) pc = .ok (.ireturn, 1) ∧ ∃ ty, mz_rt m = some ty ∧ narrow ty (.int v) = .int v
  | some (.long _) => decode (mz_cd m) pc = .ok (.lreturn, 1) ∧ mz_rt m = some .long
  | _ => False
def mz_go : mzX := fun m b pc ls st g Q => ∀ (p : Program) (e : Env) (R : Room) (s : State) (mi : MethodId) (args : Array Value) (below : List Frame) (meth : Method) (c : Code) (H : Heap) (locs : List Loc) (cells slots : Nat) (lr : Array Slot) (Qf : State → Prop),
  mz_fx base kv m p R s mi args meth c → mz_A base kv D g s H → va_S (mzA base) s.heap H locs → mz_lr base kv ls lr (mz_mL m) → (cells + b.1 ≤ R.cells ∧ slots + b.2 ≤ R.slots) →
  (∀ (rv : Option Value) (g' : mzG) (H' : Heap) (locs' : List Loc) (pc' cells' slots' : Nat) (lr' : Array Slot), Q rv g' → mz_A base kv D g' s H' → va_S (mzA base) s.heap H' locs' → (cells' ≤ R.cells ∧ slots' ≤ R.slots) → mz_rd m pc' rv → W p l e R s mi args below meth c H' locs' cells' slots' Qf (F0 mi pc' lr' (rv.toList.map (mz_em base kv)))) →
  W p l e R s mi args below meth c H locs cells slots Qf (F0 mi pc lr (st.map (mz_em base kv)))
theorem mz_go_qm : mz_qm (mz_go l base kv D) := by
  intro m b pc ls st g Q Q' hQ k p e R s mi args below meth c H locs cells slots lr Qf h1 h2 h3 h4 h5 h6
  exact k p e R s mi args below meth c H locs cells slots lr Qf h1 h2 h3 h4 h5 (fun rv g' H' locs' pc' cells' slots' lr' hq => h6 rv g' H' locs' pc' cells' slots' lr' (hQ _ _ hq))
def mz_so (m pc : Nat) (t : mzT) : Prop := ∀ b ls st g Q, t (mz_go l base kv D) b ls st g Q → mz_go l base kv D m b pc ls st g Q
variable {l base kv D}
theorem so_none {m pc : Nat} : mz_so l base kv D m pc mz_none := fun _ _ _ _ _ k => k.elim
theorem so_st {m pc nx : Nat} {f : List Value → Option (List Value)} (h : ∀ {p : Program} {e : Env} {R : Room} {s : State} {mi : MethodId} {args : Array Value} {below : List Frame} {meth : Method} {c : Code} {H : Heap} {locs : List Loc} {cells slots : Nat} {lr : Array Slot} {Qf : State → Prop} (st st' : List Value), f st = some st' → mz_fx base kv m p R s mi args meth c → W p l e R s mi args below meth c H locs cells slots Qf (F0 mi nx lr (st'.map (mz_em base kv))) → W p l e R s mi args below meth c H locs cells slots Qf (F0 mi pc lr (st.map (mz_em base kv)))) : mz_so l base kv D m pc (tr_st m nx f) := by
  intro b ls st g Q k p e R s mi args below meth c H locs cells slots lr Qf h1 h2 h3 h4 h5 h6
  unfold tr_st at k
  split at k
  · rename_i st' hf
    exact h st st' hf h1 (k p e R s mi args below meth c H locs cells slots lr Qf h1 h2 h3 h4 h5 h6)
  · exact k.elim
theorem so_const {m pc nx : Nat} {v : Value} (h : ∀ {p : Program} {e : Env} {R : Room} {s : State} {mi : MethodId} {args : Array Value} {below : List Frame} {meth : Method} {c : Code} {H : Heap} {locs : List Loc} {cells slots : Nat} {lr : Array Slot} {Qf : State → Prop} {rest : List Value}, mz_fx base kv m p R s mi args meth c → W p l e R s mi args below meth c H locs cells slots Qf (F0 mi nx lr (mz_em base kv v :: rest)) → W p l e R s mi args below meth c H locs cells slots Qf (F0 mi pc lr rest)) : mz_so l base kv D m pc (tr_st m nx (f_const v)) :=
  so_st (fun st st' hf hx k => by cases hf; exact h hx k)
theorem so_ii {m pc nx : Nat} {o : Int32 → Int32 → Int32} (h : ∀ {p : Program} {e : Env} {R : Room} {s : State} {mi : MethodId} {args : Array Value} {below : List Frame} {meth : Method} {c : Code} {H : Heap} {locs : List Loc} {cells slots : Nat} {lr : Array Slot} {Qf : State → Prop} {rest : List Value} {x y : Int32}, p.tables.exec = Jvm.exec → c.code = mz_cd m → W p l e R s mi args below meth c H locs cells slots Qf (F0 mi nx lr (.int (o x y) :: rest)) → W p l e R s mi args below meth c H locs cells slots Qf (F0 mi pc lr (.int y :: .int x :: rest))) : mz_so l base kv D m pc (tr_st m nx (f_ii o)) :=
  so_st (fun st st' hf hx k => by
    unfold f_ii at hf
    split at hf
    · cases hf; exact h hx.1 hx.2.1 k
    · cases hf)
theorem so_ll {m pc nx : Nat} {o : Int64 → Int64 → Int64} (h : ∀ {p : Program} {e : Env} {R : Room} {s : State} {mi : MethodId} {args : Array Value} {below : List Frame} {meth : Method} {c : Code} {H : Heap} {locs : List Loc} {cells slots : Nat} {lr : Array Slot} {Qf : State → Prop} {rest : List Value} {x y : Int64}, p.tables.exec = Jvm.exec → c.code = mz_cd m → W p l e R s mi args below meth c H locs cells slots Qf (F0 mi nx lr (.long (o x y) :: rest)) → W p l e R s mi args below meth c H locs cells slots Qf (F0 mi pc lr (.long y :: .long x :: rest))) : mz_so l base kv D m pc (tr_st m nx (f_ll o)) :=
  so_st (fun st st' hf hx k => by
    unfold f_ll at hf
    split at hf
    · cases hf; exact h hx.1 hx.2.1 k
    · cases hf)
theorem so_li {m pc nx : Nat} {o : Int64 → Int32 → Int64} (h : ∀ {p : Program} {e : Env} {R : Room} {s : State} {mi : MethodId} {args : Array Value} {below : List Frame} {meth : Method} {c : Code} {H : Heap} {locs : List Loc} {cells slots : Nat} {lr : Array Slot} {Qf : State → Prop} {rest : List Value} {x : Int64} {y : Int32}, p.tables.exec = Jvm.exec → c.code = mz_cd m → W p l e R s mi args below meth c H locs cells slots Qf (F0 mi nx lr (.long (o x y) :: rest)) → W p l e R s mi args below meth c H locs cells slots Qf (F0 mi pc lr (.int y :: .long x :: rest))) : mz_so l base kv D m pc (tr_st m nx (f_li o)) :=
  so_st (fun st st' hf hx k => by
    unfold f_li at hf
    split at hf
    · cases hf; exact h hx.1 hx.2.1 k
    · cases hf)
theorem so_i {m pc nx : Nat} {o : Int32 → Value} (h : ∀ {p : Program} {e : Env} {R : Room} {s : State} {mi : MethodId} {args : Array Value} {below : List Frame} {meth : Method} {c : Code} {H : Heap} {locs : List Loc} {cells slots : Nat} {lr : Array Slot} {Qf : State → Prop} {rest : List Value} {x : Int32}, p.tables.exec = Jvm.exec → c.code = mz_cd m → W p l e R s mi args below meth c H locs cells slots Qf (F0 mi nx lr (mz_em base kv (o x) :: rest)) → W p l e R s mi args below meth c H locs cells slots Qf (F0 mi pc lr (.int x :: rest))) : mz_so l base kv D m pc (tr_st m nx (f_i o)) :=
  so_st (fun st st' hf hx k => by
    unfold f_i at hf
    split at hf
    · cases hf; exact h hx.1 hx.2.1 k
    · cases hf)
theorem so_l {m pc nx : Nat} {o : Int64 → Value} (h : ∀ {p : Program} {e : Env} {R : Room} {s : State} {mi : MethodId} {args : Array Value} {below : List Frame} {meth : Method} {c : Code} {H : Heap} {locs : List Loc} {cells slots : Nat} {lr : Array Slot} {Qf : State → Prop} {rest : List Value} {x : Int64}, p.tables.exec = Jvm.exec → c.code = mz_cd m → W p l e R s mi args below meth c H locs cells slots Qf (F0 mi nx lr (mz_em base kv (o x) :: rest)) → W p l e R s mi args below meth c H locs cells slots Qf (F0 mi pc lr (.long x :: rest))) : mz_so l base kv D m pc (tr_st m nx (f_l o)) :=
  so_st (fun st st' hf hx k => by
    unfold f_l at hf
    split at hf
    · cases hf; exact h hx.1 hx.2.1 k
    · cases hf)
/-! the instructions of the stack -/
theorem so_iconst {m pc : Nat} {n : Int} {v : Int32} (hv : Int32.ofInt n = v) (hd : decode (mz_cd m) pc = .ok (.iconst n, 1)) : mz_so l base kv D m pc (tr_st m (pc + 1) (f_const (.int v))) := so_const (fun hx k => lv_iconst hx.1 hx.2.1 hd hv k)
theorem so_bipush {m pc : Nat} {n : Int} {v : Int32} (hv : (Int8.ofInt n).toInt32 = v) (hd : decode (mz_cd m) pc = .ok (.bipush n, 2)) : mz_so l base kv D m pc (tr_st m (pc + 2) (f_const (.int v))) := so_const (fun hx k => lv_bipush hx.1 hx.2.1 hd hv k)
theorem so_sipush {m pc : Nat} {n : Int} {v : Int32} (hv : (Int16.ofInt n).toInt32 = v) (hd : decode (mz_cd m) pc = .ok (.sipush n, 3)) : mz_so l base kv D m pc (tr_st m (pc + 3) (f_const (.int v))) := so_const (fun hx k => lv_sipush hx.1 hx.2.1 hd hv k)
theorem so_lconst {m pc : Nat} {n : Fin 2} {v : Int64} (hv : Int64.ofNat (n : Nat) = v) (hd : decode (mz_cd m) pc = .ok (.lconst n, 1)) : mz_so l base kv D m pc (tr_st m (pc + 1) (f_const (.long v))) := so_const (fun hx k => lv_lconst hx.1 hx.2.1 hd hv k)
theorem so_ldc {m pc i : Nat} {v : Int32} (hw : Cond.constant (mz_nm m).cls i v ∈ mz_gt) (hd : decode (mz_cd m) pc = .ok (.ldc i, 2)) : mz_so l base kv D m pc (tr_st m (pc + 2) (f_const (.int v))) := so_const (fun hx k => lv_ldc hx.1 hx.2.1 hx.2.2.2.1 (hx.2.2.2.2.1 _ hw) hd k)
theorem so_ldc2 {m pc i : Nat} {v : Int64} (hw : Cond.constantLong (mz_nm m).cls i v ∈ mz_gt) (hd : decode (mz_cd m) pc = .ok (.ldc2_w i, 3)) : mz_so l base kv D m pc (tr_st m (pc + 3) (f_const (.long v))) := so_const (fun hx k => lv_ldc2 hx.1 hx.2.1 hx.2.2.2.1 (hx.2.2.2.2.1 _ hw) hd k)
theorem so_ldcS {m pc i j : Nat} {tx : String} (hn : (mz_nm m).cls = "WatchSleep$WallText") (hw : (i, tx, j) ∈ mz_tx) (hd : decode (mz_cd m) pc = .ok (.ldc i, 2)) : mz_so l base kv D m pc (tr_st m (pc + 2) (f_const (.ref (1000 + j)))) := so_const (fun hx k => by
  obtain ⟨a, h1, h2⟩ := hx.2.2.2.2.2.1.2.2.1 _ hw
  rw [mz_em_ge (by omega), show 1000 + j - 1000 = j by omega, show kv j = .ref a from h1] at k
  exact va_ldcS hx.1 hx.2.1 (by rw [← hn]; exact hx.2.2.2.1) h2 hd k)
theorem so_iadd {m pc : Nat} (hd : decode (mz_cd m) pc = .ok (.iadd, 1)) : mz_so l base kv D m pc (tr_st m (pc + 1) (f_ii (fun x y => x + y))) := so_ii (fun hx hb k => lv_iadd hx hb hd k)
theorem so_isub {m pc : Nat} (hd : decode (mz_cd m) pc = .ok (.isub, 1)) : mz_so l base kv D m pc (tr_st m (pc + 1) (f_ii (fun x y => x - y))) := so_ii (fun hx hb k => lv_isub hx hb hd k)
theorem so_imul {m pc : Nat} (hd : decode (mz_cd m) pc = .ok (.imul, 1)) : mz_so l base kv D m pc (tr_st m (pc + 1) (f_ii (fun x y => x * y))) := so_ii (fun hx hb k => lv_imul hx hb hd k)
theorem so_iand {m pc : Nat} (hd : decode (mz_cd m) pc = .ok (.iand, 1)) : mz_so l base kv D m pc (tr_st m (pc + 1) (f_ii (fun x y => x &&& y))) := so_ii (fun hx hb k => lv_iand hx hb hd k)
theorem so_ior {m pc : Nat} (hd : decode (mz_cd m) pc = .ok (.ior, 1)) : mz_so l base kv D m pc (tr_st m (pc + 1) (f_ii (fun x y => x ||| y))) := so_ii (fun hx hb k => lv_ior hx hb hd k)
theorem so_ishl {m pc : Nat} (hd : decode (mz_cd m) pc = .ok (.ishl, 1)) : mz_so l base kv D m pc (tr_st m (pc + 1) (f_ii (fun x y => x <<< (y &&& 31)))) := so_ii (fun hx hb k => lv_ishl hx hb hd k)
theorem so_ishr {m pc : Nat} (hd : decode (mz_cd m) pc = .ok (.ishr, 1)) : mz_so l base kv D m pc (tr_st m (pc + 1) (f_ii (fun x y => x >>> (y &&& 31)))) := so_ii (fun hx hb k => lv_ishr hx hb hd k)
theorem so_ineg {m pc : Nat} (hd : decode (mz_cd m) pc = .ok (.ineg, 1)) : mz_so l base kv D m pc (tr_st m (pc + 1) (f_i (fun x => .int (-x)))) := so_i (fun hx hb k => lv_ineg hx hb hd k)
theorem so_i2l {m pc : Nat} (hd : decode (mz_cd m) pc = .ok (.i2l, 1)) : mz_so l base kv D m pc (tr_st m (pc + 1) (f_i (fun x => .long x.toInt64))) := so_i (fun hx hb k => lv_i2l hx hb hd rfl k)
theorem so_i2c {m pc : Nat} (hd : decode (mz_cd m) pc = .ok (.i2c, 1)) : mz_so l base kv D m pc (tr_st m (pc + 1) (f_i (fun x => .int (x.toUInt32 % 65536).toInt32))) := so_i (fun hx hb k => lv_i2c hx hb hd rfl k)
theorem so_l2i {m pc : Nat} (hd : decode (mz_cd m) pc = .ok (.l2i, 1)) : mz_so l base kv D m pc (tr_st m (pc + 1) (f_l (fun x => .int x.toInt32))) := so_l (fun hx hb k => lv_l2i hx hb hd rfl k)
theorem so_lneg {m pc : Nat} (hd : decode (mz_cd m) pc = .ok (.lneg, 1)) : mz_so l base kv D m pc (tr_st m (pc + 1) (f_l (fun x => .long (-x)))) := so_l (fun hx hb k => lv_lneg hx hb hd k)
theorem so_ladd {m pc : Nat} (hd : decode (mz_cd m) pc = .ok (.ladd, 1)) : mz_so l base kv D m pc (tr_st m (pc + 1) (f_ll (fun x y => x + y))) := so_ll (fun hx hb k => lv_ladd hx hb hd k)
theorem so_lsub {m pc : Nat} (hd : decode (mz_cd m) pc = .ok (.lsub, 1)) : mz_so l base kv D m pc (tr_st m (pc + 1) (f_ll (fun x y => x - y))) := so_ll (fun hx hb k => lv_lsub hx hb hd k)
theorem so_lmul {m pc : Nat} (hd : decode (mz_cd m) pc = .ok (.lmul, 1)) : mz_so l base kv D m pc (tr_st m (pc + 1) (f_ll (fun x y => x * y))) := so_ll (fun hx hb k => lv_lmul hx hb hd k)
theorem so_land {m pc : Nat} (hd : decode (mz_cd m) pc = .ok (.land, 1)) : mz_so l base kv D m pc (tr_st m (pc + 1) (f_ll (fun x y => x &&& y))) := so_ll (fun hx hb k => lv_land hx hb hd k)
theorem so_lor {m pc : Nat} (hd : decode (mz_cd m) pc = .ok (.lor, 1)) : mz_so l base kv D m pc (tr_st m (pc + 1) (f_ll (fun x y => x ||| y))) := so_ll (fun hx hb k => lv_lor hx hb hd k)
theorem so_lshl {m pc : Nat} (hd : decode (mz_cd m) pc = .ok (.lshl, 1)) : mz_so l base kv D m pc (tr_st m (pc + 1) (f_li (fun x y => x <<< (y.toInt64 &&& 63)))) := so_li (fun hx hb k => lv_lshl hx hb hd rfl k)
theorem so_lshr {m pc : Nat} (hd : decode (mz_cd m) pc = .ok (.lshr, 1)) : mz_so l base kv D m pc (tr_st m (pc + 1) (f_li (fun x y => x >>> (y.toInt64 &&& 63)))) := so_li (fun hx hb k => lv_lshr hx hb hd rfl k)
theorem so_lushr {m pc : Nat} (hd : decode (mz_cd m) pc = .ok (.lushr, 1)) : mz_so l base kv D m pc (tr_st m (pc + 1) (f_li (fun x y => (x.toUInt64 >>> (y.toInt64.toUInt64 &&& Int64.toUInt64 63)).toInt64))) := so_li (fun hx hb k => lv_lushr hx hb hd rfl k)
theorem so_lcmp {m pc : Nat} (hd : decode (mz_cd m) pc = .ok (.lcmp, 1)) : mz_so l base kv D m pc (tr_st m (pc + 1) f_lcmp) := so_st (fun st st' hf hx k => by
  unfold f_lcmp at hf
  split at hf
  · cases hf; exact W.lcmp hx.1 hx.2.1 hd k
  · cases hf)
theorem so_dupI {m pc : Nat} (hd : decode (mz_cd m) pc = .ok (.dup, 1)) : mz_so l base kv D m pc (tr_st m (pc + 1) f_dupI) := so_st (fun st st' hf hx k => by
  unfold f_dupI at hf
  split at hf
  · cases hf; exact lv_dup hx.1 hx.2.1 hd rfl k
  · cases hf)
theorem so_dupR (hk : mz_kv kv) {m pc : Nat} (hd : decode (mz_cd m) pc = .ok (.dup, 1)) : mz_so l base kv D m pc (tr_st m (pc + 1) f_dupR) := so_st (fun st st' hf hx k => by
  unfold f_dupR at hf
  split at hf
  · rename_i a r; cases hf; exact lv_dup hx.1 hx.2.1 hd (mz_em_cat hk (.ref a)) k
  · cases hf)
theorem so_dup2 (hk : mz_kv kv) {m pc : Nat} (hd : decode (mz_cd m) pc = .ok (.dup2, 1)) : mz_so l base kv D m pc (tr_st m (pc + 1) f_dup2) := so_st (fun st st' hf hx k => by
  unfold f_dup2 at hf
  split at hf
  · rename_i x a r; cases hf; exact lv_dup2_11 hx.1 hx.2.1 hd rfl (mz_em_cat hk (.ref a)) k
  · cases hf)
theorem so_popI {m pc : Nat} (hd : decode (mz_cd m) pc = .ok (.pop, 1)) : mz_so l base kv D m pc (tr_st m (pc + 1) f_popI) := so_st (fun st st' hf hx k => by
  unfold f_popI at hf
  split at hf
  · cases hf; exact lv_pop hx.1 hx.2.1 hd rfl k
  · cases hf)
/-! the locals -/
theorem so_lc {m pc nx : Nat} {f : List Value → List Value → Option (List Value × List Value)} (h : ∀ {p : Program} {e : Env} {R : Room} {s : State} {mi : MethodId} {args : Array Value} {below : List Frame} {meth : Method} {c : Code} {H : Heap} {locs : List Loc} {cells slots : Nat} {lr : Array Slot} {Qf : State → Prop} (ls st ls' st' : List Value), f ls st = some (ls', st') → p.tables.exec = Jvm.exec → c.code = mz_cd m → mz_lr base kv ls lr (mz_mL m) → (∀ lr', mz_lr base kv ls' lr' (mz_mL m) → W p l e R s mi args below meth c H locs cells slots Qf (F0 mi nx lr' (st'.map (mz_em base kv)))) → W p l e R s mi args below meth c H locs cells slots Qf (F0 mi pc lr (st.map (mz_em base kv)))) : mz_so l base kv D m pc (tr_lc m nx f) := by
  intro b ls st g Q k p e R s mi args below meth c H locs cells slots lr Qf h1 h2 h3 h4 h5 h6
  unfold tr_lc at k
  split at k
  · rename_i ls' st' hf
    exact h ls st ls' st' hf h1.1 h1.2.1 h4 (fun lr' h4' => k p e R s mi args below meth c H locs cells slots lr' Qf h1 h2 h3 h4' h5 h6)
  · exact k.elim
theorem so_ldI {m pc nx i : Nat} (h : ∀ {p : Program} {e : Env} {R : Room} {s : State} {mi : MethodId} {args : Array Value} {below : List Frame} {meth : Method} {c : Code} {H : Heap} {locs : List Loc} {cells slots : Nat} {lr : Array Slot} {Qf : State → Prop} {rest : List Value} {x : Int32}, p.tables.exec = Jvm.exec → c.code = mz_cd m → lr[i]? = some (.val (.int x)) → W p l e R s mi args below meth c H locs cells slots Qf (F0 mi nx lr (.int x :: rest)) → W p l e R s mi args below meth c H locs cells slots Qf (F0 mi pc lr rest)) : mz_so l base kv D m pc (tr_lc m nx (f_ldI i)) :=
  so_lc (fun ls st ls' st' hf hx hb hl k => by
    unfold f_ldI at hf
    split at hf
    · rename_i x hi
      cases hf; exact h hx hb (hl.2.2.2 i (.int x) hi (fun q => by cases q)) (k _ hl)
    · cases hf)
theorem so_ldL {m pc nx i : Nat} (h : ∀ {p : Program} {e : Env} {R : Room} {s : State} {mi : MethodId} {args : Array Value} {below : List Frame} {meth : Method} {c : Code} {H : Heap} {locs : List Loc} {cells slots : Nat} {lr : Array Slot} {Qf : State → Prop} {rest : List Value} {x : Int64}, p.tables.exec = Jvm.exec → c.code = mz_cd m → lr[i]? = some (.val (.long x)) → W p l e R s mi args below meth c H locs cells slots Qf (F0 mi nx lr (.long x :: rest)) → W p l e R s mi args below meth c H locs cells slots Qf (F0 mi pc lr rest)) : mz_so l base kv D m pc (tr_lc m nx (f_ldL i)) :=
  so_lc (fun ls st ls' st' hf hx hb hl k => by
    unfold f_ldL at hf
    split at hf
    · rename_i x hi
      cases hf; exact h hx hb (hl.2.2.2 i (.long x) hi (fun q => by cases q)) (k _ hl)
    · cases hf)
theorem so_iload {m pc i : Nat} (hd : decode (mz_cd m) pc = .ok (.iload i, 2)) : mz_so l base kv D m pc (tr_lc m (pc + 2) (f_ldI i)) := so_ldI (fun hx hb hl k => lv_iload hx hb hd hl k)
theorem so_iload_n {m pc i : Nat} {j : Fin 4} (hj : (j : Nat) = i) (hd : decode (mz_cd m) pc = .ok (.iload_n j, 1)) : mz_so l base kv D m pc (tr_lc m (pc + 1) (f_ldI i)) := so_ldI (fun hx hb hl k => lv_iload_n hx hb hd hj hl k)
theorem so_lload {m pc i : Nat} (hd : decode (mz_cd m) pc = .ok (.lload i, 2)) : mz_so l base kv D m pc (tr_lc m (pc + 2) (f_ldL i)) := so_ldL (fun hx hb hl k => lv_lload hx hb hd hl k)
theorem so_lload_n {m pc i : Nat} {j : Fin 4} (hj : (j : Nat) = i) (hd : decode (mz_cd m) pc = .ok (.lload_n j, 1)) : mz_so l base kv D m pc (tr_lc m (pc + 1) (f_ldL i)) := so_ldL (fun hx hb hl k => lv_lload_n hx hb hd hj hl k)
theorem so_aload_n (hk : mz_kv kv) {m pc i : Nat} {j : Fin 4} (hj : (j : Nat) = i) (hd : decode (mz_cd m) pc = .ok (.aload_n j, 1)) : mz_so l base kv D m pc (tr_lc m (pc + 1) (f_ldR i)) :=
  so_lc (fun ls st ls' st' hf hx hb hl k => by
    unfold f_ldR at hf
    split at hf
    · rename_i x hi
      cases hf
      have h1 := hl.2.2.2 i (.ref x) hi (fun q => by cases q)
      have h2 := k _ hl
      rw [List.map_cons] at h2
      rcases mz_em_ref (base := base) hk x with e | ⟨a, e⟩
      · rw [e] at h1 h2
        exact lv_aload_nN hx hb hd hj h1 h2
      · rw [e] at h1 h2
        exact lv_aload_n hx hb hd hj h1 h2
    · cases hf)
theorem so_istore {m pc i : Nat} (hk : mz_kv kv) (hi : i < mz_mL m) (hd : decode (mz_cd m) pc = .ok (.istore i, 2)) : mz_so l base kv D m pc (tr_lc m (pc + 2) (f_stI i)) :=
  so_lc (fun ls st ls' st' hf hx hb hl k => by
    unfold f_stI at hf
    split at hf
    · rename_i x r; cases hf
      exact lv_istore hx hb hd hl.has hi rfl (fun lr' h' => k lr' (hl.st1 (x := .int x) hk h'))
    · cases hf)
theorem so_istore_n {m pc i : Nat} {j : Fin 4} (hk : mz_kv kv) (hj : (j : Nat) = i) (hi : i < mz_mL m) (hd : decode (mz_cd m) pc = .ok (.istore_n j, 1)) : mz_so l base kv D m pc (tr_lc m (pc + 1) (f_stI i)) :=
  so_lc (fun ls st ls' st' hf hx hb hl k => by
    unfold f_stI at hf
    split at hf
    · rename_i x r; cases hf
      exact lv_istore_n hx hb hd hj hl.has hi rfl (fun lr' h' => k lr' (hl.st1 (x := .int x) hk h'))
    · cases hf)
theorem so_lstore {m pc i : Nat} (hk : mz_kv kv) (hi : i + 1 < mz_mL m) (hd : decode (mz_cd m) pc = .ok (.lstore i, 2)) : mz_so l base kv D m pc (tr_lc m (pc + 2) (f_stL i)) :=
  so_lc (fun ls st ls' st' hf hx hb hl k => by
    unfold f_stL at hf
    split at hf
    · rename_i x r; cases hf
      exact lv_lstore hx hb hd hl.has hi rfl (fun lr' h' => k lr' (hl.st2 (x := .long x) hk h'))
    · cases hf)
theorem so_lstore_n {m pc i : Nat} {j : Fin 4} (hk : mz_kv kv) (hj : (j : Nat) = i) (hi : i + 1 < mz_mL m) (hd : decode (mz_cd m) pc = .ok (.lstore_n j, 1)) : mz_so l base kv D m pc (tr_lc m (pc + 1) (f_stL i)) :=
  so_lc (fun ls st ls' st' hf hx hb hl k => by
    unfold f_stL at hf
    split at hf
    · rename_i x r; cases hf
      exact lv_lstore_n hx hb hd hj hl.has hi rfl (fun lr' h' => k lr' (hl.st2 (x := .long x) hk h'))
    · cases hf)
theorem so_astore_n {m pc i : Nat} {j : Fin 4} (hk : mz_kv kv) (hj : (j : Nat) = i) (hi : i < mz_mL m) (hd : decode (mz_cd m) pc = .ok (.astore_n j, 1)) : mz_so l base kv D m pc (tr_lc m (pc + 1) (f_stR i)) :=
  so_lc (fun ls st ls' st' hf hx hb hl k => by
    unfold f_stR at hf
    split at hf
    · rename_i x r; cases hf
      have h2 := fun lr' h' => k lr' (hl.st1 (x := .ref x) hk h')
      show W _ _ _ _ _ _ _ _ _ _ _ _ _ _ _ (F0 _ _ _ (mz_em base kv (.ref x) :: _))
      rcases mz_em_ref (base := base) hk x with e | ⟨a, e⟩
      · rw [e] at h2 ⊢
        exact lv_astore_nN hx hb hd hj hl.has hi rfl h2
      · rw [e] at h2 ⊢
        exact lv_astore_n hx hb hd hj hl.has hi rfl h2
    · cases hf)
theorem so_iinc {m pc i : Nat} {n : Int} (hk : mz_kv kv) (hi : i < mz_mL m) (hd : decode (mz_cd m) pc = .ok (.iinc i n, 3)) : mz_so l base kv D m pc (tr_lc m (pc + 3) (f_inc i n)) :=
  so_lc (fun ls st ls' st' hf hx hb hl k => by
    unfold f_inc at hf
    split at hf
    · rename_i x hx1; cases hf
      obtain ⟨j, hj⟩ := List.getElem?_of_mem (mz_ll_mem (base := base) (kv := kv) (q := (i, .int x)).mpr ⟨.int x, hi, hx1, (fun q => by cases q), rfl⟩)
      exact lv_iinc hx hb hd hl.has hj rfl hi rfl (fun lr' h' => k lr' (hl.st1 (x := .int (x + Int32.ofInt n)) hk h'))
    · cases hf)
/-! branches -/
theorem so_c2 {m pc tgt nx : Nat} {o : Int32 → Int32 → Prop} (h : ∀ {p : Program} {e : Env} {R : Room} {s : State} {mi : MethodId} {args : Array Value} {below : List Frame} {meth : Method} {c : Code} {H : Heap} {locs : List Loc} {cells slots : Nat} {lr : Array Slot} {Qf : State → Prop} {rest : List Value} {x y : Int32}, p.tables.exec = Jvm.exec → c.code = mz_cd m → (o x y → W p l e R s mi args below meth c H locs cells slots Qf (F0 mi tgt lr rest)) → (¬ o x y → W p l e R s mi args below meth c H locs cells slots Qf (F0 mi nx lr rest)) → W p l e R s mi args below meth c H locs cells slots Qf (F0 mi pc lr (.int y :: .int x :: rest))) : mz_so l base kv D m pc (tr_if m tgt nx (f_c2 o)) := by
  intro b ls st g Q k p e R s mi args below meth c H locs cells slots lr Qf h1 h2 h3 h4 h5 h6
  unfold tr_if at k
  split at k
  · rename_i cnd st' hf
    unfold f_c2 at hf
    split at hf
    · cases hf
      exact h h1.1 h1.2.1 (fun q => k.1 q p e R s mi args below meth c H locs cells slots lr Qf h1 h2 h3 h4 h5 h6) (fun q => k.2 q p e R s mi args below meth c H locs cells slots lr Qf h1 h2 h3 h4 h5 h6)
    · cases hf
  · exact k.elim
theorem so_c1 {m pc tgt nx : Nat} {o : Int32 → Prop} (h : ∀ {p : Program} {e : Env} {R : Room} {s : State} {mi : MethodId} {args : Array Value} {below : List Frame} {meth : Method} {c : Code} {H : Heap} {locs : List Loc} {cells slots : Nat} {lr : Array Slot} {Qf : State → Prop} {rest : List Value} {x : Int32}, p.tables.exec = Jvm.exec → c.code = mz_cd m → (o x → W p l e R s mi args below meth c H locs cells slots Qf (F0 mi tgt lr rest)) → (¬ o x → W p l e R s mi args below meth c H locs cells slots Qf (F0 mi nx lr rest)) → W p l e R s mi args below meth c H locs cells slots Qf (F0 mi pc lr (.int x :: rest))) : mz_so l base kv D m pc (tr_if m tgt nx (f_c1 o)) := by
  intro b ls st g Q k p e R s mi args below meth c H locs cells slots lr Qf h1 h2 h3 h4 h5 h6
  unfold tr_if at k
  split at k
  · rename_i cnd st' hf
    unfold f_c1 at hf
    split at hf
    · cases hf
      exact h h1.1 h1.2.1 (fun q => k.1 q p e R s mi args below meth c H locs cells slots lr Qf h1 h2 h3 h4 h5 h6) (fun q => k.2 q p e R s mi args below meth c H locs cells slots lr Qf h1 h2 h3 h4 h5 h6)
    · cases hf
  · exact k.elim
theorem so_icmp_eq {m pc tgt : Nat} {off : Int} (ht : (pc : Int) + off = (tgt : Int)) (hd : decode (mz_cd m) pc = .ok (.if_icmp .eq off, 3)) : mz_so l base kv D m pc (tr_if m tgt (pc + 3) (f_c2 (fun x y => x = y))) := so_c2 (fun hx hb a b => lv_icmp_eq hx hb hd ht a b)
theorem so_icmp_ne {m pc tgt : Nat} {off : Int} (ht : (pc : Int) + off = (tgt : Int)) (hd : decode (mz_cd m) pc = .ok (.if_icmp .ne off, 3)) : mz_so l base kv D m pc (tr_if m tgt (pc + 3) (f_c2 (fun x y => ¬ x = y))) := so_c2 (fun hx hb a b => lv_icmp_ne hx hb hd ht a (fun q => b (fun z => z q)))
theorem so_icmp_lt {m pc tgt : Nat} {off : Int} (ht : (pc : Int) + off = (tgt : Int)) (hd : decode (mz_cd m) pc = .ok (.if_icmp .lt off, 3)) : mz_so l base kv D m pc (tr_if m tgt (pc + 3) (f_c2 (fun x y => x < y))) := so_c2 (fun hx hb a b => lv_icmp_lt hx hb hd ht a b)
theorem so_icmp_ge {m pc tgt : Nat} {off : Int} (ht : (pc : Int) + off = (tgt : Int)) (hd : decode (mz_cd m) pc = .ok (.if_icmp .ge off, 3)) : mz_so l base kv D m pc (tr_if m tgt (pc + 3) (f_c2 (fun x y => y ≤ x))) := so_c2 (fun hx hb a b => lv_icmp_ge hx hb hd ht a b)
theorem so_icmp_gt {m pc tgt : Nat} {off : Int} (ht : (pc : Int) + off = (tgt : Int)) (hd : decode (mz_cd m) pc = .ok (.if_icmp .gt off, 3)) : mz_so l base kv D m pc (tr_if m tgt (pc + 3) (f_c2 (fun x y => y < x))) := so_c2 (fun hx hb a b => lv_icmp_gt hx hb hd ht a b)
theorem so_icmp_le {m pc tgt : Nat} {off : Int} (ht : (pc : Int) + off = (tgt : Int)) (hd : decode (mz_cd m) pc = .ok (.if_icmp .le off, 3)) : mz_so l base kv D m pc (tr_if m tgt (pc + 3) (f_c2 (fun x y => x ≤ y))) := so_c2 (fun hx hb a b => lv_icmp_le hx hb hd ht a b)
theorem so_if_eq {m pc tgt : Nat} {off : Int} (ht : (pc : Int) + off = (tgt : Int)) (hd : decode (mz_cd m) pc = .ok (.ifCond .eq off, 3)) : mz_so l base kv D m pc (tr_if m tgt (pc + 3) (f_c1 (fun x => x = 0))) := so_c1 (fun hx hb a b => lv_if_eq hx hb hd ht a b)
theorem so_if_ne {m pc tgt : Nat} {off : Int} (ht : (pc : Int) + off = (tgt : Int)) (hd : decode (mz_cd m) pc = .ok (.ifCond .ne off, 3)) : mz_so l base kv D m pc (tr_if m tgt (pc + 3) (f_c1 (fun x => ¬ x = 0))) := so_c1 (fun hx hb a b => lv_if_ne hx hb hd ht a (fun q => b (fun z => z q)))
theorem so_if_lt {m pc tgt : Nat} {off : Int} (ht : (pc : Int) + off = (tgt : Int)) (hd : decode (mz_cd m) pc = .ok (.ifCond .lt off, 3)) : mz_so l base kv D m pc (tr_if m tgt (pc + 3) (f_c1 (fun x => x < 0))) := so_c1 (fun hx hb a b => lv_if_lt hx hb hd ht a b)
theorem so_if_ge {m pc tgt : Nat} {off : Int} (ht : (pc : Int) + off = (tgt : Int)) (hd : decode (mz_cd m) pc = .ok (.ifCond .ge off, 3)) : mz_so l base kv D m pc (tr_if m tgt (pc + 3) (f_c1 (fun x => 0 ≤ x))) := so_c1 (fun hx hb a b => lv_if_ge hx hb hd ht a b)
theorem so_if_gt {m pc tgt : Nat} {off : Int} (ht : (pc : Int) + off = (tgt : Int)) (hd : decode (mz_cd m) pc = .ok (.ifCond .gt off, 3)) : mz_so l base kv D m pc (tr_if m tgt (pc + 3) (f_c1 (fun x => 0 < x))) := so_c1 (fun hx hb a b => lv_if_gt hx hb hd ht a b)
theorem so_if_le {m pc tgt : Nat} {off : Int} (ht : (pc : Int) + off = (tgt : Int)) (hd : decode (mz_cd m) pc = .ok (.ifCond .le off, 3)) : mz_so l base kv D m pc (tr_if m tgt (pc + 3) (f_c1 (fun x => x ≤ 0))) := so_c1 (fun hx hb a b => lv_if_le hx hb hd ht a b)
theorem so_goto {m pc tgt : Nat} {off : Int} (ht : (pc : Int) + off = (tgt : Int)) (hd : decode (mz_cd m) pc = .ok (.goto off, 3)) : mz_so l base kv D m pc (tr_go m tgt) := by
  intro b ls st g Q k p e R s mi args below meth c H locs cells slots lr Qf h1 h2 h3 h4 h5 h6
  exact lv_goto h1.1 h1.2.1 hd ht (k p e R s mi args below meth c H locs cells slots lr Qf h1 h2 h3 h4 h5 h6)
/-- a switch by a list of cases -/
def mz_lsf : List (Int32 × Nat) → Nat → Int32 → Nat
  | [], d, _ => d
  | (k, t) :: r, d, x => if x = k then t else mz_lsf r d x
/-- a switch by a table -/
def mz_tsf (lo : Int) : List Nat → Nat → Int32 → Nat := fun ts d x => if x.toInt < lo then d else ts.getD (x.toInt - lo).toNat d
theorem so_table {m pc len d : Nat} {dflt lo hi : Int} {offs : Array Int} {ts : List Nat} (hw : (pc : Int) + dflt = (d : Int)) (hn : hi = lo + ts.length - 1) (ht : offs.toList = ts.map (fun t : Nat => (t : Int) - pc)) (hd : decode (mz_cd m) pc = .ok (.tableswitch dflt lo hi offs, len)) : mz_so l base kv D m pc (tr_sw m (mz_tsf lo ts d)) := by
  intro b ls st g Q k p e R s mi args below meth c H locs cells slots lr Qf h1 h2 h3 h4 h5 h6
  unfold tr_sw at k
  split at k
  · rename_i x r
    have k := k p e R s mi args below meth c H locs cells slots lr Qf h1 h2 h3 h4 h5 h6
    unfold mz_tsf at k
    by_cases q1 : x.toInt < lo
    · rw [if_pos q1] at k
      exact lv_tableOut h1.1 h1.2.1 hd (Or.inl q1) hw k
    · rw [if_neg q1] at k
      by_cases q2 : hi < x.toInt
      · rw [show ts.getD (x.toInt - lo).toNat d = d by rw [List.getD_eq_getElem?_getD, List.getElem?_eq_none (by omega)]; rfl] at k
        exact lv_tableOut h1.1 h1.2.1 hd (Or.inr q2) hw k
      · have hl : (x.toInt - lo).toNat < ts.length := by omega
        have ho : offs[(x.toInt - lo).toNat]? = some ((ts.getD (x.toInt - lo).toNat d : Nat) - (pc : Int)) := by
          rw [← Array.getElem?_toList, ht, List.getElem?_map, List.getD_eq_getElem?_getD, List.getElem?_eq_getElem hl]
          rfl
        exact lv_tableIn h1.1 h1.2.1 hd q1 q2 ho (by omega) k
  · exact k.elim
theorem mz_lsf_off (pc d : Nat) (x : Int32) : ∀ ks : List (Int32 × Nat), Op.lookupswitch.offset (ks.map (fun q => (q.1.toInt, (q.2 : Int) - pc))) ((d : Int) - pc) x.toInt = (mz_lsf ks d x : Nat) - (pc : Int)
  | [] => rfl
  | (k, t) :: r => by
    show Op.lookupswitch.offset ((k.toInt, (t : Int) - pc) :: r.map (fun q => (q.1.toInt, (q.2 : Int) - pc))) _ _ = _
    unfold mz_lsf
    by_cases q : x = k
    · rw [if_pos q, q]; simp [Op.lookupswitch.offset]
    · rw [if_neg q, lv_osw q rfl]; exact mz_lsf_off pc d x r
theorem so_lookup {m pc len d : Nat} {dflt : Int} {ps : Array (Int × Int)} {ks : List (Int32 × Nat)} (hw : (pc : Int) + dflt = (d : Int)) (hp : (ps.toList.zip (ps.toList.drop 1)).all (fun (a, next) => a.1 < next.1) = true) (ht : ps.toList = ks.map (fun q => (q.1.toInt, (q.2 : Int) - pc))) (hd : decode (mz_cd m) pc = .ok (.lookupswitch dflt ps, len)) : mz_so l base kv D m pc (tr_sw m (mz_lsf ks d)) := by
  intro b ls st g Q k p e R s mi args below meth c H locs cells slots lr Qf h1 h2 h3 h4 h5 h6
  unfold tr_sw at k
  split at k
  · rename_i x r
    have k := k p e R s mi args below meth c H locs cells slots lr Qf h1 h2 h3 h4 h5 h6
    refine lv_lookup (off := (mz_lsf ks d x : Nat) - (pc : Int)) h1.1 h1.2.1 hd hp ?_ (by omega) k
    rw [ht, show dflt = (d : Int) - pc by omega]
    exact mz_lsf_off pc d x ks
  · exact k.elim
end MZS
