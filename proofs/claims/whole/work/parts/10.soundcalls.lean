/-! ===== SOUNDNESS of calls and returns ===== -/
section MZC2
variable {l : Launch} {base : Nat} {kv : Nat → Value} {D : va_G}
theorem so_ret {m pc : Nat} {f : List Value → Option (Prop × Option Value)} (h : ∀ st c rv, f st = some (c, rv) → c → st = rv.toList ∧ mz_rd m pc rv) : mz_so l base kv D m pc (tr_ret f) := by
  intro b ls st g Q k p e R s mi args below meth c H locs cells slots lr Qf h1 h2 h3 h4 h5 h6
  unfold tr_ret at k
  split at k
  · rename_i cnd rv hf
    obtain ⟨e1, e2⟩ := h st cnd rv hf k.1
    rw [e1]
    exact h6 rv g H locs pc cells slots lr k.2 h2 h3 ⟨by omega, by omega⟩ e2
  · exact k.elim
theorem so_return {m pc : Nat} (hr : mz_rt m = none) (hd : decode (mz_cd m) pc = .ok (.return_, 1)) : mz_so l base kv D m pc (tr_ret f_rv) := so_ret (fun st c rv hf hc => by
  unfold f_rv at hf
  split at hf
  · cases hf; exact ⟨rfl, hd, hr⟩
  · cases hf)
theorem so_iret {m pc : Nat} (hr : mz_rt m = some .int) (hd : decode (mz_cd m) pc = .ok (.ireturn, 1)) : mz_so l base kv D m pc (tr_ret f_ri) := so_ret (fun st c rv hf hc => by
  unfold f_ri at hf
  split at hf
  · cases hf; exact ⟨rfl, hd, _, hr, rfl⟩
  · cases hf)
theorem so_zret {m pc : Nat} (hr : mz_rt m = some .boolean) (hd : decode (mz_cd m) pc = .ok (.ireturn, 1)) : mz_so l base kv D m pc (tr_ret f_rz) := so_ret (fun st c rv hf hc => by
  unfold f_rz at hf
  split at hf
  · cases hf
    refine ⟨rfl, hd, _, hr, ?_⟩
    rcases hc with rfl | rfl <;> rfl
  · cases hf)
theorem mz_nar_of {ty : FieldType} (hty : ty = .byte ∨ ty = .char) {v : Int32} (h : vp_nar ty v = v) : narrow ty (.int v) = .int v := by
  rcases hty with rfl | rfl <;> exact congrArg Value.int h
theorem so_bret {m pc : Nat} (hr : mz_rt m = some .byte) (hd : decode (mz_cd m) pc = .ok (.ireturn, 1)) : mz_so l base kv D m pc (tr_ret f_rb) := so_ret (fun st c rv hf hc => by
  unfold f_rb at hf
  split at hf
  · cases hf; exact ⟨rfl, hd, _, hr, mz_nar_of (Or.inl rfl) hc⟩
  · cases hf)
theorem so_cret {m pc : Nat} (hr : mz_rt m = some .char) (hd : decode (mz_cd m) pc = .ok (.ireturn, 1)) : mz_so l base kv D m pc (tr_ret f_rc) := so_ret (fun st c rv hf hc => by
  unfold f_rc at hf
  split at hf
  · cases hf; exact ⟨rfl, hd, _, hr, mz_nar_of (Or.inr rfl) hc⟩
  · cases hf)
theorem so_lret {m pc : Nat} (hr : mz_rt m = some .long) (hd : decode (mz_cd m) pc = .ok (.lreturn, 1)) : mz_so l base kv D m pc (tr_ret f_rl) := so_ret (fun st c rv hf hc => by
  unfold f_rl at hf
  split at hf
  · cases hf; exact ⟨rfl, hd, hr⟩
  · cases hf)
/-! a method's entry -/
theorem mz_lay_sl (hk : mz_kv kv) : ∀ as : List Value, (mz_lay as).length = (lg_sl (as.map (mz_em base kv))).length ∧ ∀ (i : Nat) (v : Value), (mz_lay as)[i]? = some v → v ≠ .null → (lg_sl (as.map (mz_em base kv)))[i]? = some (.val (mz_em base kv v))
  | [] => ⟨rfl, fun i v h => by simp [mz_lay] at h⟩
  | a :: r => by
    obtain ⟨ih1, ih2⟩ := mz_lay_sl hk r
    have hc := mz_em_cat (base := base) hk a
    have hsl : lg_sl ((a :: r).map (mz_em base kv)) = (if (mz_em base kv a).category = 2 then [Slot.val (mz_em base kv a), Slot.second] else [Slot.val (mz_em base kv a)]) ++ lg_sl (r.map (mz_em base kv)) := by simp [lg_sl]
    rw [hsl, hc]
    have one : a.category = 1 → mz_lay (a :: r) = a :: mz_lay r → (mz_lay (a :: r)).length = ((if a.category = 2 then [Slot.val (mz_em base kv a), Slot.second] else [Slot.val (mz_em base kv a)]) ++ lg_sl (r.map (mz_em base kv))).length ∧ ∀ (i : Nat) (v : Value), (mz_lay (a :: r))[i]? = some v → v ≠ .null → ((if a.category = 2 then [Slot.val (mz_em base kv a), Slot.second] else [Slot.val (mz_em base kv a)]) ++ lg_sl (r.map (mz_em base kv)))[i]? = some (.val (mz_em base kv v)) := by
      intro h1 h2
      rw [h2, h1, if_neg (by decide)]
      refine ⟨by simp [ih1], fun i v hi hn => ?_⟩
      cases i with
      | zero => simp at hi; subst hi; rfl
      | succ i => simp at hi; simpa using ih2 i v hi hn
    have two : a.category = 2 → mz_lay (a :: r) = a :: .null :: mz_lay r → (mz_lay (a :: r)).length = ((if a.category = 2 then [Slot.val (mz_em base kv a), Slot.second] else [Slot.val (mz_em base kv a)]) ++ lg_sl (r.map (mz_em base kv))).length ∧ ∀ (i : Nat) (v : Value), (mz_lay (a :: r))[i]? = some v → v ≠ .null → ((if a.category = 2 then [Slot.val (mz_em base kv a), Slot.second] else [Slot.val (mz_em base kv a)]) ++ lg_sl (r.map (mz_em base kv)))[i]? = some (.val (mz_em base kv v)) := by
      intro h1 h2
      rw [h2, h1, if_pos rfl]
      refine ⟨by simp [ih1], fun i v hi hn => ?_⟩
      match i, hi with
      | 0, hi => simp at hi; subst hi; rfl
      | 1, hi => simp at hi; exact absurd hi.symm hn
      | i + 2, hi => simp at hi; simpa using ih2 i v hi hn
    cases a with
    | long x => exact two rfl rfl
    | double x => exact two rfl rfl
    | int x => exact one rfl rfl
    | float x => exact one rfl rfl
    | null => exact one rfl rfl
    | ref x => exact one rfl rfl
    | retAddr x => exact one rfl rfl
theorem mz_lr_entry (hk : mz_kv kv) {as : List Value} {n : Nat} (h : (mz_lay as).length ≤ n) : mz_lr base kv (mz_ent as n) ((lg_sl (as.map (mz_em base kv)) ++ List.replicate (n - (lg_sl (as.map (mz_em base kv))).length) Slot.unset).toArray) n := by
  obtain ⟨h1, h2⟩ := mz_lay_sl (base := base) hk as
  have hl := lv_entry (as.map (mz_em base kv)) (n := n) (by omega)
  refine ⟨by simp [mz_ent]; omega, hl.1, hl.2.1, fun i v hi hn => ?_⟩
  unfold mz_ent at hi
  by_cases q : i < (mz_lay as).length
  · rw [List.getElem?_append_left q] at hi
    have := h2 i v hi hn
    rw [List.getElem?_toArray, List.getElem?_append_left (by omega)]
    exact this
  · rw [List.getElem?_append_right (by omega)] at hi
    have := List.mem_of_getElem? hi
    exact absurd (List.eq_of_mem_replicate this) hn
theorem mz_args_eq : ∀ (n : Nat) (acc st as r : List Value), mz_args n acc st = some (as, r) → as.length = n + acc.length ∧ ∃ xs, as = xs ++ acc ∧ st = xs.reverse ++ r
  | 0, acc, st, as, r, h => by cases h; exact ⟨by omega, [], rfl, rfl⟩
  | n + 1, acc, [], as, r, h => by cases h
  | n + 1, acc, v :: st, as, r, h => by
    obtain ⟨h1, xs, h2, h3⟩ := mz_args_eq n (v :: acc) st as r h
    refine ⟨by simp at h1; omega, xs ++ [v], by rw [h2]; simp, by rw [h3]; simp⟩
/-- what holds when a callee of ours begins, and when it has ended -/
theorem mz_met {y mc ms : Nat} {as : List Value} {g : mzG} {Q1 : mzQ} (hk : mz_kv kv) (hplain : plainName (mz_nm y).cls = true) (hlen : (mz_lay as).length ≤ mz_mL y) (hgo : mz_go l base kv D y (mc, ms) 0 (mz_ent as (mz_mL y)) [] g Q1) :
    Met l (mz_nm y) (Cond.code (mz_nm y) (mz_cd y) (mz_mL y) (mz_rt y) :: mz_gt) { frames := mz_fr y, cells := mc, slots := ms, locals := mz_lo y } (va_Pc (as.map (mz_em base kv)) (fun U => mz_A base kv D g U U.heap ∧ mz_N kv U)) (fun _ st oc t => (∃ rv g1, oc = .returned (rv.map (mz_em base kv)) ∧ Q1 rv g1 ∧ mz_A base kv D g1 t t.heap) ∧ va_F (mzA base) st t) mc ms (mzA base) := by
  refine Met.ofW (cc := mz_cd y) (maxL := mz_mL y) (ret := mz_rt y) hplain rfl ?_
  intro p e s mi args below meth c s₁ B hml hv
  obtain ⟨rfl, hA, hN⟩ := hv
  have hts := atoms_spec (ws := Cond.code (mz_nm y) (mz_cd y) (mz_mL y) (mz_rt y) :: mz_gt) B.pre
  have hlocks := B.notSynchronized
  rw [lg_entry_eq]
  refine hgo p e _ s mi _ below meth c s.heap [] 0 0 _ _ ⟨B.exec, B.bytes, hml, findClass_of_methodNamed B.named, fun w hw => hts w (List.mem_cons_of_mem _ hw), hN, hA.2.2.1, B.notSynchronized, B.returns, (fun h => (name_of_methodNamed B.named B.method).1.trans h), ⟨Nat.le_refl _, Nat.le_refl _⟩, by have := hA.1.1; omega⟩ hA va_S.rf (mz_lr_entry hk hlen) ⟨Nat.le_of_eq (Nat.zero_add _), Nat.le_of_eq (Nat.zero_add _)⟩ ?_
  intro rv g' H' locs' pc' cells' slots' lr' hq hA' hS' hc' hrd
  refine W.widen (k := mc) (n := ms) hc'.1 hc'.2 ?_
  have fin : ∀ t : State, t.heap = H' → s.WarmedH t.vm → (∃ rv1 g1, Outcome.returned (rv.map (mz_em base kv)) = .returned (rv1.map (mz_em base kv)) ∧ Q1 rv1 g1 ∧ mz_A base kv D g1 t t.heap) ∧ va_F (mzA base) s t := fun t ht hW => ⟨⟨rv, g', rfl, hq, by rw [ht]; exact hA'.moved hW.alike⟩, hS'.F ht⟩
  unfold mz_rd at hrd
  split at hrd
  · exact W.vret B.exec B.bytes (B.returns.trans hrd.2) fin hS'.2.2 hrd.1
  · obtain ⟨h1, ty, h2, h3⟩ := hrd
    exact W.zret B.exec B.bytes (B.returns.trans h2) h3 fin hS'.2.2 h1
  · exact W.lret B.exec B.bytes (B.returns.trans hrd.2) fin hS'.2.2 hrd.1
  · exact hrd.elim
theorem mz_blind {g : mzG} {av : List Value} : FrameBlind (va_Pc av (fun U => mz_A base kv D g U U.heap ∧ mz_N kv U)) :=
  fun a U gf mk q => ⟨q.1, mz_A.moved (s := U) (U := U.calling gf mk a) (Vm.Alike.refl U.vm) q.2.1, mz_N.same rfl q.2.2⟩
/-- behind a call -/
theorem so_call {m pc nx y n mL rc mc ms : Nat} (hk : mz_kv kv) (hplain : plainName (mz_nm y).cls = true) (hmL : mz_mL y = mL)
    (h : ∀ {p : Program} {e : Env} {R : Room} {s : State} {mi : MethodId} {args : Array Value} {below : List Frame} {meth : Method} {c : Code} {H : Heap} {locs : List Loc} {cells slots : Nat} {lr : Array Slot} {g : mzG} {as r : List Value} {Qc : Array Value → State → Outcome → State → Prop}, mz_fx base kv m p R s mi args meth c → mz_A base kv D g s H → lr.size = mz_mL m → as.length = n → mz_rc rc as g → (r.map fun v => v.category).sum ≤ 8 → (cells + mc ≤ R.cells ∧ slots + ms ≤ R.slots) →
      Met l (mz_nm y) (Cond.code (mz_nm y) (mz_cd y) (mz_mL y) (mz_rt y) :: mz_gt) { frames := mz_fr y, cells := mc, slots := ms, locals := mz_lo y } (va_Pc (as.map (mz_em base kv)) (fun U => mz_A base kv D g U U.heap ∧ mz_N kv U)) Qc mc ms (mzA base) → (∀ U : State, U.heap = H → s.WarmedH U.vm → va_Pc (as.map (mz_em base kv)) (fun U => mz_A base kv D g U U.heap ∧ mz_N kv U) (as.map (mz_em base kv)).toArray U) →
      va_Run p l e R s mi args below meth c H locs cells slots mc ms (F0 mi pc lr ((as.map (mz_em base kv)).reverse ++ r.map (mz_em base kv))) (r.map (mz_em base kv)) (Qc (as.map (mz_em base kv)).toArray) (mzA base)) (hnx : nx = pc + 3) : mz_so l base kv D m pc (tr_call m nx y n mL rc mc ms) := by
  intro b ls st g Q k p e R s mi args below meth c H locs cells slots lr Qf h1 h2 h3 h4 h5 h6
  subst hnx
  subst hmL
  unfold tr_call at k
  split at k
  · rename_i as r hargs
    obtain ⟨⟨hb, hcat, hlay, hrc⟩, kk⟩ := k
    obtain ⟨hlen, xs, e1, e2⟩ := mz_args_eq n [] st as r hargs
    rw [List.append_nil] at e1
    subst e1
    have hlen : as.length = n := hlen
    have hM := mz_met hk hplain hlay kk
    have hr := h (e := e) (below := below) (locs := locs) (cells := cells) (slots := slots) (lr := lr) h1 h2 h4.2.1 hlen hrc hcat ⟨by omega, by omega⟩ hM (fun U hU hW => ⟨rfl, by rw [hU]; exact h2.moved hW.alike, h1.2.2.2.2.2.1.warm hW⟩)
    have e3 : st.map (mz_em base kv) = (as.map (mz_em base kv)).reverse ++ r.map (mz_em base kv) := by rw [e2, List.map_append, List.map_reverse]
    rw [e3]
    intro T hT X
    obtain ⟨v, st₀, t, T', L, q0, X', hL, q1, q2, ⟨⟨rv, g1, hv, hQ1, hA1⟩, hz, hold⟩, step⟩ := hr T hT X
    have hv : v = rv.map (mz_em base kv) := Outcome.returned.inj hv
    subst hv
    rw [q0] at hz hold
    have hA1 : mz_A base kv D g1 s T'.heap := by rw [q1]; exact hA1.moved (by rw [← q2]; exact X'.warmed.alike.symm)
    obtain ⟨t2, a1, b1⟩ := hQ1 p e R s mi args below meth c T'.heap (locs ++ L) (cells + mc) (slots + ms) lr Qf h1 hA1 (h3.mz (by rw [q1]; exact hz) (fun q hq hq2 => by rw [q1]; exact hold q hq hq2) hL) h4 ⟨by show cells + mc + (b.1 - mc) ≤ _; omega, by show slots + ms + (b.2 - ms) ≤ _; omega⟩ h6 T' rfl X'
    refine ⟨t2, step t2 ?_, b1⟩
    have e4 : (rv.toList ++ r).map (mz_em base kv) = (rv.map (mz_em base kv)).toList ++ r.map (mz_em base kv) := by rw [List.map_append]; cases rv <;> rfl
    rw [e4] at a1
    exact a1
  · exact k.elim
theorem mz_good (y : Nat) (hc : Cond.code (mz_nm y) (mz_cd y) (mz_mL y) (mz_rt y) ∈ mz_gt) : GoodIn mz_gt (Cond.code (mz_nm y) (mz_cd y) (mz_mL y) (mz_rt y) :: mz_gt) := mz_gt_good _ (fun w hw => by
  rcases List.mem_cons.mp hw with rfl | h
  · exact hc
  · exact h)
theorem mz_roomR {m y : Nat} {p : Program} {R : Room} {s : State} {mi : MethodId} {args : Array Value} {meth : Method} {c : Code} (hx : mz_fx base kv m p R s mi args meth c) (hr : mz_fr y + 1 ≤ mz_fr m ∧ 8 + (mz_mL y + 11) + mz_lo y ≤ mz_lo m) : mz_fr y + 1 ≤ R.frames ∧ 8 + (mz_mL y + 11) + mz_lo y ≤ R.locals := by
  have := hx.2.2.2.2.2.2.2.2.2.2.1
  omega
/-- a static method -/
theorem so_callS {m pc i y n mL mc ms : Nat} (hk : mz_kv kv) (hplain : plainName (mz_nm y).cls = true) (hmL : mz_mL y = mL) (hd9 : (mz_nm y).cls ≠ "java/lang/invoke/MethodHandle" ∧ (mz_nm y).cls ≠ "java/lang/invoke/VarHandle" ∧ (parseMethodDescriptor (mz_nm y).desc).map (fun d => d.parameters.length) = some n) (hr : mz_fr y + 1 ≤ mz_fr m ∧ 8 + (mz_mL y + 11) + mz_lo y ≤ mz_lo m) (hc : Cond.code (mz_nm y) (mz_cd y) (mz_mL y) (mz_rt y) ∈ mz_gt) (hl : Cond.methodLink (mz_nm m).cls i (mz_nm y) ∈ mz_gt) (hst : Cond.static (mz_nm y) ∈ mz_gt) (hin : Cond.initialized (mz_nm y).cls ∈ mz_gt) (hd : decode (mz_cd m) pc = .ok (.invokestatic i, 3)) : mz_so l base kv D m pc (tr_call m (pc + 3) y n mL 999 mc ms) :=
  so_call hk hplain hmL (fun hx hA hlr hlen hrc hcat hf hM hp => by
    have hts := hx.2.2.2.2.1
    exact va_runS (cc := mz_cd m) ⟨hx.1, hx.2.1, hx.2.2.1, hx.2.2.2.1, hts⟩ hM ⟨callB_of n hts (mz_good y hc) rfl rfl rfl (hts _ hin) (hts _ hl) hd9 (mz_roomR hx hr), hts _ hst⟩ ⟨mz_blind, hp⟩ rfl (by rw [List.length_map]; exact hlen) hlr rfl (by show 2 * 0 + _ ≤ 8; rw [mz_em_cats hk]; omega) hd hf) rfl
/-- the receiver -/
theorem mz_recv {rc : Nat} {as : List Value} {g : mzG} {s : State} {H : Heap} {C : String} (hrc : mz_rc rc as g) (h9 : rc ≠ 999) (hA : mz_A base kv D g s H) (hC : (∃ T N, mzCl[rc]? = some (C, T, N)) ∨ (rc = 700 ∧ C = "java/lang/String")) : ∃ a as', as.map (mz_em base kv) = .ref a :: as' ∧ as'.length + 1 = as.length ∧ ∃ cellB : Cell, H[a]? = some cellB ∧ cellB.vm.isStatics = false ∧ s.vm.findClass C = some cellB.cls := by
  rcases hrc with h | h
  · exact absurd h h9
  · split at h
    · rename_i k as'
      split at h
      · rename_i ci fs hg
        subst h
        rcases hC with ⟨T, N, hc⟩ | ⟨rfl, rfl⟩
        · obtain ⟨hk, e, -, cell, q1, q2, q3, -⟩ := mz_obj hA hg hc
          exact ⟨base + k, as'.map (mz_em base kv), by rw [List.map_cons, e], by simp, cell, q1, by rw [q3]; rfl, by rw [q2]; exact (hA.2.2.2.1 _ _ hc).2.1⟩
        · obtain ⟨a, v, w, e, -, ⟨cell, q1, q2, q3, -⟩, -⟩ := mz_str hA hg
          exact ⟨a, as'.map (mz_em base kv), by rw [List.map_cons, e], by simp, cell, q1, q2, q3⟩
      · exact h.elim
    · exact h.elim
/-- a constructor -/
theorem so_callI {m pc i y n mL rc mc ms : Nat} (hk : mz_kv kv) (h9 : rc ≠ 999) (hC : ∃ T N, mzCl[rc]? = some ((mz_nm y).cls, T, N)) (hplain : plainName (mz_nm y).cls = true) (hmL : mz_mL y = mL) (hd9 : (mz_nm y).cls ≠ "java/lang/invoke/MethodHandle" ∧ (mz_nm y).cls ≠ "java/lang/invoke/VarHandle" ∧ (parseMethodDescriptor (mz_nm y).desc).map (fun d => d.parameters.length) = some n) (hr : mz_fr y + 1 ≤ mz_fr m ∧ 8 + (mz_mL y + 11) + mz_lo y ≤ mz_lo m) (hc : Cond.code (mz_nm y) (mz_cd y) (mz_mL y) (mz_rt y) ∈ mz_gt) (hrt : mz_rt y = none) (hy : (mz_nm y).name = "<init>") (hl : Cond.methodLink (mz_nm m).cls i (mz_nm y) ∈ mz_gt) (him : Cond.instanceMethod (mz_nm y) ∈ mz_gt) (hin : Cond.initialized (mz_nm y).cls ∈ mz_gt) (hd : decode (mz_cd m) pc = .ok (.invokespecial i, 3)) : mz_so l base kv D m pc (tr_call m (pc + 3) y (n + 1) mL rc mc ms) :=
  so_call hk hplain hmL (fun hx hA hlr hlen hrc hcat hf hM hp => by
    have hts := hx.2.2.2.2.1
    obtain ⟨a, as', e1, e2, -⟩ := mz_recv hrc h9 hA (Or.inl hC)
    rw [e1] at hM hp ⊢
    have hg := mz_good y hc
    rw [hrt] at hM hc hg
    exact va_runI (cc := mz_cd m) (As := as') ⟨hx.1, hx.2.1, hx.2.2.1, hx.2.2.2.1, hts⟩ hM ⟨callB_of n hts hg rfl rfl rfl (hts _ hin) (hts _ hl) hd9 (mz_roomR hx hr), hy, hts _ him⟩ ⟨mz_blind, hp⟩ rfl (by omega) hlr (by simp) (by show 2 * 0 + _ ≤ 8; rw [mz_em_cats hk]; omega) hd hf) rfl
/-- a nest mate's constructor -/
theorem so_callN {m pc i y n mL rc mc ms : Nat} (hk : mz_kv kv) (h9 : rc ≠ 999) (hC : ∃ T N, mzCl[rc]? = some ((mz_nm y).cls, T, N)) (hplain : plainName (mz_nm y).cls = true) (hmL : mz_mL y = mL) (hd9 : (mz_nm y).cls ≠ "java/lang/invoke/MethodHandle" ∧ (mz_nm y).cls ≠ "java/lang/invoke/VarHandle" ∧ (parseMethodDescriptor (mz_nm y).desc).map (fun d => d.parameters.length) = some n) (hr : mz_fr y + 1 ≤ mz_fr m ∧ 8 + (mz_mL y + 11) + mz_lo y ≤ mz_lo m) (hc : Cond.code (mz_nm y) (mz_cd y) (mz_mL y) (mz_rt y) ∈ mz_gt) (hrt : mz_rt y = none) (hy : mz_nm y = ⟨(mz_nm y).cls, "<init>", "()V"⟩) (hl : ((mz_nm m).cls, i, (mz_nm y).cls) ∈ mz_nm9) (him : Cond.instanceMethod (mz_nm y) ∈ mz_gt) (hin : Cond.initialized (mz_nm y).cls ∈ mz_gt) (hd : decode (mz_cd m) pc = .ok (.invokespecial i, 3)) : mz_so l base kv D m pc (tr_call m (pc + 3) y (n + 1) mL rc mc ms) :=
  so_call hk hplain hmL (fun hx hA hlr hlen hrc hcat hf hM hp => by
    have hts := hx.2.2.2.2.1
    obtain ⟨a, as', e1, e2, -⟩ := mz_recv hrc h9 hA (Or.inl hC)
    rw [e1] at hM hp ⊢
    have hg := mz_good y hc
    rw [hrt] at hM hc hg
    have hnw := hx.2.2.2.2.2.1.2.1 _ hl
    dsimp only at hnw
    rw [← hy] at hnw
    exact va_runIN (cc := mz_cd m) (As := as') ⟨hx.1, hx.2.1, hx.2.2.1, hx.2.2.2.1, hts⟩ hM ⟨va_cnB n hts hg rfl rfl rfl hnw (hts _ hin) hd9 (mz_roomR hx hr), by rw [hy], hts _ him⟩ ⟨mz_blind, hp⟩ rfl (by omega) hlr (by simp) (by show 2 * 0 + _ ≤ 8; rw [mz_em_cats hk]; omega) hd hf) rfl
/-- a method of an object -/
theorem so_callV {m pc i y n mL rc mc ms : Nat} (hk : mz_kv kv) (h9 : rc ≠ 999) (hC : (∃ T N, mzCl[rc]? = some ((mz_nm y).cls, T, N)) ∨ (rc = 700 ∧ (mz_nm y).cls = "java/lang/String")) (hplain : plainName (mz_nm y).cls = true) (hmL : mz_mL y = mL) (hd9 : (mz_nm y).cls ≠ "java/lang/invoke/MethodHandle" ∧ (mz_nm y).cls ≠ "java/lang/invoke/VarHandle" ∧ (parseMethodDescriptor (mz_nm y).desc).map (fun d => d.parameters.length) = some n) (hr : mz_fr y + 1 ≤ mz_fr m ∧ 8 + (mz_mL y + 11) + mz_lo y ≤ mz_lo m) (hc : Cond.code (mz_nm y) (mz_cd y) (mz_mL y) (mz_rt y) ∈ mz_gt) (hl : Cond.methodLink (mz_nm m).cls i (mz_nm y) ∈ mz_gt) (him : Cond.instanceMethod (mz_nm y) ∈ mz_gt) (hse : Cond.selects (mz_nm y).cls (mz_nm y) (mz_nm y) ∈ mz_gt) (hin : Cond.initialized (mz_nm y).cls ∈ mz_gt) (hd : decode (mz_cd m) pc = .ok (.invokevirtual i, 3)) : mz_so l base kv D m pc (tr_call m (pc + 3) y (n + 1) mL rc mc ms) :=
  so_call hk hplain hmL (fun hx hA hlr hlen hrc hcat hf hM hp => by
    have hts := hx.2.2.2.2.1
    obtain ⟨a, as', e1, e2, hcell⟩ := mz_recv hrc h9 hA hC
    rw [e1] at hM hp ⊢
    exact va_runV (cc := mz_cd m) (As := as') ⟨hx.1, hx.2.1, hx.2.2.1, hx.2.2.2.1, hts⟩ hM ⟨callB_of n hts (mz_good y hc) rfl rfl rfl (hts _ hin) (hts _ hl) hd9 (mz_roomR hx hr), hts _ him, hts _ hse⟩ ⟨mz_blind, hcell, hp⟩ rfl (by omega) hlr (by simp) (by show 2 * 0 + _ ≤ 8; rw [mz_em_cats hk]; omega) hd hf) rfl
/-- Math.max -/
def f_max : List Value → mzG → Option (Prop × List Value × mzG) := fun st g => match st with
  | .int y :: .int x :: r => some ((r.map fun v => v.category).sum ≤ 8, .int (if x < y then y else x) :: r, g)
  | _ => none
theorem so_max {m pc i : Nat} (hk : mz_kv kv) (hl : Cond.methodLink (mz_nm m).cls i Lib.Math.max.name ∈ mz_gt) (h1 : Cond.static Lib.Math.max.name ∈ mz_gt) (h2 : Cond.initialized "java/lang/Math" ∈ mz_gt) (h3 : Cond.code Lib.Math.max.name Lib.Math.max.code 2 (some .int) ∈ mz_gt) (hr : 1 ≤ mz_fr m ∧ 21 ≤ mz_lo m) (hd : decode (mz_cd m) pc = .ok (.invokestatic i, 3)) : mz_so l base kv D m pc (tr_hp m (pc + 3) f_max) := by
  intro b ls st g Q k p e R s mi args below meth c H locs cells slots lr Qf h1' h2' h3' h4 h5 h6
  unfold tr_hp at k
  split at k
  · rename_i cnd st' g' hf
    unfold f_max at hf
    split at hf
    · rename_i y x r
      cases hf
      have hts := h1'.2.2.2.2.1
      have hroom := h1'.2.2.2.2.2.2.2.2.2.2.1
      have hcat : (r.map fun v => v.category).sum ≤ 8 := k.1
      refine va_mmax h1'.1 h1'.2.1 (by rw [h1'.2.2.1]; exact h4.2.1.symm) h1'.2.2.2.1 (hts _ hl) (hts _ h1) (hts _ h2) (hts _ h3) (by omega) (by show ((r.map (mz_em base kv)).map fun v => v.category).sum + 13 ≤ _; rw [mz_em_cats hk]; omega) (by omega) (by omega) hd ?_
      exact k.2 p e R s mi args below meth c H locs cells slots lr Qf h1' h2' h3' h4 h5 h6
    · cases hf
  · exact k.elim
end MZC2
