/-! ===== SOUNDNESS of writes of fields, statics, copies, what makes cells, calls, returns ===== -/
section MZP
variable {l : Launch} {base : Nat} {kv : Nat → Value} {D : va_G}
theorem mz_obj_set {g : mzG} {s : State} {H H1 : Heap} {k ci : Nat} {fs' : List Value} {C : String} {T : u_T} {N : Nat} (hA : mz_A base kv D g s H) (hk : k < g.1) (hc : mzCl[ci]? = some (C, T, N)) (hlen : fs'.length = N) (hz : H1.size = H.size) (ho : ∀ q : Nat, q ≠ base + k → H1[q]? = H[q]?) (he : t_OB (base + k) (D.1 ci) N (D.2 ci) H1 (vp_V (fs'.map (mz_em base kv)))) : mz_A base kv D (hs g k (.inr (ci, fs'))) s H1 :=
  hA.set hz ho (by
    have h7 : ci ≠ 700 := by
      intro q; rw [q] at hc; exact absurd (List.getElem?_eq_some_iff.mp hc).1 (by decide)
    simp only [mz_at, if_neg h7]
    intro r hr
    cases hc.symm.trans hr
    exact ⟨hk, hlen, he⟩)
theorem so_putfield (hkv : mz_kv kv) {m pc i ci j t : Nat} {C : String} {T : u_T} {N : Nat} {ty0 : Nat → FieldType} (hc : mzCl[ci]? = some (C, T, N)) (hj : j < N) (hin : ∀ w ∈ u_ws C T N, w ∈ mz_gt) (hty : ∀ k, k < N → parseFieldDescriptor (T k).2.2.1 = some (ty0 k)) (hnm : ∀ a, a < N → ∀ b, b < N → a ≠ b → (T a).2.1 ≠ (T b).2.1) (hfin : (T j).2.2.2 = false) (ht : (t = 0 ∧ ty0 j = .int) ∨ (t = 1 ∧ ty0 j = .long) ∨ (t = 2 ∧ ty0 j = .boolean) ∨ (t = 3 ∧ (∃ C, ty0 j = .object C) ∨ t = 3 ∧ ∃ u, ty0 j = .array u)) (hl : Cond.fieldLink (mz_nm m).cls i (T j).1 (T j).2.1 (T j).2.2.1 ∈ mz_gt) (hd : decode (mz_cd m) pc = .ok (.putfield i, 3)) : mz_so l base kv D m pc (tr_hp m (pc + 3) (f_put ci j t)) := so_hp (fun st st' g g' cnd hf hcn hx hA hS hlr kk => by
  unfold f_put at hf
  split at hf
  · rename_i v k r
    split at hf
    · rename_i ci' fs hg
      cases hf
      obtain ⟨rfl, hjl, hfit⟩ := hcn
      obtain ⟨hk, e, hlen, cell, q1, q2, q3, q4⟩ := mz_obj hA hg hc
      have hts := hx.2.2.2.2.1
      have hap := va_apart (own := C) hts hin ty0 hty hnm hA.2.2.2 hc
      obtain ⟨hSl, hfc, kC, hkC, hkind⟩ := hA.2.2.2.1 ci' _ hc
      obtain ⟨cf, kf, fi, f, hi, hsl⟩ := hSl j hj
      have hlay := hts _ (hin _ (u_in_lay hj))
      unfold u_lay at hlay
      rw [if_neg (by rw [hfin]; decide)] at hlay
      have hst := (u_facts hfc hkC (u_lays hts hin hj) hi).1
      obtain ⟨hn1, hn2⟩ := mz_fit_em (base := base) ht hkv hfit
      have h6 := u_store hfc hkC hkind hlay hi (hty j hj) hn1 hn2
      show W _ _ _ _ _ _ _ _ _ _ _ _ _ _ _ (F0 _ _ _ (mz_em base kv v :: mz_em base kv (.ref k) :: _))
      rw [e]
      refine W.putK hx.1 hx.2.1 (f := f) ⟨hx.2.2.2.1, hts _ hl, ⟨_, _, _, hi⟩, hst⟩ (by rw [q2]; exact h6) q1 q3 (by rw [hsl]; exact k2_hasslot (q4 j hj)) rfl rfl hd fun H' e1 e2 e3 => ?_
      rw [hsl] at e1 ⊢
      refine kk H' _ (mz_obj_set hA hk hc (by rw [List.length_set]; exact hlen) e2 e3 ?_) (hS.mz (by omega) (fun q _ hq => e3 q (fun e => hq (by rw [show (q : Nat) = base + k from e]; exact Nat.le_add_right _ _))) (fun q hq => by rw [List.mem_singleton.mp hq]; show base ≤ base + k; omega))
      rw [List.map_set]
      exact t_OB.to (V := updV (vp_V (fs.map (mz_em base kv))) j (mz_em base kv v)) ⟨_, e1, q2, q3, t_set q4 hap hj _⟩ (fun j' _ => vp_updV_set (by rw [List.length_map]; exact hjl) _ j')
    · cases hf
  · cases hf)
theorem so_putfinal (hkv : mz_kv kv) {m pc i ci j t : Nat} {C : String} {T : u_T} {N : Nat} {ty0 : Nat → FieldType} (hc : mzCl[ci]? = some (C, T, N)) (hj : j < N) (hin : ∀ w ∈ u_ws C T N, w ∈ mz_gt) (hty : ∀ k, k < N → parseFieldDescriptor (T k).2.2.1 = some (ty0 k)) (hnm : ∀ a, a < N → ∀ b, b < N → a ≠ b → (T a).2.1 ≠ (T b).2.1) (hfin : (T j).2.2.2 = true) (hinit : (mz_nm m).name = "<init>") (hown : (T j).1 = (mz_nm m).cls) (ht : (t = 0 ∧ ty0 j = .int) ∨ (t = 1 ∧ ty0 j = .long) ∨ (t = 2 ∧ ty0 j = .boolean) ∨ (t = 3 ∧ (∃ C, ty0 j = .object C) ∨ t = 3 ∧ ∃ u, ty0 j = .array u)) (hl : Cond.fieldLink (mz_nm m).cls i (T j).1 (T j).2.1 (T j).2.2.1 ∈ mz_gt) (hd : decode (mz_cd m) pc = .ok (.putfield i, 3)) : mz_so l base kv D m pc (tr_hp m (pc + 3) (f_put ci j t)) := so_hp (fun st st' g g' cnd hf hcn hx hA hS hlr kk => by
  unfold f_put at hf
  split at hf
  · rename_i v k r
    split at hf
    · rename_i ci' fs hg
      cases hf
      obtain ⟨rfl, hjl, hfit⟩ := hcn
      obtain ⟨hk, e, hlen, cell, q1, q2, q3, q4⟩ := mz_obj hA hg hc
      have hts := hx.2.2.2.2.1
      have hap := va_apart (own := C) hts hin ty0 hty hnm hA.2.2.2 hc
      obtain ⟨hSl, hfc, kC, hkC, hkind⟩ := hA.2.2.2.1 ci' _ hc
      obtain ⟨cf, kf, fi, f, hi, hsl⟩ := hSl j hj
      have hlay := hts _ (hin _ (u_in_lay hj))
      unfold u_lay at hlay
      rw [if_pos hfin] at hlay
      have hst := (u_facts hfc hkC (u_lays hts hin hj) hi).1
      obtain ⟨hn1, hn2⟩ := mz_fit_em (base := base) ht hkv hfit
      have h6 := u_fits hfc hkC hkind (Or.inr hlay) hi (hty j hj) hn1 hn2
      show W _ _ _ _ _ _ _ _ _ _ _ _ _ _ _ (F0 _ _ _ (mz_em base kv v :: mz_em base kv (.ref k) :: _))
      rw [e]
      refine W.putFinK hx.1 hx.2.1 hx.2.2.2.1 (hts _ hl) hi hst (by
        obtain ⟨_, _, c', _, _, _, -, -, hf', -, -, -, hown2, -⟩ := Cond.laysFinal_spec hlay
        have e1 : c' = cf := by have := hi.symm.trans hf'; simp at this; exact this.1.symm
        rw [hown] at hown2
        rw [← e1]; exact Option.some.inj (hx.2.2.2.1.symm.trans hown2)) (hx.2.2.2.2.2.2.2.2.2.1 hinit) (by rw [q2]; exact h6) q1 q3 (by rw [hsl]; exact k2_hasslot (q4 j hj)) rfl rfl hd fun H' e1 e2 e3 => ?_
      rw [hsl] at e1 ⊢
      refine kk H' _ (mz_obj_set hA hk hc (by rw [List.length_set]; exact hlen) e2 e3 ?_) (hS.mz (by omega) (fun q _ hq => e3 q (fun e => hq (by rw [show (q : Nat) = base + k from e]; exact Nat.le_add_right _ _))) (fun q hq => by rw [List.mem_singleton.mp hq]; show base ≤ base + k; omega))
      rw [List.map_set]
      exact t_OB.to (V := updV (vp_V (fs.map (mz_em base kv))) j (mz_em base kv v)) ⟨_, e1, q2, q3, t_set q4 hap hj _⟩ (fun j' _ => vp_updV_set (by rw [List.length_map]; exact hjl) _ j')
    · cases hf
  · cases hf)
/-! Strings' own fields -/
theorem mz_str {g : mzG} {s : State} {H : Heap} {k : Nat} {fs : List Value} (hA : mz_A base kv D g s H) (hg : g.2 k = .inr (700, fs)) : ∃ a v w, mz_em base kv (.ref k) = .ref a ∧ fs = [v, w] ∧ va_O "java/lang/String" a (mzA base) s H ∧ va_OF "java/lang/String" "value" "[B" (mz_em base kv v) a (mzA base) s H ∧ va_OF "java/lang/String" "coder" "B" (mz_em base kv w) a (mzA base) s H := by
  have h := hA.2.1 k
  rw [hg] at h
  simp only [mz_at, if_true] at h
  obtain ⟨a, v, w, h1, h2, h3, h4⟩ := h
  exact ⟨a, v, w, by rw [mz_em_ge h1, h2], h3, h4⟩
theorem so_getval {m pc i : Nat} (hl : Cond.fieldLink (mz_nm m).cls i "java/lang/String" "value" "[B" ∈ mz_gt) (hd : decode (mz_cd m) pc = .ok (.getfield i, 3)) : mz_so l base kv D m pc (tr_hp m (pc + 3) (f_get 700 0)) := so_hp (fun st st' g g' cnd hf hcn hx hA hS hlr kk => by
  unfold f_get at hf
  split at hf
  · rename_i k r
    split at hf
    · rename_i ci' fs hg
      split at hf
      · rename_i v0 hv
        cases hf
        subst hcn
        have kk := kk _ _ hA hS
        obtain ⟨a, v, w, e, rfl, -, ⟨cf, kf, fi, f, cell, h1, h2, h3, h4, h5, -⟩, -⟩ := mz_str hA hg
        show W _ _ _ _ _ _ _ _ _ _ _ _ _ _ _ (F0 _ _ _ (mz_em base kv (.ref k) :: _))
        rw [e]
        cases hv
        exact W.getf hx.1 hx.2.1 hx.2.2.2.1 (hx.2.2.2.2.1 _ hl) h1 h2 h3 h4 h5 rfl rfl hd kk
      · cases hf
    · cases hf
  · cases hf)
theorem so_getcod {m pc i : Nat} (hl : Cond.fieldLink (mz_nm m).cls i "java/lang/String" "coder" "B" ∈ mz_gt) (hd : decode (mz_cd m) pc = .ok (.getfield i, 3)) : mz_so l base kv D m pc (tr_hp m (pc + 3) (f_get 700 1)) := so_hp (fun st st' g g' cnd hf hcn hx hA hS hlr kk => by
  unfold f_get at hf
  split at hf
  · rename_i k r
    split at hf
    · rename_i ci' fs hg
      split at hf
      · rename_i v0 hv
        cases hf
        subst hcn
        have kk := kk _ _ hA hS
        obtain ⟨a, v, w, e, rfl, -, -, ⟨cf, kf, fi, f, cell, h1, h2, h3, h4, h5, -⟩⟩ := mz_str hA hg
        show W _ _ _ _ _ _ _ _ _ _ _ _ _ _ _ (F0 _ _ _ (mz_em base kv (.ref k) :: _))
        rw [e]
        cases hv
        exact W.getf hx.1 hx.2.1 hx.2.2.2.1 (hx.2.2.2.2.1 _ hl) h1 h2 h3 h4 h5 rfl rfl hd kk
      · cases hf
    · cases hf
  · cases hf)
/-! statics -/
theorem so_gst {m pc i : Nat} {v : Value} (h : ∀ {p : Program} {e : Env} {R : Room} {s : State} {mi : MethodId} {args : Array Value} {below : List Frame} {meth : Method} {c : Code} {H : Heap} {locs : List Loc} {cells slots : Nat} {lr : Array Slot} {Qf : State → Prop} {rest : List Value}, mz_fx base kv m p R s mi args meth c → va_S (mzA base) s.heap H locs → W p l e R s mi args below meth c H locs cells slots Qf (F0 mi (pc + 3) lr (mz_em base kv v :: rest)) → W p l e R s mi args below meth c H locs cells slots Qf (F0 mi pc lr rest)) : mz_so l base kv D m pc (tr_st m (pc + 3) (f_const v)) := by
  intro b ls st g Q k p e R s mi args below meth c H locs cells slots lr Qf h1 h2 h3 h4 h5 h6
  exact h h1 h3 (k p e R s mi args below meth c H locs cells slots lr Qf h1 h2 h3 h4 h5 h6)
theorem so_gsAT {m pc i : Nat} (hw : ((mz_nm m).cls, i, "AT_FIRST") ∈ mz_nf) (hd : decode (mz_cd m) pc = .ok (.getstatic i, 3)) : mz_so l base kv D m pc (tr_st m (pc + 3) (f_const (.ref 1000))) :=
  so_gst (i := i) (fun hx hS k => va_getsN hx.1 hx.2.1 hx.2.2.2.2.2.2.1.1 hS hx.2.2.2.1 (va_Nw.use rfl (hx.2.2.2.2.2.1.1 _ hw)) (fun _ h => h) hd (by rw [mz_em_ge (by omega)] at k; exact k))
theorem so_gsMN {m pc i : Nat} (hw : ((mz_nm m).cls, i, "MOST") ∈ mz_nf) (hd : decode (mz_cd m) pc = .ok (.getstatic i, 3)) : mz_so l base kv D m pc (tr_st m (pc + 3) (f_const (.ref 1001))) :=
  so_gst (i := i) (fun hx hS k => va_getsN hx.1 hx.2.1 hx.2.2.2.2.2.2.1.2.1 hS hx.2.2.2.1 (va_Nw.use rfl (hx.2.2.2.2.2.1.1 _ hw)) (fun _ h => h) hd (by rw [mz_em_ge (by omega)] at k; exact k))
theorem so_gsM {m pc i : Nat} (hl : Cond.fieldLink (mz_nm m).cls i "WatchSleep" "MOST" "[I" ∈ mz_gt) (hd : decode (mz_cd m) pc = .ok (.getstatic i, 3)) : mz_so l base kv D m pc (tr_st m (pc + 3) (f_const (.ref 1001))) :=
  so_gst (i := i) (fun hx hS k => va_gets hx.1 hx.2.1 hx.2.2.2.2.2.2.1.2.1 hS hx.2.2.2.1 (hx.2.2.2.2.1 _ hl) (fun _ h => h) hd (by rw [mz_em_ge (by omega)] at k; exact k))
theorem so_gsC {m pc i : Nat} (hl : Cond.fieldLink (mz_nm m).cls i "java/lang/String" "COMPACT_STRINGS" "Z" ∈ mz_gt) (hd : decode (mz_cd m) pc = .ok (.getstatic i, 3)) : mz_so l base kv D m pc (tr_st m (pc + 3) (f_const (.int 1))) :=
  so_gst (i := i) (fun hx hS k => va_gets hx.1 hx.2.1 hx.2.2.2.2.2.2.1.2.2.1 hS hx.2.2.2.1 (hx.2.2.2.2.1 _ hl) (fun _ h => h) hd k)
theorem so_gsF {m pc i : Nat} (hl : Cond.fieldLink (mz_nm m).cls i "jdk/internal/util/Preconditions" "SIOOBE_FORMATTER" "Ljava/util/function/BiFunction;" ∈ mz_gt) (hd : decode (mz_cd m) pc = .ok (.getstatic i, 3)) : mz_so l base kv D m pc (tr_st m (pc + 3) (f_const (.ref 1010))) :=
  so_gst (i := i) (fun hx hS k => va_gets hx.1 hx.2.1 hx.2.2.2.2.2.2.1.2.2.2 hS hx.2.2.2.1 (hx.2.2.2.2.1 _ hl) (fun _ h => h) hd (by rw [mz_em_ge (by omega)] at k; exact k))
/-! Object.<init> -/
theorem so_objInit {m pc i : Nat} (hk : mz_kv kv) (hl : Cond.methodLink (mz_nm m).cls i objectInit ∈ mz_gt) (h1 : Cond.instanceMethod objectInit ∈ mz_gt) (h2 : Cond.code objectInit ⟨#[0xb1]⟩ 1 none ∈ mz_gt) (hr : 1 ≤ mz_fr m ∧ 20 ≤ mz_lo m) (hd : decode (mz_cd m) pc = .ok (.invokespecial i, 3)) : mz_so l base kv D m pc (tr_hp m (pc + 3) f_oin) := so_hp (fun st st' g g' cnd hf hc hx hA hS hlr kk => by
  unfold f_oin at hf
  split at hf
  · rename_i k r
    cases hf
    have kk := kk _ _ hA hS
    have hts := hx.2.2.2.2.1
    have hroom := hx.2.2.2.2.2.2.2.2.2.2.1
    have h0 := hA.2.1 k
    show W _ _ _ _ _ _ _ _ _ _ _ _ _ _ _ (F0 _ _ _ (mz_em base kv (.ref k) :: _))
    rw [mz_em_lt hc.2]
    refine W.objInit hx.1 hx.2.1 hx.2.2.2.1 (hts _ hl) (hts _ h1) (hts _ h2) rfl (by rw [hx.2.2.1]; exact hlr) rfl hd (by omega) ?_ kk
    show 2 * 0 + ((st'.map (mz_em base kv)).map fun v => v.category).sum + 12 ≤ _
    rw [mz_em_cats hk]
    have : (st'.map fun v => v.category).sum ≤ 8 := hc.1
    omega
  · cases hf)
end MZP
