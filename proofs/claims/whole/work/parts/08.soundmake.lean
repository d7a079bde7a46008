/-! ===== SOUNDNESS of copies and of what makes cells ===== -/
section MZK
variable {l : Launch} {base : Nat} {kv : Nat → Value} {D : va_G}
theorem mz_nn (z : Int32) (hz : ¬ z < 0) : z.toInt = (z.toNatClampNeg : Int) := by
  have hz0 : (0 : Int) ≤ z.toInt := by
    have := Int32.not_lt.mp hz
    simpa using Int32.le_iff_toInt_le.mp this
  show z.toInt = ((z.toInt.toNat : Nat) : Int)
  omega
theorem so_copy {m pc i : Nat} (hk : mz_kv kv) (hl : Cond.methodLink (mz_nm m).cls i arraycopyName ∈ mz_gt) (h1 : Cond.native arraycopyName ∈ mz_gt) (h2 : Cond.static arraycopyName ∈ mz_gt) (h3 : Cond.initialized "java/lang/System" ∈ mz_gt) (hr : 1 ≤ mz_fr m ∧ 28 ≤ mz_lo m) (hd : decode (mz_cd m) pc = .ok (.invokestatic i, 3)) : mz_so l base kv D m pc (tr_hp m (pc + 3) f_cpy) := so_hp (fun st st' g g' cnd hf hc hx hA hS hlr kk => by
  rename_i p e R s mi args below meth c H locs cells slots lr Qf
  unfold f_cpy at hf
  split at hf
  · rename_i n dp k1 sp k0 r
    split at hf
    · rename_i ty0 n0 f0 ty1 n1 f1 hg0 hg1
      cases hf
      obtain ⟨rfl, rfl, ⟨q1, q2, q3⟩, ⟨q4, q5⟩, q6⟩ := hc
      have hts := hx.2.2.2.2.1
      have hroom := hx.2.2.2.2.2.2.2.2.2.2.1
      obtain ⟨hk0, e0, c0, a1, a2, a3⟩ := mz_arr hA hg0 (by decide) (by decide)
      obtain ⟨hk1, e1, c1, b1, b2, b3⟩ := mz_arr hA hg1 (by decide) (by decide)
      show W _ _ _ _ _ _ _ _ _ _ _ _ _ _ _ (F0 _ _ _ (.int n :: .int dp :: mz_em base kv (.ref k1) :: .int sp :: mz_em base kv (.ref k0) :: _))
      rw [e0, e1]
      intro T hT X
      obtain ⟨-, kc0, hkc0, cm0, hkk0⟩ := a2 n0 (mz_vs base kv (.inl f0))
      obtain ⟨-, kc1, hkc1, cm1, hkk1⟩ := b2 n1 (mz_vs base kv (.inl f1))
      obtain ⟨vm', X', step⟩ := X.arraycopy hx.1 hx.2.2.2.1 (hts _ hl) (hts _ h1) (hts _ h2) (hts _ h3) (src := base + k0) (dst := base + k1) (cs := arrV c0 n0 (mz_vs base kv (.inl f0))) (cd := arrV c1 n1 (mz_vs base kv (.inl f1))) (srcPos := sp) (destPos := dp) (n := n) (by rw [hT]; exact a1) (by rw [hT]; exact b1)
        (fun _ h => by cases h) (fun _ h => by cases h) (fun h => by cases h) (fun h => by cases h) hkc0 hkc1 hkk0 hkk1 (by simp [refKind]) q1 q2 q3
        (by rw [mz_nn sp q1, mz_nn n q3, arrV_size]; omega)
        (by rw [mz_nn dp q2, mz_nn n q3, arrV_size]; omega)
        (fun vm₁ _ i hi => by
          have e : (arrV c0 n0 (mz_vs base kv (.inl f0))).slots.getD (sp.toNatClampNeg + i) .null = .int (f0 (sp.toNatClampNeg + i)) := by
            rw [Array.getD_eq_getD_getElem?, arrV_read _ _ (by omega)]
            rfl
          refine ⟨?_, ?_⟩
          · rw [e]; rfl
          · rw [e]; exact trivial)
        (g := F0 mi pc lr (.int n :: .int dp :: .ref (base + k1) :: .int sp :: .ref (base + k0) :: st'.map (mz_em base kv))) rfl (by rw [hx.2.2.1]; exact hlr) (rest := st'.map (mz_em base kv)) rfl (by rw [hx.2.1]; exact hd) (by omega) (by
          show 2 * 0 + ((st'.map (mz_em base kv)).map fun v => v.category).sum + _ ≤ _
          rw [mz_em_cats hk]
          have : nativeFrameWords "java/lang/System" "arraycopy" 5 = 7 := by decide
          omega)
      have ec : copied (arrV c0 n0 (mz_vs base kv (.inl f0))) (arrV c1 n1 (mz_vs base kv (.inl f1))) sp dp n = arrV c1 n1 (mz_vs base kv (.inl (va_cpy f0 f1 sp.toNatClampNeg dp.toNatClampNeg n.toNatClampNeg))) := va_copied (fun z => .int z) c0 c1 f0 f1 q4
      rw [ec] at X' step
      generalize hcell : arrV c1 n1 (mz_vs base kv (.inl (va_cpy f0 f1 sp.toNatClampNeg dp.toNatClampNeg n.toNatClampNeg))) = cell at X' step
      have hlt : base + k1 < T.heap.size := by rw [hT]; exact (Array.getElem?_eq_some_iff.mp b1).1
      have oq : ∀ q : Nat, q ≠ base + k1 → ((T.setVm vm').setCell (base + k1) cell).heap[q]? = T.heap[q]? := fun q hq => heapAt_setCell_ne _ (Ne.symm hq)
      obtain ⟨t, t1, t2⟩ := kk ((T.setVm vm').setCell (base + k1) cell).heap _ (mz_arr_set (cA := c1) hA hk1 (by decide) (by decide) (by rw [size_setCell]; rw [← hT]; rfl) (fun q hq => by rw [oq q hq, hT]) (by rw [hcell]; exact heapAt_setCell_self _ hlt) b2 b3) (hS.mz (by rw [size_setCell]; rw [← hT]; exact Nat.le_refl _) (fun q _ hq => by rw [oq q (fun e => hq (by rw [e]; exact Nat.le_add_right _ _)), hT]) (fun q hq => by
          obtain ⟨z, -, hz⟩ := List.mem_map.mp hq
          rw [← hz]; exact Nat.le_add_right _ _)) _ rfl X'
      exact ⟨t, step t t1, t2⟩
    · cases hf
  · cases hf)
theorem so_aastore {m pc : Nat} (hcast : Cond.initialized "WatchSleep$Watch" ∈ mz_gt) (hd : decode (mz_cd m) pc = .ok (.aastore, 1)) : mz_so l base kv D m pc (tr_hp m (pc + 1) f_aas) := so_hp (fun st st' g g' cnd hf hc hx hA hS hlr kk => by
  unfold f_aas at hf
  split at hf
  · rename_i v i k r
    split at hf
    · rename_i ty n f ci fs hg hgv
      cases hf
      obtain ⟨rfl, rfl, hin⟩ := hc
      obtain ⟨hk, e, cA, a1, a2, kA, comp, f1, f2, f3, f4⟩ := mz_arr hA hg (by decide) (by decide)
      obtain ⟨hv, ev, -, cell, q1, q2, q3, -⟩ := mz_obj hA hgv (C := RX9) (T := TX9) (N := 14) rfl
      obtain ⟨-, hfc, kC, hkC, hkind⟩ := hA.2.2.2.1 7 _ rfl
      have hcc : comp = D.1 7 := Option.some.inj (f3.symm.trans hfc)
      subst hcc
      show W _ _ _ _ _ _ _ _ _ _ _ _ _ _ _ (F0 _ _ _ (mz_em base kv (.ref v) :: .int i :: mz_em base kv (.ref k) :: _))
      rw [e, ev]
      refine W.aast (t := .object "WatchSleep$Watch") hx.1 hx.2.1 a1 (fun _ h => by cases h) (fun h => by cases h) f1 f2 rfl hkC ⟨fun q => hin (Or.inl q), by rw [arrV_size]; exact Nat.not_le.mp fun q => hin (Or.inr q)⟩ q1 (fun _ h => by rw [q3] at h; cases h) (by rw [q2]; exact hkC) (by rw [q2]; exact va_asg _ _) rfl rfl hd (fun H' z1 z2 z3 => ?_)
      refine kk H' _ (mz_arr_set (cA := cA) hA hk (by decide) (by decide) z2 z3 (by
        rw [z1, arrV_store]
        refine congrArg some (congrArg (arrV cA n) (funext fun j => ?_))
        simp only [updV, mz_vs, va_up]
        split
        · exact ev.symm
        · rfl) a2 ⟨kA, _, f1, f2, f3, f4⟩) (hS.mz (by omega) (fun q _ hq => z3 q (fun e => hq (by rw [show (q : Nat) = base + k from e]; exact Nat.le_add_right _ _))) (fun q hq => by rw [List.mem_singleton.mp hq]; show base ≤ base + k; omega))
    · cases hf
  · cases hf)
theorem so_al {m pc nx : Nat} {f : List Value → mzG → Option (Prop × List Value × mzG × Nat × Nat)} (h : ∀ {p : Program} {e : Env} {R : Room} {s : State} {mi : MethodId} {args : Array Value} {below : List Frame} {meth : Method} {c : Code} {H : Heap} {locs : List Loc} {cells slots : Nat} {lr : Array Slot} {Qf : State → Prop} (st st' : List Value) (g g' : mzG) (cnd : Prop) (k n : Nat), f st g = some (cnd, st', g', k, n) → cnd → mz_fx base kv m p R s mi args meth c → mz_A base kv D g s H → va_S (mzA base) s.heap H locs → (cells + k ≤ R.cells ∧ slots + n ≤ R.slots) → (∀ H' locs', mz_A base kv D g' s H' → va_S (mzA base) s.heap H' locs' → W p l e R s mi args below meth c H' locs' (cells + k) (slots + n) Qf (F0 mi nx lr (st'.map (mz_em base kv)))) → W p l e R s mi args below meth c H locs cells slots Qf (F0 mi pc lr (st.map (mz_em base kv)))) : mz_so l base kv D m pc (tr_al m nx f) := by
  intro b ls st g Q k p e R s mi args below meth c H locs cells slots lr Qf h1 h2 h3 h4 h5 h6
  unfold tr_al at k
  split at k
  · rename_i cnd st' g' c1 n1 hf
    obtain ⟨k1, k2, k3⟩ := k
    exact h st st' g g' cnd c1 n1 hf k1 h1 h2 h3 ⟨by omega, by omega⟩ (fun H' locs' h2' h3' => k3 p e R s mi args below meth c H' locs' (cells + c1) (slots + n1) lr Qf h1 h2' h3' h4 ⟨by show cells + c1 + (b.1 - c1) ≤ _; omega, by show slots + n1 + (b.2 - n1) ≤ _; omega⟩ h6)
  · exact k.elim
theorem mz_grow {H0 H H1 : Heap} {locs : List Loc} (hS : va_S (mzA base) H0 H locs) (hz : H.size ≤ H1.size) (ho : ∀ q : Nat, q < H.size → H1[q]? = H[q]?) : va_S (mzA base) H0 H1 locs :=
  ⟨Nat.le_trans hS.1 hz, fun q h1 h2 => (ho q (Nat.lt_of_lt_of_le h1 hS.1)).trans (hS.2.1 q h1 h2), hS.2.2⟩
theorem so_new {m pc i ci : Nat} {C : String} {T : u_T} {N : Nat} {ty0 : Nat → FieldType} {fs : List Value} (hc : mzCl[ci]? = some (C, T, N)) (hin : ∀ w ∈ u_ws C T N, w ∈ mz_gt) (hty : ∀ k, k < N → parseFieldDescriptor (T k).2.2.1 = some (ty0 k)) (hfs : ∀ j, j < N → defaultValue (ty0 j) = vp_V fs j) (hl9 : fs.length = N) (hnr : ∀ v ∈ fs, ∀ base kv, mz_em base kv v = v) (hcl : Cond.classLink (mz_nm m).cls i C ∈ mz_gt) (hi1 : Cond.instantiable C N ∈ mz_gt) (hi2 : Cond.initialized C ∈ mz_gt) (hd : decode (mz_cd m) pc = .ok (.new i, 3)) : mz_so l base kv D m pc (tr_al m (pc + 3) (f_new ci fs)) := so_al (fun st st' g g' cnd k n hf hcn hx hA hS hrm kk => by
  rename_i p e R s mi args below meth c H locs cells slots lr Qf
  cases hf
  have hts := hx.2.2.2.2.1
  have hKn := hA.2.2.2.1 ci _ hc
  rw [hl9] at hrm kk
  refine W.newcK hx.1 hx.2.1 hx.2.2.2.1 (hts _ hcl) (hts _ hi1) (hts _ hi2) rfl hd hrm.1 hrm.2 hKn.2.1 rfl fun H1 kC hkC e1 z1 o1 => ?_
  have hsz := hA.1.1
  have hem : mz_em base kv (.ref g.1) = .ref H.size := by rw [mz_em_lt hcn, hsz]
  have kk := kk H1 locs (hA.new hcn z1 o1 (by
    have h7 : ci ≠ 700 := by
      intro q; rw [q] at hc; exact absurd (List.getElem?_eq_some_iff.mp hc).1 (by decide)
    simp only [ob, mz_at, if_neg h7]
    intro r hr
    cases hc.symm.trans hr
    refine ⟨by omega, hl9, ?_⟩
    rw [hsz] at e1
    have e9 : fs.map (mz_em base kv) = fs := by
      rw [List.map_congr_left (g := id) (fun v hv => hnr v hv base kv), List.map_id]
    rw [e9]
    exact (u_born ty0 hts hin hKn hkC e1 hty).to hfs)) (mz_grow hS (by omega) o1)
  rw [List.map_cons, hem] at kk
  exact kk)
theorem so_newarr {m pc : Nat} {at9 : ArrayType} {f : List Value → mzG → Option (Prop × List Value × mzG × Nat × Nat)} {mk : Nat → mzC} {x0 : (Nat → Int32) ⊕ (Nat → Int64) ⊕ (Nat → Option Nat)} (hf9 : ∀ st g, f st g = match st with | .int n :: r => some ((¬ n < 0 ∧ n.toNatClampNeg ≤ 1000 ∧ g.1 < 1000), .ref g.1 :: r, hn g (mk n.toNatClampNeg), 1, n.toNatClampNeg) | _ => none) (hmk : ∀ n, mk n = .inl (newarray.typeOf at9, n, x0)) (hx0 : ∀ base kv j, mz_vs base kv x0 j = defaultValue (newarray.typeOf at9)) (h1 : newarray.typeOf at9 ≠ .short) (h2 : newarray.typeOf at9 ≠ .char) (hby : componentBytes (newarray.typeOf at9) ≤ 8) (hw : Cond.arrayClass (newarray.typeOf at9) ∈ mz_gt) (hra : ∀ (s : State) (cA : ClassId), s.vm.findClass ("[" ++ (newarray.typeOf at9).toString) = some cA → va_RA s cA (newarray.typeOf at9)) (hd : decode (mz_cd m) pc = .ok (.newarray at9, 2)) : mz_so l base kv D m pc (tr_al m (pc + 2) f) := so_al (fun st st' g g' cnd k n hf hcn hx hA hS hrm kk => by
  rename_i p e R s mi args below meth c H locs cells slots lr Qf
  rw [hf9] at hf
  split at hf
  · rename_i n r
    cases hf
    obtain ⟨hn0, hn1, hg⟩ := hcn
    have hts := hx.2.2.2.2.1
    have hsz := hA.1.1
    refine va_newaK hx.1 hx.2.1 (hts _ hw) rfl hd rfl hn0 rfl (by
      have : n.toNatClampNeg * componentBytes (newarray.typeOf at9) ≤ 1000 * 8 := Nat.mul_le_mul hn1 hby
      omega) hrm.1 hrm.2 rfl fun H1 cA e1 z1 o1 hAr hNm => ?_
    have hem : mz_em base kv (.ref g.1) = .ref H.size := by rw [mz_em_lt hg, hsz]
    have kk := kk H1 locs (hA.new hg z1 o1 (by
      rw [hmk]
      simp only [mz_at, if_neg h1, if_neg h2]
      refine ⟨by omega, cA, ?_, hAr, hra _ _ hNm⟩
      rw [← hsz, e1]
      exact congrArg some (congrArg (arrV cA _) (funext fun j => (hx0 base kv j).symm)))) (mz_grow hS (by omega) o1)
    rw [List.map_cons, hem] at kk
    exact kk
  · cases hf)
theorem so_newI {m pc : Nat} (hw : Cond.arrayClass .int ∈ mz_gt) (hd : decode (mz_cd m) pc = .ok (.newarray .int, 2)) : mz_so l base kv D m pc (tr_al m (pc + 2) f_nwI) := so_newarr (at9 := .int) (mk := fun n => aI n (fun _ => 0)) (x0 := .inl (fun _ => 0)) (fun _ _ => rfl) (fun _ => rfl) (fun _ _ _ => rfl) (by decide) (by decide) (by decide) hw (fun _ _ h => h) hd
theorem so_newZ {m pc : Nat} (hw : Cond.arrayClass .boolean ∈ mz_gt) (hd : decode (mz_cd m) pc = .ok (.newarray .boolean, 2)) : mz_so l base kv D m pc (tr_al m (pc + 2) f_nwZ) := so_newarr (at9 := .boolean) (mk := fun n => aZ n (fun _ => 0)) (x0 := .inl (fun _ => 0)) (fun _ _ => rfl) (fun _ => rfl) (fun _ _ _ => rfl) (by decide) (by decide) (by decide) hw (fun _ _ h => h) hd
theorem so_newL {m pc : Nat} (hw : Cond.arrayClass .long ∈ mz_gt) (hd : decode (mz_cd m) pc = .ok (.newarray .long, 2)) : mz_so l base kv D m pc (tr_al m (pc + 2) f_nwL) := so_newarr (at9 := .long) (mk := fun n => aL n (fun _ => 0)) (x0 := .inr (.inl (fun _ => 0))) (fun _ _ => rfl) (fun _ => rfl) (fun _ _ _ => rfl) (by decide) (by decide) (by decide) hw (fun _ _ h => h) hd
theorem so_newR {m pc i : Nat} (hcl : Cond.classLink (mz_nm m).cls i "WatchSleep$Watch" ∈ mz_gt) (hd : decode (mz_cd m) pc = .ok (.anewarray i, 3)) : mz_so l base kv D m pc (tr_al m (pc + 3) (f_nwR "WatchSleep$Watch")) := so_al (fun st st' g g' cnd k n hf hcn hx hA hS hrm kk => by
  rename_i p e R s mi args below meth c H locs cells slots lr Qf
  unfold f_nwR at hf
  split at hf
  · rename_i n r
    cases hf
    obtain ⟨hn0, hn1, hg⟩ := hcn
    have hts := hx.2.2.2.2.1
    have hsz := hA.1.1
    refine W.anew hx.1 hx.2.1 hx.2.2.2.1 (hts _ hcl) (va_AO.use hx.2.2.2.2.2.1.2.2.2.1) rfl hd rfl hn0 (by omega) hrm.1 hrm.2 fun cA kA comp f1 f2 f3 f4 => ?_
    generalize hH1 : H.push ({ cls := cA, slots := Array.replicate n.toNatClampNeg .null, vm := .none } : Cell) = H1
    have z1 : H1.size = H.size + 1 := by rw [← hH1, Array.size_push]
    have e1 : H1[H.size]? = some (arrV cA n.toNatClampNeg (fun _ => .null)) := by rw [← hH1, Array.getElem?_push_size, ← arrV_new]
    have o1 : ∀ q : Nat, q < H.size → H1[q]? = H[q]? := fun q hq => by rw [← hH1, Array.getElem?_push, if_neg (Nat.ne_of_lt hq)]
    have hem : mz_em base kv (.ref g.1) = .ref H.size := by rw [mz_em_lt hg, hsz]
    have kk := kk H1 locs (hA.new hg z1 o1 (by
      simp only [aR, mz_at]
      rw [if_neg (by decide), if_neg (by decide)]
      exact ⟨by omega, cA, by rw [← hsz, e1]; rfl, fun N z => ⟨(fun k h => by cases h), kA, f2, comp, f3⟩, kA, comp, f2, f3, f4, f1⟩)) (mz_grow hS (by omega) o1)
    rw [List.map_cons, hem] at kk
    exact kk
  · cases hf)
end MZK
