/-! ===== new int[5][9], from the model's own text ===== -/
section MZMN
/-- the cell of rows after i of them were made -/
def mm_o (cA : ClassId) (z i : Nat) : Cell := arrV cA 5 (fun j => if j < i then .ref (z + 1 + j) else .null)
/-- a row of nine -/
def mm_r (cI : ClassId) : Cell := arrV cI 9 (fun _ => .int 0)
/-- the state after i rows were made -/
def mm_s (T : State) (cA cI : ClassId) : Nat → State
  | 0 => T.pushCell (mm_o cA T.heap.size 0)
  | i + 1 => ((mm_s T cA cI i).pushCell (mm_r cI)).setCell T.heap.size (mm_o cA T.heap.size (i + 1))
theorem mm_o_set (cA : ClassId) (z i : Nat) : (mm_o cA z i).setSlot i (.ref (z + 1 + i)) = mm_o cA z (i + 1) := by
  unfold mm_o
  rw [arrV_store]
  refine congrArg (arrV cA 5) (funext fun j => ?_)
  by_cases e : j = i
  · subst e; simp [updV]
  · by_cases h : j < i
    · simp [updV, e, h, Nat.lt_succ_of_lt h]
    · simp [updV, e, h, show ¬ j < i + 1 by omega]
theorem mm_size (T : State) (cA cI : ClassId) : ∀ i, (mm_s T cA cI i).heap.size = T.heap.size + 1 + i
  | 0 => by show (T.heap.push _).size = _; rw [Array.size_push]
  | i + 1 => by
    show (((mm_s T cA cI i).heap.push _).setIfInBounds _ _).size = _
    rw [Array.size_setIfInBounds, Array.size_push, mm_size T cA cI i]; omega
theorem mm_out (T : State) (cA cI : ClassId) : ∀ i, (mm_s T cA cI i).heap[T.heap.size]? = some (mm_o cA T.heap.size i)
  | 0 => by show (T.heap.push _)[T.heap.size]? = _; rw [Array.getElem?_push_size]
  | i + 1 => by
    show (((mm_s T cA cI i).heap.push _).setIfInBounds _ _)[_]? = _
    rw [Array.getElem?_setIfInBounds_self_of_lt (by rw [Array.size_push, mm_size]; omega)]
theorem mm_else (T : State) (cA cI : ClassId) (i x : Nat) (hx : x ≠ T.heap.size) (hs : x < T.heap.size + 1 + i) : (mm_s T cA cI (i + 1)).heap[x]? = (mm_s T cA cI i).heap[x]? := by
  show (((mm_s T cA cI i).heap.push _).setIfInBounds _ _)[_]? = _
  rw [Array.getElem?_setIfInBounds_ne (fun h => hx h.symm), Array.getElem?_push, if_neg (by rw [mm_size]; omega)]
theorem mm_old (T : State) (cA cI : ClassId) {x : Nat} (hx : x < T.heap.size) : ∀ i, (mm_s T cA cI i).heap[x]? = T.heap[x]?
  | 0 => by show (T.heap.push _)[x]? = _; rw [Array.getElem?_push, if_neg (by omega)]
  | i + 1 => by rw [mm_else T cA cI i x (by omega) (by omega), mm_old T cA cI hx i]
theorem mm_row (T : State) (cA cI : ClassId) (j : Nat) : ∀ i, j < i → (mm_s T cA cI i).heap[T.heap.size + 1 + j]? = some (mm_r cI)
  | 0, h => by omega
  | i + 1, h => by
    by_cases e : j = i
    · subst e
      show (((mm_s T cA cI j).heap.push _).setIfInBounds _ _)[_]? = _
      rw [Array.getElem?_setIfInBounds_ne (by omega), Array.getElem?_push, if_pos (by rw [mm_size])]
    · rw [mm_else T cA cI i _ (by omega) (by omega), mm_row T cA cI j i (by omega)]
theorem mm_used (T : State) (cA cI : ClassId) : ∀ i, (mm_s T cA cI i).slotsUsed = T.slotsUsed + 5 + 9 * i
  | 0 => by show T.slotsUsed + (mm_o cA T.heap.size 0).slots.size = _; rw [show (mm_o cA T.heap.size 0).slots.size = 5 from arrV_size _ _ _]
  | i + 1 => by
    show (mm_s T cA cI i).slotsUsed + (mm_r cI).slots.size = _
    rw [mm_used T cA cI i, show (mm_r cI).slots.size = 9 from arrV_size _ _ _]; omega
theorem mm_vm (T : State) (cA cI : ClassId) : ∀ i, (mm_s T cA cI i).vm = T.vm
  | 0 => rfl
  | i + 1 => (show _ = (mm_s T cA cI i).vm from rfl).trans (mm_vm T cA cI i)
theorem mm_top (T : State) (cA cI : ClassId) (f : JFrame) : ∀ i, mm_s (T.setTop f) cA cI i = (mm_s T cA cI i).setTop f
  | 0 => rfl
  | i + 1 => by
    show ((mm_s (T.setTop f) cA cI i).pushCell _).setCell _ _ = _
    rw [mm_top T cA cI f i]; rfl
theorem mm_stand {p : Program} {l : Launch} {e : Env} {R : Room} {s : State} {m : MethodId} {args : Array Value} {below : List Frame} {meth : Method} {c : Code} {T : State} {locs : List Loc} {cells slots : Nat} (X : Stand p l e R s m args below meth c T locs cells slots) (cA cI : ClassId) : ∀ i, Stand p l e R s m args below meth c (mm_s T cA cI i) locs (cells + 1 + i) (slots + 5 + 9 * i)
  | 0 => by
    have h := X.pushed (mm_o cA T.heap.size 0)
    rw [show (mm_o cA T.heap.size 0).slots.size = 5 from arrV_size _ _ _] at h
    exact h
  | i + 1 => by
    have h := (mm_stand X cA cI i).pushed (mm_r cI)
    rw [show (mm_r cI).slots.size = 9 from arrV_size _ _ _] at h
    have hc : ((mm_s T cA cI i).pushCell (mm_r cI)).heap[T.heap.size]? = some (mm_o cA T.heap.size i) := by
      show ((mm_s T cA cI i).heap.push _)[_]? = _
      rw [Array.getElem?_push, if_neg (by rw [mm_size]; omega), mm_out]
    have h2 := h.stored hc i (.ref (T.heap.size + 1 + i))
    rw [mm_o_set] at h2
    exact h2.dropFresh (fun x hx => by rw [List.mem_singleton.mp hx]; exact X.heapGrown)
theorem mm_over {args : Array Value} {s : State} (h : (Cond.arrayOver (.array .int)).before args s = true) : ∃ cI cA k, s.vm.findClass (FieldType.array .int).toString = some cI ∧ s.vm.classes[cA]? = some k ∧ k.kind = .array cI (.array .int) ∧ s.vm.findClass ("[" ++ (FieldType.array .int).toString) = some cA := by
  unfold Cond.before at h
  simp only [Cond.holds, Cond.value, beq_iff_eq] at h
  obtain ⟨cI, h1, h2⟩ := Option.bind_eq_some_iff.mp h
  obtain ⟨cA, h3, h4⟩ := Option.bind_eq_some_iff.mp h2
  obtain ⟨k, h5, h6⟩ := Option.map_eq_some_iff.mp h4
  obtain ⟨hlt, hp, -⟩ := Array.findIdx?_eq_some_iff_getElem.mp h3
  rw [(Array.getElem?_eq_some_iff.mp h5).2] at hp
  split at h6
  · rename_i c9 t9 hk9
    rw [hk9] at hp
    simp at h6 hp
    exact ⟨cI, cA, k, h1, h5, by rw [hk9, hp, h6.1], h6.2⟩
  · cases h6
theorem mm_one {E : CtlPost} {e : Env} {d : Bool} {acts : List Action} {S : State} {cI cc : ClassId} {kC : Class} {Q : Addr → Pre} (hC : S.vm.classes[cI]? = some kC) (kC1 : kC.kind = .array cc .int) (hl : ¬ 9 > e.platform.arrayLengthLimit) (hh : ¬ 9 * componentBytes .int > e.platform.maxHeapBytes) (hr : S.heap.size < e.platform.maxCells) (hr2 : S.slotsUsed + 9 ≤ e.platform.maxSlots) (hq : ∀ acts', Q S.heap.size d acts' (S.pushCell (mm_r cI))) : Sem.wp (Jvm.Op.multianewarray.make cI [9]) Q E e d acts S := by
  unfold Jvm.Op.multianewarray.make
  simp only [Sem.wp_bind', Jvm.W.ite, show ¬ (9 : Int32) < 0 by decide, if_false, Sem.wp_pure', Jvm.W.theClass, hC, kC1, Option.some.injEq, exists_eq_left']
  refine Jvm.W.newArray_of hC kC1 hl hh hr hr2 rfl (fun a => ?_)
  have := hq a
  rw [mm_r, ← arrV_new] at this
  exact this
theorem mm_loop {E : CtlPost} {e : Env} {S : State} {cA cI cc : ClassId} {kA kC : Class} {Q : PUnit → Pre} (hA : S.vm.classes[cA]? = some kA) (kA1 : kA.kind = .array cI (.array .int)) (hC : S.vm.classes[cI]? = some kC) (kC1 : kC.kind = .array cc .int) (hl : ¬ 9 > e.platform.arrayLengthLimit) (hh : ¬ 9 * componentBytes .int > e.platform.maxHeapBytes) (hr : S.heap.size + 6 ≤ e.platform.maxCells) (hr2 : S.slotsUsed + 50 ≤ e.platform.maxSlots) (hq : ∀ d acts, Q PUnit.unit d acts (mm_s S cA cI 5)) : ∀ (n i : Nat) (d : Bool) (acts : List Action), i + n = 5 → Sem.wp (forIn (List.range' i n) PUnit.unit (fun i (_ : PUnit) => do
      let a ← Jvm.Op.multianewarray.make cI [9]
      Jvm.writeLoc S.heap.size i (.ref a)
      Pure.pure (ForInStep.yield PUnit.unit))) Q E e d acts (mm_s S cA cI i)
  | 0, i, d, acts, h => by
    have : i = 5 := by omega
    subst this
    simp only [List.range'_zero, List.forIn_nil, Sem.wp_pure']
    exact hq d acts
  | n + 1, i, d, acts, h => by
    rw [List.range'_succ]
    simp only [List.forIn_cons, Sem.wp_bind']
    refine mm_one (by rw [mm_vm]; exact hC) kC1 hl hh (by rw [mm_size]; omega) (by rw [mm_used]; omega) (fun a => ?_)
    rw [Sem.wp_bind', Jvm.W.writeLoc]
    refine ⟨mm_o cA S.heap.size i, ?_, ?_, ?_, ?_, ?_⟩
    · show ((mm_s S cA cI i).heap.push _)[_]? = _
      rw [Array.getElem?_push, if_neg (by rw [mm_size]; omega), mm_out]
    · intro h9; cases h9
    · rw [show (mm_o cA S.heap.size i).slots.size = 5 from arrV_size _ _ _]; omega
    · show State.fitsSlot _ cA .none i _ = true
      simp [State.fitsSlot, State.slotType?, mm_vm, hA, kA1, fits]
    · rw [mm_size, mm_o_set]
      exact mm_loop hA kA1 hC kC1 hl hh hr hr2 hq n (i + 1) true _ (by omega)
theorem mm_make {E : CtlPost} {e : Env} {d : Bool} {acts : List Action} {S : State} {cA cI cc : ClassId} {kA kC : Class} {Q : Addr → Pre} (hA : S.vm.classes[cA]? = some kA) (kA1 : kA.kind = .array cI (.array .int)) (hC : S.vm.classes[cI]? = some kC) (kC1 : kC.kind = .array cc .int) (hl : ¬ 9 > e.platform.arrayLengthLimit) (hh : ¬ 9 * componentBytes .int > e.platform.maxHeapBytes) (hh5 : ¬ 5 * componentBytes (.array .int) > e.platform.maxHeapBytes) (hr : S.heap.size + 6 ≤ e.platform.maxCells) (hr2 : S.slotsUsed + 50 ≤ e.platform.maxSlots) (hq : ∀ d acts, Q S.heap.size d acts (mm_s S cA cI 5)) : Sem.wp (Jvm.Op.multianewarray.make cA [5, 9]) Q E e d acts S := by
  unfold Jvm.Op.multianewarray.make
  simp only [Sem.wp_bind', Jvm.W.ite, show ¬ (5 : Int32) < 0 by decide, if_false, Sem.wp_pure', Jvm.W.theClass, hA, kA1, Option.some.injEq, exists_eq_left']
  refine Jvm.W.newArray_of hA kA1 (by show ¬ 5 > _; omega) hh5 (by omega) (by show _ + 5 ≤ _; omega) rfl (fun a => ?_)
  simp only [show ((5 : Int32) == 0) = false by decide, show (5 : Int32).toNatClampNeg = 5 by decide]
  rw [if_neg (by decide), Sem.wp_bind']
  have e0 : S.pushCell { cls := cA, slots := Array.replicate 5 Value.null } = mm_s S cA cI 0 := by
    show _ = S.pushCell (mm_o cA S.heap.size 0)
    refine congrArg S.pushCell ((arrV_new cA 5 .null).trans (congrArg (arrV cA 5) (funext fun j => ?_)))
    simp
  rw [e0, Std.Legacy.Range.forIn_eq_forIn_range']
  exact mm_loop (Q := fun _ => Sem.wp (Pure.pure S.heap.size) Q E e) hA kA1 hC kC1 hl hh hr hr2 (fun d acts => by rw [Sem.wp_pure']; exact hq d acts) 5 0 _ _ rfl
theorem mm_step {p : Program} {l : Launch} {e : Env} {R : Room} {s : State} {m : MethodId} {args : Array Value} {below : List Frame} {meth : Method} {c : Code} {T : State} {locs : List Loc} {cells slots : Nat} (X : Stand p l e R s m args below meth c T locs cells slots) (hexec : p.tables.exec = Jvm.exec) {own : String} {index : Nat} (hown : s.vm.findClass own = some m.cls) (hclink : (Cond.classLink own index ("[" ++ (FieldType.array .int).toString)).before args s = true) (hover : (Cond.arrayOver (.array .int)).before args s = true) (harr : (Cond.arrayClass .int).before args s = true) {g : JFrame} (hg : g.method = m) (hdg : decode c.code g.pc = .ok (.multianewarray index 2, 4)) {rest : List Value} (hstack : g.stack = .int 9 :: .int 5 :: rest) (hcells : cells + 6 ≤ R.cells) (hslots : slots + 50 ≤ R.slots) : ∃ (vm1 : Vm) (cA cI : ClassId), s.vm.findClass ("[" ++ (FieldType.array .int).toString) = some cA ∧ s.vm.findClass (FieldType.array .int).toString = some cI ∧ (∃ k cm, s.vm.classes[cA]? = some k ∧ k.kind = .array cm (.array .int)) ∧ (∃ k cm, s.vm.classes[cI]? = some k ∧ k.kind = .array cm .int) ∧ Stand p l e R s m args below meth c (mm_s (T.setVm vm1) cA cI 5) locs (cells + 1 + 5) (slots + 5 + 9 * 5) ∧ ∀ t, Steps p.tables e below ((mm_s (T.setVm vm1) cA cI 5).setTop { g with pc := g.pc + 4, stack := .ref T.heap.size :: rest }) t → Steps p.tables e below (T.setTop g) t := by
  subst hg
  have hmagic : e.platform.magicAccessors = ({} : Platform).magicAccessors := by rw [X.admits.platform]
  obtain ⟨cI, cA, kA, fI, hA, kA1, fA⟩ := mm_over hover
  obtain ⟨cI2, kC, cc, fI2, hC, kC1⟩ := Cond.arrayClass_spec harr
  have eI : cI2 = cI := Option.some.inj (fI2.symm.trans fI)
  subst eI
  obtain ⟨cA2, fA2, hlinks⟩ := Cond.classLink_spec hown hclink e.platform hmagic
  have eA : cA2 = cA := Option.some.inj (fA2.symm.trans fA)
  subst eA
  obtain ⟨hgives, hwarm, -⟩ := State.classEntry (e := e) X.warmed hlinks
  generalize T.vm.noted g.method.cls index (.cls cA2) = vm1 at hgives hwarm
  obtain ⟨kA', hA', eA'⟩ := hwarm.alike.2.2 _ _ hA
  obtain ⟨kC', hC', eC'⟩ := hwarm.alike.2.2 _ _ hC
  have hroom := X.roomAbove hcells hslots
  have XF := mm_stand (X.noted hwarm) cA2 cI2 5
  have lim : e.platform.arrayLengthLimit = _ := Launch.admits_arrayLengthLimit X.admits
  have hpb : e.platform.maxHeapBytes = _ := Launch.admits_maxHeapBytes X.admits
  refine ⟨vm1, cA2, cI2, fA, fI, ⟨kA, cI2, hA, kA1⟩, ⟨kC, cc, hC, kC1⟩, XF, fun t ht => ?_⟩
  jvm_step X.here [hexec, hdg]
  simp only [Jvm.Op.multianewarray.sem, Sem.wp_bind', Jvm.W.resolveClassAt_links (State.method?_setTop g X.here.top) hgives]
  rw [Jvm.W.popN, if_neg (by decide)]
  refine ⟨g, State.topJava?_setTop' (s := T.setVm vm1) g X.here.top, [.int 5, .int 9], rest, rfl, hstack, ?_⟩
  simp only [List.mapM_cons, List.mapM_nil, Sem.wp_bind', Sem.wp_pure']
  refine mm_make (S := ((T.setTop g).setVm vm1).setTop { g with stack := rest }) (kA := kA') (kC := kC') (cI := cI2) (cc := cc) hA' (by rw [eA']; exact kA1) hC' (by rw [eC']; exact kC1) (by rw [lim]; decide) (by rw [hpb]; decide) (by rw [hpb]; decide) hroom.1 hroom.2 (fun d acts => ?_)
  rw [show ((T.setTop g).setVm vm1).setTop { g with stack := rest } = (T.setVm vm1).setTop { g with stack := rest } from State.setTop_setTop (s := T.setVm vm1) .., mm_top]
  simp only [Sem.wp_bind', Jvm.W.mark, Jvm.W.pushRef, State.topJava?_setTop' _ XF.here.top, Option.some.injEq, exists_eq_left', State.setTop_setTop, State.heap_setTop]
  intro acts
  simp [jvm, XF.here.top]
  exact ht
end MZMN
