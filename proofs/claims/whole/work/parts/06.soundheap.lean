/-! ===== SOUNDNESS of the heap's instructions ===== -/
section MZH
variable {l : Launch} {base : Nat} {kv : Nat → Value} {D : va_G}
theorem so_hp {m pc nx : Nat} {f : List Value → mzG → Option (Prop × List Value × mzG)} (h : ∀ {p : Program} {e : Env} {R : Room} {s : State} {mi : MethodId} {args : Array Value} {below : List Frame} {meth : Method} {c : Code} {H : Heap} {locs : List Loc} {cells slots : Nat} {lr : Array Slot} {Qf : State → Prop} (st st' : List Value) (g g' : mzG) (cnd : Prop), f st g = some (cnd, st', g') → cnd → mz_fx base kv m p R s mi args meth c → mz_A base kv D g s H → va_S (mzA base) s.heap H locs → lr.size = mz_mL m → (∀ H' locs', mz_A base kv D g' s H' → va_S (mzA base) s.heap H' locs' → W p l e R s mi args below meth c H' locs' cells slots Qf (F0 mi nx lr (st'.map (mz_em base kv)))) → W p l e R s mi args below meth c H locs cells slots Qf (F0 mi pc lr (st.map (mz_em base kv)))) : mz_so l base kv D m pc (tr_hp m nx f) := by
  intro b ls st g Q k p e R s mi args below meth c H locs cells slots lr Qf h1 h2 h3 h4 h5 h6
  unfold tr_hp at k
  split at k
  · rename_i cnd st' g' hf
    exact h st st' g g' cnd hf k.1 h1 h2 h3 h4.2.1 (fun H' locs' h2' h3' => k.2 p e R s mi args below meth c H' locs' cells slots lr Qf h1 h2' h3' h4 h5 h6)
  · exact k.elim
theorem so_idiv {m pc : Nat} (hd : decode (mz_cd m) pc = .ok (.idiv, 1)) : mz_so l base kv D m pc (tr_hp m (pc + 1) (f_divI (fun x y => x / y))) := so_hp (fun st st' g g' cnd hf hc hx hA hS hl k => by
  unfold f_divI at hf
  split at hf
  · cases hf; exact lv_idiv hx.1 hx.2.1 hd hc (k _ _ hA hS)
  · cases hf)
theorem so_irem {m pc : Nat} (hd : decode (mz_cd m) pc = .ok (.irem, 1)) : mz_so l base kv D m pc (tr_hp m (pc + 1) (f_divI (fun x y => x - x / y * y))) := so_hp (fun st st' g g' cnd hf hc hx hA hS hl k => by
  unfold f_divI at hf
  split at hf
  · cases hf; exact lv_irem hx.1 hx.2.1 hd hc (k _ _ hA hS)
  · cases hf)
theorem so_ldiv {m pc : Nat} (hd : decode (mz_cd m) pc = .ok (.ldiv, 1)) : mz_so l base kv D m pc (tr_hp m (pc + 1) (f_divL (fun x y => x / y))) := so_hp (fun st st' g g' cnd hf hc hx hA hS hl k => by
  unfold f_divL at hf
  split at hf
  · cases hf; exact lv_ldiv hx.1 hx.2.1 hd hc (k _ _ hA hS)
  · cases hf)
theorem so_lrem {m pc : Nat} (hd : decode (mz_cd m) pc = .ok (.lrem, 1)) : mz_so l base kv D m pc (tr_hp m (pc + 1) (f_divL (fun x y => x - x / y * y))) := so_hp (fun st st' g g' cnd hf hc hx hA hS hl k => by
  unfold f_divL at hf
  split at hf
  · cases hf; exact lv_lrem hx.1 hx.2.1 hd hc (k _ _ hA hS)
  · cases hf)
/-- an array that was made -/
theorem mz_arr {g : mzG} {s : State} {H : Heap} {k n : Nat} {ty : FieldType} {x : (Nat → Int32) ⊕ (Nat → Int64) ⊕ (Nat → Option Nat)} (hA : mz_A base kv D g s H) (hg : g.2 k = .inl (ty, n, x)) (h1 : ty ≠ .short) (h2 : ty ≠ .char) : k < g.1 ∧ mz_em base kv (.ref k) = .ref (base + k) ∧ ∃ cA, H[base + k]? = some (arrV cA n (mz_vs base kv x)) ∧ ArrOfT s cA ty ∧ va_RA s cA ty := by
  have h := hA.2.1 k
  rw [hg] at h
  simp only [mz_at, if_neg h1, if_neg h2] at h
  exact ⟨h.1, mz_em_lt (by have := hA.1.2; omega), h.2⟩
theorem so_iaload {m pc : Nat} (hd : decode (mz_cd m) pc = .ok (.iaload, 1)) : mz_so l base kv D m pc (tr_hp m (pc + 1) f_ial) := so_hp (fun st st' g g' cnd hf hc hx hA hS hl kk => by
  unfold f_ial at hf
  split at hf
  · rename_i i k r
    split at hf
    · rename_i ty n f hg
      cases hf
      obtain ⟨hty, hin⟩ := hc
      have kk := kk _ _ hA hS
      show W _ _ _ _ _ _ _ _ _ _ _ _ _ _ _ (F0 _ _ _ (.int i :: mz_em base kv (.ref k) :: _))
      rcases hty with rfl | rfl
      · obtain ⟨-, e, cA, e1, e2, -⟩ := mz_arr hA hg (by decide) (by decide)
        rw [e]
        exact W.iald hx.1 hx.2.1 e1 (e2 _ _) (fun q => by cases q) (by rw [arrV_size]; exact hin) (arrV_read cA _ (Nat.not_le.mp fun q => hin (Or.inr q))) rfl rfl hd kk
      · have h := hA.2.1 k
        rw [hg] at h
        simp only [mz_at, if_true] at h
        obtain ⟨a, f', h1, h2, h3, cell, e1, e2, e3, e4, e5, e6, -⟩ := h
        cases h3
        rw [mz_em_ge h1, h2]
        have hlt : i.toNatClampNeg < n := Nat.not_le.mp fun q => hin (Or.inr q)
        exact W.iald hx.1 hx.2.1 e1 e2 e3 (fun q => hin (q.imp id (fun q => by omega))) (e6 _ hlt) rfl rfl hd kk
    · cases hf
  · cases hf)
theorem so_baload {m pc : Nat} (hd : decode (mz_cd m) pc = .ok (.baload, 1)) : mz_so l base kv D m pc (tr_hp m (pc + 1) f_zal) := so_hp (fun st st' g g' cnd hf hc hx hA hS hl kk => by
  unfold f_zal at hf
  split at hf
  · rename_i i k r
    split at hf
    · rename_i ty n f hg
      cases hf
      obtain ⟨hty, hin⟩ := hc
      have kk := kk _ _ hA hS
      show W _ _ _ _ _ _ _ _ _ _ _ _ _ _ _ (F0 _ _ _ (.int i :: mz_em base kv (.ref k) :: _))
      rcases hty with rfl | rfl
      · obtain ⟨-, e, cA, e1, e2, -⟩ := mz_arr hA hg (by decide) (by decide)
        rw [e]
        exact W.zald hx.1 hx.2.1 e1 (e2 _ _) (fun q => by cases q) (by rw [arrV_size]; exact hin) (arrV_read cA _ (Nat.not_le.mp fun q => hin (Or.inr q))) rfl rfl hd kk
      · have h := hA.2.1 k
        rw [hg] at h
        simp only [mz_at, if_true] at h
        rw [if_neg (by decide)] at h
        obtain ⟨a, f', h1, h2, h3, cell, e1, e2, e3, e4, e5, e6, -⟩ := h
        cases h3
        rw [mz_em_ge h1, h2]
        have hlt : i.toNatClampNeg < n := Nat.not_le.mp fun q => hin (Or.inr q)
        exact W.bald hx.1 hx.2.1 e1 e2 e3 (fun q => hin (q.imp id (fun q => by omega))) (e6 _ hlt) rfl rfl hd kk
    · cases hf
  · cases hf)
theorem so_laload {m pc : Nat} (hd : decode (mz_cd m) pc = .ok (.laload, 1)) : mz_so l base kv D m pc (tr_hp m (pc + 1) f_lal) := so_hp (fun st st' g g' cnd hf hc hx hA hS hl kk => by
  unfold f_lal at hf
  split at hf
  · rename_i i k r
    split at hf
    · rename_i ty n f hg
      cases hf
      obtain ⟨rfl, hin⟩ := hc
      have kk := kk _ _ hA hS
      show W _ _ _ _ _ _ _ _ _ _ _ _ _ _ _ (F0 _ _ _ (.int i :: mz_em base kv (.ref k) :: _))
      obtain ⟨-, e, cA, e1, e2, -⟩ := mz_arr hA hg (by decide) (by decide)
      rw [e]
      exact W.lald hx.1 hx.2.1 e1 (e2 _ _) (fun q => by cases q) (by rw [arrV_size]; exact hin) (arrV_read cA _ (Nat.not_le.mp fun q => hin (Or.inr q))) rfl rfl hd kk
    · cases hf
  · cases hf)
theorem so_aaload {m pc : Nat} (hd : decode (mz_cd m) pc = .ok (.aaload, 1)) : mz_so l base kv D m pc (tr_hp m (pc + 1) f_aal) := so_hp (fun st st' g g' cnd hf hc hx hA hS hl kk => by
  unfold f_aal at hf
  split at hf
  · rename_i i k r
    split at hf
    · rename_i ty n f hg
      split at hf
      · rename_i a ha
        cases hf
        obtain ⟨hty, hin⟩ := hc
        have kk := kk _ _ hA hS
        show W _ _ _ _ _ _ _ _ _ _ _ _ _ _ _ (F0 _ _ _ (.int i :: mz_em base kv (.ref k) :: _))
        obtain ⟨-, e, cA, e1, e2, -⟩ := mz_arr hA hg (by intro q; rw [q] at hty; cases hty) (by intro q; rw [q] at hty; cases hty)
        rw [e]
        exact W.aald (ty := ty) (v := mz_em base kv (.ref a)) hx.1 hx.2.1 e1 (e2 _ _) hty (fun q => by cases q) (by rw [arrV_size]; exact hin) (by rw [arrV_read cA _ (Nat.not_le.mp fun q => hin (Or.inr q))]; simp only [mz_vs, ha]) rfl rfl hd kk
      · cases hf
    · cases hf
  · cases hf)
theorem so_len {m pc : Nat} (hd : decode (mz_cd m) pc = .ok (.arraylength, 1)) : mz_so l base kv D m pc (tr_hp m (pc + 1) f_len) := so_hp (fun st st' g g' cnd hf hc hx hA hS hl kk => by
  unfold f_len at hf
  split at hf
  · rename_i k r
    split at hf
    · rename_i ty n x hg
      cases hf
      have kk := kk _ _ hA hS
      show W _ _ _ _ _ _ _ _ _ _ _ _ _ _ _ (F0 _ _ _ (mz_em base kv (.ref k) :: _))
      have h := hA.2.1 k
      rw [hg] at h
      by_cases q1 : ty = .short
      · subst q1
        simp only [mz_at, if_true] at h
        obtain ⟨a, f', h1, h2, h3, cell, e1, e2, e3, e4, e5, e6, -⟩ := h
        rw [mz_em_ge h1, h2]
        exact W.alen hx.1 hx.2.1 e1 e2 e5 rfl rfl hd kk
      · by_cases q2 : ty = .char
        · subst q2
          simp only [mz_at, if_true] at h
          rw [if_neg (by decide)] at h
          obtain ⟨a, f', h1, h2, h3, cell, e1, e2, e3, e4, e5, e6, -⟩ := h
          rw [mz_em_ge h1, h2]
          exact W.alen hx.1 hx.2.1 e1 e2 e5 rfl rfl hd kk
        · obtain ⟨-, e, cA, e1, e2, -⟩ := mz_arr hA hg q1 q2
          rw [e]
          exact W.alen hx.1 hx.2.1 e1 (e2 _ _) (by rw [arrV_size] <;> rfl) rfl rfl hd kk
    · cases hf
  · cases hf)
theorem mz_arr_set {g : mzG} {s : State} {H H1 : Heap} {k n : Nat} {ty : FieldType} {x' : (Nat → Int32) ⊕ (Nat → Int64) ⊕ (Nat → Option Nat)} {cA : ClassId} (hA : mz_A base kv D g s H) (hk : k < g.1) (h1 : ty ≠ .short) (h2 : ty ≠ .char) (hz : H1.size = H.size) (ho : ∀ q : Nat, q ≠ base + k → H1[q]? = H[q]?) (he : H1[base + k]? = some (arrV cA n (mz_vs base kv x'))) (e2 : ArrOfT s cA ty) (e3 : va_RA s cA ty) : mz_A base kv D (hs g k (.inl (ty, n, x'))) s H1 :=
  hA.set hz ho (by
    simp only [mz_at, if_neg h1, if_neg h2]
    exact ⟨hk, cA, he, e2, e3⟩)
theorem so_iastore {m pc : Nat} (hd : decode (mz_cd m) pc = .ok (.iastore, 1)) : mz_so l base kv D m pc (tr_hp m (pc + 1) f_ias) := so_hp (fun st st' g g' cnd hf hc hx hA hS hl kk => by
  unfold f_ias at hf
  split at hf
  · rename_i x i k r
    split at hf
    · rename_i ty n f hg
      cases hf
      obtain ⟨rfl, hin⟩ := hc
      show W _ _ _ _ _ _ _ _ _ _ _ _ _ _ _ (F0 _ _ _ (.int x :: .int i :: mz_em base kv (.ref k) :: _))
      obtain ⟨hk, e, cA, e1, e2, e3⟩ := mz_arr hA hg (by decide) (by decide)
      rw [e]
      refine W.iast hx.1 hx.2.1 e1 (e2 _ _) (fun q => by cases q) (by rw [arrV_size]; exact hin) rfl rfl hd (fun H' z1 z2 z3 => ?_)
      refine kk H' _ (mz_arr_set hA hk (by decide) (by decide) z2 z3 (by rw [z1, arrV_store]; refine congrArg some (congrArg (arrV cA n) (funext fun j => ?_)); simp only [updV, mz_vs, upd]; split <;> rfl) e2 e3) (hS.mz (by omega) (fun q _ hq => z3 q (fun e => hq (by rw [show (q : Nat) = base + k from e]; exact Nat.le_add_right _ _))) (fun q hq => by rw [List.mem_singleton.mp hq]; show base ≤ base + k; omega))
    · cases hf
  · cases hf)
theorem so_lastore {m pc : Nat} (hd : decode (mz_cd m) pc = .ok (.lastore, 1)) : mz_so l base kv D m pc (tr_hp m (pc + 1) f_las) := so_hp (fun st st' g g' cnd hf hc hx hA hS hl kk => by
  unfold f_las at hf
  split at hf
  · rename_i x i k r
    split at hf
    · rename_i ty n f hg
      cases hf
      obtain ⟨rfl, hin⟩ := hc
      show W _ _ _ _ _ _ _ _ _ _ _ _ _ _ _ (F0 _ _ _ (.long x :: .int i :: mz_em base kv (.ref k) :: _))
      obtain ⟨hk, e, cA, e1, e2, e3⟩ := mz_arr hA hg (by decide) (by decide)
      rw [e]
      refine W.last hx.1 hx.2.1 e1 (e2 _ _) (fun q => by cases q) (by rw [arrV_size]; exact hin) rfl rfl hd (fun H' z1 z2 z3 => ?_)
      refine kk H' _ (mz_arr_set hA hk (by decide) (by decide) z2 z3 (by rw [z1, arrV_store]; refine congrArg some (congrArg (arrV cA n) (funext fun j => ?_)); simp only [updV, mz_vs, vp_updL]; split <;> rfl) e2 e3) (hS.mz (by omega) (fun q _ hq => z3 q (fun e => hq (by rw [show (q : Nat) = base + k from e]; exact Nat.le_add_right _ _))) (fun q hq => by rw [List.mem_singleton.mp hq]; show base ≤ base + k; omega))
    · cases hf
  · cases hf)
theorem so_bastore {m pc : Nat} (hd : decode (mz_cd m) pc = .ok (.bastore, 1)) : mz_so l base kv D m pc (tr_hp m (pc + 1) f_zas) := so_hp (fun st st' g g' cnd hf hc hx hA hS hl kk => by
  unfold f_zas at hf
  split at hf
  · rename_i x i k r
    split at hf
    · rename_i ty n f hg
      cases hf
      obtain ⟨rfl, hin⟩ := hc
      show W _ _ _ _ _ _ _ _ _ _ _ _ _ _ _ (F0 _ _ _ (.int x :: .int i :: mz_em base kv (.ref k) :: _))
      obtain ⟨hk, e, cA, e1, e2, e3⟩ := mz_arr hA hg (by decide) (by decide)
      rw [e]
      refine W.zast hx.1 hx.2.1 e1 (e2 _ _) (fun q => by cases q) (by rw [arrV_size]; exact hin) rfl rfl hd (fun H' z1 z2 z3 => ?_)
      refine kk H' _ (mz_arr_set hA hk (by decide) (by decide) z2 z3 (by rw [z1, arrV_store]; refine congrArg some (congrArg (arrV cA n) (funext fun j => ?_)); simp only [updV, mz_vs, upd]; split <;> rfl) e2 e3) (hS.mz (by omega) (fun q _ hq => z3 q (fun e => hq (by rw [show (q : Nat) = base + k from e]; exact Nat.le_add_right _ _))) (fun q hq => by rw [List.mem_singleton.mp hq]; show base ≤ base + k; omega))
    · cases hf
  · cases hf)
/-! fields -/
/-- an object that was made -/
theorem mz_obj {g : mzG} {s : State} {H : Heap} {k ci : Nat} {fs : List Value} {C : String} {T : u_T} {N : Nat} (hA : mz_A base kv D g s H) (hg : g.2 k = .inr (ci, fs)) (hc : mzCl[ci]? = some (C, T, N)) : k < g.1 ∧ mz_em base kv (.ref k) = .ref (base + k) ∧ fs.length = N ∧ t_OB (base + k) (D.1 ci) N (D.2 ci) H (vp_V (fs.map (mz_em base kv))) := by
  have h := hA.2.1 k
  rw [hg] at h
  have h7 : ci ≠ 700 := by
    intro q; rw [q] at hc; exact absurd (List.getElem?_eq_some_iff.mp hc).1 (by decide)
  simp only [mz_at, if_neg h7] at h
  obtain ⟨h1, h2, h3⟩ := h _ hc
  exact ⟨h1, mz_em_lt (by have := hA.1.2; omega), h2, h3⟩
theorem so_getfield {m pc i ci j : Nat} {C : String} {T : u_T} {N : Nat} (hc : mzCl[ci]? = some (C, T, N)) (hj : j < N) (hin : ∀ w ∈ u_ws C T N, w ∈ mz_gt) (hl : Cond.fieldLink (mz_nm m).cls i (T j).1 (T j).2.1 (T j).2.2.1 ∈ mz_gt) (hd : decode (mz_cd m) pc = .ok (.getfield i, 3)) : mz_so l base kv D m pc (tr_hp m (pc + 3) (f_get ci j)) := so_hp (fun st st' g g' cnd hf hcn hx hA hS hlr kk => by
  unfold f_get at hf
  split at hf
  · rename_i k r
    split at hf
    · rename_i ci' fs hg
      split at hf
      · rename_i v hv
        cases hf
        subst hcn
        have kk := kk _ _ hA hS
        obtain ⟨hk, e, hlen, hob⟩ := mz_obj hA hg hc
        show W _ _ _ _ _ _ _ _ _ _ _ _ _ _ _ (F0 _ _ _ (mz_em base kv (.ref k) :: _))
        rw [e]
        refine va_get (D := D) (cl := mzCl) (ws := [(base + k, .inr (ci', fs.map (mz_em base kv)))]) (tys := []) (v := mz_em base kv v) hx.1 hx.2.1 hx.2.2.2.2.1 hin hx.2.2.2.1 hA.2.2.2 (fun k9 q9 h9 => ?_) 0 rfl hc j hj (hx.2.2.2.2.1 _ hl) (fun _ h9 => h9) (by rw [List.getElem?_map, hv]; rfl) hd kk
        have h0 : k9 < 1 := (List.getElem?_eq_some_iff.mp h9).1
        rw [show k9 = 0 by omega] at h9
        cases h9
        exact ⟨_, hc, hob⟩
      · cases hf
    · cases hf
  · cases hf)
theorem mz_fit_em {ty : FieldType} {t : Nat} (ht : (t = 0 ∧ ty = .int) ∨ (t = 1 ∧ ty = .long) ∨ (t = 2 ∧ ty = .boolean) ∨ (t = 3 ∧ (∃ C, ty = .object C) ∨ t = 3 ∧ ∃ u, ty = .array u)) (hk : mz_kv kv) {v : Value} (h : mz_fit t v) : narrow ty (mz_em base kv v) = mz_em base kv v ∧ fits ty (mz_em base kv v) = true := by
  rcases ht with ⟨rfl, rfl⟩ | ⟨rfl, rfl⟩ | ⟨rfl, rfl⟩ | ⟨rfl, C, rfl⟩ | ⟨rfl, u, rfl⟩
  · cases v <;> first | exact ⟨rfl, rfl⟩ | exact h.elim
  · cases v <;> first | exact ⟨rfl, rfl⟩ | exact h.elim
  · cases v with
    | int x =>
      rcases (show x = 0 ∨ x = 1 from h) with rfl | rfl <;> exact ⟨rfl, rfl⟩
    | _ => exact h.elim
  · cases v with
    | ref k => rcases mz_em_ref (base := base) hk k with e | ⟨a, e⟩ <;> rw [e] <;> exact ⟨rfl, rfl⟩
    | _ => exact h.elim
  · cases v with
    | ref k => rcases mz_em_ref (base := base) hk k with e | ⟨a, e⟩ <;> rw [e] <;> exact ⟨rfl, rfl⟩
    | _ => exact h.elim
end MZH
