/-! ===== SOUNDNESS of new int[5][9] ===== -/
section MZM2
variable {l : Launch} {base : Nat} {kv : Nat → Value} {D : va_G}
theorem so_rows {m pc i : Nat} (hcl : Cond.classLink (mz_nm m).cls i ("[" ++ (FieldType.array .int).toString) ∈ mz_gt) (hac : Cond.arrayClass .int ∈ mz_gt) (hd : decode (mz_cd m) pc = .ok (.multianewarray i 2, 4)) : mz_so l base kv D m pc (tr_al m (pc + 4) f_nw2) := so_al (fun st st' g g' cnd k n hf hcn hx hA hS hrm kk => by
  rename_i p e R s mi args below meth c H locs cells slots lr Qf
  unfold f_nw2 at hf
  split at hf
  · rename_i k n r
    cases hf
    obtain ⟨rfl, rfl, hg⟩ := hcn
    have hts := hx.2.2.2.2.1
    have hsz := hA.1.1
    intro T hT Xs
    obtain ⟨vm₁, cA, comp, fA, fC, ⟨k9, cm9, hk9, hkk9⟩, ⟨k8, cm8, hk8, hkk8⟩, X', step⟩ := mm_step Xs hx.1 hx.2.2.2.1 (hts _ hcl) (over_moved (Vm.Alike.refl _) hx.2.2.2.2.2.1.2.2.2.2) (hts _ hac) (g := F0 mi pc lr (.int 9 :: .int 5 :: r.map (mz_em base kv))) rfl (by rw [hx.2.1]; exact hd) rfl hrm.1 hrm.2
    have hTh : (T.setVm vm₁).heap = H := hT
    have f1 := mm_size (T.setVm vm₁) cA comp 5
    have f2 := mm_out (T.setVm vm₁) cA comp 5
    have hold : ∀ x : Nat, x < H.size → (mm_s (T.setVm vm₁) cA comp 5).heap[x]? = H[x]? := fun x hx => by
      rw [mm_old (T.setVm vm₁) cA comp (by rw [hTh]; exact hx) 5, hTh]
    have hrow : ∀ j : Nat, j < 5 → (mm_s (T.setVm vm₁) cA comp 5).heap[H.size + 1 + j]? = some (arrV comp 9 (fun _ => .int 0)) := fun j hj => by
      have := mm_row (T.setVm vm₁) cA comp j 5 hj
      rw [hTh] at this
      exact this
    rw [hTh] at f1 f2
    generalize mm_s (T.setVm vm₁) cA comp 5 = F at X' step f1 f2 hold hrow
    unfold mm_o at f2
    have hArA : ArrOfT s cA (.array .int) := fun N9 z9 => by
      exact ⟨(fun q hq => by cases hq), k9, hk9, cm9, hkk9⟩
    have hArC : ArrOfT s comp .int := fun N9 z9 => by
      exact ⟨(fun q hq => by cases hq), k8, hk8, cm8, hkk8⟩
    have hnew : mz_A base kv D (mz_rows g) s F.heap := by
      have hq : ∀ a : Nat, a < H.size → ¬ mzA base a → F.heap[a]? = H[a]? := fun a ha _ => hold a ha
      refine ⟨⟨by show F.heap.size = base + (g.1 + 6); omega, hg⟩, fun j => ?_, hA.2.2.1.kept hq, hA.2.2.2⟩
      show mz_at base kv D (g.1 + 6) s F.heap j (if j = g.1 then aR (.array .int) 5 (fun i => if i < 5 then some (g.1 + 1 + i) else none) else if g.1 < j ∧ j < g.1 + 6 then aI 9 (fun _ => 0) else g.2 j)
      split
      · rename_i e; subst e
        simp only [aR, mz_at]
        rw [if_neg (by decide), if_neg (by decide)]
        refine ⟨by omega, cA, ?_, hArA, fA⟩
        rw [← hsz, f2]
        refine congrArg some (congrArg (arrV cA 5) (funext fun j => ?_))
        simp only [mz_vs]
        by_cases h : j < 5
        · rw [if_pos h, if_pos h]
          show _ = mz_em base kv (.ref (g.1 + 1 + j))
          rw [mz_em_lt (by omega), hsz]
          rw [show base + g.1 + 1 + j = base + (g.1 + 1 + j) by omega]
        · rw [if_neg h, if_neg h]
      · rename_i e
        split
        · rename_i e2
          simp only [aI, mz_at]
          rw [if_neg (by decide), if_neg (by decide)]
          refine ⟨by omega, comp, ?_, hArC, fC⟩
          have := hrow (j - g.1 - 1) (by omega)
          rw [show H.size + 1 + (j - g.1 - 1) = base + j by omega] at this
          exact this
        · rename_i e2
          exact (hA.2.1 j).kept (by omega) hA.1.1 hq (fun hj => hold _ (by omega))
    obtain ⟨t, t1, t2⟩ := kk F.heap locs hnew (mz_grow hS (by omega) hold) F rfl X'
    refine ⟨t, step t ?_, t2⟩
    have e : T.heap.size = H.size := by rw [hT]
    rw [e]
    rw [List.map_cons, mz_em_lt (by omega), ← hsz] at t1
    exact t1
  · cases hf)
end MZM2
