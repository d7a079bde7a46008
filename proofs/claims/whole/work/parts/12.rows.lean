/-! ===== what a row of the tables says, in the words that proofs use ===== -/
theorem x_and {c A : Prop} (h : c) : (c ∧ A) = A := propext ⟨fun k => k.2, fun k => ⟨h, k⟩⟩
def mz_is (c : mzC) (rc : Nat) : Prop := match c with
  | .inr (ci, _) => ci = rc
  | _ => False
def mz_ln (c : mzC) (K : Int32 → Prop) : Prop := match c with
  | .inl (_, n, _) => K (Int32.ofNat n)
  | _ => False
def mz_cp (c0 c1 : mzC) (sp dp n : Int32) (K : mzC → Prop) : Prop := match c0, c1 with
  | .inl (ty0, n0, .inl f0), .inl (ty1, n1, .inl f1) => (ty0 = .int ∧ ty1 = .int ∧ (¬ sp < 0 ∧ ¬ dp < 0 ∧ ¬ n < 0) ∧ (sp.toNatClampNeg + n.toNatClampNeg ≤ n0 ∧ dp.toNatClampNeg + n.toNatClampNeg ≤ n1)) ∧ K (.inl (ty1, n1, .inl (va_cpy f0 f1 sp.toNatClampNeg dp.toNatClampNeg n.toNatClampNeg)))
  | _, _ => False
section XR
variable {X : mzX} {m nx k : Nat} {b : mzB} {ls st : List Value} {g : mzG} {Q : mzQ}
theorem x_get {ci j : Nat} : tr_hp m nx (f_get ci j) X b ls (.ref k :: st) g Q = mz_gf (g.2 k) ci j (fun v => X m b nx ls (v :: st) g Q) := by
  simp only [tr_hp, f_get, mz_gf]
  cases hg : g.2 k with
  | inl x => rfl
  | inr x =>
    obtain ⟨ci', fs⟩ := x
    cases hf : fs[j]? with
    | none => simp [hf]
    | some v => simp [hf]
theorem x_put {ci j ty : Nat} {v : Value} : tr_hp m nx (f_put ci j ty) X b ls (v :: .ref k :: st) g Q = mz_pf (g.2 k) ci j ty v (fun c => X m b nx ls st (hs g k c) Q) := by
  simp only [tr_hp, f_put, mz_pf]
  cases hg : g.2 k with
  | inl x => rfl
  | inr x => rfl
theorem x_ial {i : Int32} : tr_hp m nx f_ial X b ls (.int i :: .ref k :: st) g Q = mz_lI (g.2 k) i (fun x => X m b nx ls (.int x :: st) g Q) := by
  simp only [tr_hp, f_ial, mz_lI]
  rcases hg : g.2 k with ⟨ty, n, f | f | f⟩ | x <;> rfl
theorem x_zal {i : Int32} : tr_hp m nx f_zal X b ls (.int i :: .ref k :: st) g Q = mz_lZ (g.2 k) i (fun x => X m b nx ls (.int x :: st) g Q) := by
  simp only [tr_hp, f_zal, mz_lZ]
  rcases hg : g.2 k with ⟨ty, n, f | f | f⟩ | x <;> rfl
theorem x_lal {i : Int32} : tr_hp m nx f_lal X b ls (.int i :: .ref k :: st) g Q = mz_lL (g.2 k) i (fun x => X m b nx ls (.long x :: st) g Q) := by
  simp only [tr_hp, f_lal, mz_lL]
  rcases hg : g.2 k with ⟨ty, n, f | f | f⟩ | x <;> rfl
theorem x_aal {i : Int32} : tr_hp m nx f_aal X b ls (.int i :: .ref k :: st) g Q = mz_lR (g.2 k) i (fun a => X m b nx ls (.ref a :: st) g Q) := by
  simp only [tr_hp, f_aal, mz_lR]
  rcases hg : g.2 k with ⟨ty, n, f | f | f⟩ | x
  · rfl
  · rfl
  · simp only []
    cases hf : f i.toNatClampNeg with
    | none => simp
    | some a => simp
  · rfl
theorem x_ias {i x : Int32} : tr_hp m nx f_ias X b ls (.int x :: .int i :: .ref k :: st) g Q = mz_wI (g.2 k) i x (fun c => X m b nx ls st (hs g k c) Q) := by
  simp only [tr_hp, f_ias, mz_wI]
  rcases hg : g.2 k with ⟨ty, n, f | f | f⟩ | x <;> rfl
theorem x_zas {i x : Int32} : tr_hp m nx f_zas X b ls (.int x :: .int i :: .ref k :: st) g Q = mz_wZ (g.2 k) i x (fun c => X m b nx ls st (hs g k c) Q) := by
  simp only [tr_hp, f_zas, mz_wZ]
  rcases hg : g.2 k with ⟨ty, n, f | f | f⟩ | x <;> rfl
theorem x_las {i : Int32} {x : Int64} : tr_hp m nx f_las X b ls (.long x :: .int i :: .ref k :: st) g Q = mz_wL (g.2 k) i x (fun c => X m b nx ls st (hs g k c) Q) := by
  simp only [tr_hp, f_las, mz_wL]
  rcases hg : g.2 k with ⟨ty, n, f | f | f⟩ | x <;> rfl
theorem x_len : tr_hp m nx f_len X b ls (.ref k :: st) g Q = mz_ln (g.2 k) (fun n => X m b nx ls (.int n :: st) g Q) := by
  simp only [tr_hp, f_len, mz_ln]
  rcases hg : g.2 k with ⟨ty, n, f⟩ | x
  · simp
  · rfl
theorem x_cpy {n dp sp : Int32} {k1 k0 : Nat} (hr : (st.map fun v => v.category).sum ≤ 8) : tr_hp m nx f_cpy X b ls (.int n :: .int dp :: .ref k1 :: .int sp :: .ref k0 :: st) g Q = mz_cp (g.2 k0) (g.2 k1) sp dp n (fun c => X m b nx ls st (hs g k1 c) Q) := by
  simp only [tr_hp, f_cpy, mz_cp]
  rcases hg : g.2 k0 with ⟨ty, n, f | f | f⟩ | x <;> rcases hg : g.2 k1 with ⟨ty, n, f | f | f⟩ | x <;> simp [hr]
theorem x_rc {rc y n mL mc ms : Nat} {as r : List Value} {st' : List Value} {A : Prop} (hr : mz_args n [] st' = some (.ref k :: as, r)) (h9 : rc ≠ 999) (h1 : (r.map fun v => v.category).sum ≤ 8) (h2 : (mz_lay (.ref k :: as)).length ≤ mL) (h0 : mc ≤ b.1 ∧ ms ≤ b.2) (hA : X y (mc, ms) 0 (mz_ent (.ref k :: as) mL) [] g (fun rv g1 => X m (b.1 - mc, b.2 - ms) nx ls (rv.toList ++ r) g1 Q) = A) : tr_call m nx y n mL rc mc ms X b ls st' g Q = (mz_is (g.2 k) rc ∧ A) := by
  simp only [tr_call, hr, hA]
  apply propext
  constructor
  · rintro ⟨⟨-, -, -, h | h⟩, h'⟩
    · exact absurd h h9
    · exact ⟨h, h'⟩
  · rintro ⟨h, h'⟩
    exact ⟨⟨h0, h1, h2, Or.inr h⟩, h'⟩
theorem x_rs {y n mL mc ms : Nat} {as r : List Value} {st' : List Value} {A : Prop} (hr : mz_args n [] st' = some (as, r)) (h1 : (r.map fun v => v.category).sum ≤ 8) (h2 : (mz_lay as).length ≤ mL) (h0 : mc ≤ b.1 ∧ ms ≤ b.2) (hA : X y (mc, ms) 0 (mz_ent as mL) [] g (fun rv g1 => X m (b.1 - mc, b.2 - ms) nx ls (rv.toList ++ r) g1 Q) = A) : tr_call m nx y n mL 999 mc ms X b ls st' g Q = A := by
  simp only [tr_call, hr, hA]
  exact x_and ⟨h0, h1, h2, Or.inl rfl⟩
/-- where cells are made: the room is asked for -/
theorem x_al {f : List Value → mzG → Option (Prop × List Value × mzG × Nat × Nat)} {c : Prop} {st' : List Value} {g' : mzG} {k n : Nat} (h : f st g = some (c, st', g', k, n)) : tr_al m nx f X b ls st g Q = (c ∧ (k ≤ b.1 ∧ n ≤ b.2) ∧ X m (b.1 - k, b.2 - n) nx ls st' g' Q) := by
  simp only [tr_al, h]
end XR
/-! cells by their kinds -/
section XC
variable {K : Value → Prop} {KI : Int32 → Prop} {KL : Int64 → Prop} {KN : Nat → Prop} {KC : mzC → Prop}
theorem y_is {ci : Nat} {fs : List Value} : mz_is (ob ci fs) ci = True := propext ⟨fun _ => trivial, fun _ => rfl⟩
theorem y_gf {ci j : Nat} {fs : List Value} : mz_gf (ob ci fs) ci j K = match fs[j]? with
    | some v => K v
    | none => False := propext ⟨fun k => k.2, fun k => ⟨rfl, k⟩⟩
theorem y_pf {ci j ty : Nat} {fs : List Value} {v : Value} : mz_pf (ob ci fs) ci j ty v KC = ((j < fs.length ∧ mz_fit ty v) ∧ KC (ob ci (fs.set j v))) := propext ⟨fun k => ⟨k.1.2, k.2⟩, fun k => ⟨⟨rfl, k.1⟩, k.2⟩⟩
theorem y_f0 {x : Int32} : mz_fit 0 (.int x) = True := rfl
theorem y_f1 {x : Int64} : mz_fit 1 (.long x) = True := rfl
theorem y_f2 {x : Int32} : mz_fit 2 (.int x) = (x = 0 ∨ x = 1) := rfl
theorem y_f3 {x : Nat} : mz_fit 3 (.ref x) = True := rfl
theorem y_lI {n : Nat} {f : Nat → Int32} {i : Int32} : mz_lI (aI n f) i KI = (vp_in i n ∧ KI (f i.toNatClampNeg)) := propext ⟨fun k => ⟨k.1.2, k.2⟩, fun k => ⟨⟨Or.inl rfl, k.1⟩, k.2⟩⟩
theorem y_lK {n : Nat} {f : Nat → Int32} {i : Int32} : mz_lI (aK n f) i KI = (vp_in i n ∧ KI (f i.toNatClampNeg)) := propext ⟨fun k => ⟨k.1.2, k.2⟩, fun k => ⟨⟨Or.inr rfl, k.1⟩, k.2⟩⟩
theorem y_lZ {n : Nat} {f : Nat → Int32} {i : Int32} : mz_lZ (aZ n f) i KI = (vp_in i n ∧ KI (f i.toNatClampNeg)) := propext ⟨fun k => ⟨k.1.2, k.2⟩, fun k => ⟨⟨Or.inl rfl, k.1⟩, k.2⟩⟩
theorem y_lY {n : Nat} {f : Nat → Int32} {i : Int32} : mz_lZ (aY n f) i KI = (vp_in i n ∧ KI (f i.toNatClampNeg)) := propext ⟨fun k => ⟨k.1.2, k.2⟩, fun k => ⟨⟨Or.inr rfl, k.1⟩, k.2⟩⟩
theorem y_lL {n : Nat} {f : Nat → Int64} {i : Int32} : mz_lL (aL n f) i KL = (vp_in i n ∧ KL (f i.toNatClampNeg)) := propext ⟨fun k => ⟨k.1.2, k.2⟩, fun k => ⟨⟨rfl, k.1⟩, k.2⟩⟩
theorem y_lR {u : FieldType} {n : Nat} {f : Nat → Option Nat} {i : Int32} : mz_lR (aR (.array u) n f) i KN = (vp_in i n ∧ match f i.toNatClampNeg with
    | some a => KN a
    | none => False) := propext ⟨fun k => ⟨k.1.2, k.2⟩, fun k => ⟨⟨rfl, k.1⟩, k.2⟩⟩
theorem y_lO {C : String} {n : Nat} {f : Nat → Option Nat} {i : Int32} : mz_lR (aR (.object C) n f) i KN = (vp_in i n ∧ match f i.toNatClampNeg with
    | some a => KN a
    | none => False) := propext ⟨fun k => ⟨k.1.2, k.2⟩, fun k => ⟨⟨rfl, k.1⟩, k.2⟩⟩
theorem y_wI {n : Nat} {f : Nat → Int32} {i x : Int32} : mz_wI (aI n f) i x KC = (vp_in i n ∧ KC (aI n (upd f i.toNatClampNeg x))) := propext ⟨fun k => ⟨k.1.2, k.2⟩, fun k => ⟨⟨rfl, k.1⟩, k.2⟩⟩
theorem y_wZ {n : Nat} {f : Nat → Int32} {i x : Int32} : mz_wZ (aZ n f) i x KC = (vp_in i n ∧ KC (aZ n (upd f i.toNatClampNeg (vp_nar .boolean x)))) := propext ⟨fun k => ⟨k.1.2, k.2⟩, fun k => ⟨⟨rfl, k.1⟩, k.2⟩⟩
theorem y_wL {n : Nat} {f : Nat → Int64} {i : Int32} {x : Int64} : mz_wL (aL n f) i x KC = (vp_in i n ∧ KC (aL n (vp_updL f i.toNatClampNeg x))) := propext ⟨fun k => ⟨k.1.2, k.2⟩, fun k => ⟨⟨rfl, k.1⟩, k.2⟩⟩
theorem y_nI {n : Nat} {f : Nat → Int32} : mz_ln (aI n f) KI = KI (Int32.ofNat n) := rfl
theorem y_nK {n : Nat} {f : Nat → Int32} : mz_ln (aK n f) KI = KI (Int32.ofNat n) := rfl
theorem y_nY {n : Nat} {f : Nat → Int32} : mz_ln (aY n f) KI = KI (Int32.ofNat n) := rfl
theorem y_nZ {n : Nat} {f : Nat → Int32} : mz_ln (aZ n f) KI = KI (Int32.ofNat n) := rfl
theorem y_nL {n : Nat} {f : Nat → Int64} : mz_ln (aL n f) KI = KI (Int32.ofNat n) := rfl
theorem y_nR {u : FieldType} {n : Nat} {f : Nat → Option Nat} : mz_ln (aR u n f) KI = KI (Int32.ofNat n) := rfl
theorem y_cp {n0 n1 : Nat} {f0 f1 : Nat → Int32} {sp dp n : Int32} : mz_cp (aI n0 f0) (aI n1 f1) sp dp n KC = (((¬ sp < 0 ∧ ¬ dp < 0 ∧ ¬ n < 0) ∧ (sp.toNatClampNeg + n.toNatClampNeg ≤ n0 ∧ dp.toNatClampNeg + n.toNatClampNeg ≤ n1)) ∧ KC (aI n1 (va_cpy f0 f1 sp.toNatClampNeg dp.toNatClampNeg n.toNatClampNeg))) := propext ⟨fun k => ⟨k.1.2.2, k.2⟩, fun k => ⟨⟨rfl, rfl, k.1⟩, k.2⟩⟩
theorem y_k1i {x : Int32} : mz_k1 (.int x) = .int x := rfl
theorem y_k1r {x : Nat} : mz_k1 (.ref x) = .ref x := rfl
theorem y_k1l {x : Int64} : mz_k1 (.long x) = .null := rfl
theorem y_k1n : mz_k1 .null = .null := rfl
theorem y_tl {v : Value} {r : List Value} : (some v).toList ++ r = v :: r := rfl
theorem y_tn {r : List Value} : (none : Option Value).toList ++ r = r := rfl
theorem y_s {g : mzG} {k : Nat} {c : mzC} : (hs g k c).2 k = c := by simp [hs, va_up]
theorem y_ne {g : mzG} {k j : Nat} {c : mzC} (h : j ≠ k) : (hs g k c).2 j = g.2 j := by simp [hs, va_up, h]
theorem y_ss {g : mzG} {k : Nat} {c d : mzC} : hs (hs g k c) k d = hs g k d := by
  show (g.1, va_up (va_up g.2 k c) k d) = (g.1, va_up g.2 k d)
  rw [bx_uu]
theorem y_1 {g : mzG} {k : Nat} {c : mzC} : (hs g k c).1 = g.1 := rfl
end XC
