/-! ===== numbers: words for proofs ===== -/
theorem vi {i n : Nat} (h : i < n) (hn : n < 2 ^ 31) : vp_in (nI i) n = True := eq_true (vp_in_nI h hn)
theorem cl {i : Nat} (h : i < 2 ^ 31) : (nI i).toNatClampNeg = i := nI_clamp h
theorem imp_t {c A : Prop} (h : c = True) : (c → A) = A := by rw [h]; exact propext ⟨fun k => k trivial, fun k _ => k⟩
theorem br1 {c A B : Prop} (h : c) (a : A) : (c → A) ∧ (¬ c → B) := ⟨fun _ => a, fun k => absurd h k⟩
theorem br0 {c A B : Prop} (h : ¬ c) (b : B) : (c → A) ∧ (¬ c → B) := ⟨fun k => absurd k h, fun _ => b⟩
theorem brs {c A B : Prop} (a : c → A) (b : ¬ c → B) : (c → A) ∧ (¬ c → B) := ⟨a, b⟩
theorem bt {c A B : Prop} (h : c) : ((c → A) ∧ (¬ c → B)) = A := propext ⟨fun k => k.1 h, fun k => br1 h k⟩
theorem bf {c A B : Prop} (h : ¬ c) : ((c → A) ∧ (¬ c → B)) = B := propext ⟨fun k => k.2 h, fun k => br0 h k⟩
theorem bnt {c A B : Prop} (h : c) : ((¬ c → A) ∧ (¬ ¬ c → B)) = B := propext ⟨fun k => k.2 (fun z => z h), fun k => ⟨fun z => absurd h z, fun _ => k⟩⟩
theorem bnf {c A B : Prop} (h : ¬ c) : ((¬ c → A) ∧ (¬ ¬ c → B)) = A := propext ⟨fun k => k.1 h, fun k => ⟨fun _ => k, fun z => absurd h z⟩⟩
/-- same cells, but for those from lo up to hi -/
def fr (g g' : mzG) (lo hi : Nat) : Prop := g'.1 = g.1 ∧ ∀ k, k < lo ∨ hi ≤ k → g'.2 k = g.2 k
theorem fr.rf {g : mzG} {lo hi : Nat} : fr g g lo hi := ⟨rfl, fun _ _ => rfl⟩
theorem fr.tr {g g' g'' : mzG} {lo hi : Nat} (h : fr g g' lo hi) (h' : fr g' g'' lo hi) : fr g g'' lo hi := ⟨h'.1.trans h.1, fun k hk => (h'.2 k hk).trans (h.2 k hk)⟩
theorem fr.wide {g g' : mzG} {lo hi lo' hi' : Nat} (h : fr g g' lo hi) (h1 : lo' ≤ lo) (h2 : hi ≤ hi') : fr g g' lo' hi' := ⟨h.1, fun k hk => h.2 k (by omega)⟩
theorem fr.hs {g g' : mzG} {lo hi k : Nat} {c : mzC} (h : fr g g' lo hi) (h1 : lo ≤ k) (h2 : k < hi) : fr g (hs g' k c) lo hi := ⟨h.1, fun j hj => by rw [y_ne (by omega)]; exact h.2 j hj⟩
theorem nI_inj {a b : Nat} (ha : a < 2 ^ 31) (hb : b < 2 ^ 31) (h : nI a = nI b) : a = b := (nI_eq ha hb).mp h
theorem nI_neg {x : Int32} {n : Nat} (h : x < 0) : ¬ nI n = x ∨ 2 ^ 31 ≤ n := by
  by_cases hn : n < 2 ^ 31
  · left; intro e; rw [← e] at h; exact nI_pos hn h
  · right; omega
/-- an int is below 0, or a number -/
theorem i_cases (x : Int32) : x < 0 ∨ ∃ j : Nat, j < 2 ^ 31 ∧ x = nI j := by
  by_cases h : x < 0
  · exact Or.inl h
  · exact Or.inr (nI_of h)
theorem neg_lt {x : Int32} (h : x < 0) {n : Nat} (hn : n < 2 ^ 31) : x < nI n := by
  have := nI_pos' hn
  exact Int32.lt_of_lt_of_le h this
/-- sums of naturals -/
def sm (f : Nat → Nat) : Nat → Nat
  | 0 => 0
  | n + 1 => sm f n + f n
theorem sm_l {f : Nat → Nat} {h : Nat → Int32} : ∀ {n : Nat}, (∀ i, i < n → h i = nI (f i)) → l_sum h n = nI (sm f n)
  | 0, _ => rfl
  | n + 1, e => by
    show l_sum h n + h n = nI (sm f n + f n)
    rw [sm_l (fun i hi => e i (by omega)), e n (by omega), nI_add]
theorem sm_le {f : Nat → Nat} {c : Nat} : ∀ {n : Nat}, (∀ i, i < n → f i ≤ c) → sm f n ≤ n * c
  | 0, _ => by simp [sm]
  | n + 1, h => by
    have h1 := sm_le (f := f) (n := n) (fun i hi => h i (by omega))
    have h2 := h n (by omega)
    show sm f n + f n ≤ (n + 1) * c
    rw [Nat.add_mul]; omega
theorem sm_congr {f h : Nat → Nat} : ∀ {n : Nat}, (∀ i, i < n → f i = h i) → sm f n = sm h n
  | 0, _ => rfl
  | n + 1, e => by
    show sm f n + f n = sm h n + h n
    rw [sm_congr (fun i hi => e i (by omega)), e n (by omega)]
/-! cells at places that are numbers -/
section YN
variable {KI : Int32 → Prop} {KL : Int64 → Prop} {KN : Nat → Prop} {KC : mzC → Prop}
theorem y_lIn {n p : Nat} {f : Nat → Int32} (h : p < n) (hn : n < 2147483648) : mz_lI (aI n f) (nI p) KI = KI (f p) := by rw [y_lI, vi h (by omega), true_and, cl (by omega)]
theorem y_lKn {n p : Nat} {f : Nat → Int32} (h : p < n) (hn : n < 2147483648) : mz_lI (aK n f) (nI p) KI = KI (f p) := by rw [y_lK, vi h (by omega), true_and, cl (by omega)]
theorem y_lZn {n p : Nat} {f : Nat → Int32} (h : p < n) (hn : n < 2147483648) : mz_lZ (aZ n f) (nI p) KI = KI (f p) := by rw [y_lZ, vi h (by omega), true_and, cl (by omega)]
theorem y_lYn {n p : Nat} {f : Nat → Int32} (h : p < n) (hn : n < 2147483648) : mz_lZ (aY n f) (nI p) KI = KI (f p) := by rw [y_lY, vi h (by omega), true_and, cl (by omega)]
theorem y_lLn {n p : Nat} {f : Nat → Int64} (h : p < n) (hn : n < 2147483648) : mz_lL (aL n f) (nI p) KL = KL (f p) := by rw [y_lL, vi h (by omega), true_and, cl (by omega)]
theorem y_wIn {n p : Nat} {f : Nat → Int32} {x : Int32} (h : p < n) (hn : n < 2147483648) : mz_wI (aI n f) (nI p) x KC = KC (aI n (upd f p x)) := by rw [y_wI, vi h (by omega), true_and, cl (by omega)]
theorem y_wZn {n p : Nat} {f : Nat → Int32} {x : Int32} (h : p < n) (hn : n < 2147483648) : mz_wZ (aZ n f) (nI p) x KC = KC (aZ n (upd f p (vp_nar .boolean x))) := by rw [y_wZ, vi h (by omega), true_and, cl (by omega)]
theorem y_wLn {n p : Nat} {f : Nat → Int64} {x : Int64} (h : p < n) (hn : n < 2147483648) : mz_wL (aL n f) (nI p) x KC = KC (aL n (vp_updL f p x)) := by rw [y_wL, vi h (by omega), true_and, cl (by omega)]
theorem y_lRn {u : FieldType} {n p : Nat} {f : Nat → Option Nat} (h : p < n) (hn : n < 2147483648) : mz_lR (aR (.array u) n f) (nI p) KN = match f p with
    | some a => KN a
    | none => False := by (rw [y_lR, vi h (by omega), true_and, cl (by omega)]) <;> (cases f p <;> rfl)
theorem y_lOn {C : String} {n p : Nat} {f : Nat → Option Nat} (h : p < n) (hn : n < 2147483648) : mz_lR (aR (.object C) n f) (nI p) KN = match f p with
    | some a => KN a
    | none => False := by (rw [y_lO, vi h (by omega), true_and, cl (by omega)]) <;> (cases f p <;> rfl)
end YN
theorem le_n {a b : Nat} (ha : a < 2147483648) (hb : b < 2147483648) : (nI a ≤ nI b) = (a ≤ b) := propext (nI_leI ha hb)
theorem lt_n {a b : Nat} (ha : a < 2147483648) (hb : b < 2147483648) : (nI a < nI b) = (a < b) := propext (nI_ltI ha hb)
theorem eq_n {a b : Nat} (ha : a < 2147483648) (hb : b < 2147483648) : (nI a = nI b) = (a = b) := propext (nI_eq ha hb)
/-- written numbers -/
theorem lit (k : Nat) : (OfNat.ofNat k : Int32) = nI k := rfl
theorem litL (k : Nat) : (OfNat.ofNat k : Int64) = lN k := rfl
theorem m1_ne {a : Nat} (ha : a < 2147483648) : (nI a = -1) = False := by
  apply propext
  constructor
  · intro e
    have h : nI a < 0 := by rw [e]; decide
    exact nI_pos ha h
  · exact False.elim
