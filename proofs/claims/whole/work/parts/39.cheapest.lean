/-! ===== Balance: the cheapest ===== -/
theorem sorted_one : ∀ (l1 l2 : List Nat), l1.Perm l2 → l1.Pairwise (· ≤ ·) → l2.Pairwise (· ≤ ·) → l1 = l2
  | [], l2, h, _, _ => by rw [List.nil_perm.mp h]
  | x :: t1, [], h, _, _ => by have := h.length_eq; simp at this
  | x :: t1, y :: t2, h, h1, h2 => by
    rw [List.pairwise_cons] at h1 h2
    have a1 : x ∈ y :: t2 := h.mem_iff.mp List.mem_cons_self
    have a2 : y ∈ x :: t1 := h.mem_iff.mpr List.mem_cons_self
    have e : x = y := by
      rcases List.mem_cons.mp a1 with z | z
      · exact z
      · rcases List.mem_cons.mp a2 with q | q
        · exact q.symm
        · have := h1.1 y q
          have := h2.1 x z
          omega
    subst e
    rw [sorted_one t1 t2 h.cons_inv h1.2 h2.2]
/-- the first of the least of fractions from 1 on -/
def lef (N D : Nat → Nat) : Nat → Nat
  | 0 => 1
  | i + 1 => if i = 0 ∨ N (i + 1) * D (lef N D i) < N (lef N D i) * D (i + 1) then i + 1 else lef N D i
theorem lef_b (N D : Nat → Nat) : ∀ i, 1 ≤ lef N D i ∧ lef N D i ≤ i + 1
  | 0 => by simp [lef]
  | i + 1 => by
    rw [lef]
    have := lef_b N D i
    split
    · omega
    · omega
/-- fractions by whole parts and rests -/
theorem less_parts {N D N' D' : Nat} (hD : 0 < D) (hD' : 0 < D') : (N * D' < N' * D) ↔ (N / D < N' / D' ∨ (N / D = N' / D' ∧ (N % D) * D' < (N' % D') * D)) := by
  by_cases h : N / D = N' / D'
  · rw [less_r h]
    constructor
    · intro z; exact Or.inr ⟨h, z⟩
    · intro z
      rcases z with z | z
      · omega
      · exact z.2
  · rw [less_q hD hD' h]
    constructor
    · intro z; exact Or.inl z
    · intro z
      rcases z with z | z
      · exact z
      · exact absurd z.1 h
def duN (l : List Nat) (n pay a : Nat) : Nat := (bs (0, 1) (a - (n - l.length)) l).1 + pay * (n - a) * (bs (0, 1) (a - (n - l.length)) l).2
def duD (l : List Nat) (n a : Nat) : Nat := (bs (0, 1) (a - (n - l.length)) l).2
