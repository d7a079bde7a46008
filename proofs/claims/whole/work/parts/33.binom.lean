/-! ===== ways ===== -/
def ch : Nat → Nat → Nat
  | _, 0 => 1
  | 0, _ + 1 => 0
  | n + 1, k + 1 => ch n k + ch n (k + 1)
theorem ch_over : ∀ n k, n < k → ch n k = 0
  | 0, k + 1, _ => by rw [ch]
  | n + 1, k + 1, h => by rw [ch, ch_over n k (by omega), ch_over n (k + 1) (by omega)]
theorem ch_le : ∀ n k, ch n k ≤ 2 ^ n
  | n, 0 => by rw [ch]; exact Nat.one_le_two_pow
  | 0, k + 1 => by rw [ch]; exact Nat.zero_le _
  | n + 1, k + 1 => by
    rw [ch, Nat.pow_succ]
    have := ch_le n k
    have := ch_le n (k + 1)
    omega
theorem ch_step : ∀ n k, k ≤ n → ch n (k + 1) * (k + 1) = ch n k * (n - k)
  | 0, k, h => by
    have : k = 0 := by omega
    subst this
    rfl
  | n + 1, k, h => by
    rcases Nat.lt_or_ge n k with c | c
    · have : k = n + 1 := by omega
      subst this
      rw [ch_over (n + 1) (n + 1 + 1) (by omega), Nat.sub_self, Nat.zero_mul, Nat.mul_zero]
    · have h1 := ch_step n k c
      rw [ch, Nat.add_mul, h1, ← Nat.mul_add, show k + 1 + (n - k) = n + 1 by omega]
      cases k with
      | zero => rw [ch, ch, Nat.sub_zero]
      | succ j =>
        have h2 := ch_step n j (by omega)
        have e : n + 1 - (j + 1) = n - j := by omega
        rw [e, ch, Nat.add_mul, ← h2, ← Nat.mul_add, show j + 1 + (n - j) = n + 1 by omega]
def tm (t s o k : Nat) : Nat := ch t k * s ^ k * o ^ (t - k)
theorem tm_step {t s o k : Nat} (h1 : 1 ≤ k) (h2 : k ≤ t) (hs : 0 < s) : tm t s o k * (k * o) / ((t - k + 1) * s) = tm t s o (k - 1) := by
  obtain ⟨j, rfl⟩ : ∃ j, k = j + 1 := ⟨k - 1, by omega⟩
  rw [Nat.add_sub_cancel]
  apply Nat.div_eq_of_eq_mul_left (Nat.mul_pos (by omega) hs)
  have e := ch_step t j (by omega)
  have e1 : t - (j + 1) + 1 = t - j := by omega
  have e2 : o ^ (t - j) = o ^ (t - (j + 1)) * o := by rw [← Nat.pow_succ, ← e1]
  rw [e1]
  unfold tm
  rw [e2, Nat.pow_succ]
  calc ch t (j + 1) * (s ^ j * s) * o ^ (t - (j + 1)) * ((j + 1) * o)
      = (ch t (j + 1) * (j + 1)) * (s ^ j * s * o ^ (t - (j + 1)) * o) := by ac_rfl
    _ = (ch t j * (t - j)) * (s ^ j * s * o ^ (t - (j + 1)) * o) := by rw [e]
    _ = ch t j * s ^ j * (o ^ (t - (j + 1)) * o) * ((t - j) * s) := by ac_rfl
theorem tm_le {t s o k : Nat} (hk : k ≤ t) (ht : t ≤ 40) (hw : s + o ≤ 891) : tm t s o k ≤ 2 ^ 433 := by
  unfold tm
  have h1 : ch t k ≤ 2 ^ 40 := Nat.le_trans (ch_le t k) (Nat.pow_le_pow_right (by decide) ht)
  have h2 : s ^ k ≤ 891 ^ k := Nat.pow_le_pow_left (by omega) k
  have h3 : o ^ (t - k) ≤ 891 ^ (t - k) := Nat.pow_le_pow_left (by omega) _
  have h4 : s ^ k * o ^ (t - k) ≤ 891 ^ 40 := by
    refine Nat.le_trans (Nat.mul_le_mul h2 h3) ?_
    rw [← Nat.pow_add]
    exact Nat.pow_le_pow_right (by decide) (by omega)
  rw [Nat.mul_assoc]
  exact Nat.le_trans (Nat.mul_le_mul h1 h4) (by decide +kernel)
theorem tm_top {t s o : Nat} : tm t s o t = s ^ t := by
  have : ∀ n, ch n n = 1 := by
    intro n
    induction n with
    | zero => rfl
    | succ n ih => rw [ch, ih, ch_over n (n + 1) (by omega)]
  unfold tm
  rw [this, Nat.sub_self, Nat.pow_zero, Nat.one_mul, Nat.mul_one]
theorem tm_succ {t s o i : Nat} (hi : i ≤ t) : tm (t + 1) s o (i + 1) = s * tm t s o i + o * tm t s o (i + 1) := by
  unfold tm
  rw [ch, show t + 1 - (i + 1) = t - i by omega, Nat.add_mul, Nat.add_mul, Nat.pow_succ]
  congr 1
  · ac_rfl
  · rcases Nat.lt_or_ge i t with c | c
    · rw [show t - i = (t - (i + 1)) + 1 by omega, Nat.pow_succ]
      ac_rfl
    · rw [ch_over t (i + 1) (by omega)]
      simp only [Nat.zero_mul, Nat.mul_zero]
theorem sm_front (f : Nat → Nat) : ∀ n, sm f (n + 1) = f 0 + sm (fun i => f (i + 1)) n
  | 0 => by simp only [sm, Nat.zero_add, Nat.add_zero]
  | n + 1 => by
    rw [sm, sm_front f n, sm]
    omega
theorem sm_rev (f : Nat → Nat) : ∀ n m, n ≤ m + 1 → sm (fun i => f (m + 1 - n + i)) n = sm (fun i => f (m - i)) n
  | 0, _, _ => rfl
  | n + 1, m, h => by
    rw [sm_front, sm]
    have e := sm_rev f n m (by omega)
    rw [← e, Nat.add_comm]
    congr 1
    · refine sm_congr (fun i hi => ?_)
      congr 1
      omega
    · congr 1
      omega
theorem sm_mul (f : Nat → Nat) (c : Nat) : ∀ n, sm (fun i => c * f i) n = c * sm f n
  | 0 => rfl
  | n + 1 => by rw [sm, sm, sm_mul f c n, Nat.mul_add]
theorem sm_add (f h : Nat → Nat) : ∀ n, sm (fun i => f i + h i) n = sm f n + sm h n
  | 0 => rfl
  | n + 1 => by rw [sm, sm, sm, sm_add f h n]; omega
theorem binom (s o : Nat) : ∀ t, sm (tm t s o) (t + 1) = (s + o) ^ t
  | 0 => by simp [sm, tm, ch]
  | t + 1 => by
    have ih := binom s o t
    rw [sm_front]
    have e : sm (fun i => tm (t + 1) s o (i + 1)) (t + 1) = sm (fun i => s * tm t s o i + o * tm t s o (i + 1)) (t + 1) := sm_congr (fun i hi => tm_succ (by omega))
    rw [e, sm_add, sm_mul, sm_mul (fun i => tm t s o (i + 1)), ih]
    have e0 : tm (t + 1) s o 0 = o * tm t s o 0 := by
      unfold tm
      rw [ch, ch, Nat.sub_zero, Nat.sub_zero, Nat.pow_succ, Nat.pow_zero]
      simp only [Nat.one_mul]
      exact Nat.mul_comm _ _
    have ef := sm_front (tm t s o) (t + 1)
    have el : sm (tm t s o) (t + 1 + 1) = sm (tm t s o) (t + 1) + 0 := by
      rw [sm]
      congr 1
      unfold tm
      rw [ch_over t (t + 1) (by omega), Nat.zero_mul, Nat.zero_mul]
    rw [e0, Nat.pow_succ, Nat.mul_add]
    have : o * tm t s o 0 + o * sm (fun i => tm t s o (i + 1)) (t + 1) = o * (s + o) ^ t := by
      rw [← Nat.mul_add, ← ef, el, ih]; rfl
    rw [Nat.mul_comm _ s, Nat.mul_comm _ o]
    omega
/-- the chance of d or more of t, times the whole to the power of t -/
def dbt (s o d t : Nat) : Nat := sm (fun i => tm t s o (d + i)) (t + 1 - d)
theorem dbt_0 (s o t : Nat) : dbt s o 0 t = (s + o) ^ t := by
  unfold dbt
  rw [Nat.sub_zero, ← binom]
  exact sm_congr (fun i _ => by rw [Nat.zero_add])
theorem dbt_z {o d t : Nat} (hd : 0 < d) : dbt 0 o d t = 0 := by
  have h : ∀ n, sm (fun i => tm t 0 o (d + i)) n = 0 := by
    intro n
    induction n with
    | zero => rfl
    | succ n ih =>
      rw [sm, ih]
      unfold tm
      rw [show d + n = d + n - 1 + 1 by omega, Nat.pow_succ]
      simp only [Nat.mul_zero, Nat.zero_mul]
  exact h _
theorem dbt_rev {s o d t : Nat} (hd : d ≤ t + 1) : dbt s o d t = sm (fun i => tm t s o (t - i)) (t + 1 - d) := by
  unfold dbt
  rw [← sm_rev (tm t s o) (t + 1 - d) t (by omega)]
  exact sm_congr (fun i hi => by congr 1; omega)
theorem dbt_le {s o d t : Nat} (hd : d ≤ t + 1) : dbt s o d t ≤ (s + o) ^ t := by
  rw [← dbt_0, dbt_rev hd, dbt_rev (Nat.zero_le _)]
  have : ∀ (f : Nat → Nat) n m, n ≤ m → sm f n ≤ sm f m := by
    intro f n m h
    induction m with
    | zero => have : n = 0 := by omega
              subst this; exact Nat.le_refl _
    | succ m ih =>
      rcases Nat.lt_or_ge m n with c | c
      · have : n = m + 1 := by omega
        subst this; exact Nat.le_refl _
      · rw [sm]; have := ih c; omega
  exact this _ _ _ (by omega)
