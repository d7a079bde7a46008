/-! ===== lN n to 2^64: shifts, and, or, masks, one bit ===== -/
theorem wb_tb (n : Nat) : (lN n).toBitVec = BitVec.ofNat 64 n := rfl
theorem wb_inj {a b : Int64} (h : a.toBitVec = b.toBitVec) : a = b := Int64.toBitVec_inj.mp h
theorem wb_tn {n : Nat} (h : n < 2 ^ 64) : (lN n).toBitVec.toNat = n := by rw [wb_tb, BitVec.toNat_ofNat, Nat.mod_eq_of_lt h]
theorem wb_of (x : Int64) : ∃ n, n < 2 ^ 64 ∧ x = lN n := ⟨x.toBitVec.toNat, x.toBitVec.isLt, wb_inj (by rw [wb_tb]; simp)⟩
theorem wb_of32 (x : Int32) : ∃ n, n < 2 ^ 32 ∧ x = nI n := ⟨x.toBitVec.toNat, x.toBitVec.isLt, Int32.toBitVec_inj.mp (by show _ = BitVec.ofNat 32 _; simp)⟩
theorem wb_c : ∀ k, k < 64 → ((nI k).toInt64 &&& 63) = lN k := by decide +kernel
theorem wb_cu : ∀ k, k < 64 → ((nI k).toInt64.toUInt64 &&& Int64.toUInt64 63) = UInt64.ofNat k := by decide +kernel
theorem wb_sm : ∀ k, k < 64 → (BitVec.ofNat 64 k).smod 64 = BitVec.ofNat 64 k := by decide +kernel
theorem wb_pw {a b : Nat} (h : a ≤ b) : 2 ^ b = 2 ^ a * 2 ^ (b - a) := by rw [← Nat.pow_add]; congr 1; omega
theorem wb_lt2 {a b : Nat} (h : a < b) : 2 ^ a < 2 ^ b := Nat.pow_lt_pow_right (by decide) h
theorem wb_mod (n : Nat) : lN n = lN (n % 2 ^ 64) := wb_inj (by rw [wb_tb, wb_tb]; apply BitVec.eq_of_toNat_eq; rw [BitVec.toNat_ofNat, BitVec.toNat_ofNat, Nat.mod_mod])
theorem wb_shr {n k : Nat} (hn : n < 2 ^ 64) (hk : k < 64) : ((lN n).toUInt64 >>> ((nI k).toInt64.toUInt64 &&& Int64.toUInt64 63)).toInt64 = lN (n / 2 ^ k) := by
  rw [wb_cu k hk]
  apply wb_inj
  apply BitVec.eq_of_toNat_eq
  show ((lN n).toUInt64 >>> UInt64.ofNat k).toNat = (BitVec.ofNat 64 _).toNat
  have h1 : (UInt64.ofNat k).toNat = k := by
    show (BitVec.ofNat 64 k).toNat = k
    rw [BitVec.toNat_ofNat, Nat.mod_eq_of_lt (by omega)]
  have h2 : (lN n).toUInt64.toNat = n := wb_tn hn
  rw [UInt64.toNat_shiftRight, h1, h2, Nat.mod_eq_of_lt hk, Nat.shiftRight_eq_div_pow, BitVec.toNat_ofNat, Nat.mod_eq_of_lt (Nat.lt_of_le_of_lt (Nat.div_le_self _ _) hn)]
theorem wb_shl (n : Nat) {k : Nat} (hk : k < 64) : lN n <<< ((nI k).toInt64 &&& 63) = lN (n * 2 ^ k) := by
  rw [wb_c k hk]
  apply wb_inj
  rw [Int64.toBitVec_shiftLeft, wb_tb, wb_tb, wb_tb, wb_sm k hk]
  apply BitVec.eq_of_toNat_eq
  rw [BitVec.shiftLeft_eq', BitVec.toNat_shiftLeft, BitVec.toNat_ofNat, BitVec.toNat_ofNat, BitVec.toNat_ofNat, Nat.mod_eq_of_lt (show k < 2 ^ 64 by omega), Nat.shiftLeft_eq, Nat.mul_mod, Nat.mod_mod, ← Nat.mul_mod]
theorem wb_and {a b : Nat} (ha : a < 2 ^ 64) (hb : b < 2 ^ 64) : lN a &&& lN b = lN (a &&& b) := by
  apply wb_inj
  rw [Int64.toBitVec_and, wb_tb, wb_tb, wb_tb]
  apply BitVec.eq_of_toNat_eq
  rw [BitVec.toNat_and, BitVec.toNat_ofNat, BitVec.toNat_ofNat, BitVec.toNat_ofNat, Nat.mod_eq_of_lt ha, Nat.mod_eq_of_lt hb, Nat.mod_eq_of_lt (Nat.and_lt_two_pow _ hb)]
theorem wb_or {a b : Nat} (ha : a < 2 ^ 64) (hb : b < 2 ^ 64) : lN a ||| lN b = lN (a ||| b) := by
  apply wb_inj
  rw [Int64.toBitVec_or, wb_tb, wb_tb, wb_tb]
  apply BitVec.eq_of_toNat_eq
  rw [BitVec.toNat_or, BitVec.toNat_ofNat, BitVec.toNat_ofNat, BitVec.toNat_ofNat, Nat.mod_eq_of_lt ha, Nat.mod_eq_of_lt hb, Nat.mod_eq_of_lt (Nat.or_lt_two_pow ha hb)]
theorem wb_mask {n k : Nat} (hn : n < 2 ^ 64) (hk : k < 64) : lN n &&& lN (2 ^ k - 1) = lN (n % 2 ^ k) := by
  rw [wb_and hn (by have := wb_lt2 hk; omega), Nat.and_two_pow_sub_one_eq_mod]
theorem wb_a1 {n : Nat} (hn : n < 2 ^ 64) : lN n &&& 1 = lN (n % 2) := wb_mask (k := 1) hn (by decide)
theorem wb_bit {n k : Nat} (hn : n < 2 ^ 64) (hk : k < 64) : ((lN n).toUInt64 >>> ((nI k).toInt64.toUInt64 &&& Int64.toUInt64 63)).toInt64 &&& 1 = lN (n / 2 ^ k % 2) := by
  rw [wb_shr hn hk, wb_a1 (Nat.lt_of_le_of_lt (Nat.div_le_self _ _) hn)]
theorem wb_xor {q k : Nat} (hk : k < 63) (h : 2 ^ k ≤ q) (h2 : q < 2 ^ (k + 1)) : lN q ^^^ lN (2 ^ k) = lN (q - 2 ^ k) := by
  obtain ⟨r, rfl⟩ : ∃ r, q = 2 ^ k + r := ⟨q - 2 ^ k, by omega⟩
  have hr : r < 2 ^ k := by rw [Nat.pow_succ] at h2; omega
  have hx : (2 ^ k + r) ^^^ 2 ^ k = r := by
    apply Nat.eq_of_testBit_eq
    intro i
    rw [Nat.testBit_xor, Nat.testBit_two_pow]
    rcases Nat.lt_trichotomy i k with h | h | h
    · rw [Nat.testBit_two_pow_add_gt h]
      simp [show ¬ k = i by omega]
    · subst h
      rw [Nat.testBit_two_pow_add_eq]
      simp
    · have a1 : 2 ^ (k + 1) ≤ 2 ^ i := Nat.pow_le_pow_right (by decide) h
      rw [Nat.testBit_lt_two_pow (show 2 ^ k + r < 2 ^ i by omega), Nat.testBit_lt_two_pow (show r < 2 ^ i by omega)]
      simp [show ¬ k = i by omega]
  have b1 := wb_lt2 (show k + 1 < 64 by omega)
  have b2 := wb_lt2 (show k < 64 by omega)
  apply wb_inj
  rw [Int64.toBitVec_xor, wb_tb, wb_tb, wb_tb]
  apply BitVec.eq_of_toNat_eq
  rw [BitVec.toNat_xor, BitVec.toNat_ofNat, BitVec.toNat_ofNat, BitVec.toNat_ofNat, Nat.mod_eq_of_lt (by omega : 2 ^ k + r < 2 ^ 64), Nat.mod_eq_of_lt b2, hx, Nat.add_sub_cancel_left, Nat.mod_eq_of_lt (by omega)]
/-! ===== longs and limbs ===== -/
theorem pk_shrL (a s : Int64) (k : Nat) (hs : (s.toBitVec.smod 64).toNat = k) : (a >>> s).toInt = a.toInt >>> k := by
  show (a.toBitVec.sshiftRight (s.toBitVec.smod 64).toNat).toInt = _
  rw [hs, BitVec.toInt_sshiftRight]
  rfl
theorem pk_shrLN {n : Nat} (h : n < 2 ^ 63) (s : Int64) (k : Nat) (hs : (s.toBitVec.smod 64).toNat = k) : lN n >>> s = lN (n / 2 ^ k) := by
  apply Int64.toInt_inj.mp
  have h2 : n / 2 ^ k ≤ n := Nat.div_le_self _ _
  rw [pk_shrL _ _ k hs, pk_lT h, pk_lT (by omega), Int.shiftRight_eq_div_pow]
  rfl
/-- the base of limbs -/
abbrev BB : Nat := 1073741824
theorem l_shr30 {n : Nat} (h : n < 9223372036854775808) : lN n >>> ((nI 30).toInt64 &&& lN 63) = lN (n / BB) := pk_shrLN h _ 30 (by decide)
theorem l_shr16 {n : Nat} (h : n < 9223372036854775808) {k : Nat} (hk : k < 64) : lN n >>> ((nI k).toInt64 &&& lN 63) = lN (n / 2 ^ k) := pk_shrLN h _ k (by rw [show ((nI k).toInt64 &&& lN 63) = lN k from wb_c k hk, wb_tb, wb_sm k hk, BitVec.toNat_ofNat]; omega)
theorem l_low {n : Nat} (h : n < 9223372036854775808) : lN n &&& lN 1073741823 = lN (n % BB) := wb_mask (n := n) (k := 30) (by omega) (by decide)
theorem l_i (n : Nat) : (lN n).toInt32 = nI n := lN_i n
theorem i_l {n : Nat} (h : n < 2147483648) : (nI n).toInt64 = lN n := nI_l h
theorem l_add (a b : Nat) : lN a + lN b = lN (a + b) := lN_add a b
theorem l_mul (a b : Nat) : lN a * lN b = lN (a * b) := lN_mul a b
theorem l_sub {a b : Nat} (h : b ≤ a) : lN a - lN b = lN (a - b) := lN_sub h
theorem l_div {a b : Nat} (ha : a < 9223372036854775808) (h0 : 0 < b) (hb : b < 9223372036854775808) : lN a / lN b = lN (a / b) := pk_lDiv ha h0 hb
theorem l_rem {a b : Nat} (ha : a < 9223372036854775808) (h0 : 0 < b) (hb : b < 9223372036854775808) : lN a - lN a / lN b * lN b = lN (a % b) := pk_lRem ha h0 hb
theorem l_shl {n k : Nat} (hk : k < 64) : lN n <<< ((nI k).toInt64 &&& lN 63) = lN (n * 2 ^ k) := wb_shl n hk
theorem l_eq {a b : Nat} (ha : a < 9223372036854775808) (hb : b < 9223372036854775808) : (lN a = lN b) = (a = b) := propext (pk_lEQ ha hb)
theorem l_lt {a b : Nat} (ha : a < 9223372036854775808) (hb : b < 9223372036854775808) : (lN a < lN b) = (a < b) := propext (pk_lLT ha hb)
theorem l_le {a b : Nat} (ha : a < 9223372036854775808) (hb : b < 9223372036854775808) : (lN a ≤ lN b) = (a ≤ b) := propext (pk_lLE ha hb)
/-- comparisons of longs -/
theorem lc_le {a b : Nat} (ha : a < 9223372036854775808) (hb : b < 9223372036854775808) : (lg_cmp (lN a) (lN b) ≤ nI 0) = (a ≤ b) := by rw [← l_le ha hb]; exact propext (lg_cmp_le _ _)
theorem lc_ge {a b : Nat} (ha : a < 9223372036854775808) (hb : b < 9223372036854775808) : (nI 0 ≤ lg_cmp (lN a) (lN b)) = (b ≤ a) := by rw [← l_le hb ha]; exact propext (lg_cmp_ge _ _)
theorem lc_eq {a b : Nat} (ha : a < 9223372036854775808) (hb : b < 9223372036854775808) : (lg_cmp (lN a) (lN b) = nI 0) = (a = b) := by
  rw [← l_eq ha hb]
  apply propext
  unfold lg_cmp
  constructor
  · intro h
    split at h
    · exact absurd h (by decide)
    · split at h
      · assumption
      · exact absurd h (by decide)
  · intro h
    rw [h]; simp; rfl
theorem lc_lt {a b : Nat} (ha : a < 9223372036854775808) (hb : b < 9223372036854775808) : (lg_cmp (lN a) (lN b) < nI 0) = (a < b) := by
  apply propext
  rw [← Int32.not_le, lc_ge ha hb]; omega
theorem lc_gt {a b : Nat} (ha : a < 9223372036854775808) (hb : b < 9223372036854775808) : (nI 0 < lg_cmp (lN a) (lN b)) = (b < a) := by
  apply propext
  rw [← Int32.not_le, lc_le ha hb]; omega
/-! limbs -/
theorem bb_succ (x i : Nat) : x % BB ^ (i + 1) = x % BB ^ i + BB ^ i * (x / BB ^ i % BB) := Nat.mod_pow_succ
theorem bb_pos (i : Nat) : 0 < BB ^ i := Nat.pow_pos (by decide)
theorem bb_s (i : Nat) : BB ^ (i + 1) = BB ^ i * BB := Nat.pow_succ _ _
theorem bb_lt (x i : Nat) : x / BB ^ i % BB < 1073741824 := Nat.mod_lt _ (by decide)
/-- a digit depends on what is below the next power alone -/
theorem bb_dig {x y i : Nat} (h : x % BB ^ (i + 1) = y % BB ^ (i + 1)) : x / BB ^ i % BB = y / BB ^ i % BB := by
  rw [bb_s] at h
  rw [← Nat.mod_mul_right_div_self x (BB ^ i) BB, ← Nat.mod_mul_right_div_self y (BB ^ i) BB, h]
theorem bb_dd (x i : Nat) : x / BB ^ i / BB = x / BB ^ (i + 1) := by rw [bb_s, Nat.div_div_eq_div_mul]
/-- times: carry and digit -/
theorem bb_times (N m i : Nat) : (N % BB ^ i) * m / BB ^ i + (N / BB ^ i % BB) * m = (N % BB ^ (i + 1)) * m / BB ^ i := by
  rw [bb_succ, Nat.add_mul, Nat.mul_assoc, Nat.add_mul_div_left _ _ (bb_pos i)]
theorem bb_times_d (N m i : Nat) : ((N % BB ^ i) * m / BB ^ i + (N / BB ^ i % BB) * m) % BB = N * m / BB ^ i % BB := by
  rw [bb_times]
  apply bb_dig
  rw [Nat.mul_mod, Nat.mod_mod, ← Nat.mul_mod]
theorem bb_times_c (N m i : Nat) : ((N % BB ^ i) * m / BB ^ i + (N / BB ^ i % BB) * m) / BB = (N % BB ^ (i + 1)) * m / BB ^ (i + 1) := by
  rw [bb_times, bb_dd]
/-- add: carry and digit -/
theorem bb_add (M N i : Nat) : (M % BB ^ i + N % BB ^ i) / BB ^ i + M / BB ^ i % BB + N / BB ^ i % BB = (M % BB ^ (i + 1) + N % BB ^ (i + 1)) / BB ^ i := by
  rw [bb_succ M, bb_succ N, show M % BB ^ i + BB ^ i * (M / BB ^ i % BB) + (N % BB ^ i + BB ^ i * (N / BB ^ i % BB)) = (M % BB ^ i + N % BB ^ i) + BB ^ i * (M / BB ^ i % BB + N / BB ^ i % BB) by rw [Nat.mul_add]; omega, Nat.add_mul_div_left _ _ (bb_pos i)]
  omega
theorem bb_add_d (M N i : Nat) : ((M % BB ^ i + N % BB ^ i) / BB ^ i + M / BB ^ i % BB + N / BB ^ i % BB) % BB = (M + N) / BB ^ i % BB := by
  rw [bb_add]
  apply bb_dig
  rw [← Nat.add_mod]
theorem bb_add_c (M N i : Nat) : ((M % BB ^ i + N % BB ^ i) / BB ^ i + M / BB ^ i % BB + N / BB ^ i % BB) / BB = (M % BB ^ (i + 1) + N % BB ^ (i + 1)) / BB ^ (i + 1) := by
  rw [bb_add, bb_dd]
/-- cut by a small one, from the top: rest and digit -/
theorem bb_div_r (N d i : Nat) : ((N / BB ^ (i + 1) % d) * BB + N / BB ^ i % BB) % d = N / BB ^ i % d := by
  have h : N / BB ^ i = N / BB ^ (i + 1) * BB + N / BB ^ i % BB := by
    rw [← bb_dd]; exact (Nat.div_add_mod' (N / BB ^ i) BB).symm
  conv => rhs; rw [h]
  rw [Nat.add_mod, Nat.mul_mod, Nat.mod_mod, ← Nat.mul_mod, ← Nat.add_mod]
theorem bb_div_d (N d i : Nat) (hd : 0 < d) : ((N / BB ^ (i + 1) % d) * BB + N / BB ^ i % BB) / d = N / d / BB ^ i % BB := by
  have h : N / BB ^ i = N / BB ^ (i + 1) * BB + N / BB ^ i % BB := by
    rw [← bb_dd]; exact (Nat.div_add_mod' (N / BB ^ i) BB).symm
  have h2 : N / BB ^ (i + 1) = d * (N / BB ^ (i + 1) / d) + N / BB ^ (i + 1) % d := (Nat.div_add_mod _ _).symm
  rw [Nat.div_div_eq_div_mul, Nat.mul_comm d, ← Nat.div_div_eq_div_mul]
  have hr : N / BB ^ (i + 1) % d < d := Nat.mod_lt _ hd
  generalize N / BB ^ (i + 1) % d = r at h2 hr ⊢
  generalize N / BB ^ (i + 1) / d = q at h2 ⊢
  have hb : N / BB ^ i % BB < BB := bb_lt N i
  generalize N / BB ^ i % BB = x at h hb ⊢
  rw [h, h2, Nat.add_mul, Nat.mul_assoc, Nat.add_assoc, Nat.mul_add_div hd]
  have hlt : (r * BB + x) / d < BB := by
    rw [Nat.div_lt_iff_lt_mul hd]
    have : (r + 1) * BB ≤ d * BB := Nat.mul_le_mul_right _ hr
    rw [Nat.add_mul] at this
    rw [Nat.mul_comm BB d]
    omega
  rw [Nat.mul_comm q BB, Nat.mul_add_mod, Nat.mod_eq_of_lt hlt]
