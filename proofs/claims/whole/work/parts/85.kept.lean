/-! ===== what always holds is kept ===== -/
def okN (k v : Nat) : Prop := (k = 0 → 1 ≤ v ∧ v ≤ 9) ∧ (1 ≤ k → k < 19 → v ≤ 99) ∧ (19 ≤ k → k < 28 → v ≤ 12) ∧ (k = 46 → v ≤ 4) ∧ (k = 47 → v ≤ 8) ∧ (k = 48 → v ≤ 9) ∧ (k = 49 → v ≤ 999999) ∧ (k = 50 → v ≤ 12) ∧ (51 ≤ k → k < 87 → (k % 3 = 0 → v ≤ 999) ∧ (k % 3 = 1 → v ≤ 8) ∧ (k % 3 = 2 → v ≤ 1)) ∧ (k = 87 → v ≤ 12) ∧ (88 ≤ k → k < 100 → v ≤ 9) ∧ (k = 100 → v ≤ 40) ∧ (101 ≤ k → k < 141 → v ≤ 127)
theorem wv_ok {W : Nat → Nat} (h : wv W) (k : Nat) : okN k (W k) := by
  obtain ⟨h1, h2, h3, h4, h5, h6⟩ := h
  unfold okN
  refine ⟨fun e => by rw [e]; exact h1, fun a c => ?_, fun a c => ?_, fun e => by rw [e]; exact h3.1, fun e => by rw [e]; exact h3.2.1, fun e => by rw [e]; exact h3.2.2.1, fun e => by rw [e]; exact h3.2.2.2.1, fun e => by rw [e]; exact h3.2.2.2.2, fun a c => ⟨fun e => ?_, fun e => ?_, fun e => ?_⟩, fun e => by rw [e]; exact h5.1, fun a c => ?_, fun e => by rw [e]; exact h5.2, fun a c => ?_⟩
  · by_cases q : k < 10
    · have := (h2 (k - 1) (by omega)).1
      rw [show 1 + (k - 1) = k by omega] at this; exact this
    · have := (h2 (k - 10) (by omega)).2.1
      rw [show 10 + (k - 10) = k by omega] at this; exact this
  · have := (h2 (k - 19) (by omega)).2.2.1
    rw [show 19 + (k - 19) = k by omega] at this; exact this
  · have := (h4 ((k - 51) / 3) (by omega)).1
    rw [show 51 + 3 * ((k - 51) / 3) = k by omega] at this; exact this
  · have := (h4 ((k - 51) / 3) (by omega)).2.1
    rw [show 51 + 3 * ((k - 51) / 3) + 1 = k by omega] at this; exact this
  · have := (h4 ((k - 51) / 3) (by omega)).2.2.1
    rw [show 51 + 3 * ((k - 51) / 3) + 2 = k by omega] at this; exact this
  · have := (h4 (k - 88) (by omega)).2.2.2
    rw [show 88 + (k - 88) = k by omega] at this; exact this
  · have := h6 (k - 101) (by omega)
    rw [show 101 + (k - 101) = k by omega] at this; exact this
theorem wv_of {W : Nat → Nat} (h : ∀ k, okN k (W k)) (h2 : ∀ p, p < 9 → W (28 + p) ≤ W (37 + p) ∧ W (37 + p) ≤ 40) : wv W := by
  unfold okN at h
  refine ⟨(h 0).1 rfl, fun p hp => ?_, ⟨(h 46).2.2.2.1 rfl, (h 47).2.2.2.2.1 rfl, (h 48).2.2.2.2.2.1 rfl, (h 49).2.2.2.2.2.2.1 rfl, (h 50).2.2.2.2.2.2.2.1 rfl⟩, fun k hk => ?_, ⟨(h 87).2.2.2.2.2.2.2.2.2.1 rfl, (h 100).2.2.2.2.2.2.2.2.2.2.2.1 rfl⟩, fun k hk => (h (101 + k)).2.2.2.2.2.2.2.2.2.2.2.2 (by omega) (by omega)⟩
  · exact ⟨(h (1 + p)).2.1 (by omega) (by omega), (h (10 + p)).2.1 (by omega) (by omega), (h (19 + p)).2.2.1 (by omega) (by omega), (h2 p hp).1, (h2 p hp).2⟩
  · exact ⟨((h (51 + 3 * k)).2.2.2.2.2.2.2.2.1 (by omega) (by omega)).1 (by omega), ((h (51 + 3 * k + 1)).2.2.2.2.2.2.2.2.1 (by omega) (by omega)).2.1 (by omega), ((h (51 + 3 * k + 2)).2.2.2.2.2.2.2.2.1 (by omega) (by omega)).2.2 (by omega), (h (88 + k)).2.2.2.2.2.2.2.2.2.2.1 (by omega) (by omega)⟩
theorem wv_up {W : Nat → Nat} {k x : Nat} (h : wv W) (hk : k < 28 ∨ 46 ≤ k) (ho : okN k x) : wv (va_up W k x) := by
  refine wv_of (fun j => ?_) (fun p hp => ?_)
  · unfold va_up
    by_cases e : j = k
    · rw [if_pos e, e]; exact ho
    · rw [if_neg e]; exact wv_ok h j
  · unfold va_up
    rw [if_neg (by omega), if_neg (by omega)]
    exact ⟨(h.2.1 p hp).2.2.2.1, (h.2.1 p hp).2.2.2.2⟩
theorem wv_lay {W : Nat → Nat} {n : Nat} (h : wv W) (h1 : 1 ≤ n) (h9 : n ≤ 9) : wv (layW W n) := by
  refine wv_of (fun j => ?_) (fun p hp => ?_)
  · have := wv_ok h j
    unfold okN at this ⊢
    unfold layW
    (repeat' split) <;> (first | omega | exact this)
  · unfold layW
    rw [if_neg (by omega), if_neg (by omega), if_neg (by omega), if_pos (by omega), if_neg (by omega), if_neg (by omega), if_neg (by omega), if_pos (by omega)]
    omega
theorem wv_rd {W : Nat → Nat} {n : Nat} {r : rowsT} (h : wv W) (h1 : 1 ≤ n) (h9 : n ≤ 9) (hr : ∀ p, r 0 p ≤ 99 ∧ r 1 p ≤ 99 ∧ r 2 p ≤ 12) : wv (rdW W n r) := by
  have hl := wv_lay h h1 h9
  refine wv_of (fun j => ?_) (fun p hp => ?_)
  · have := wv_ok hl j
    unfold rdW
    by_cases c0 : 1 ≤ j ∧ j < 10
    · rw [if_pos c0]
      have := (hr (j - 1)).1
      unfold okN; omega
    rw [if_neg c0]
    by_cases c1 : 10 ≤ j ∧ j < 19
    · rw [if_pos c1]
      have := (hr (j - 10)).2.1
      unfold okN; omega
    rw [if_neg c1]
    by_cases c2 : 19 ≤ j ∧ j < 28
    · rw [if_pos c2]
      have := (hr (j - 19)).2.2
      unfold okN; omega
    rw [if_neg c2]
    exact this
  · unfold rdW
    rw [if_neg (by omega), if_neg (by omega), if_neg (by omega), if_neg (by omega), if_neg (by omega), if_neg (by omega)]
    exact ⟨(hl.2.1 p hp).2.2.2.1, (hl.2.1 p hp).2.2.2.2⟩
/-- rows that were read -/
def okR (r : rowsT) : Prop := ∀ p, r 0 p ≤ 99 ∧ r 1 p ≤ 99 ∧ r 2 p ≤ 12
theorem okR_set {r : rowsT} {row p x : Nat} (h : okR r) (hr : row < 3) (hx : x ≤ mo row) : okR (setR r row p x) := by
  intro q
  obtain ⟨a, c, d⟩ := h q
  unfold mo at hx
  unfold setR
  refine ⟨?_, ?_, ?_⟩
  · by_cases e : 0 = row ∧ q = p
    · rw [if_pos e]; rw [if_neg (by omega)] at hx; exact hx
    · rw [if_neg e]; exact a
  · by_cases e : 1 = row ∧ q = p
    · rw [if_pos e]; rw [if_neg (by omega)] at hx; exact hx
    · rw [if_neg e]; exact c
  · by_cases e : 2 = row ∧ q = p
    · rw [if_pos e]; rw [if_pos (by omega)] at hx; exact hx
    · rw [if_neg e]; exact d
theorem pit_ok {tb : Nat → Nat} {len n a : Nat} {r : rowsT} (h : okR r) {a' : Nat} {r' : rowsT} (e : pit tb len n a r = .inr (a', r')) : okR r' := by
  unfold pit at e
  cases hw : rowW tb (tkT tb len a) (tkP tb len a) (tkE tb len a) with
  | none => rw [hw] at e; simp at e
  | some row =>
    rw [hw] at e
    have hrow := rowW_lt hw
    simp only [pit2] at e
    split at e
    · simp only [pit3] at e
      split at e
      · rename_i c
        simp only [pit4] at e
        split at e
        · have e := (Prod.mk.inj (Sum.inr.inj e)).2
          rw [← e]
          exact okR_set h hrow c.2
        · simp at e
      · simp at e
    · simp at e
theorem pits_ok {tb : Nat → Nat} {len n : Nat} : ∀ {d a : Nat} {r r' : rowsT}, okR r → pits tb len n d a r = .inr r' → okR r'
  | 0, a, r, r', h, e => by rw [pits] at e; rw [← Sum.inr.inj e]; exact h
  | d + 1, a, r, r', h, e => by
    rw [pits] at e
    split at e
    · rw [← Sum.inr.inj e]; exact h
    · split at e
      · simp at e
      · rename_i a2 r2 e2
        exact pits_ok (pit_ok h e2) e
theorem pal_ok {tb : Nat → Nat} {len n : Nat} {r : rowsT} (e : pal tb len = .inr (n, r)) : 1 ≤ n ∧ n ≤ 9 ∧ okR r := by
  unfold pal at e
  split at e
  · unfold pal2 at e
    split at e
    · rename_i c
      unfold pal3 at e
      split at e
      · split at e
        · simp at e
        · rename_i r2 e2
          have e := Prod.mk.inj (Sum.inr.inj e)
          rw [← e.1, ← e.2]
          refine ⟨c.2.1, c.2.2, pits_ok ?_ e2⟩
          intro p
          exact ⟨by show 10 ≤ 99; decide, by show 1 ≤ 99; decide, by show 0 ≤ 12; decide⟩
      · simp at e
    · simp at e
  · simp at e
theorem sv.w {S : sT} {W : Nat → Nat} (h : sv S) (hW : wv W) : sv (S.uW W) := ⟨hW, h.vI, h.vD⟩
theorem sv.rd {S : sT} {a c : Nat} (h : sv S) (hc : 0 < c) : sv (rdc S a c) := ⟨h.vW, h.vI, Nat.div_pos (Nat.le_of_dvd hc (Nat.gcd_dvd_right a c)) (Nat.gcd_pos_of_pos_right _ hc)⟩
theorem inB_j {v : Int32} {a c : Nat} (ha : a < 2147483648) (hc : c < 2147483648) (h : inB v a c = true) : a ≤ ck v ∧ ck v ≤ c := by
  obtain ⟨j, h1, h2, e⟩ := (inR_lo ha hc).mpr (of_decide_eq_true h)
  rw [e, ck_n (by omega)]
  exact ⟨h1, h2⟩
section KEPT
variable {S : sT}
theorem k_posts {v : Int32} (h : sv S) : sv (oPosts S v).1 := by
  unfold oPosts
  split
  · rename_i c
    have := inB_j (by decide) (by decide) c
    exact h.w (wv_lay h.vW this.1 this.2)
  · exact h.rf
theorem k_put {p i x : Int32} (h : sv S) : sv (oPut S p i x).1 := by
  unfold oPut
  split
  · rename_i c
    simp only [Bool.and_eq_true] at c
    have n9 := h.vW.1.2
    have c1 := inB_j (by decide) (by omega) c.1
    have c2 := inB_j (by decide) (by decide) c.2.1
    have hm : mo (ck i) ≤ 99 := by unfold mo; split <;> omega
    have c3 := inB_j (by decide) (by omega) c.2.2
    refine h.w (wv_up h.vW (by omega) ?_)
    unfold mo at c3
    unfold okN
    by_cases e : ck i = 2
    · rw [if_pos e] at c3; omega
    · rw [if_neg e] at c3; omega
  · exact h.rf
theorem k_captain {k s t d : Int32} (h : sv S) : sv (oCaptain S k s t d).1 := by
  unfold oCaptain
  split
  · rename_i c
    simp only [Bool.and_eq_true] at c
    have n9 := h.vW.1.2
    have c1 := inB_j (by decide) (by decide) c.1
    have c2 := inB_j (by decide) (by omega) c.2.1
    have c3 := inB_j (by decide) (by decide) c.2.2.1
    have c4 := inB_j (by decide) (by decide) c.2.2.2
    exact h.w (wv_up (wv_up (wv_up (wv_up h.vW (by omega) (by unfold okN; omega)) (by omega) (by unfold okN; omega)) (by omega) (by unfold okN; omega)) (by omega) (by unfold okN; omega))
  · exact h.rf
theorem k_clear (h : sv S) : sv (oClear S).1 := ⟨h.vW, h.vI, h.vD⟩
theorem k_type {l : Int64} {n : Int32} (h : sv S) : sv (oType S l n).1 := by
  unfold oType
  split
  · split
    · exact ⟨h.vW, h.vI, h.vD⟩
    · exact h.rf
  · exact h.rf
theorem k_read (h : sv S) : sv (oRead S).1 := by
  unfold oRead
  split
  · exact h
  · rename_i n r e
    obtain ⟨a, c, d⟩ := pal_ok e
    exact h.w (wv_rd h.vW a c d)
theorem k_write {c : Int32} (h : sv S) : sv (oWrite S c).1 := by
  unfold oWrite
  split
  · rename_i e
    have c1 := inB_j (by decide) (by decide) e
    have l40 := h.vW.2.2.2.2.1.2
    split
    · exact h.rf
    · exact h.w (wv_up (wv_up h.vW (by omega) (by unfold okN; omega)) (by omega) (by unfold okN; omega))
  · exact h.rf
theorem k_erase (h : sv S) : sv (oErase S).1 := h.w (wv_up h.vW (by omega) (by unfold okN; omega))
theorem k_forget (h : sv S) : sv (oForget S).1 := h.w (wv_up h.vW (by omega) (by unfold okN; omega))
theorem k_blind (h : sv S) : sv (oBlind S).1 := h.w (wv_up h.vW (by omega) (by unfold okN; omega))
theorem k_tell {v : Int32} (h : sv S) : sv (oTell S v).1 := by
  unfold oTell
  split
  · rename_i e
    have n9 := h.vW.1.2
    have l12 := h.vW.2.2.2.2.1.1
    have hn : tN v ≤ 9 := by
      unfold tN
      by_cases q : v = -1
      · rw [if_pos q]; omega
      · rw [if_neg q]
        have := inB_j (by decide) (by omega) (e.resolve_left q)
        omega
    split
    · exact h.rf
    · exact h.w (wv_up (wv_up h.vW (by omega) (by unfold okN; omega)) (by omega) (by unfold okN; omega))
  · exact h.rf
theorem k_sight {a p c : Int32} (h : sv S) : sv (oSight S a p c).1 := by
  unfold oSight
  split
  · rename_i e
    simp only [Bool.and_eq_true] at e
    have n9 := h.vW.1.2
    have l12 := h.vW.2.2.1.2.2.2.2
    have c1 := inB_j (by decide) (by decide) e.1
    have c2 := inB_j (by decide) (by omega) e.2.1
    have c3 := inB_j (by decide) (by decide) e.2.2
    split
    · exact h.rf
    · exact h.w (wv_up (wv_up (wv_up (wv_up h.vW (by omega) (by unfold okN; omega)) (by omega) (by unfold okN; omega)) (by omega) (by unfold okN; omega)) (by omega) (by unfold okN; omega))
  · exact h.rf
theorem k_thefts {p d t : Int32} (h : sv S) : sv (oThefts S p d t).1 := by
  unfold oThefts
  split
  · rename_i e
    simp only [Bool.and_eq_true] at e
    have n9 := h.vW.1.2
    have c1 := inB_j (by decide) (by omega) e.1
    have c2 := inB_j (by decide) (by decide) e.2.1
    have c3 := inB_j (by decide) (by omega) e.2.2
    refine h.w (wv_of (fun j => ?_) (fun q hq => ?_))
    · have := wv_ok h.vW j
      unfold va_up
      by_cases e1 : j = 37 + ck p
      · rw [if_pos e1]; unfold okN; omega
      rw [if_neg e1]
      by_cases e2 : j = 28 + ck p
      · rw [if_pos e2]; unfold okN; omega
      rw [if_neg e2]; exact this
    · have := h.vW.2.1 q hq
      unfold va_up
      by_cases e1 : q = ck p
      · subst e1
        rw [if_neg (by omega), if_pos rfl, if_pos rfl]
        omega
      · rw [if_neg (by omega), if_neg (by omega), if_neg (by omega), if_neg (by omega)]
        exact ⟨this.2.2.2.1, this.2.2.2.2⟩
  · exact h.rf
theorem k_image {v : Int32} (h : sv S) : sv (oImage S v).1 := by
  unfold oImage
  split
  · refine ⟨h.vW, fun i X e => ?_, h.vD⟩
    have e : va_up S.I (ck v) (some S.W) i = some X := e
    unfold va_up at e
    by_cases c : i = ck v
    · rw [if_pos c] at e
      rw [← Option.some.inj e]; exact h.vW
    · rw [if_neg c] at e; exact h.vI i X e
  · exact h.rf
theorem k_from {v : Int32} (h : sv S) : sv (oFrom S v).1 := by
  unfold oFrom
  split
  · split
    · exact h.rf
    · rename_i X e
      exact h.w (h.vI _ X e)
  · exact h.rf
theorem k_status {v : Int32} (h : sv S) : sv (oStatus S v).1 := by unfold oStatus; split; exact h; exact h.rf
theorem k_count {v : Int32} (h : sv S) : sv (oCount S v).1 := by unfold oCount; split; exact h; exact h.rf
theorem k_sign {v : Int32} (h : sv S) : sv (oSign S v).1 := by
  unfold oSign
  (repeat' split) <;> first | exact h | exact h.rf
theorem k_limb {v i : Int32} (h : sv S) : sv (oLimb S v i).1 := by unfold oLimb; split; exact h; exact h.rf
theorem k_fault (h : sv S) : sv (oFault S).1 := h
theorem k_judge (h : sv S) : sv (oJudge S).1 := h
theorem k_asleep {v w : Int32} (h : sv S) : sv (oAsleep S v w).1 := by
  unfold oAsleep
  (repeat' split) <;> first | exact h | exact h.rf
theorem k_rounds {v : Int32} (h : sv S) : sv (oRounds S v).1 := by unfold oRounds; split; exact h; exact h.rf
theorem k_soon {v : Int32} (h : sv S) : sv (oSoon S v).1 := by unfold oSoon; split; exact h; exact h.rf
theorem k_nights (h : sv S) : sv (oNights S).1 := by unfold oNights; split; exact h; exact h.rf
theorem k_night {i : Int64} {v : Int32} (h : sv S) : sv (oNight S i v).1 := by
  unfold oNight
  (repeat' split) <;> first | exact h | exact h.rf
theorem k_has {v : Int32} (h : sv S) : sv (oHas S v).1 := by
  unfold oHas
  split
  · split
    · exact h.rf
    · exact h.rd (by omega)
  · exact h.rf
theorem k_tries (h : sv S) : sv (oTries S).1 := by unfold oTries; split; exact h.rf; exact h
theorem k_two (h : sv S) : sv (oTwo S).1 := by
  unfold oTwo
  split
  · exact h.rf
  · split
    · exact h.rd (by omega)
    · exact h
theorem k_knows (h : sv S) : sv (oKnows S).1 := by
  unfold oKnows
  split
  · exact h.rf
  · exact h.rd (by omega)
theorem k_creak {s a c : Int32} (h : sv S) : sv (oCreak S s a c).1 := by
  unfold oCreak
  split
  · split
    · exact h.rf
    · exact h.rd (by omega)
  · exact h.rf
theorem k_best {a : Int32} (h : sv S) : sv (oBest S a).1 := by
  unfold oBest
  split
  · rename_i c
    have n9 := h.vW.1.2
    have := inB_j (by decide) (by omega) c
    exact h.rd (bsW_le h.vW (by omega)).2.1
  · exact h.rf
theorem k_chance {a p : Int32} (h : sv S) : sv (oChance S a p).1 := by
  unfold oChance
  split
  · rename_i c
    simp only [Bool.and_eq_true] at c
    have n9 := h.vW.1.2
    have := inB_j (by decide) (by omega) c.1
    refine h.rd ?_
    unfold chW_ chv
    split
    · show 0 < S.W 0 - (soW S.W).length
      omega
    · split
      · exact Nat.one_pos
      · rename_i q
        exact Nat.mul_pos (Nat.pos_of_ne_zero (fun z => q (Or.inl z))) (bsW_le h.vW (by omega)).2.1
  · exact h.rf
theorem k_duke {p : Int32} (h : sv S) : sv (oDuke S p).1 := by unfold oDuke; split; exact h; exact h.rf
theorem k_ladder {a : Int32} (h : sv S) : sv (oLadder S a).1 := by
  unfold oLadder
  split
  · split
    · exact h.rf
    · exact h.rd (Nat.pow_pos (by omega))
  · exact h.rf
theorem k_doubt {a : Int32} (h : sv S) : sv (oDoubt S a).1 := by
  unfold oDoubt
  split
  · split
    · exact h.rf
    · exact h.rd (Nat.pow_pos (by omega))
  · exact h.rf
theorem k_spy (h : sv S) : sv (oSpy S).1 := by
  unfold oSpy
  split
  · exact h.rf
  · exact h.rd (Nat.pow_pos (by omega))
theorem k_digest (h : sv S) : sv (oDigest S).1 := h
end KEPT
