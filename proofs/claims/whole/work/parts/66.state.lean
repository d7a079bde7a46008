/-! ===== what the program and the reference hold ===== -/
abbrev sT := (Nat → Nat) × (Nat → Option (Nat → Nat)) × (Nat → Nat) × (Nat) × (Nat) × (Nat) × (Nat → Int32)
abbrev sT.W (S : sT) : Nat → Nat := S.1
abbrev sT.I (S : sT) : Nat → Option (Nat → Nat) := S.2.1
abbrev sT.tb (S : sT) : Nat → Nat := S.2.2.1
abbrev sT.tl (S : sT) : Nat := S.2.2.2.1
abbrev sT.N (S : sT) : Nat := S.2.2.2.2.1
abbrev sT.D (S : sT) : Nat := S.2.2.2.2.2.1
abbrev sT.R (S : sT) : Nat → Int32 := S.2.2.2.2.2.2
abbrev sT.uW (S : sT) (W : Nat → Nat) : sT := (W, S.I, S.tb, S.tl, S.N, S.D, S.R)
abbrev sT.uI (S : sT) (I : Nat → Option (Nat → Nat)) : sT := (S.W, I, S.tb, S.tl, S.N, S.D, S.R)
abbrev sT.uT (S : sT) (tb : Nat → Nat) (tl : Nat) : sT := (S.W, S.I, tb, tl, S.N, S.D, S.R)
abbrev sT.uN (S : sT) (N D : Nat) : sT := (S.W, S.I, S.tb, S.tl, N, D, S.R)
abbrev sT.uR (S : sT) (R : Nat → Int32) : sT := (S.W, S.I, S.tb, S.tl, S.N, S.D, R)
def cw (v : Nat → Int32) (A : Nat → Nat → Int32) (W : Nat → Nat) : Prop := (v 0 = nI (W 0) ∧ v 1 = nI (W 46) ∧ v 2 = nI (W 47) ∧ v 3 = nI (W 48) ∧ v 4 = nI (W 49) ∧ v 5 = nI (W 50) ∧ v 6 = nI (W 87) ∧ v 7 = nI (W 100)) ∧ (∀ i p, i < 5 → p < 9 → A i p = nI (W (1 + 9 * i + p))) ∧ (∀ k, k < 12 → A 5 k = nI (W (51 + 3 * k)) ∧ A 6 k = nI (W (51 + 3 * k + 1)) ∧ A 7 k = nI (W (51 + 3 * k + 2)) ∧ A 8 k = tI (W (88 + k))) ∧ ∀ k, k < 40 → A 9 k = nI (W (101 + k))
/-- the Watch at w holds W -/
def wat (g : mzG) (w : Nat) (W : Nat → Nat) : Prop := ∃ v A, wt g w v A ∧ cw v A W
def p0 (g : mzG) : Prop := g.2 0 = ob 8 [.ref 1, .ref 13, .ref 14, .ref 15, .ref 29, .ref 34, .ref 36, .ref 43, .ref 48] ∧ (∃ f, g.2 13 = aR (.object "WatchSleep$Watch") 2 f ∧ f 0 = some 49 ∧ f 1 = some 61) ∧ g.2 29 = ob 1 [.ref 30]
def pI_ (g : mzG) (I : Nat → Option (Nat → Nat)) : Prop := (∃ kz, g.2 14 = aZ 2 kz ∧ ∀ i, i < 2 → kz i = bI (I i).isSome) ∧ ∀ i, i < 2 → ∃ v A, wt g (49 + 12 * i) v A ∧ ∀ X, I i = some X → cw v A X
def pT (g : mzG) (tb : Nat → Nat) (tl : Nat) : Prop := (∃ a t p va, tx g tb tl a t p va) ∧ ∃ v A, wt g 16 v A
def pU (g : mzG) : Prop := ∃ fl lb due L w op, ru g fl lb due L w op
def pB (g : mzG) : Prop := ∃ a c m f, bl g 34 a c m f
def pH (g : mzG) : Prop := ∃ a c d, th g 36 a c d
def CR (g : mzG) (S : sT) : Prop := (p0 g) ∧ (wat g 1 S.W) ∧ (pI_ g S.I) ∧ (pT g S.tb S.tl) ∧ (pU g) ∧ (pB g) ∧ (pH g) ∧ (ft g 43 S.N S.D) ∧ (g.2 48 = aI 3 S.R) ∧ (kc g)
theorem CR.c0 {g : mzG} {S : sT} (h : CR g S) : p0 g := h.1
theorem CR.cW {g : mzG} {S : sT} (h : CR g S) : wat g 1 S.W := h.2.1
theorem CR.cI {g : mzG} {S : sT} (h : CR g S) : pI_ g S.I := h.2.2.1
theorem CR.cT {g : mzG} {S : sT} (h : CR g S) : pT g S.tb S.tl := h.2.2.2.1
theorem CR.cU {g : mzG} {S : sT} (h : CR g S) : pU g := h.2.2.2.2.1
theorem CR.cB {g : mzG} {S : sT} (h : CR g S) : pB g := h.2.2.2.2.2.1
theorem CR.cH {g : mzG} {S : sT} (h : CR g S) : pH g := h.2.2.2.2.2.2.1
theorem CR.cF {g : mzG} {S : sT} (h : CR g S) : ft g 43 S.N S.D := h.2.2.2.2.2.2.2.1
theorem CR.cR {g : mzG} {S : sT} (h : CR g S) : g.2 48 = aI 3 S.R := h.2.2.2.2.2.2.2.2.1
theorem CR.cC {g : mzG} {S : sT} (h : CR g S) : kc g := h.2.2.2.2.2.2.2.2.2
section STATE
variable {g g' : mzG} {S : sT} {lo hi : Nat}
theorem p0.frm (h : p0 g) (hf : fr g g' lo hi) (ha : (0 < lo ∧ hi ≤ 13) ∨ (13 < lo ∧ hi ≤ 29) ∨ 29 < lo) : p0 g' := by
  obtain ⟨h1, ⟨f, h2, h3⟩, h4⟩ := h
  exact ⟨by rw [hf.2 _ (by omega)]; exact h1, ⟨f, by rw [hf.2 _ (by omega)]; exact h2, h3⟩, by rw [hf.2 _ (by omega)]; exact h4⟩
theorem wat.frm {w : Nat} {W : Nat → Nat} (h : wat g w W) (hf : fr g g' lo hi) (ha : w + 12 ≤ lo ∨ hi ≤ w) : wat g' w W := by
  obtain ⟨v, A, h1, h2⟩ := h
  exact ⟨v, A, h1.frm hf ha, h2⟩
theorem pI_.frm {I : Nat → Option (Nat → Nat)} (h : pI_ g I) (hf : fr g g' lo hi) (ha : hi ≤ 14 ∨ (14 < lo ∧ hi ≤ 49) ∨ 73 ≤ lo) : pI_ g' I := by
  obtain ⟨⟨kz, h1, h2⟩, h3⟩ := h
  refine ⟨⟨kz, by rw [hf.2 _ (by omega)]; exact h1, h2⟩, fun i hi => ?_⟩
  obtain ⟨v, A, k1, k2⟩ := h3 i hi
  exact ⟨v, A, k1.frm hf (by omega), k2⟩
theorem pT.frm {tb : Nat → Nat} {tl : Nat} (h : pT g tb tl) (hf : fr g g' lo hi) (ha : hi ≤ 15 ∨ 29 ≤ lo) : pT g' tb tl := by
  obtain ⟨⟨a, t, p, va, h1⟩, v, A, h2⟩ := h
  exact ⟨⟨a, t, p, va, h1.frm hf (by omega)⟩, v, A, h2.frm hf (by omega)⟩
theorem pU.frm (h : pU g) (hf : fr g g' lo hi) (ha : hi ≤ 30 ∨ 34 ≤ lo) : pU g' := by
  obtain ⟨fl, lb, due, L, w, op, h1⟩ := h
  exact ⟨fl, lb, due, L, w, op, h1.frm hf (by omega)⟩
theorem pB.frm (h : pB g) (hf : fr g g' lo hi) (ha : hi ≤ 34 ∨ 36 ≤ lo) : pB g' := by
  obtain ⟨a, c, m, f, h1⟩ := h
  exact ⟨a, c, m, f, h1.frm hf (by omega)⟩
theorem pH.frm (h : pH g) (hf : fr g g' lo hi) (ha : hi ≤ 36 ∨ 43 ≤ lo) : pH g' := by
  obtain ⟨a, c, d, h1⟩ := h
  exact ⟨a, c, d, h1.frm hf (by omega)⟩
theorem CR.frm (h : CR g S) (hf : fr g g' lo hi) (ha : 73 ≤ lo) (hb : hi ≤ 1000) : CR g' S := ⟨h.c0.frm hf (by omega), h.cW.frm hf (by omega), h.cI.frm hf (by omega), h.cT.frm hf (by omega), h.cU.frm hf (by omega), h.cB.frm hf (by omega), h.cH.frm hf (by omega), h.cF.frm hf (by omega), by rw [hf.2 _ (by omega)]; exact h.cR, h.cC.frm hf (by omega)⟩
theorem CR.w {W : Nat → Nat} (h : CR g S) (hf : fr g g' 1 13) (hW : wat g' 1 W) : CR g' (S.uW W) := ⟨h.c0.frm hf (by omega), hW, h.cI.frm hf (by omega), h.cT.frm hf (by omega), h.cU.frm hf (by omega), h.cB.frm hf (by omega), h.cH.frm hf (by omega), h.cF.frm hf (by omega), by rw [hf.2 _ (by omega)]; exact h.cR, h.cC.frm hf (by omega)⟩
theorem CR.t {tb : Nat → Nat} {tl : Nat} (h : CR g S) (hf : fr g g' 15 29) (hT : pT g' tb tl) : CR g' (S.uT tb tl) := ⟨h.c0.frm hf (by omega), h.cW.frm hf (by omega), h.cI.frm hf (by omega), hT, h.cU.frm hf (by omega), h.cB.frm hf (by omega), h.cH.frm hf (by omega), h.cF.frm hf (by omega), by rw [hf.2 _ (by omega)]; exact h.cR, h.cC.frm hf (by omega)⟩
theorem CR.u (h : CR g S) (hf : fr g g' 30 34) (hU : pU g') : CR g' S := ⟨h.c0.frm hf (by omega), h.cW.frm hf (by omega), h.cI.frm hf (by omega), h.cT.frm hf (by omega), hU, h.cB.frm hf (by omega), h.cH.frm hf (by omega), h.cF.frm hf (by omega), by rw [hf.2 _ (by omega)]; exact h.cR, h.cC.frm hf (by omega)⟩
theorem CR.b (h : CR g S) (hf : fr g g' 34 36) (hB : pB g') : CR g' S := ⟨h.c0.frm hf (by omega), h.cW.frm hf (by omega), h.cI.frm hf (by omega), h.cT.frm hf (by omega), h.cU.frm hf (by omega), hB, h.cH.frm hf (by omega), h.cF.frm hf (by omega), by rw [hf.2 _ (by omega)]; exact h.cR, h.cC.frm hf (by omega)⟩
theorem CR.h {N D : Nat} (h : CR g S) (hf : fr g g' 36 48) (hH : pH g') (hF : ft g' 43 N D) : CR g' (S.uN N D) := ⟨h.c0.frm hf (by omega), h.cW.frm hf (by omega), h.cI.frm hf (by omega), h.cT.frm hf (by omega), h.cU.frm hf (by omega), h.cB.frm hf (by omega), hH, hF, by rw [hf.2 _ (by omega)]; exact h.cR, h.cC.frm hf (by omega)⟩
theorem CR.f {N D : Nat} (h : CR g S) (hf : fr g g' 43 48) (hF : ft g' 43 N D) : CR g' (S.uN N D) := ⟨h.c0.frm hf (by omega), h.cW.frm hf (by omega), h.cI.frm hf (by omega), h.cT.frm hf (by omega), h.cU.frm hf (by omega), h.cB.frm hf (by omega), h.cH.frm hf (by omega), hF, by rw [hf.2 _ (by omega)]; exact h.cR, h.cC.frm hf (by omega)⟩
theorem CR.r {R : Nat → Int32} (h : CR g S) (hf : fr g g' 48 49) (hR : g'.2 48 = aI 3 R) : CR g' (S.uR R) := ⟨h.c0.frm hf (by omega), h.cW.frm hf (by omega), h.cI.frm hf (by omega), h.cT.frm hf (by omega), h.cU.frm hf (by omega), h.cB.frm hf (by omega), h.cH.frm hf (by omega), h.cF.frm hf (by omega), hR, h.cC.frm hf (by omega)⟩
end STATE
/-! the reference -/
def pM (g : mzG) (N tl : Nat) : Prop := ∃ (x : Nat → Int32) (r : Int64), g.2 73 = ob 9 [.ref 74, .ref 75, .ref 76, .ref 77, .ref 78, .ref 79, .int (x 0), .int (x 1), .int (x 2), .ref 80, .int (x 3), .ref 81, .int (x 4), .ref 82, .long (r), .ref 83, .ref 84, .int (x 5), .int (x 6), .int (x 7), .int (x 8), .int (x 9), .ref 85, .int (x 10)] ∧ x 0 = sgN N ∧ x 5 = nI tl
def pN (g : mzG) (W : Nat → Nat) : Prop := ∃ f, g.2 74 = aI 141 f ∧ nwf f W
def pK (g : mzG) (I : Nat → Option (Nat → Nat)) : Prop := ∃ F K, g.2 75 = aI 282 F ∧ g.2 76 = aZ 2 K ∧ ∀ i, i < 2 → K i = bI (I i).isSome ∧ ∀ X, I i = some X → ∀ k, k < 141 → F (141 * i + k) = wI k (X k)
def pV (g : mzG) (N D : Nat) : Prop := ∃ V, ms g E0 V ∧ V 0 = N ∧ V 1 = D
def MR (g : mzG) (S : sT) : Prop := (pM g S.N S.tl) ∧ (pN g S.W) ∧ (pK g S.I) ∧ (g.2 77 = aI 3 S.R) ∧ (pV g S.N S.D) ∧ (sc g) ∧ (∃ z, g.2 83 = aZ 81 z) ∧ (by_ g S.tb S.tl) ∧ (∃ q, g.2 85 = aI 27 q)
theorem MR.mM {g : mzG} {S : sT} (h : MR g S) : pM g S.N S.tl := h.1
theorem MR.mW {g : mzG} {S : sT} (h : MR g S) : pN g S.W := h.2.1
theorem MR.mK {g : mzG} {S : sT} (h : MR g S) : pK g S.I := h.2.2.1
theorem MR.mR {g : mzG} {S : sT} (h : MR g S) : g.2 77 = aI 3 S.R := h.2.2.2.1
theorem MR.mV {g : mzG} {S : sT} (h : MR g S) : pV g S.N S.D := h.2.2.2.2.1
theorem MR.mS {g : mzG} {S : sT} (h : MR g S) : sc g := h.2.2.2.2.2.1
theorem MR.mY {g : mzG} {S : sT} (h : MR g S) : ∃ z, g.2 83 = aZ 81 z := h.2.2.2.2.2.2.1
theorem MR.mB {g : mzG} {S : sT} (h : MR g S) : by_ g S.tb S.tl := h.2.2.2.2.2.2.2.1
theorem MR.mO {g : mzG} {S : sT} (h : MR g S) : ∃ q, g.2 85 = aI 27 q := h.2.2.2.2.2.2.2.2
section MSTATE
variable {g g' : mzG} {S : sT} {lo hi : Nat}
/-- the cells named are as they were -/
def sam (g g' : mzG) (P : Nat → Prop) : Prop := g'.1 = g.1 ∧ ∀ k, P k → g'.2 k = g.2 k
theorem pM.sa {N tl : Nat} (h : pM g N tl) (e : g'.2 73 = g.2 73) : pM g' N tl := by
  obtain ⟨x, r, h1, h2⟩ := h
  exact ⟨x, r, e.trans h1, h2⟩
theorem pN.sa {W : Nat → Nat} (h : pN g W) (e : g'.2 74 = g.2 74) : pN g' W := by
  obtain ⟨f, h1, h2⟩ := h
  exact ⟨f, e.trans h1, h2⟩
theorem pK.sa {I : Nat → Option (Nat → Nat)} (h : pK g I) (e : g'.2 75 = g.2 75) (e' : g'.2 76 = g.2 76) : pK g' I := by
  obtain ⟨F, K, h1, h2, h3⟩ := h
  exact ⟨F, K, e.trans h1, e'.trans h2, h3⟩
theorem pV.sa {N D : Nat} (h : pV g N D) (e : g'.2 78 = g.2 78) (e' : g'.2 79 = g.2 79) : pV g' N D := by
  obtain ⟨V, ⟨F, Z, h1, h2⟩, h3⟩ := h
  exact ⟨V, ⟨F, Z, ⟨e.trans h1.1, e'.trans h1.2⟩, h2⟩, h3⟩
theorem sc.sa (h : sc g) (e : g'.2 80 = g.2 80) (e' : g'.2 81 = g.2 81) (e'' : g'.2 82 = g.2 82) : sc g' := by
  obtain ⟨⟨F, h1⟩, ⟨s, h2⟩, L, h3⟩ := h
  exact ⟨⟨F, e.trans h1⟩, ⟨s, e'.trans h2⟩, L, e''.trans h3⟩
theorem MR.frm (h : MR g S) (hf : fr g g' lo hi) (ha : hi ≤ 73 ∨ 86 ≤ lo) : MR g' S := by
  have e : ∀ k, 73 ≤ k → k < 86 → g'.2 k = g.2 k := fun k h1 h2 => hf.2 k (by omega)
  obtain ⟨q, q1⟩ := h.mO
  obtain ⟨z, z1⟩ := h.mY
  exact ⟨h.mM.sa (e _ (by omega) (by omega)), h.mW.sa (e _ (by omega) (by omega)), h.mK.sa (e _ (by omega) (by omega)) (e _ (by omega) (by omega)), (e _ (by omega) (by omega)).trans h.mR, h.mV.sa (e _ (by omega) (by omega)) (e _ (by omega) (by omega)), h.mS.sa (e _ (by omega) (by omega)) (e _ (by omega) (by omega)) (e _ (by omega) (by omega)), ⟨z, (e _ (by omega) (by omega)).trans z1⟩, h.mB.frm (e _ (by omega) (by omega)), ⟨q, (e _ (by omega) (by omega)).trans q1⟩⟩
/-- the refusals -/
theorem MR.r {R : Nat → Int32} (h : MR g S) (hf : fr g g' 77 78) (hR : g'.2 77 = aI 3 R) : MR g' (S.uR R) := by
  obtain ⟨q, q1⟩ := h.mO
  obtain ⟨z, z1⟩ := h.mY
  exact ⟨h.mM.sa (hf.2 _ (by omega)), h.mW.sa (hf.2 _ (by omega)), h.mK.sa (hf.2 _ (by omega)) (hf.2 _ (by omega)), hR, h.mV.sa (hf.2 _ (by omega)) (hf.2 _ (by omega)), h.mS.sa (hf.2 _ (by omega)) (hf.2 _ (by omega)) (hf.2 _ (by omega)), ⟨z, (hf.2 _ (by omega)).trans z1⟩, h.mB.frm (hf.2 _ (by omega)), ⟨q, (hf.2 _ (by omega)).trans q1⟩⟩
/-- the watch -/
theorem MR.w {W : Nat → Nat} (h : MR g S) (hf : fr g g' 74 75) (hW : pN g' W) : MR g' (S.uW W) := by
  obtain ⟨q, q1⟩ := h.mO
  obtain ⟨z, z1⟩ := h.mY
  exact ⟨h.mM.sa (hf.2 _ (by omega)), hW, h.mK.sa (hf.2 _ (by omega)) (hf.2 _ (by omega)), by rw [hf.2 _ (by omega)]; exact h.mR, h.mV.sa (hf.2 _ (by omega)) (hf.2 _ (by omega)), h.mS.sa (hf.2 _ (by omega)) (hf.2 _ (by omega)) (hf.2 _ (by omega)), ⟨z, (hf.2 _ (by omega)).trans z1⟩, h.mB.frm (hf.2 _ (by omega)), ⟨q, (hf.2 _ (by omega)).trans q1⟩⟩
/-- the images -/
theorem MR.k {I : Nat → Option (Nat → Nat)} (h : MR g S) (hf : fr g g' 75 77) (hK : pK g' I) : MR g' (S.uI I) := by
  obtain ⟨q, q1⟩ := h.mO
  obtain ⟨z, z1⟩ := h.mY
  exact ⟨h.mM.sa (hf.2 _ (by omega)), h.mW.sa (hf.2 _ (by omega)), hK, by rw [hf.2 _ (by omega)]; exact h.mR, h.mV.sa (hf.2 _ (by omega)) (hf.2 _ (by omega)), h.mS.sa (hf.2 _ (by omega)) (hf.2 _ (by omega)) (hf.2 _ (by omega)), ⟨z, (hf.2 _ (by omega)).trans z1⟩, h.mB.frm (hf.2 _ (by omega)), ⟨q, (hf.2 _ (by omega)).trans q1⟩⟩
/-- the numbers -/
theorem MR.n {N D : Nat} (h : MR g S) (hf : frn g g') (hM : pM g' N S.tl) (hV : pV g' N D) : MR g' (S.uN N D) := by
  obtain ⟨q, q1⟩ := h.mO
  obtain ⟨z, z1⟩ := h.mY
  have e : ∀ k, k = 74 ∨ k = 75 ∨ k = 76 ∨ k = 77 ∨ k = 80 ∨ k = 81 ∨ k = 82 ∨ k = 83 ∨ k = 84 ∨ k = 85 → g'.2 k = g.2 k := fun k hk => hf.2 k (by omega) (by omega) (by omega)
  exact ⟨hM, h.mW.sa (e _ (by omega)), h.mK.sa (e _ (by omega)) (e _ (by omega)), by rw [e _ (by omega)]; exact h.mR, hV, h.mS.sa (e _ (by omega)) (e _ (by omega)) (e _ (by omega)), ⟨z, (e _ (by omega)).trans z1⟩, h.mB.frm (e _ (by omega)), ⟨q, (e _ (by omega)).trans q1⟩⟩
/-- work that leaves no trace but in the scratch -/
theorem MR.s (h : MR g S) (hf : fr4 g g') (hM : pM g' S.N S.tl) (hS : sc g') : MR g' S := by
  obtain ⟨q, q1⟩ := h.mO
  obtain ⟨z, z1⟩ := h.mY
  have e : ∀ k, k = 74 ∨ k = 75 ∨ k = 76 ∨ k = 77 ∨ k = 78 ∨ k = 79 ∨ k = 83 ∨ k = 84 ∨ k = 85 → g'.2 k = g.2 k := fun k hk => hf.2 k (by omega) (by omega) (by omega) (by omega)
  exact ⟨hM, h.mW.sa (e _ (by omega)), h.mK.sa (e _ (by omega)) (e _ (by omega)), by rw [e _ (by omega)]; exact h.mR, h.mV.sa (e _ (by omega)) (e _ (by omega)), hS, ⟨z, (e _ (by omega)).trans z1⟩, h.mB.frm (e _ (by omega)), ⟨q, (e _ (by omega)).trans q1⟩⟩
/-- the marks -/
theorem MR.y (h : MR g S) (hf : fr g g' 83 84) (hY : ∃ z, g'.2 83 = aZ 81 z) : MR g' S := by
  obtain ⟨q, q1⟩ := h.mO
  exact ⟨h.mM.sa (hf.2 _ (by omega)), h.mW.sa (hf.2 _ (by omega)), h.mK.sa (hf.2 _ (by omega)) (hf.2 _ (by omega)), by rw [hf.2 _ (by omega)]; exact h.mR, h.mV.sa (hf.2 _ (by omega)) (hf.2 _ (by omega)), h.mS.sa (hf.2 _ (by omega)) (hf.2 _ (by omega)) (hf.2 _ (by omega)), hY, h.mB.frm (hf.2 _ (by omega)), ⟨q, (hf.2 _ (by omega)).trans q1⟩⟩
/-- the text -/
theorem MR.t {tb : Nat → Nat} {tl : Nat} (h : MR g S) (hf : ∀ k, k ≠ 73 → k ≠ 84 → g'.2 k = g.2 k) (hM : pM g' S.N tl) (hB : by_ g' tb tl) : MR g' (S.uT tb tl) := by
  obtain ⟨q, q1⟩ := h.mO
  obtain ⟨z, z1⟩ := h.mY
  have e : ∀ k, k = 74 ∨ k = 75 ∨ k = 76 ∨ k = 77 ∨ k = 78 ∨ k = 79 ∨ k = 80 ∨ k = 81 ∨ k = 82 ∨ k = 83 ∨ k = 85 → g'.2 k = g.2 k := fun k hk => hf k (by omega) (by omega)
  exact ⟨hM, h.mW.sa (e _ (by omega)), h.mK.sa (e _ (by omega)) (e _ (by omega)), by rw [e _ (by omega)]; exact h.mR, h.mV.sa (e _ (by omega)) (e _ (by omega)), h.mS.sa (e _ (by omega)) (e _ (by omega)) (e _ (by omega)), ⟨z, (e _ (by omega)).trans z1⟩, hB, ⟨q, (e _ (by omega)).trans q1⟩⟩
/-- reading -/
theorem MR.o {W : Nat → Nat} (h : MR g S) (hf : ∀ k, k ≠ 73 → k ≠ 74 → k ≠ 85 → g'.2 k = g.2 k) (hM : pM g' S.N S.tl) (hW : pN g' W) (hO : ∃ q, g'.2 85 = aI 27 q) : MR g' (S.uW W) := by
  obtain ⟨z, z1⟩ := h.mY
  have e : ∀ k, k = 75 ∨ k = 76 ∨ k = 77 ∨ k = 78 ∨ k = 79 ∨ k = 80 ∨ k = 81 ∨ k = 82 ∨ k = 83 ∨ k = 84 → g'.2 k = g.2 k := fun k hk => hf k (by omega) (by omega) (by omega)
  exact ⟨hM, hW, h.mK.sa (e _ (by omega)) (e _ (by omega)), by rw [e _ (by omega)]; exact h.mR, h.mV.sa (e _ (by omega)) (e _ (by omega)), h.mS.sa (e _ (by omega)) (e _ (by omega)) (e _ (by omega)), ⟨z, (e _ (by omega)).trans z1⟩, h.mB.frm (e _ (by omega)), hO⟩
end MSTATE
/-- what always holds -/
def sv (S : sT) : Prop := (wv S.W) ∧ (∀ i X, S.I i = some X → wv X) ∧ (0 < S.D)
theorem sv.vW {S : sT} (h : sv S) : wv S.W := h.1
theorem sv.vI {S : sT} (h : sv S) : ∀ i X, S.I i = some X → wv X := h.2.1
theorem sv.vD {S : sT} (h : sv S) : 0 < S.D := h.2.2
/-- a refusal -/
def rfs (S : sT) (i : Nat) : sT := S.uR (upd S.R i (S.R i + 1))
theorem sv.rf {S : sT} {i : Nat} (h : sv S) : sv (rfs S i) := ⟨h.vW, h.vI, h.vD⟩
