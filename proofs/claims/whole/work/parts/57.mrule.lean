/-! ===== the reference: THE RULE, read and worked at once ===== -/
def rkr (c : Nat) : Nat := if rk c = 6 then 0 else rk c
/-- a sign that waits, as it lies in the row -/
def sgc (c : Nat) : Nat := if c = 40 then 1000 else if c = 33 then 1001 else if c = 126 then 1002 else c
/-- signs ahead of a number -/
def stn : List Nat → Int64 → List Nat × Int64
  | [], v => ([], v)
  | c :: s, v => if rk c = 6 then stn s (one c v) else (c :: s, v)
def tw (c : Nat) : List Int64 → List Int64
  | b :: a :: r => two c a b :: r
  | r => r
abbrev bin (c : Nat) : Prop := rk c ≠ 0 ∧ rk c ≠ 6
def wkd (r : Nat) : List Nat → List Int64 → List Nat × List Int64
  | [], V => ([], V)
  | c :: s, V => if bin c ∧ r ≤ rk c then wkd r s (tw c V) else (c :: s, V)
def binc : List Nat → Nat
  | [] => 0
  | c :: s => (if bin c then 1 else 0) + binc s
theorem stn_b : ∀ s v, binc (stn s v).1 = binc s ∧ (stn s v).1.length ≤ s.length ∧ (∀ c, c ∈ (stn s v).1 → c ∈ s) ∧ (stn s v).1.count 40 = s.count 40
  | [], v => by simp [stn]
  | c :: s, v => by
    rw [stn]
    split
    · rename_i h
      have := stn_b s (one c v)
      have hc : c ≠ 40 := fun e => by rw [e] at h; exact absurd h (by decide)
      refine ⟨?_, ?_, fun d hd => List.mem_cons_of_mem _ (this.2.2.1 d hd), ?_⟩
      · rw [this.1, binc, if_neg (fun z => z.2 h), Nat.zero_add]
      · rw [List.length_cons]; omega
      · rw [this.2.2.2, List.count_cons_of_ne hc]
    · simp
theorem wkd_b {r : Nat} : ∀ s V, binc s + 1 ≤ V.length → binc (wkd r s V).1 + 1 ≤ (wkd r s V).2.length ∧ (wkd r s V).1.length ≤ s.length ∧ (wkd r s V).1.length + V.length = s.length + (wkd r s V).2.length ∧ (∀ c, c ∈ (wkd r s V).1 → c ∈ s) ∧ (wkd r s V).1.count 40 = s.count 40 ∧ (wkd r s V).2.length + binc s = V.length + binc (wkd r s V).1
  | [], V, h => by simpa [wkd] using h
  | c :: s, V, h => by
    rw [wkd]
    split
    · rename_i hc
      rw [binc, if_pos hc.1] at h
      have hV : (tw c V).length + 1 = V.length := by
        match V, h with
        | b :: a :: rr, _ => rfl
        | [y], h => simp at h
        | [], h => simp at h
      have := wkd_b (r := r) s (tw c V) (by omega)
      have h40 : c ≠ 40 := fun e => by rw [e] at hc; exact absurd hc.1.1 (by decide)
      refine ⟨this.1, ?_, ?_, fun d hd => List.mem_cons_of_mem _ (this.2.2.2.1 d hd), ?_, ?_⟩
      · rw [List.length_cons]; omega
      · rw [List.length_cons]; omega
      · rw [this.2.2.2.2.1, List.count_cons_of_ne h40]
      · rw [binc, if_pos hc.1]; omega
    · exact ⟨h, Nat.le_refl _, rfl, fun d hd => hd, rfl, rfl⟩
theorem wkd1_head : ∀ s V, (∀ c, c ∈ s → wok c) → (wkd 1 s V).1 = [] ∨ (∃ w1, (wkd 1 s V).1 = 40 :: w1) ∨ ∃ c w1, (wkd 1 s V).1 = c :: w1 ∧ rk c = 6
  | [], V, _ => Or.inl rfl
  | c :: s, V, h => by
    rw [wkd]
    split
    · exact wkd1_head s _ (fun d hd => h d (List.mem_cons_of_mem _ hd))
    · rename_i hc
      rcases h c List.mem_cons_self with e | e
      · exact Or.inr (Or.inl ⟨s, by rw [e]⟩)
      · by_cases h6 : rk c = 6
        · exact Or.inr (Or.inr ⟨c, s, rfl, h6⟩)
        · exact absurd ⟨⟨e, h6⟩, Nat.one_le_iff_ne_zero.mpr e⟩ hc
abbrev rR : Type := Nat ⊕ List Int64
def rstep (env : Nat → Int64) (ch : Nat → Nat) (len : Nat) (k : Nat → List Int64 → List Nat → Nat → Bool → rR) (a : Nat) (V : List Int64) (S : List Nat) (op : Nat) (wants : Bool) : rR :=
  if wants then
    if len ≤ a then .inl (10 * a + 1)
    else if dg (ch a) then (if 6 < dn ch (len - a) a then .inl (10 * a + 2) else k (a + dn ch (len - a) a) ((stn S (lN (dv ch a (dn ch (len - a) a)))).2 :: V) (stn S (lN (dv ch a (dn ch (len - a) a)))).1 op false)
    else if nm (ch a) then k (a + 1) ((stn S (env (ch a))).2 :: V) (stn S (env (ch a))).1 op false
    else if ch a = 33 then k (a + 1) V (33 :: S) op true
    else if ch a = 45 then k (a + 1) V (126 :: S) op true
    else if ch a = 40 then (if op < 8 then k (a + 1) V (40 :: S) (op + 1) true else .inl (10 * a + 3))
    else .inl (10 * a + 1)
  else if len ≤ a then (if op = 0 then .inr (wkd 1 S V).2 else .inl (10 * a + 1))
  else if ch a = 41 ∧ 0 < op then k (a + 1) ((stn (wkd 1 S V).1.tail ((wkd 1 S V).2.headD 0)).2 :: (wkd 1 S V).2.tail) (stn (wkd 1 S V).1.tail ((wkd 1 S V).2.headD 0)).1 (op - 1) false
  else if rkr (ch a) = 0 then .inl (10 * a + 1)
  else if rkr (ch a) = 3 ∧ hd3 (wkd 4 S V).1 = true then .inl (10 * a + 1)
  else k (a + 1) (wkd (if rkr (ch a) = 3 then 4 else rkr (ch a)) S V).2 (ch a :: (wkd (if rkr (ch a) = 3 then 4 else rkr (ch a)) S V).1) op true
def rrun (env : Nat → Int64) (ch : Nat → Nat) (len : Nat) : Nat → Nat → List Int64 → List Nat → Nat → Bool → rR
  | 0, _, _, _, _, _ => .inl 0
  | d + 1, a, V, S, op, wants => rstep env ch len (rrun env ch len d) (skp ch (len - a) a) V S op wants
/-! both go alike -/
/-- no sign ahead of a number stands right below one between numbers -/
def okw : List Nat → Prop
  | [] => True
  | [_] => True
  | c :: d :: s => (rk d = 6 → rk c = 6 ∨ c = 40) ∧ okw (d :: s)
theorem okw_tail {c : Nat} {s : List Nat} (h : okw (c :: s)) : okw s := by
  cases s with
  | nil => trivial
  | cons d s => exact h.2
theorem okw_cons {c : Nat} {s : List Nat} (h : okw s) (hc : ∀ d r, s = d :: r → rk d = 6 → rk c = 6 ∨ c = 40) : okw (c :: s) := by
  cases s with
  | nil => trivial
  | cons d s => exact ⟨hc d s rfl, h⟩
theorem rel_okw {r : Nat} : ∀ w L, okw w → okw (rel r w L).1
  | [], L, _ => trivial
  | c :: w, L, h => by
    rw [rel]
    split
    · exact rel_okw w _ (okw_tail h)
    · exact h
theorem rel_hd {r : Nat} : ∀ w L c s, (rel r w L).1 = c :: s → rk c < r
  | [], L, c, s, h => by simp [rel] at h
  | d :: w, L, c, s, h => by
    rw [rel] at h
    split at h
    · exact rel_hd w _ c s h
    · rename_i hc
      have := (List.cons.inj h).1
      subst this
      omega
theorem nm_rk {c : Nat} (h : rk c ≠ 0) : nm c = false := by
  have : ∀ c, nm c = true → rk c = 0 := by
    intro c hc
    unfold nm at hc
    simp at hc
    rcases hc with ((((e | e) | e) | e) | e) | e <;> subst e <;> rfl
  cases e : nm c with
  | false => rfl
  | true => exact absurd (this c e) h
theorem sim_rel {env : Nat → Int64} {r : Nat} (hr : 1 ≤ r) (hr6 : r ≤ 6) : ∀ (w : List Nat) (L : List stp) (t : Int64) (T : List Int64), (∀ c, c ∈ w → wok c) → okw w → ea env L = t :: T → T.length = binc w → (wkd r (stn w t).1 ((stn w t).2 :: T)).1 = (rel r w L).1 ∧ (wkd r (stn w t).1 ((stn w t).2 :: T)).2 = ea env (rel r w L).2 ∧ (ea env (rel r w L).2).length = binc (rel r w L).1 + 1
  | [], L, t, T, _, _, hE, hT => by
    show _ ∧ _ = ea env L ∧ (ea env L).length = _
    rw [hE]
    exact ⟨rfl, rfl, by rw [List.length_cons, hT]; rfl⟩
  | c :: w, L, t, T, hw, ho, hE, hT => by
    have hw' := fun d hd => hw d (List.mem_cons_of_mem _ hd)
    rw [stn, rel]
    by_cases h6 : rk c = 6
    · rw [if_pos h6, if_pos (by omega)]
      refine sim_rel hr hr6 w (.inr c :: L) (one c t) T hw' (okw_tail ho) ?_ ?_
      · show ev env (.inr c) (ea env L) = _
        rw [hE, ev_1 (nm_rk (by omega)) h6]
      · rw [hT, binc, if_neg (fun z => z.2 h6), Nat.zero_add]
    · rw [if_neg h6]
      by_cases h0 : rk c = 0
      · rw [if_neg (by omega)]
        show (wkd r (c :: w) (t :: T)).1 = _ ∧ (wkd r (c :: w) (t :: T)).2 = _ ∧ _
        rw [wkd, if_neg (fun z => z.1.1 h0), hE]
        exact ⟨rfl, rfl, by rw [List.length_cons, hT]⟩
      · have hb : bin c := ⟨h0, h6⟩
        rw [binc, if_pos hb] at hT
        by_cases hc : r ≤ rk c
        · rw [if_pos hc]
          show (wkd r (c :: w) (t :: T)).1 = _ ∧ (wkd r (c :: w) (t :: T)).2 = _ ∧ _
          rw [wkd, if_pos ⟨hb, hc⟩]
          cases T with
          | nil => simp at hT; omega
          | cons a T' =>
            have ih := sim_rel (env := env) hr hr6 w (.inr c :: L) (two c a t) T' hw' (okw_tail ho) (by
              show ev env (.inr c) (ea env L) = _
              rw [hE, ev_2 (nm_rk h0) h6]) (by rw [List.length_cons] at hT; omega)
            have hst : stn w (two c a t) = (w, two c a t) := by
              cases w with
              | nil => rfl
              | cons d s =>
                rw [stn, if_neg]
                intro hd
                rcases ho.1 hd with e | e
                · exact h6 e
                · rw [e] at h0; exact h0 rfl
            rw [hst] at ih
            exact ih
        · rw [if_neg hc]
          show (wkd r (c :: w) (t :: T)).1 = _ ∧ (wkd r (c :: w) (t :: T)).2 = _ ∧ _
          rw [wkd, if_neg (fun z => hc z.2), hE]
          exact ⟨rfl, rfl, by rw [List.length_cons, hT, binc, if_pos hb]⟩
def simS (env : Nat → Int64) (L : List stp) (w : List Nat) (due : Bool) (V : List Int64) (S : List Nat) : Prop := (due = true → S = w ∧ V = ea env L ∧ V.length = binc w) ∧ (due = false → ∃ t T, ea env L = t :: T ∧ S = (stn w t).1 ∧ V = (stn w t).2 :: T ∧ T.length = binc w)
theorem sim {env : Nat → Int64} {ch : Nat → Nat} {len : Nat} : ∀ (d a : Nat) (L : List stp) (w : List Nat) (op : Nat) (due lb : Bool) (V : List Int64) (S : List Nat), a ≤ len → len - a ≤ d → (∀ c, c ∈ w → wok c) → okw w → op = w.count 40 → op ≤ 8 → simS env L w due V S → rrun env ch len (d + 1) a V S op due = match crun ch len d a L w op due lb with
    | .inl f => .inl f
    | .inr (L', w', op', due', _) => if due' = true ∨ 0 < op' then .inl (10 * len + 1) else .inr (ea env (rel 1 w' L').2)
  | 0, a, L, w, op, due, lb, V, S, ha, hd, hw, ho, hop, hop8, hs => by
    have e : len - a = 0 := by omega
    rw [rrun, e, skp, rstep, crun]
    simp only
    cases due with
    | true => rw [if_pos rfl, if_pos (by omega), if_pos (Or.inl rfl), show a = len by omega]
    | false =>
      rw [if_neg (by decide), if_pos (by omega)]
      obtain ⟨t, T, h1, h2, h3, h4⟩ := hs.2 rfl
      by_cases c0 : op = 0
      · rw [if_pos c0, if_neg (by simp; omega)]
        have := sim_rel (env := env) (r := 1) (by decide) (by decide) w L t T hw ho h1 h4
        rw [h2, h3, this.2.1]
      · rw [if_neg c0, if_pos (Or.inr (by omega)), show a = len by omega]
  | d + 1, a0, L, w, op, due, lb, V, S, ha0, hd, hw, ho, hop, hop8, hs => by
    rw [rrun, crun]
    have hsk := skp_b ch (len - a0) a0
    have hskn := skp_n ch (len - a0) a0
    generalize skp ch (len - a0) a0 = a at hsk hskn
    by_cases hl : len ≤ a
    · -- the end
      have hal : a = len := by omega
      have e2 : cstep ch len (crun ch len d) a L w op due lb = .inr (L, w, op, due, lb) := by rw [cstep, if_pos hl]
      rw [e2]
      cases due with
      | true =>
        have e1 : rstep env ch len (rrun env ch len (d + 1)) a V S op true = .inl (10 * a + 1) := by rw [rstep, if_pos rfl, if_pos hl]
        rw [e1]
        show _ = if true = true ∨ 0 < op then _ else _
        rw [if_pos (Or.inl rfl), hal]
      | false =>
        obtain ⟨t, T, h1, h2, h3, h4⟩ := hs.2 rfl
        show _ = if false = true ∨ 0 < op then _ else _
        by_cases c0 : op = 0
        · have e1 : rstep env ch len (rrun env ch len (d + 1)) a V S op false = .inr (wkd 1 S V).2 := by rw [rstep, if_neg (by decide), if_pos hl, if_pos c0]
          rw [e1, if_neg (by simp; omega)]
          have := sim_rel (env := env) (r := 1) (by decide) (by decide) w L t T hw ho h1 h4
          rw [h2, h3, this.2.1]
        · have e1 : rstep env ch len (rrun env ch len (d + 1)) a V S op false = .inl (10 * a + 1) := by rw [rstep, if_neg (by decide), if_pos hl, if_neg c0]
          rw [e1, if_pos (Or.inr (by omega)), hal]
    · rw [cstep, if_neg hl]
      cases due with
      | true =>
        obtain ⟨hS, hV, hVl⟩ := hs.1 rfl
        have hS' := hS.symm
        subst hS'
        rw [rstep, if_pos rfl, if_pos rfl, if_neg hl]
        have hdl := dn_le ch (len - a) a
        have num : ∀ (a' : Nat) (y : stp) (v : Int64) (lb' : Bool), a' ≤ len → a < a' → ev env y (ea env L) = v :: ea env L → rrun env ch len (d + 1) a' ((stn w v).2 :: V) (stn w v).1 op false = match crun ch len d a' (y :: L) w op false lb' with
            | .inl f => .inl f
            | .inr (L', w', op', due', _) => if due' = true ∨ 0 < op' then .inl (10 * len + 1) else .inr (ea env (rel 1 w' L').2) := by
          intro a' y v lb' h1 h2 h3
          refine sim d a' (y :: L) w op false lb' _ _ h1 (by omega) hw ho hop hop8 ⟨fun z => by simp at z, fun _ => ⟨v, ea env L, h3, rfl, by rw [hV], by rw [← hV]; exact hVl⟩⟩
        by_cases hdg : dg (ch a) = true
        · rw [if_pos hdg, if_pos hdg]
          by_cases h6 : 6 < dn ch (len - a) a
          · rw [if_pos h6, if_pos h6]
          · rw [if_neg h6, if_neg h6]
            have hp := dn_pos (ch := ch) (d := len - a) (e := a) (by omega) hdg
            exact num _ (.inl (dv ch a (dn ch (len - a) a))) _ lb (by omega) (by omega) rfl
        · rw [if_neg hdg, if_neg hdg]
          have push : ∀ (c : Nat) (op' : Nat), (rk c = 6 ∨ c = 40) → wok c → op' = (c :: w).count 40 → op' ≤ 8 → rrun env ch len (d + 1) (a + 1) V (c :: w) op' true = match crun ch len d (a + 1) L (c :: w) op' true lb with
              | .inl f => .inl f
              | .inr (L', w', op', due', _) => if due' = true ∨ 0 < op' then .inl (10 * len + 1) else .inr (ea env (rel 1 w' L').2) := by
            intro c op' h1 h2 h3 h4
            refine sim d (a + 1) L (c :: w) op' true lb _ _ (by omega) (by omega) (fun e he => (List.mem_cons.mp he).elim (fun q => by rw [q]; exact h2) (hw e)) (okw_cons ho (fun _ _ _ _ => h1)) h3 h4 ⟨fun _ => ⟨rfl, hV, ?_⟩, fun z => by simp at z⟩
            rw [hVl, binc, if_neg, Nat.zero_add]
            intro z
            rcases h1 with q | q
            · exact z.2 q
            · rw [q] at z; exact z.1 rfl
          by_cases h40 : ch a = 40
          · rw [if_neg (show ¬ nm (ch a) = true by rw [h40]; decide), if_neg (by omega), if_neg (by omega), if_pos h40, if_pos h40]
            by_cases h8 : op = 8
            · rw [if_neg (by omega), if_pos h8]
            · rw [if_pos (by omega), if_neg h8]
              exact push 40 (op + 1) (Or.inr rfl) (Or.inl rfl) (by rw [List.count_cons_self, hop]) (by omega)
          · rw [if_neg h40, if_neg h40]
            by_cases h33 : ch a = 33
            · rw [if_neg (show ¬ nm (ch a) = true by rw [h33]; decide), if_pos h33, if_pos h33]
              exact push 33 op (Or.inl rfl) (Or.inr (by decide)) (by rw [List.count_cons_of_ne (by decide)]; exact hop) hop8
            · rw [if_neg h33, if_neg h33]
              by_cases h45 : ch a = 45
              · rw [if_neg (show ¬ nm (ch a) = true by rw [h45]; decide), if_pos h45, if_pos h45]
                exact push 126 op (Or.inl rfl) (Or.inr (by decide)) (by rw [List.count_cons_of_ne (by decide)]; exact hop) hop8
              · rw [if_neg h45, if_neg h45]
                by_cases hnm : nm (ch a) = true
                · rw [if_pos hnm, if_pos hnm]
                  exact num (a + 1) (.inr (ch a)) _ (lb || ch a == 108) (by omega) (by omega) (ev_n hnm)
                · rw [if_neg hnm, if_neg hnm]
      | false =>
        obtain ⟨t, T, h1, h2, h3, h4⟩ := hs.2 rfl
        rw [if_neg (show ¬ (false = true) by decide)]
        have er : rstep env ch len (rrun env ch len (d + 1)) a V S op false = if ch a = 41 ∧ 0 < op then rrun env ch len (d + 1) (a + 1) ((stn (wkd 1 S V).1.tail ((wkd 1 S V).2.headD 0)).2 :: (wkd 1 S V).2.tail) (stn (wkd 1 S V).1.tail ((wkd 1 S V).2.headD 0)).1 (op - 1) false
            else if rkr (ch a) = 0 then .inl (10 * a + 1)
            else if rkr (ch a) = 3 ∧ hd3 (wkd 4 S V).1 = true then .inl (10 * a + 1)
            else rrun env ch len (d + 1) (a + 1) (wkd (if rkr (ch a) = 3 then 4 else rkr (ch a)) S V).2 (ch a :: (wkd (if rkr (ch a) = 3 then 4 else rkr (ch a)) S V).1) op true := by rw [rstep, if_neg (by decide), if_neg hl]
        rw [er]
        by_cases h41 : ch a = 41 ∧ 0 < op
        · rw [if_pos h41, if_pos h41]
          have sr := sim_rel (env := env) (r := 1) (by decide) (by decide) w L t T hw ho h1 h4
          rw [← h2, ← h3] at sr
          rw [sr.1, sr.2.1]
          have hcn := rel_cnt (r := 1) (by decide) w L
          rcases rel1_head w L hw with e | ⟨w1, e⟩
          · rw [e] at hcn; simp at hcn; omega
          · rw [e] at hcn sr ⊢
            rw [List.count_cons_self] at hcn
            have hlen := sr.2.2
            rw [binc, if_neg (fun z => z.1 rfl), Nat.zero_add] at hlen
            cases hE : ea env (rel 1 w L).2 with
            | nil => rw [hE] at hlen; simp at hlen
            | cons v V' =>
              rw [hE, List.length_cons] at hlen
              have hok : okw (40 :: w1) := by rw [← e]; exact rel_okw w L ho
              exact sim d (a + 1) (rel 1 w L).2 w1 (op - 1) false lb _ _ (by omega) (by omega) (fun c hc => hw c (rel_mem 1 w L c (by rw [e]; exact List.mem_cons_of_mem _ hc))) (okw_tail hok) (by omega) (by omega) ⟨fun z => by simp at z, fun _ => ⟨v, V', hE, rfl, rfl, by omega⟩⟩
        · rw [if_neg h41, if_neg h41]
          by_cases hr0 : rk (ch a) = 0 ∨ rk (ch a) = 6
          · rw [if_pos hr0, if_pos (by unfold rkr; split <;> omega)]
          · rw [if_neg hr0]
            have hrr : rkr (ch a) = rk (ch a) := by unfold rkr; rw [if_neg (by omega)]
            rw [hrr]
            rw [if_neg (show ¬ rk (ch a) = 0 by omega)]
            have hk := rk_le (ch a)
            have go : ∀ r, 1 ≤ r → r ≤ 6 → rrun env ch len (d + 1) (a + 1) (wkd r S V).2 (ch a :: (wkd r S V).1) op true = match crun ch len d (a + 1) (rel r w L).2 (ch a :: (rel r w L).1) op true lb with
                | .inl f => .inl f
                | .inr (L', w', op', due', _) => if due' = true ∨ 0 < op' then .inl (10 * len + 1) else .inr (ea env (rel 1 w' L').2) := by
              intro r hr1 hr6
              have sr := sim_rel (env := env) hr1 hr6 w L t T hw ho h1 h4
              rw [← h2, ← h3] at sr
              rw [sr.1, sr.2.1]
              have hne : ch a ≠ 40 := fun e => hr0 (Or.inl (by rw [e]; rfl))
              refine sim d (a + 1) _ _ op true lb _ _ (by omega) (by omega) (fun c hc => (List.mem_cons.mp hc).elim (fun q => Or.inr (by rw [q]; omega)) (fun q => hw c (rel_mem r w L c q))) (okw_cons (rel_okw w L ho) (fun e s he h6 => ?_)) (by rw [List.count_cons_of_ne hne, rel_cnt hr1]; exact hop) hop8 ⟨fun _ => ⟨rfl, rfl, ?_⟩, fun z => by simp at z⟩
              · have := rel_hd w L e s he
                omega
              · rw [sr.2.2, binc, if_pos ⟨by omega, by omega⟩, Nat.add_comm]
            by_cases h3' : rk (ch a) = 3
            · have sr := sim_rel (env := env) (r := 4) (by decide) (by decide) w L t T hw ho h1 h4
              rw [← h2, ← h3] at sr
              rw [if_pos h3', if_pos h3']
              by_cases hh : hd3 (rel 4 w L).1 = true
              · rw [if_pos ⟨h3', by rw [sr.1]; exact hh⟩, if_pos hh]
              · rw [if_neg (fun z => hh (by rw [← sr.1]; exact z.2)), if_neg hh]
                exact go 4 (by decide) (by decide)
            · rw [if_neg (fun z => h3' z.1), if_neg h3', if_neg h3']
              exact go _ (by omega) (by omega)
/-- what reading and working comes to, by what compiling comes to -/
theorem sim0 {env : Nat → Int64} {ch : Nat → Nat} {len : Nat} : rrun env ch len (len + 1) 0 [] [] 0 true = match cres ch len with
    | .inl f => .inl f
    | .inr (L, _) => .inr (ea env L) := by
  have h := sim (env := env) (ch := ch) (len := len) len 0 [] [] 0 true false [] [] (Nat.zero_le _) (by omega) (fun c hc => by simp at hc) trivial rfl (by decide) ⟨fun _ => ⟨rfl, rfl, rfl⟩, fun z => by simp at z⟩
  rw [h]
  unfold cres
  cases crun ch len len 0 [] [] 0 true false with
  | inl f => rfl
  | inr q =>
    obtain ⟨L, w, op, due, lb⟩ := q
    simp only
    by_cases c : due = true ∨ 0 < op
    · rw [if_pos c, if_pos c]
    · rw [if_neg c, if_neg c]
