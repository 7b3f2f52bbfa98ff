/-! THE NAME at the end of a path that leads somewhere has no more than 14 characters -/
def sg : Nat → List Int → Prop
  | k, [] => k ≤ 14
  | k, c :: w => if c = 47 then k ≤ 14 ∧ sg 0 w else sg (k + 1) w
theorem sg_k : ∀ w k, sg k w → k ≤ 14 := by
  intro w
  induction w with
  | nil => intro k h; exact h
  | cons c w ih =>
    intro k h
    simp only [sg] at h
    split at h
    · exact h.1
    · have := ih _ h; omega
theorem sg_dsl : ∀ w, sg 0 (dsl w) → sg 0 w := by
  intro w
  induction w with
  | nil => intro h; exact h
  | cons c w ih =>
    intro h
    simp only [dsl] at h
    by_cases hc : c = 47
    · rw [if_pos hc] at h; simp only [sg]; rw [if_pos hc]; exact ⟨by omega, ih h⟩
    · rw [if_neg hc] at h; exact h
theorem sg_tk : ∀ w k, k + (tkw w).length ≤ 14 → sg 0 (drw w) → sg k w := by
  intro w
  induction w with
  | nil => intro k h _; simp [tkw] at h; exact h
  | cons c w ih =>
    intro k h1 h2
    simp only [tkw, drw, sg] at h1 h2 ⊢
    by_cases hc : c = 47
    · rw [if_pos hc] at h1 h2 ⊢
      simp only [sg] at h2
      rw [if_pos hc] at h2
      simp at h1
      exact ⟨h1, h2.2⟩
    · rw [if_neg hc] at h1 h2 ⊢
      simp at h1
      exact ih (k + 1) (by omega) h2
theorem sg_app {y : List Int} (hy : y = [] ∨ lf y 0 = 47) : ∀ x k, sg k (x ++ y) → sg 0 y := by
  intro x
  induction x with
  | nil =>
    intro k h
    cases y with
    | nil => simp [sg]
    | cons c y =>
      have hc : c = 47 := by
        rcases hy with q | q
        · cases q
        · simpa [lf] using q
      simp only [List.nil_append, sg] at h ⊢
      rw [if_pos hc] at h ⊢
      exact ⟨by omega, h.2⟩
  | cons c x ih =>
    intro k h
    simp only [List.cons_append, sg] at h
    split at h
    · exact ih _ h.2
    · exact ih _ h
theorem drw_hd : ∀ w, drw w = [] ∨ lf (drw w) 0 = 47 := by
  intro w
  induction w with
  | nil => exact Or.inl rfl
  | cons c w ih =>
    simp only [drw]
    by_cases hc : c = 47
    · rw [if_pos hc]; right; simp [lf, hc]
    · rw [if_neg hc]; exact ih
theorem wk_sg {T : aT} {here : Nat} (hw : wf T here) {fol : Bool} : ∀ f nd lk cm w, 0 ≤ (wk T fol f nd lk cm w).1 → sg 0 w := by
  intro f
  induction f with
  | zero => intro nd lk cm w h; simp [wk] at h
  | succ f ih =>
    intro nd lk cm w h
    simp only [wk] at h
    by_cases hd : dsl w = []
    · exact sg_dsl w (by rw [hd]; simp [sg])
    · rw [if_neg hd] at h
      refine sg_dsl w ?_
      generalize dsl w = w at *
      cases hs : stp T fol nd lk w with
      | inl z =>
        rw [hs] at h
        simp only at h
        exfalso
        unfold stp at hs
        by_cases h1 : ¬ tK T nd = 0
        · rw [if_pos h1] at hs; injection hs with hs; omega
        · rw [if_neg h1] at hs
          by_cases h2 : bAnd (tB T nd) 1 = 0
          · rw [if_pos h2] at hs; injection hs with hs; omega
          · rw [if_neg h2] at hs
            by_cases h3 : tkw w = [46]
            · rw [if_pos h3] at hs; cases hs
            · rw [if_neg h3] at hs
              by_cases h4 : tkw w = [46, 46]
              · rw [if_pos h4] at hs; cases hs
              · rw [if_neg h4] at hs
                cases hl : lkE (tkw w) (tE T nd) with
                | none => rw [hl] at hs; injection hs with hs; omega
                | some n =>
                  rw [hl] at hs
                  simp only at hs
                  split at hs
                  · split at hs
                    · injection hs with hs; omega
                    · cases hs
                  · cases hs
      | inr q =>
        rw [hs] at h
        simp only at h
        have hq := ih _ _ _ _ h
        have key : (tkw w).length ≤ 14 ∧ (q.2.2.2 = drw w ∨ ∃ x, q.2.2.2 = x ++ drw w) := by
          unfold stp at hs
          by_cases h1 : ¬ tK T nd = 0
          · rw [if_pos h1] at hs; cases hs
          · rw [if_neg h1] at hs
            by_cases h2 : bAnd (tB T nd) 1 = 0
            · rw [if_pos h2] at hs; cases hs
            · rw [if_neg h2] at hs
              by_cases h3 : tkw w = [46]
              · rw [if_pos h3] at hs; injection hs with hs; rw [← hs, h3]; exact ⟨by simp, Or.inl rfl⟩
              · rw [if_neg h3] at hs
                by_cases h4 : tkw w = [46, 46]
                · rw [if_pos h4] at hs; injection hs with hs; rw [← hs, h4]; exact ⟨by simp, Or.inl rfl⟩
                · rw [if_neg h4] at hs
                  cases hl : lkE (tkw w) (tE T nd) with
                  | none => rw [hl] at hs; cases hs
                  | some n =>
                    have hm := lkE_mem hl
                    have hlen : (tkw w).length ≤ 14 := by
                      cases hT : T nd with
                      | none => simp [tE, hT] at hm
                      | some v =>
                        rw [tE_some hT] at hm
                        have := isNm_b ((hw.2.2.2.1 nd v hT).2.2.2.2.2.2.1 _ hm).1
                        exact this.2.2.1
                    refine ⟨hlen, ?_⟩
                    rw [hl] at hs
                    simp only at hs
                    split at hs
                    · split at hs
                      · cases hs
                      · injection hs with hs; rw [← hs]; exact Or.inr ⟨_, rfl⟩
                    · injection hs with hs; rw [← hs]; exact Or.inl rfl
        refine sg_tk w 0 (by omega) ?_
        rcases key.2 with e | ⟨x, e⟩
        · rw [← e]; exact hq
        · rw [e] at hq; exact sg_app (drw_hd w) x 0 hq
theorem sg_seg : ∀ (w : List Int) (k s e : Nat), sg k w → s ≤ e → e ≤ w.length → (∀ i, s ≤ i → i < e → ¬ lf w i = 47) → (s = 0 → k + e ≤ 14) ∧ e - s ≤ 14 := by
  intro w
  induction w with
  | nil =>
    intro k s e h h1 h2 _
    simp at h2
    have h : k ≤ 14 := h
    omega
  | cons c w ih =>
    intro k s e h h1 h2 h3
    simp at h2
    have hk := sg_k _ _ h
    by_cases he : e = 0
    · omega
    · simp only [sg] at h
      by_cases hc : c = 47
      · rw [if_pos hc] at h
        have hs : ¬ s = 0 ∨ s = e := by
          by_cases hs : s = 0
          · exact absurd hc (by have := h3 0 (by omega) (by omega); simpa [lf] using this)
          · exact Or.inl hs
        by_cases hse : s = e
        · omega
        · have hs0 : ¬ s = 0 := by omega
          have := ih 0 (s - 1) (e - 1) h.2 (by omega) (by omega) (fun i i1 i2 => by have := h3 (i + 1) (by omega) (by omega); simpa [lf] using this)
          omega
      · rw [if_neg hc] at h
        have := ih (k + 1) (s - 1) (e - 1) h (by omega) (by omega) (fun i i1 i2 => by have := h3 (i + 1) (by omega) (by omega); simpa [lf] using this)
        omega
theorem lsS_no {f : Nat → Int} : ∀ e i, lsS f 0 e ≤ i → i < e → ¬ f i = 47 := by
  intro e
  induction e with
  | zero => intro i _ h; omega
  | succ e ih =>
    intro i h1 h2
    simp only [lsS] at h1
    split at h1
    · rename_i hq
      by_cases hie : i = e
      · rw [hie]; exact hq.2
      · exact ih i h1 (by omega)
    · omega
def tpL (P : List Int) : Nat := lsE (lf P) 0 P.length
def tpE (P : List Int) : Nat := if 1 < tpL P then tpL P else 1
def tpF (P : List Int) : Nat := lsS (lf P) 0 (tpL P)
def tpN (P : List Int) : List Int := (P.drop (tpF P)).take (tpE P - tpF P)
theorem tp_b {P : List Int} (h1 : 1 ≤ P.length) : tpF P ≤ tpL P ∧ tpL P ≤ P.length ∧ tpL P ≤ tpE P ∧ tpE P ≤ P.length ∧ 1 ≤ tpE P ∧ (tpN P).length = tpE P - tpF P ∧ ∀ i, i < (tpN P).length → lf (tpN P) i = lf P (tpF P + i) := by
  have a := lsE_b (lf P) 0 P.length (by omega)
  have b := lsS_b (lf P) 0 (tpL P) (by omega)
  have a' : tpL P ≤ P.length := a.2
  have b' : tpF P ≤ tpL P := b.2
  have e1 : tpL P ≤ tpE P ∧ tpE P ≤ P.length ∧ 1 ≤ tpE P := by unfold tpE; split <;> omega
  have hl : (tpN P).length = tpE P - tpF P := by unfold tpN; simp; omega
  refine ⟨b', a', e1.1, e1.2.1, e1.2.2, hl, fun i hi => ?_⟩
  unfold tpN lf
  rw [List.getElem?_take_of_lt (by omega), List.getElem?_drop]
theorem tpN_14 {T : aT} {here : Nat} {P : List Int} (hw : wf T here) (h1 : 1 ≤ P.length) (h : 0 ≤ (wkR T false here P).1) : (tpN P).length ≤ 14 := by
  obtain ⟨b1, b2, b3, b4, b5, b6, -⟩ := tp_b h1
  have hs := wk_sg hw _ _ _ _ _ h
  have := (sg_seg P 0 (tpF P) (tpL P) hs b1 b2 (fun i i1 i2 => lsS_no _ i i1 i2)).2
  rw [b6]
  by_cases h2 : 1 < tpL P
  · have : tpE P = tpL P := by unfold tpE; rw [if_pos h2]
    omega
  · have : tpE P = 1 := by unfold tpE; rw [if_neg h2]
    omega
