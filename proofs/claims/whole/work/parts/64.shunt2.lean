/-! what is read is a tree -/
def zK (K : List aK) : aZ := K.foldl shk z0
def okz (z : aZ) (o : Nat) (wn : Bool) : Prop := z.1.length = o ∧ z.2.2.isNone = wn ∧ (¬ z.2.2 = none → z.2.1.2.2 = 0)
theorem zK_app (K : List aK) (t : aK) : zK (K ++ [t]) = shk (zK K) t := by simp [zK]
theorem okz_A {z : aZ} {o : Nat} {wn : Bool} (h : okz z o wn) : okz (shA z) o true ∧ (shA z).2.2 = none := by
  obtain ⟨h1, h2, h3⟩ := h
  unfold shA
  cases hc : z.2.2 with
  | none => exact ⟨⟨h1, by rw [hc]; rfl, fun q => absurd hc q⟩, hc⟩
  | some e => exact ⟨⟨h1, rfl, fun q => absurd rfl q⟩, rfl⟩
theorem okz_1 {z : aZ} {t : aK} {o : Nat} {wn : Bool} (h : okz z o wn) (ht : t.1 = 1 ∨ t.1 = 2) : okz (shk z t) (o + if t.1 = 2 then 1 else 0) true := by
  obtain ⟨⟨h1, -, -⟩, -⟩ := okz_A h
  unfold shk
  rcases ht with t1 | t1
  · rw [if_pos t1, if_neg (by omega)]
    exact ⟨h1, rfl, fun q => absurd rfl q⟩
  · rw [if_neg (by omega), if_pos t1, if_pos t1]
    exact ⟨by simp [shP, h1], rfl, fun q => absurd rfl q⟩
theorem okz_6 {z : aZ} {t : aK} {o : Nat} {wn : Bool} (h : okz z o wn) (ht : 6 ≤ t.1) : okz (shk z t) o false := by
  obtain ⟨⟨h1, -, -⟩, -⟩ := okz_A h
  unfold shk
  rw [if_neg (by omega), if_neg (by omega), if_neg (by omega), if_neg (by omega), if_neg (by omega)]
  exact ⟨h1, rfl, fun _ => rfl⟩
theorem okz_3 {z : aZ} {t : aK} {o : Nat} (h : okz z o false) (ht : 3 ≤ t.1 ∧ t.1 ≤ 5) (ho : t.1 = 3 → ¬ o = 0) : okz (shk z t) (o - if t.1 = 3 then 1 else 0) (!(t.1 == 3)) := by
  have hA := okz_A h
  obtain ⟨h1, h2, h3⟩ := h
  have hc : ∃ e, z.2.2 = some e := by
    cases q : z.2.2 with
    | none => rw [q] at h2; simp at h2
    | some e => exact ⟨e, rfl⟩
  obtain ⟨e, hc⟩ := hc
  unfold shk
  rw [if_neg (by omega), if_neg (by omega)]
  by_cases t3 : t.1 = 3
  · rw [if_pos t3, if_pos t3]
    have := ho t3
    cases hz : z.1 with
    | nil => rw [hz] at h1; simp at h1; omega
    | cons V Ls =>
      rw [hz] at h1
      simp at h1
      unfold shC
      rw [hc, hz]
      exact ⟨by simp; omega, by simp [t3], fun _ => rfl⟩
  · rw [if_neg t3, if_neg t3]
    have hb : (!(t.1 == 3)) = true := by simp [t3]
    rw [hb]
    by_cases t4 : t.1 = 4
    · rw [if_pos t4]; exact hA.1
    · rw [if_neg t4, if_pos (by omega)]
      unfold shO
      rw [hc]
      exact ⟨h1, rfl, fun q => absurd rfl q⟩
def okF (K : List aK) : Prop := ∀ (σ : Type) (F : aK → σ → Bool × σ) (s : σ), K.foldl (mst F) ([], (true, false, true, false), s) = mS F s (zK K)
theorem okF_0 : okF [] := fun _ _ _ => rfl
theorem okF_app {K : List aK} {t : aK} {o : Nat} {wn : Bool} (h : okF K) (hz : okz (zK K) o wn) (h3 : 3 ≤ t.1 → t.1 ≤ 5 → wn = false) (h0 : t.1 = 3 → ¬ o = 0) : okF (K ++ [t]) := by
  intro σ F s
  rw [List.foldl_append, h, zK_app]
  simp only [List.foldl]
  obtain ⟨z1, z2, z3⟩ := hz
  refine (mS_step F s (zK K) t z3 (fun q1 q2 => ?_) (fun q1 => ?_)).symm
  · rw [h3 q1 q2] at z2
    intro q; rw [q] at z2; simp at z2
  · intro q; rw [q] at z1; simp at z1; exact h0 q1 z1.symm
theorem rdP_ok {L : List Int} : ∀ (f w o : Nat) (wn : Bool) (K : List aK), (wds L).length < f + w → w ≤ (wds L).length → okz (zK K) o wn → okF K → (rdP L f w o wn K).1 = -1 → okz (zK (rdP L f w o wn K).2) 0 false ∧ okF (rdP L f w o wn K).2 := by
  intro f
  induction f with
  | zero =>
    intro w o wn K hf hwl hz hF hr
    omega
  | succ f ih =>
    intro w o wn K hf hwl hz hF hr
    rw [rdP] at hr ⊢
    by_cases hw : w < (wds L).length
    · rw [if_neg (fun q => q hw)] at hr ⊢
      generalize hk : kdOf (wd L w) = k at *
      by_cases k1 : k = 1 ∨ k = 2
      · rw [if_pos k1] at hr ⊢
        refine ih _ _ _ _ (by omega) (by omega) ?_ (okF_app hF hz (fun q1 q2 => ?_) (fun q => ?_)) hr
        · rw [zK_app]; exact okz_1 (t := (k, 0, 0, 0)) hz k1
        · simp at q1; omega
        · simp at q; omega
      · rw [if_neg k1] at hr ⊢
        by_cases k6 : 6 ≤ k
        · rw [if_pos k6] at hr ⊢
          by_cases k12 : k < 12
          · rw [if_pos k12] at hr ⊢
            have hp : ∀ p, (if w + 1 < (wds L).length then opd k (wd L (w + 1)) else none) = some p → w + 1 < (wds L).length := fun p q => by
              by_cases h1 : w + 1 < (wds L).length
              · exact h1
              · rw [if_neg h1] at q; simp at q
            generalize (if w + 1 < (wds L).length then opd k (wd L (w + 1)) else none) = p at *
            cases p with
            | none => simp at hr; omega
            | some p =>
              have hp := hp p rfl
              refine ih _ _ _ _ (by omega) (by omega) ?_ (okF_app hF hz (fun q1 q2 => ?_) (fun q => ?_)) hr
              · rw [zK_app]; exact okz_6 (t := (k, w + 1, p.1, p.2)) hz k6
              · simp at q2; omega
              · simp at q; omega
          · rw [if_neg k12] at hr ⊢
            refine ih _ _ _ _ (by omega) (by omega) ?_ (okF_app hF hz (fun q1 q2 => ?_) (fun q => ?_)) hr
            · rw [zK_app]; exact okz_6 (t := (k, 0, 0, 0)) hz k6
            · simp at q2; omega
            · simp at q; omega
        · rw [if_neg k6] at hr ⊢
          by_cases kb : wn = true ∨ k = 0 ∨ (k = 3 ∧ o = 0)
          · rw [if_pos kb] at hr; simp at hr
          · rw [if_neg kb] at hr ⊢
            have hwn : wn = false := by cases wn with
              | false => rfl
              | true => exact absurd (Or.inl rfl) kb
            subst hwn
            refine ih _ _ _ _ (by omega) (by omega) ?_ (okF_app hF hz (fun q1 q2 => rfl) (fun q => ?_)) hr
            · rw [zK_app]; exact okz_3 (t := (k, 0, 0, 0)) hz (by simp; omega) (fun q q2 => kb (Or.inr (Or.inr ⟨q, q2⟩)))
            · exact fun q2 => kb (Or.inr (Or.inr ⟨q, q2⟩))
    · rw [if_pos hw] at hr ⊢
      by_cases h1 : wn = true ∨ 0 < o
      · rw [if_pos h1] at hr; simp at hr
      · have hwn : wn = false := by cases wn with
          | false => rfl
          | true => exact absurd (Or.inl rfl) h1
        have ho : o = 0 := by
          have : ¬ 0 < o := fun q => h1 (Or.inr q)
          omega
        subst hwn; subst ho
        exact ⟨hz, hF⟩
def rtK (K : List aK) : bT := match (zK K).2.2 with
  | some e => coO (zK K).2.1.1 (coA (zK K).2.1.2.1 e)
  | none => bTt (0, 0, 0, 0)
theorem rdE_ok {L : List Int} {fst : Nat} (h50 : (wds L).length ≤ 50) (hr : (rdE L fst).1 = -1) : okz (zK (rdE L fst).2) 0 false ∧ okF (rdE L fst).2 := by
  unfold rdE at hr ⊢
  by_cases hf : fst < (wds L).length
  · rw [if_neg (fun q => q hf)] at hr ⊢
    exact rdP_ok 60 fst 0 true [] (by omega) (by omega) ⟨rfl, rfl, fun q => absurd rfl q⟩ okF_0 hr
  · rw [if_pos hf]
    refine ⟨?_, ?_⟩
    · exact ⟨rfl, rfl, fun _ => rfl⟩
    · exact okF_app (K := []) (t := (13, 0, 0, 0)) (o := 0) (wn := true) okF_0 ⟨rfl, rfl, fun q => absurd rfl q⟩ (fun q1 q2 => by simp at q2) (fun q => by simp at q)
/-- the class's levels give the truth of the tree -/
theorem mst_rt {K : List aK} (hz : okz (zK K) 0 false) (hF : okF K) {σ : Type} (F : aK → σ → Bool × σ) (s : σ) : (K.foldl (mst F) ([], (true, false, true, false), s)).1 = [] ∧ (lva (K.foldl (mst F) ([], (true, false, true, false), s)).2.1, (K.foldl (mst F) ([], (true, false, true, false), s)).2.2) = evB F (rtK K) s := by
  rw [hF σ F s]
  obtain ⟨z1, z2, z3⟩ := hz
  unfold rtK
  cases hc : (zK K).2.2 with
  | none => rw [hc] at z2; simp at z2
  | some e =>
    have hz1 : (zK K).1 = [] := List.eq_nil_of_length_eq_zero z1
    have h1 := lvE F (zK K) e s hc (z3 (by rw [hc]; simp))
    rw [h1, hz1]
    exact ⟨by unfold mS; rw [hz1]; rfl, rfl⟩
