/-! THE REFERENCE asks: the tree -/
def alL (P : aK → Prop) : bT → Prop
  | .sub x y => P (lfD x y)
  | .neg x => alL P x
  | .mul x y => alL P x ∧ alL P y
  | .add x y => alL P x ∧ alL P y
  | _ => True
theorem al_nts {P : aK → Prop} : ∀ k e, alL P e → alL P (nts k e) := by
  intro k
  induction k with
  | zero => intro e h; exact h
  | succ k ih => intro e h; exact ih _ h
theorem al_coA {P : aK → Prop} {a : Option bT} {e : bT} (ha : ∀ x ∈ a.toList, alL P x) (he : alL P e) : alL P (coA a e) := by
  cases a with
  | none => exact he
  | some x => exact ⟨ha x (by simp), he⟩
theorem al_coO {P : aK → Prop} {a : Option bT} {e : bT} (ha : ∀ x ∈ a.toList, alL P x) (he : alL P e) : alL P (coO a e) := by
  cases a with
  | none => exact he
  | some x => exact ⟨ha x (by simp), he⟩
def zAl (P : aK → Prop) (z : aZ) : Prop := ∀ e ∈ opsZ z, alL P e
theorem zAl_shA {P : aK → Prop} {z : aZ} (H : zAl P z) : zAl P (shA z) := by
  obtain ⟨Ls, ⟨o, a, k⟩, c⟩ := z
  cases c with
  | none => exact H
  | some e =>
    intro x hx
    simp only [shA, opsZ, opsV, Option.toList_some, Option.toList_none, List.append_nil, List.mem_append, List.mem_singleton] at hx
    have hm : ∀ x, x ∈ opsL Ls ∨ x ∈ o.toList ∨ x ∈ a.toList ∨ x = e → alL P x := fun x hx => H x (by simp only [opsZ, opsV, Option.toList_some, Option.toList_none, List.mem_append, List.mem_singleton]; rcases hx with q | q | q | q <;> simp [q])
    rcases hx with q | q | q
    · exact hm x (Or.inl q)
    · exact hm x (Or.inr (Or.inl q))
    · rw [q]; exact al_coA (fun y hy => hm y (Or.inr (Or.inr (Or.inl hy)))) (hm e (Or.inr (Or.inr (Or.inr rfl))))
theorem zAl_shk {P : aK → Prop} {z : aZ} {t : aK} (H : zAl P z) (ht : 6 ≤ t.1 → P t) (h1 : 1 ≤ t.1) : zAl P (shk z t) := by
  have HA := zAl_shA H
  unfold shk
  by_cases t1 : t.1 = 1
  · rw [if_pos t1]
    intro x hx
    generalize shA z = z at *
    obtain ⟨Ls, ⟨o, a, k⟩, c⟩ := z
    exact HA x (by simp only [shN, opsZ, Option.toList_some, Option.toList_none, List.append_nil, List.mem_append] at hx ⊢; rcases hx with q | q <;> simp [q, opsV] ; simp [opsV] at q; rcases q with q | q <;> simp [q])
  · rw [if_neg t1]
    by_cases t2 : t.1 = 2
    · rw [if_pos t2]
      intro x hx
      generalize shA z = z at *
      obtain ⟨Ls, ⟨o, a, k⟩, c⟩ := z
      exact HA x (by simp [shP, opsZ, opsL, opsV] at hx ⊢; rcases hx with q | q | q <;> simp [q])
    · rw [if_neg t2]
      by_cases t3 : t.1 = 3
      · rw [if_pos t3]
        obtain ⟨Ls, ⟨o, a, k⟩, c⟩ := z
        cases c with
        | none => exact H
        | some e =>
          cases Ls with
          | nil => exact H
          | cons V Ls =>
            have hm : ∀ x, x ∈ opsL Ls ∨ x ∈ V.1.toList ∨ x ∈ V.2.1.toList ∨ x ∈ o.toList ∨ x ∈ a.toList ∨ x = e → alL P x := fun x hx => H x (by simp only [opsZ, opsL, opsV, Option.toList_some, Option.toList_none, List.mem_append, List.mem_singleton]; rcases hx with q | q | q | q | q | q <;> simp [q])
            intro x hx
            simp only [shC, opsZ, opsV, Option.toList_some, Option.toList_none, List.mem_append, List.mem_singleton] at hx
            rcases hx with q | (q | q) | q
            · exact hm x (Or.inl q)
            · exact hm x (Or.inr (Or.inl q))
            · exact hm x (Or.inr (Or.inr (Or.inl q)))
            · rw [q]
              exact al_nts _ _ (al_coO (fun y hy => hm y (Or.inr (Or.inr (Or.inr (Or.inl hy))))) (al_coA (fun y hy => hm y (Or.inr (Or.inr (Or.inr (Or.inr (Or.inl hy)))))) (hm e (Or.inr (Or.inr (Or.inr (Or.inr (Or.inr rfl))))))))
      · rw [if_neg t3]
        by_cases t4 : t.1 = 4
        · rw [if_pos t4]; exact HA
        · rw [if_neg t4]
          by_cases t5 : t.1 = 5
          · rw [if_pos t5]
            obtain ⟨Ls, ⟨o, a, k⟩, c⟩ := z
            cases c with
            | none => exact H
            | some e =>
              have hm : ∀ x, x ∈ opsL Ls ∨ x ∈ o.toList ∨ x ∈ a.toList ∨ x = e → alL P x := fun x hx => H x (by simp only [opsZ, opsV, Option.toList_some, Option.toList_none, List.mem_append, List.mem_singleton]; rcases hx with q | q | q | q <;> simp [q])
              intro x hx
              simp only [shO, opsZ, opsV, Option.toList_some, Option.toList_none, List.append_nil, List.mem_append, List.mem_singleton] at hx
              rcases hx with q | q
              · exact hm x (Or.inl q)
              · rw [q]
                exact al_coO (fun y hy => hm y (Or.inr (Or.inl hy))) (al_coA (fun y hy => hm y (Or.inr (Or.inr (Or.inl hy)))) (hm e (Or.inr (Or.inr (Or.inr rfl)))))
          · rw [if_neg t5]
            generalize shA z = z at *
            obtain ⟨Ls, ⟨o, a, k⟩, c⟩ := z
            have hm : ∀ x, x ∈ opsL Ls ∨ x ∈ o.toList ∨ x ∈ a.toList → alL P x := fun x hx => HA x (by simp only [opsZ, opsV, List.mem_append]; rcases hx with q | q | q <;> simp [q])
            intro x hx
            simp only [shT, opsZ, opsV, Option.toList_some, Option.toList_none, List.mem_append, List.mem_singleton] at hx
            rcases hx with q | (q | q) | q
            · exact hm x (Or.inl q)
            · exact hm x (Or.inr (Or.inl q))
            · exact hm x (Or.inr (Or.inr q))
            · rw [q]
              refine al_nts _ _ ?_
              show P (lfD _ _)
              exact ht (by omega)
theorem rt_all {P : aK → Prop} {K : List aK} (h : ∀ t ∈ K, 6 ≤ t.1 → P t) (h1 : ∀ t ∈ K, 1 ≤ t.1) (hz : okz (zK K) 0 false) : alL P (rtK K) := by
  have key : ∀ (K : List aK) (z : aZ), (∀ t ∈ K, 6 ≤ t.1 → P t) → (∀ t ∈ K, 1 ≤ t.1) → zAl P z → zAl P (K.foldl shk z) := by
    intro K
    induction K with
    | nil => intro z _ _ H; exact H
    | cons t K ih =>
      intro z h h1 H
      exact ih _ (fun x hx => h x (List.mem_cons_of_mem _ hx)) (fun x hx => h1 x (List.mem_cons_of_mem _ hx)) (zAl_shk H (h t List.mem_cons_self) (h1 t List.mem_cons_self))
  have hK : zAl P (zK K) := key K z0 h h1 (fun e he => by simp [z0, opsZ, opsL, opsV] at he)
  unfold rtK
  cases hc : (zK K).2.2 with
  | none => have := hz.2.1; rw [hc] at this; simp at this
  | some e =>
    have hm : ∀ x, x ∈ (zK K).2.1.1.toList ∨ x ∈ (zK K).2.1.2.1.toList ∨ x = e → alL P x := fun x hx => hK x (by unfold opsZ opsV; rw [hc]; rcases hx with q | q | q <;> simp [q])
    exact al_coO (fun y hy => hm y (Or.inl hy)) (al_coA (fun y hy => hm y (Or.inr (Or.inl hy))) (hm e (Or.inr (Or.inr rfl))))
theorem rdP_op {L : List Int} : ∀ (f w o : Nat) (wn : Bool) (K : List aK), (∀ t ∈ K, 6 ≤ t.1 → tkO L t) → ∀ t ∈ (rdP L f w o wn K).2, 6 ≤ t.1 → tkO L t := by
  intro f
  induction f with
  | zero => intro w o wn K h; exact h
  | succ f ih =>
    intro w o wn K h
    have h14 := kd_14 (wd L w)
    have hap : ∀ x : aK, (6 ≤ x.1 → tkO L x) → ∀ t ∈ K ++ [x], 6 ≤ t.1 → tkO L t := fun x h1 t ht => by
      rcases List.mem_append.mp ht with q | q
      · exact h t q
      · simp at q; subst q; exact h1
    rw [rdP]
    generalize kdOf (wd L w) = k at *
    by_cases hw : w < (wds L).length
    · rw [if_neg (fun q => q hw)]
      by_cases k1 : k = 1 ∨ k = 2
      · rw [if_pos k1]; exact ih _ _ _ _ (hap _ (fun q => by simp at q; omega))
      · rw [if_neg k1]
        by_cases k6 : 6 ≤ k
        · rw [if_pos k6]
          by_cases k12 : k < 12
          · rw [if_pos k12]
            by_cases hw1 : w + 1 < (wds L).length
            · rw [if_pos hw1]
              cases hop : opd k (wd L (w + 1)) with
              | none => exact h
              | some p => exact ih _ _ _ _ (hap _ (fun _ => ⟨⟨by simp; omega, by simp; omega⟩, fun _ => ⟨hw1, hop⟩⟩))
            · rw [if_neg hw1]; exact h
          · rw [if_neg k12]; exact ih _ _ _ _ (hap _ (fun _ => ⟨⟨by simp; omega, by simp; omega⟩, fun q => by simp at q; omega⟩))
        · rw [if_neg k6]
          by_cases kb : wn = true ∨ k = 0 ∨ (k = 3 ∧ o = 0)
          · rw [if_pos kb]; exact h
          · rw [if_neg kb]
            exact ih _ _ _ _ (hap _ (fun q => by simp at q; omega))
    · rw [if_pos hw]; exact h
theorem rdE_op {L : List Int} {fst : Nat} : ∀ t ∈ (rdE L fst).2, 6 ≤ t.1 → tkO L t := by
  unfold rdE
  by_cases hf : fst < (wds L).length
  · rw [if_neg (fun q => q hf)]; exact rdP_op _ _ _ _ _ (fun t ht => by simp at ht)
  · rw [if_pos hf]; intro t ht _; simp at ht; subst ht; exact ⟨⟨by simp, by simp⟩, fun q => by simp at q⟩
