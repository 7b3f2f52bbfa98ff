/-! ORDER of names; rows of names -/
theorem cmpv_neg : ∀ a b, cmpv b a = - cmpv a b := by
  intro a
  induction a with
  | nil => intro b; cases b <;> simp [cmpv]
  | cons x a ih =>
    intro b
    cases b with
    | nil => simp [cmpv]
    | cons y b =>
      simp only [cmpv]
      by_cases h : x = y
      · subst h; simp [ih b]
      · rw [if_neg h, if_neg (fun q => h q.symm)]; omega
theorem cmpv_tr : ∀ a b c, cmpv a b < 0 → cmpv b c < 0 → cmpv a c < 0 := by
  intro a
  induction a with
  | nil =>
    intro b c h1 h2
    cases b with
    | nil => simp [cmpv] at h1
    | cons y b =>
      cases c with
      | nil => simp [cmpv] at h2; omega
      | cons z c => simp [cmpv]
  | cons x a ih =>
    intro b c h1 h2
    cases b with
    | nil => simp [cmpv] at h1; omega
    | cons y b =>
      cases c with
      | nil => simp [cmpv] at h2; omega
      | cons z c =>
        simp only [cmpv] at h1 h2 ⊢
        by_cases hxy : x = y
        · rw [if_pos hxy] at h1
          by_cases hyz : y = z
          · rw [if_pos hyz] at h2
            rw [if_pos (by omega)]
            exact ih b c h1 h2
          · rw [if_neg hyz] at h2
            rw [if_neg (by omega)]; omega
        · rw [if_neg hxy] at h1
          by_cases hyz : y = z
          · rw [if_neg (by omega)]; omega
          · rw [if_neg hyz] at h2
            rw [if_neg (by omega)]; omega
def srt (E : List aE) : Prop := E.Pairwise (fun p q => cmpv p.1 q.1 < 0)
def unq (E : List aE) : Prop := E.Pairwise (fun p q => ¬ p.1 = q.1)
theorem srt_unq {E : List aE} (h : srt E) : unq E := by
  unfold srt at h
  unfold unq
  exact h.imp (fun z e => by rw [(cmpv_0 _ _).mpr e] at z; omega)
theorem unq_perm {E F : List aE} (p : E.Perm F) (h : unq E) : unq F := (p.pairwise_iff (fun {a b} z e => z e.symm)).mp h
/-- where a name is put in -/
def insK (E : List aE) (s : List Int) : Nat → Nat
  | 0 => 0
  | k + 1 => if 0 < cmpv (E[k]?.getD ([], 0)).1 s then insK E s k else k + 1
def insE (E : List aE) (p : aE) : List aE := E.take (insK E p.1 E.length) ++ p :: E.drop (insK E p.1 E.length)
theorem insK_le (E : List aE) (s : List Int) : ∀ k, insK E s k ≤ k := by
  intro k
  induction k with
  | zero => simp [insK]
  | succ k ih => simp only [insK]; split <;> omega
theorem insE_perm (E : List aE) (p : aE) : (insE E p).Perm (p :: E) := by
  unfold insE
  refine List.perm_middle.trans ?_
  rw [List.take_append_drop]
theorem insE_len (E : List aE) (p : aE) : (insE E p).length = E.length + 1 := by rw [(insE_perm E p).length_eq]; rfl
theorem insK_gt (E : List aE) (s : List Int) : ∀ k i, insK E s k ≤ i → i < k → 0 < cmpv (E[i]?.getD ([], 0)).1 s := by
  intro k
  induction k with
  | zero => intro i h1 h2; omega
  | succ k ih =>
    intro i h1 h2
    simp only [insK] at h1
    split at h1
    · rename_i hc
      by_cases he : i = k
      · rw [he]; exact hc
      · exact ih i h1 (by omega)
    · omega
theorem insK_at (E : List aE) (s : List Int) : ∀ k, 0 < insK E s k → ¬ 0 < cmpv (E[insK E s k - 1]?.getD ([], 0)).1 s := by
  intro k
  induction k with
  | zero => intro h; simp [insK] at h
  | succ k ih =>
    intro h
    simp only [insK] at h ⊢
    by_cases hc : 0 < cmpv (E[k]?.getD ([], 0)).1 s
    · rw [if_pos hc] at h ⊢; exact ih h
    · rw [if_neg hc]; exact hc
theorem insE_srt {E : List aE} {p : aE} (h : srt E) (hn : ∀ q ∈ E, ¬ q.1 = p.1) : srt (insE E p) := by
  have hk := insK_le E p.1 E.length
  generalize hK : insK E p.1 E.length = K at *
  have hlt : ∀ q ∈ E.take K, cmpv q.1 p.1 < 0 := by
    intro q hq
    obtain ⟨i, hi⟩ := List.mem_iff_getElem?.mp hq
    rw [List.getElem?_take] at hi
    split at hi
    · rename_i hik
      have hat := insK_at E p.1 E.length (by omega)
      rw [hK] at hat
      have hK1 : K - 1 < E.length := by omega
      rw [List.getElem?_eq_getElem hK1] at hat
      simp only [Option.getD_some] at hat
      have hne := hn _ (List.getElem_mem hK1)
      have hlt1 : cmpv (E[K - 1]'hK1).1 p.1 < 0 := by
        have : ¬ cmpv (E[K - 1]'hK1).1 p.1 = 0 := fun z => hne ((cmpv_0 _ _).mp z)
        omega
      by_cases he : i = K - 1
      · subst he
        rw [List.getElem?_eq_getElem hK1] at hi; cases hi; exact hlt1
      · obtain ⟨hil, hie⟩ := List.getElem?_eq_some_iff.mp hi
        have := List.pairwise_iff_getElem.mp h i (K - 1) hil hK1 (by omega)
        rw [hie] at this
        exact cmpv_tr _ _ _ this hlt1
    · cases hi
  have hgt : ∀ q ∈ E.drop K, cmpv p.1 q.1 < 0 := by
    intro q hq
    obtain ⟨i, hi⟩ := List.mem_iff_getElem?.mp hq
    rw [List.getElem?_drop] at hi
    obtain ⟨hil, hie⟩ := List.getElem?_eq_some_iff.mp hi
    have := insK_gt E p.1 E.length (K + i) (by omega) hil
    rw [hi] at this
    simp only [Option.getD_some] at this
    rw [cmpv_neg]; omega
  unfold insE
  rw [hK]
  unfold srt
  rw [List.pairwise_append]
  refine ⟨List.Pairwise.sublist (List.take_sublist _ _) h, List.pairwise_cons.mpr ⟨hgt, List.Pairwise.sublist (List.drop_sublist _ _) h⟩, ?_⟩
  intro a ha b hb
  rcases List.mem_cons.mp hb with rfl | hb
  · exact hlt a ha
  · exact cmpv_tr _ _ _ (hlt a ha) (hgt b hb)
theorem lkE_mem : ∀ {E : List aE} {s : List Int} {n : Nat}, lkE s E = some n → (s, n) ∈ E := by
  intro E
  induction E with
  | nil => intro s n h; simp [lkE] at h
  | cons p E ih =>
    intro s n h
    simp only [lkE] at h
    split at h
    · rename_i hp; cases h; rw [← hp]; exact List.mem_cons_self
    · exact List.mem_cons_of_mem _ (ih h)
theorem lkE_none : ∀ {E : List aE} {s : List Int}, lkE s E = none → ∀ q ∈ E, ¬ q.1 = s := by
  intro E
  induction E with
  | nil => intro s h q hq; simp at hq
  | cons p E ih =>
    intro s h q hq
    simp only [lkE] at h
    split at h
    · cases h
    · rename_i hp
      rcases List.mem_cons.mp hq with rfl | hq
      · exact hp
      · exact ih h q hq
theorem lkE_of : ∀ {E : List aE} {s : List Int} {n : Nat}, unq E → (s, n) ∈ E → lkE s E = some n := by
  intro E
  induction E with
  | nil => intro s n h hm; simp at hm
  | cons p E ih =>
    intro s n h hm
    simp only [lkE]
    rcases List.mem_cons.mp hm with hp | hm
    · rw [← hp]; simp
    · have h1 := (List.pairwise_cons.mp h).1 _ hm
      rw [if_neg h1]
      exact ih (List.pairwise_cons.mp h).2 hm
theorem lkE_perm {E F : List aE} {s : List Int} (p : E.Perm F) (h : unq E) : lkE s E = lkE s F := by
  cases hF : lkE s F with
  | some n => exact lkE_of h (p.mem_iff.mpr (lkE_mem hF))
  | none =>
    cases hE : lkE s E with
    | none => rfl
    | some n => exact absurd rfl (lkE_none hF _ (p.mem_iff.mp (lkE_mem hE)))
/-- a name taken away -/
def delE (E : List aE) (s : List Int) : List aE := E.filter (fun q => !(q.1 == s))
theorem delE_len {E : List aE} {s : List Int} {n : Nat} (h : unq E) (hm : (s, n) ∈ E) : (delE E s).length + 1 = E.length := by
  induction E with
  | nil => simp at hm
  | cons p E ih =>
    have h1 := (List.pairwise_cons.mp h).1
    rcases List.mem_cons.mp hm with hp | hm
    · subst hp
      have : delE E s = E := List.filter_eq_self.mpr (fun q hq => by have := h1 q hq; simp at this ⊢; exact fun e => this e.symm)
      simp [delE] at this ⊢
      exact this
    · have hne : ¬ p.1 = s := h1 _ hm
      have := ih (List.pairwise_cons.mp h).2 hm
      simp [delE, hne] at this ⊢
      omega
theorem delE_srt {E : List aE} {s : List Int} (h : srt E) : srt (delE E s) := List.Pairwise.sublist List.filter_sublist h
theorem delE_perm {E F : List aE} {s : List Int} (p : E.Perm F) : (delE E s).Perm (delE F s) := p.filter _
theorem delE_cons {E : List aE} {s : List Int} {n : Nat} (h : unq ((s, n) :: E)) : delE ((s, n) :: E) s = E := by
  have h1 := (List.pairwise_cons.mp h).1
  have : delE E s = E := List.filter_eq_self.mpr (fun q hq => by have := h1 q hq; simp at this ⊢; exact fun e => this e.symm)
  simpa [delE] using this
