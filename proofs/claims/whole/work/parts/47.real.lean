/-! THE PATH of a node -/
def nmO (T : aT) (n : Nat) : List Int := (((tE T (tA T n)).find? (fun p => p.2 == n)).map (fun p => p.1)).getD []
def ups (T : aT) : Nat → Nat → List Int
  | 0, _ => []
  | f + 1, n => if n = 0 then [] else ups T f (tA T n) ++ 47 :: nmO T n
def rch (T : aT) : Nat → Nat → Prop
  | 0, n => n = 0
  | f + 1, n => n = 0 ∨ rch T f (tA T n)
theorem pig : ∀ (N : Nat) (l : List Nat), l.Nodup → (∀ x ∈ l, x < N) → l.length ≤ N := by
  intro N
  induction N with
  | zero =>
    intro l _ h
    cases l with
    | nil => simp
    | cons a l => exact absurd (h a List.mem_cons_self) (by omega)
  | succ N ih =>
    intro l hn h
    by_cases hm : N ∈ l
    · have h1 := ih (l.erase N) (hn.erase N) (fun x hx => by
        have h2 := (List.Nodup.mem_erase_iff hn).mp hx
        have := h x h2.2
        have := h2.1
        omega)
      have h3 := List.length_erase_of_mem hm
      omega
    · have := ih l hn (fun x hx => by
        have := h x hx
        have : ¬ x = N := fun q => hm (by rw [← q]; exact hx)
        omega)
      omega
theorem wf_up {T : aT} {here n : Nat} {v : aN} (h : wf T here) (hT : T n = some v) (hk : nK v = 0) (h0 : ¬ n = 0) : ∃ s u, (s, n) ∈ nE u ∧ T (nA v) = some u ∧ nK u = 0 ∧ isNm s = true := by
  obtain ⟨-, s, hm⟩ := (h.2.2.2.1 n v hT).2.2.2.2.2.2.2.2.2.2.2 hk h0
  cases hu : T (nA v) with
  | none => simp [tE, hu] at hm
  | some u =>
    rw [tE_some hu] at hm
    have hN := h.2.2.2.1 _ u hu
    refine ⟨s, u, hm, rfl, ?_, (hN.2.2.2.2.2.2.1 _ hm).1⟩
    by_cases q : nK u = 0
    · exact q
    · rw [(hN.2.1 q).1] at hm; simp at hm
theorem rch_all {T : aT} {here : Nat} (h : wf T here) : ∀ n, tK T n = 0 → rch T 47 n := by
  obtain ⟨ρ, hρ⟩ := h.2.2.2.2
  have key : ∀ (f n : Nat) (vis : List Nat), tK T n = 0 → vis.Nodup → (∀ x ∈ vis, x < 48 ∧ ¬ x = 0 ∧ ρ n < ρ x) → 47 ≤ f + vis.length → rch T f n := by
    intro f
    induction f with
    | zero =>
      intro n vis hk hn hv hl
      by_cases h0 : n = 0
      · exact h0
      · exfalso
        obtain ⟨v, hT, -⟩ := tK_ge hk
        have hlt := wf_lt h hT
        have := pig 48 (0 :: n :: vis) (List.nodup_cons.mpr ⟨fun q => by
          rcases List.mem_cons.mp q with q | q
          · exact h0 q.symm
          · exact (hv 0 q).2.1 rfl, List.nodup_cons.mpr ⟨fun q => by have := (hv n q).2.2; omega, hn⟩⟩) (fun x hx => by
          rcases List.mem_cons.mp hx with q | q
          · omega
          · rcases List.mem_cons.mp q with q | q
            · omega
            · exact (hv x q).1)
        simp at this
        omega
    | succ f ih =>
      intro n vis hk hn hv hl
      by_cases h0 : n = 0
      · exact Or.inl h0
      · right
        obtain ⟨v, hT, hkv⟩ := tK_ge hk
        have hlt := wf_lt h hT
        obtain ⟨s, u, hm, hu, hku, -⟩ := wf_up h hT hkv h0
        have hr := hρ n v hT hkv h0
        rw [tA_some hT]
        refine ih (nA v) (n :: vis) (by rw [tK_some hu]; exact hku) (List.nodup_cons.mpr ⟨fun q => by have := (hv n q).2.2; omega, hn⟩) (fun x hx => ?_) (by simp; omega)
        rcases List.mem_cons.mp hx with q | q
        · subst q; exact ⟨hlt, h0, hr⟩
        · have := hv x q; exact ⟨this.1, this.2.1, by omega⟩
  intro n hk
  exact key 47 n [] hk List.nodup_nil (fun x hx => by simp at hx) (by simp)
theorem ups_eq {T : aT} : ∀ f g n, rch T f n → f ≤ g → ups T g n = ups T f n := by
  intro f
  induction f with
  | zero =>
    intro g n h _
    have h : n = 0 := h
    cases g with
    | zero => rfl
    | succ g => simp [ups, h]
  | succ f ih =>
    intro g n h hg
    obtain ⟨g', rfl⟩ : ∃ g', g = g' + 1 := ⟨g - 1, by omega⟩
    simp only [ups]
    by_cases h0 : n = 0
    · rw [if_pos h0, if_pos h0]
    · rw [if_neg h0, if_neg h0, ih g' _ (h.resolve_left h0) (by omega)]
theorem cn_two {T : aT} {n d e : Nat} {s s' : List Int} (hde : d < e) (h1 : (s, n) ∈ tE T d) (h2 : (s', n) ∈ tE T e) : ∀ N, e < N → 2 ≤ cn T n N := by
  intro N
  induction N with
  | zero => intro h; omega
  | succ N ih =>
    intro h
    simp only [cn]
    by_cases he : e = N
    · subst he
      have a := cn_pos (T := T) e hde h1
      have : 0 < (tE T e).countP (fun p => p.2 == n) := List.countP_pos_iff.mpr ⟨_, h2, by simp⟩
      omega
    · have := ih (by omega); omega
theorem cn_row {T : aT} {n d : Nat} : ∀ N, d < N → (tE T d).countP (fun p => p.2 == n) ≤ cn T n N := by
  intro N
  induction N with
  | zero => intro h; omega
  | succ N ih =>
    intro h
    simp only [cn]
    by_cases he : d = N
    · subst he; omega
    · have := ih (by omega); omega
/-- a directory has one tie -/
theorem one_tie {T : aT} {here n d : Nat} {s : List Int} {v : aN} (h : wf T here) (hT : T n = some v) (hk : nK v = 0) (h0 : ¬ n = 0) (hm : (s, n) ∈ tE T d) : d = nA v ∧ s = nmO T n := by
  obtain ⟨hc, s1, hm1⟩ := (h.2.2.2.1 n v hT).2.2.2.2.2.2.2.2.2.2.2 hk h0
  have lt : ∀ d s, (s, n) ∈ tE T d → d < 48 := fun d s hx => Nat.lt_of_not_le fun q => by simp [tE, h.1 d q] at hx
  have uq : ∀ d s d' s', (s, n) ∈ tE T d → (s', n) ∈ tE T d' → d = d' ∧ s = s' := by
    intro d s d' s' a b
    have hd : d = d' := by
      rcases Nat.lt_trichotomy d d' with q | q | q
      · have := cn_two q a b 48 (lt _ _ b); omega
      · exact q
      · have := cn_two q b a 48 (lt _ _ a); omega
    subst hd
    refine ⟨rfl, ?_⟩
    cases hu : T d with
    | none => simp [tE, hu] at a
    | some u =>
      rw [tE_some hu] at a b
      have hun := wf_unq h d u (wf_lt h hu) hu
      by_cases hss : s = s'
      · exact hss
      · exfalso
        have hp := delE_perm2 hun a
        have hb : (s', n) ∈ delE (nE u) s := List.mem_filter.mpr ⟨b, by simpa using fun q => hss q.symm⟩
        have c1 : 0 < (delE (nE u) s).countP (fun p => p.2 == n) := List.countP_pos_iff.mpr ⟨_, hb, by simp⟩
        have c2 := cn_row (T := T) (n := n) (d := d) 48 (wf_lt h hu)
        rw [tE_some hu, hp.countP_eq, List.countP_cons] at c2
        simp at c2
        omega
  refine ⟨(uq _ _ _ _ hm hm1).1, ?_⟩
  unfold nmO
  rw [tA_some hT]
  cases hf : (tE T (nA v)).find? (fun p => p.2 == n) with
  | none =>
    have := List.find?_eq_none.mp hf _ hm1
    simp at this
  | some p =>
    have h1 := List.find?_some hf
    have h2 := List.mem_of_find?_eq_some hf
    have hp : p = (p.1, n) := by
      have : p.2 = n := by simpa using h1
      rw [← this]
    rw [hp] at h2
    simp
    exact (uq _ _ _ _ hm h2).2
theorem ups_step {T : aT} {here n : Nat} {v : aN} (h : wf T here) (hT : T n = some v) (hk : nK v = 0) (h0 : ¬ n = 0) : ups T 47 n = ups T 47 (nA v) ++ 47 :: nmO T n := by
  have := ups_eq 47 48 n (rch_all h n (by rw [tK_some hT]; exact hk)) (by omega)
  rw [← this]
  show (if n = 0 then [] else ups T 47 (tA T n) ++ 47 :: nmO T n) = _
  rw [if_neg h0, tA_some hT]
theorem nmO_ok {T : aT} {here n : Nat} (h : wf T here) (hk : tK T n = 0) (h0 : ¬ n = 0) : isNm (nmO T n) = true ∧ tK T (tA T n) = 0 := by
  obtain ⟨v, hT, hkv⟩ := tK_ge hk
  obtain ⟨s, u, hm, hu, hku, hs⟩ := wf_up h hT hkv h0
  have := one_tie h hT hkv h0 (d := nA v) (s := s) (by rw [tE_some hu]; exact hm)
  rw [← this.2, tA_some hT, tK_some hu]
  exact ⟨hs, hku⟩
theorem ups_b {T : aT} {here : Nat} (h : wf T here) : ∀ f n, tK T n = 0 → bd (ups T f n) ∧ (ups T f n).length ≤ 15 * f := by
  intro f
  induction f with
  | zero => intro n _; exact ⟨fun c hc => by simp [ups] at hc, by simp [ups]⟩
  | succ f ih =>
    intro n hk
    simp only [ups]
    by_cases h0 : n = 0
    · rw [if_pos h0]; exact ⟨fun c hc => by simp at hc, by simp⟩
    · rw [if_neg h0]
      obtain ⟨h1, h2⟩ := nmO_ok h hk h0
      have hb := isNm_b h1
      obtain ⟨i1, i2⟩ := ih _ h2
      refine ⟨bd_app i1 (fun c hc => ?_), by simp; omega⟩
      rcases List.mem_cons.mp hc with q | q
      · omega
      · exact hb.1 c q
theorem wk_dir {T : aT} {here : Nat} {fol : Bool} (hw : wf T here) : ∀ (f nd lk : Nat) (cm : aC) (w : List Int) (n : Nat), (cm = none → tK T nd = 0) → wk T fol f nd lk cm w = ((n : Int), none) → tK T n = 0 := by
  intro f
  induction f with
  | zero => intro nd lk cm w n _ hq; simp [wk] at hq
  | succ f ih =>
    intro nd lk cm w n hcm hq
    simp only [wk] at hq
    split at hq
    · split at hq
      · cases hq
      · injection hq with h1 h2
        have : nd = n := by omega
        subst h2; subst this; exact hcm rfl
    · cases hs : stp T fol nd lk (dsl w) with
      | inl z =>
        rw [hs] at hq
        have := stp_neg hs
        injection hq with h1 h2
        omega
      | inr q =>
        rw [hs] at hq
        refine ih q.1 q.2.1 q.2.2.1 q.2.2.2 n (fun hc => ?_) hq
        unfold stp at hs
        split at hs
        · cases hs
        rename_i hk
        have hk : tK T nd = 0 := by
          by_cases z : tK T nd = 0
          · exact z
          · exact absurd z hk
        split at hs
        · cases hs
        split at hs
        · cases hs; exact hk
        split at hs
        · cases hs
          by_cases h0 : nd = 0
          · subst h0
            show tK T (tA T 0) = 0
            rw [hw.2.2.1.2]; exact hw.2.2.1.1
          · exact (nmO_ok hw hk h0).2
        split at hs
        · cases hs
        · split at hs
          · split at hs
            · cases hs
            · cases hs
              show tK T (if _ then 0 else nd) = 0
              split
              · exact hw.2.2.1.1
              · exact hk
          · cases hs; cases hc
theorem nwR_dir {T : aT} {here n k : Nat} {L : List Int} {fol : Bool} (hw : wf T here) (hq : nwR T here L k fol = ((n : Int), none)) : tK T n = 0 := by
  unfold nwR at hq
  split at hq
  · refine wk_dir hw 421 _ 0 none (wd L k) n (fun _ => ?_) hq
    split
    · exact hw.2.2.1.1
    · exact hw.2.1.2
  · cases hq
/-- the path that real writes -/
def rePth (T : aT) (n : Nat) (cm : aC) : List Int := match cm with
  | none => ups T 47 n
  | some (d, s) => ups T 47 d ++ 47 :: s
def reO (T : aT) (here : Nat) (L O : List Int) : List Int := match nwR T here L 0 true with
  | (z, cm) => if z < 0 then O else if rePth T z.toNat cm = [] then [47] else rePth T z.toNat cm
def reR (T : aT) (here : Nat) (L : List Int) : Int := match nwR T here L 0 true with
  | (z, cm) => if z < 0 then z else ((reO T here L []).length : Int)
theorem rePth_d {T : aT} {here n d : Nat} {s : List Int} {v : aN} (h : wf T here) (hT : T n = some v) (hk : nK v = 0) (h0 : ¬ n = 0) (hm : (s, n) ∈ tE T d) : rePth T n (some (d, s)) = ups T 47 n := by
  obtain ⟨h1, h2⟩ := one_tie h hT hk h0 hm
  rw [ups_step h hT hk h0, h1, h2]; rfl
