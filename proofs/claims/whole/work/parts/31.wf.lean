/-! WHAT HOLDS OF EVERY TREE -/
def cn (T : aT) (n : Nat) : Nat → Nat
  | 0 => 0
  | k + 1 => cn T n k + (tE T k).countP (fun p => p.2 == n)
def wfN (T : aT) (n : Nat) (v : aN) : Prop :=
  (nK v = 0 ∨ nK v = 1 ∨ nK v = 2) ∧ (¬ nK v = 0 → nE v = [] ∧ nB v = 0) ∧ ((nK v = 2 → ¬ nX v = []) ∧ (¬ nK v = 2 → nX v = [])) ∧ (bd (nX v) ∧ (nX v).length ≤ 40) ∧ srt (nE v) ∧ (nE v).length ≤ 12 ∧
  (∀ p ∈ nE v, isNm p.1 = true ∧ ¬ p.2 = 0 ∧ ¬ T p.2 = none) ∧ nA v < 48 ∧ (0 ≤ nB v ∧ nB v ≤ 7) ∧ ((0 ≤ nZ v ∧ nZ v ≤ 999999) ∧ (0 ≤ nD v ∧ nD v ≤ 999999)) ∧ (¬ n = 0 → nT v = (cn T n 48 : Int)) ∧ (nK v = 0 → ¬ n = 0 → cn T n 48 = 1 ∧ ∃ s, (s, n) ∈ tE T (nA v))
def wf (T : aT) (here : Nat) : Prop :=
  (∀ n, 48 ≤ n → T n = none) ∧ (here < 48 ∧ tK T here = 0) ∧ (tK T 0 = 0 ∧ tA T 0 = 0) ∧ (∀ n v, T n = some v → wfN T n v) ∧ ∃ ρ : Nat → Nat, ∀ n v, T n = some v → nK v = 0 → ¬ n = 0 → ρ (nA v) < ρ n
theorem isNm_b {s : List Int} (h : isNm s = true) : bd s ∧ 1 ≤ s.length ∧ s.length ≤ 14 ∧ (∀ c ∈ s, ¬ c = 47) ∧ ¬ s = [46] ∧ ¬ s = [46, 46] := by
  have hc : ∀ c ∈ s, (97 ≤ c ∧ c ≤ 122) ∨ (48 ≤ c ∧ c ≤ 57) ∨ c = 46 ∨ c = 95 ∨ c = 45 := by
    intro c hc
    simp only [isNm, Bool.and_eq_true, List.all_eq_true] at h
    exact sgn_iff.mp (h.1.2 c hc)
  have h1 : 1 ≤ s.length ∧ s.length ≤ 14 := by
    simp only [isNm, Bool.and_eq_true, decide_eq_true_eq] at h
    exact h.1.1
  refine ⟨fun c q => by have := hc c q; omega, h1.1, h1.2, fun c q => by have := hc c q; omega, fun q => ?_, fun q => ?_⟩
  · subst q; simp [isNm] at h
  · subst q; simp [isNm] at h
theorem wf_W {T : aT} {here : Nat} (h : wf T here) : wfW T := fun n v _ hT => by
  obtain ⟨h48, -, -, hN, -⟩ := h
  obtain ⟨w1, w2, w3, w4, w5, w6, w7, w8, w9, w10, w11, w12⟩ := hN n v hT
  refine ⟨fun p hp => ?_, w8, w3.1⟩
  cases hq : T p.2 with
  | none => exact absurd hq (w7 p hp).2.2
  | some u => exact ⟨u, rfl⟩
theorem wf_lt {T : aT} {here n : Nat} {v : aN} (h : wf T here) (hT : T n = some v) : n < 48 := Nat.lt_of_not_le fun q => by rw [h.1 n q] at hT; cases hT
theorem wf_unq {T : aT} {here : Nat} (h : wf T here) : ∀ n v, n < 48 → T n = some v → unq (nE v) := fun n v _ hT => srt_unq (h.2.2.2.1 n v hT).2.2.2.2.1
theorem tE_some {T : aT} {n : Nat} {v : aN} (h : T n = some v) : tE T n = nE v := by simp [tE, h]
theorem tK_some {T : aT} {n : Nat} {v : aN} (h : T n = some v) : tK T n = nK v := by simp [tK, h]
theorem tA_some {T : aT} {n : Nat} {v : aN} (h : T n = some v) : tA T n = nA v := by simp [tA, h]
theorem tB_some {T : aT} {n : Nat} {v : aN} (h : T n = some v) : tB T n = nB v := by simp [tB, h]
theorem tX_some {T : aT} {n : Nat} {v : aN} (h : T n = some v) : tX T n = nX v := by simp [tX, h]
theorem tK_ge {T : aT} {n : Nat} (h : tK T n = 0) : ∃ v, T n = some v ∧ nK v = 0 := by
  cases hT : T n with
  | none => simp [tK, hT] at h
  | some v => exact ⟨v, rfl, by rw [tK_some hT] at h; exact h⟩
theorem cn_le (T : aT) (n : Nat) (h : ∀ k, (tE T k).length ≤ 12) : ∀ N, cn T n N ≤ 12 * N := by
  intro N
  induction N with
  | zero => simp [cn]
  | succ N ih =>
    have h1 := h N
    have h2 := List.countP_le_length (p := fun p : aE => p.2 == n) (l := tE T N)
    simp only [cn]; omega
theorem wf_E12 {T : aT} {here : Nat} (h : wf T here) (k : Nat) : (tE T k).length ≤ 12 := by
  cases hT : T k with
  | none => simp [tE, hT]
  | some v => rw [tE_some hT]; exact (h.2.2.2.1 k v hT).2.2.2.2.2.1
theorem cn_0 {T : aT} {n : Nat} : ∀ N, (∀ k, k < N → ∀ p ∈ tE T k, ¬ p.2 = n) → cn T n N = 0 := by
  intro N
  induction N with
  | zero => intro _; rfl
  | succ N ih =>
    intro h
    simp only [cn]
    rw [ih (fun k hk => h k (by omega))]
    have : (tE T N).countP (fun p => p.2 == n) = 0 := List.countP_eq_zero.mpr (fun p hp => by have := h N (by omega) p hp; simpa using this)
    omega
theorem cn_pos {T : aT} {n d : Nat} {s : List Int} : ∀ N, d < N → (s, n) ∈ tE T d → 0 < cn T n N := by
  intro N
  induction N with
  | zero => intro h; omega
  | succ N ih =>
    intro h hm
    simp only [cn]
    by_cases he : d = N
    · subst he
      have : 0 < (tE T d).countP (fun p => p.2 == n) := List.countP_pos_iff.mpr ⟨_, hm, by simp⟩
      omega
    · have := ih (by omega) hm; omega
/-- cn when one row changes -/
theorem cn_ch {T T' : aT} {m d : Nat} {z : Nat} (hd : ∀ k, ¬ k = d → tE T' k = tE T k) (hc : (tE T' d).countP (fun p => p.2 == m) = (tE T d).countP (fun p => p.2 == m) + z) : ∀ N, cn T' m N = cn T m N + (if d < N then z else 0) := by
  intro N
  induction N with
  | zero => simp [cn]
  | succ N ih =>
    simp only [cn]
    rw [ih]
    by_cases he : N = d
    · subst he; rw [hc, if_neg (by omega), if_pos (by omega)]; omega
    · rw [hd N he]
      by_cases hl : d < N
      · rw [if_pos hl, if_pos (by omega)]; omega
      · rw [if_neg hl, if_neg (by omega)]; omega
theorem delE_perm2 : ∀ {E : List aE} {s : List Int} {n : Nat}, unq E → (s, n) ∈ E → E.Perm ((s, n) :: delE E s) := by
  intro E
  induction E with
  | nil => intro s n _ h; simp at h
  | cons p E ih =>
    intro s n hu hm
    rcases List.mem_cons.mp hm with hp | hm
    · rw [← hp]
      have hu' : unq ((s, n) :: E) := by rw [hp]; exact hu
      rw [delE_cons hu']
    · have hne : ¬ p.1 = s := (List.pairwise_cons.mp hu).1 _ hm
      have := ih (List.pairwise_cons.mp hu).2 hm
      have hd : delE (p :: E) s = p :: delE E s := by simp [delE, hne]
      rw [hd]
      exact (this.cons p).trans (List.Perm.swap _ _ _)
theorem mem_unq {E : List aE} {s : List Int} {n m : Nat} (hu : unq E) (h1 : (s, n) ∈ E) (h2 : (s, m) ∈ E) : n = m := by
  have := (lkE_of hu h1).symm.trans (lkE_of hu h2)
  cases this; rfl
theorem wf_jn {T : aT} {here d n : Nat} {s : List Int} {vd v : aN} (h48 : ∀ m, 48 ≤ m → T m = none) (hh : here < 48 ∧ tK T here = 0) (h0 : tK T 0 = 0 ∧ tA T 0 = 0) (hN : ∀ m w, ¬ m = n → T m = some w → wfN T m w) (hr : ∃ ρ : Nat → Nat, ∀ m w, ¬ m = n → T m = some w → nK w = 0 → ¬ m = 0 → ρ (nA w) < ρ m)
    (hd : d < 48) (hn : n < 48) (hdn : ¬ d = n) (hn0 : ¬ n = 0) (hnh : ¬ n = here ∨ nK v = 0) (hTd : T d = some vd) (hkd : nK vd = 0) (hTn : T n = some v) (hs : isNm s = true) (hl : lkE s (nE vd) = none) (hE : (nE vd).length < 12)
    (v1 : nK v = 0 ∨ nK v = 1 ∨ nK v = 2) (v2 : nE v = []) (v2b : ¬ nK v = 0 → nB v = 0) (v3 : (nK v = 2 → ¬ nX v = []) ∧ (¬ nK v = 2 → nX v = [])) (v4 : bd (nX v) ∧ (nX v).length ≤ 40) (v9 : 0 ≤ nB v ∧ nB v ≤ 7) (v10 : (0 ≤ nZ v ∧ nZ v ≤ 999999) ∧ (0 ≤ nD v ∧ nD v ≤ 999999)) (v11 : nT v = (cn T n 48 : Int)) (v12 : nK v = 0 → cn T n 48 = 0) (hnA : ∀ m w, ¬ m = n → T m = some w → nK w = 0 → ¬ m = 0 → ¬ nA w = n) : wf (jnT T d s n v) here := by
  have hjn : jnT T d s n v = ud (ud T d (some (vE vd (insE (nE vd) (s, n))))) n (some (vA (vT v (nT v + 1)) d)) := by simp [jnT, addE, hTd]
  rw [hjn]
  generalize hT' : ud (ud T d (some (vE vd (insE (nE vd) (s, n))))) n (some (vA (vT v (nT v + 1)) d)) = T'
  have tn : T' n = some (vA (vT v (nT v + 1)) d) := by rw [← hT', ud_s]
  have td : T' d = some (vE vd (insE (nE vd) (s, n))) := by rw [← hT', ud_n hdn, ud_s]
  have to : ∀ m, ¬ m = n → ¬ m = d → T' m = T m := fun m h1 h2 => by rw [← hT', ud_n h1, ud_n h2]
  have tnone : ∀ m, ¬ T m = none → ¬ T' m = none := fun m hm => by
    by_cases h1 : m = n
    · rw [h1, tn]; simp
    · by_cases h2 : m = d
      · rw [h2, td]; simp
      · rw [to m h1 h2]; exact hm
  have tEd : tE T' d = insE (nE vd) (s, n) := by rw [tE_some td]; rfl
  have tEo : ∀ k, ¬ k = d → tE T' k = tE T k := fun k hk => by
    by_cases h1 : k = n
    · rw [h1, tE_some tn, tE_some hTn]; rfl
    · simp only [tE]; rw [to k h1 hk]
  have hmem : ∀ k p, p ∈ tE T k → p ∈ tE T' k := fun k p hp => by
    by_cases h1 : k = d
    · rw [h1, tEd]; rw [h1, tE_some hTd] at hp
      exact (insE_perm _ _).mem_iff.mpr (List.mem_cons_of_mem _ hp)
    · rw [tEo k h1]; exact hp
  have hcn : ∀ m, cn T' m 48 = cn T m 48 + (if m = n then 1 else 0) := fun m => by
    have := cn_ch (T := T) (T' := T') (m := m) (d := d) (z := if n = m then 1 else 0) tEo (by
      rw [tEd, (insE_perm _ _).countP_eq, tE_some hTd, List.countP_cons]; simp) 48
    rw [this, if_pos hd]
    by_cases h1 : n = m
    · rw [if_pos h1, if_pos h1.symm]
    · rw [if_neg h1, if_neg (fun q => h1 q.symm)]
  have hwd := hN d vd hdn hTd
  obtain ⟨d1, d2, d3, d4, d5, d6, d7, d8, d9, d10, d11, d12⟩ := hwd
  have hkT : ∀ m, tK T' m = tK T m := fun m => by
    by_cases h1 : m = n
    · rw [h1, tK_some tn, tK_some hTn]; rfl
    · by_cases h2 : m = d
      · rw [h2, tK_some td, tK_some hTd]; rfl
      · simp only [tK]; rw [to m h1 h2]
  refine ⟨fun m hm => ?_, ⟨hh.1, by rw [hkT]; exact hh.2⟩, ⟨by rw [hkT]; exact h0.1, ?_⟩, fun m w hm => ?_, ?_⟩
  · rw [to m (by omega) (by omega)]; exact h48 m hm
  · by_cases h2 : 0 = d
    · rw [← h2] at td hTd
      rw [tA_some td]; have := h0.2; rw [tA_some hTd] at this; exact this
    · simp only [tA]; rw [to 0 (fun q => hn0 q.symm) h2]; exact h0.2
  · by_cases h1 : m = n
    · subst h1
      rw [tn] at hm; cases hm
      refine ⟨v1, fun q => ⟨v2, v2b q⟩, v3, v4, by show srt (nE v); rw [v2]; exact List.Pairwise.nil, by show (nE v).length ≤ 12; rw [v2]; simp, fun p hp => by rw [show nE (vA (vT v (nT v + 1)) d) = [] from v2] at hp; simp at hp, hd, v9, v10, fun _ => ?_, fun hk _ => ⟨?_, s, ?_⟩⟩
      · show nT v + 1 = _; rw [hcn, v11]; simp
      · rw [hcn, v12 hk]; simp
      · show (s, m) ∈ tE T' d
        rw [tEd]; exact (insE_perm _ _).mem_iff.mpr List.mem_cons_self
    · by_cases h2 : m = d
      · subst h2
        rw [td] at hm; cases hm
        refine ⟨d1, fun q => absurd hkd q, d3, d4, insE_srt d5 (lkE_none hl), by show (insE (nE vd) (s, n)).length ≤ 12; rw [insE_len]; omega, fun p hp => ?_, d8, d9, d10, fun q => ?_, fun hk q => ?_⟩
        · have hp' : p ∈ insE (nE vd) (s, n) := hp
          rcases List.mem_cons.mp ((insE_perm _ _).mem_iff.mp hp') with z | z
          · subst z; exact ⟨hs, hn0, by show ¬ T' n = none; rw [tn]; simp⟩
          · exact ⟨(d7 p z).1, (d7 p z).2.1, tnone _ (d7 p z).2.2⟩
        · rw [hcn, if_neg h1]; exact d11 q
        · obtain ⟨y1, s', y2⟩ := d12 hk q
          exact ⟨by rw [hcn, if_neg h1]; exact y1, s', hmem _ _ y2⟩
      · rw [to m h1 h2] at hm
        obtain ⟨w1, w2, w3, w4, w5, w6, w7, w8, w9, w10, w11, w12⟩ := hN m w h1 hm
        refine ⟨w1, w2, w3, w4, w5, w6, fun p hp => ⟨(w7 p hp).1, (w7 p hp).2.1, tnone _ (w7 p hp).2.2⟩, w8, w9, w10, fun q => by rw [hcn, if_neg h1]; exact w11 q, fun hk q => ?_⟩
        obtain ⟨y1, s', y2⟩ := w12 hk q
        exact ⟨by rw [hcn, if_neg h1]; exact y1, s', hmem _ _ y2⟩
  · obtain ⟨ρ, hρ⟩ := hr
    refine ⟨fun x => if x = n then ρ d + 1 else ρ x, fun m w hm hk hm0 => ?_⟩
    by_cases h1 : m = n
    · subst h1
      rw [tn] at hm; cases hm
      show (if d = m then _ else ρ d) < (if m = m then ρ d + 1 else _)
      rw [if_neg hdn, if_pos rfl]; omega
    · have hmw : ∃ w', T m = some w' ∧ nK w' = 0 ∧ nA w' = nA w := by
        by_cases h2 : m = d
        · subst h2
          rw [td] at hm; cases hm
          exact ⟨vd, hTd, hk, rfl⟩
        · rw [to m h1 h2] at hm; exact ⟨w, hm, hk, rfl⟩
      obtain ⟨w', y1, y2, y3⟩ := hmw
      have := hρ m w' h1 y1 y2 hm0
      have hna := hnA m w' h1 y1 y2 hm0
      show (if nA w = n then _ else ρ (nA w)) < (if m = n then _ else ρ m)
      rw [← y3, if_neg hna, if_neg h1]; exact this
