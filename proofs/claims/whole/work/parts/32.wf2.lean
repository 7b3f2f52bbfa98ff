theorem wf_tie {T : aT} {here d n : Nat} {s : List Int} {vd v : aN} (h : wf T here) (hTd : T d = some vd) (hkd : nK vd = 0) (hTn : T n = some v) (hkn : ¬ nK v = 0) (hs : isNm s = true) (hl : lkE s (nE vd) = none) (hE : (nE vd).length < 12) : wf (jnT T d s n v) here := by
  have hd := wf_lt h hTd
  have hn := wf_lt h hTn
  obtain ⟨h48, hh, h0, hN, ρ, hρ⟩ := h
  obtain ⟨v1, v2, v3, v4, v5, v6, v7, v8, v9, v10, v11, v12⟩ := hN n v hTn
  have hdn : ¬ d = n := fun q => by subst q; rw [hTd] at hTn; cases hTn; exact hkn hkd
  have hn0 : ¬ n = 0 := fun q => by subst q; have := h0.1; rw [tK_some hTn] at this; exact hkn this
  refine wf_jn h48 hh h0 (fun m w _ hm => hN m w hm) ⟨ρ, fun m w _ => hρ m w⟩ hd hn hdn hn0 (Or.inl (fun q => by have := hh.2; rw [← q, tK_some hTn] at this; exact hkn this)) hTd hkd hTn hs hl hE v1 (v2 hkn).1 (fun q => (v2 q).2) v3 v4 v9 v10 (v11 hn0) (fun q => absurd q hkn) (fun m w hm hw hk hm0 q => ?_)
  obtain ⟨-, s', y⟩ := (hN m w hw).2.2.2.2.2.2.2.2.2.2.2 hk hm0
  rw [q, tE_some hTn, (v2 hkn).1] at y
  simp at y
theorem wf_nop {T : aT} {here n : Nat} (h : wf T here) (hT : T n = none) : ∀ k, ∀ p ∈ tE T k, ¬ p.2 = n := by
  intro k p hp hq
  cases hk : T k with
  | none => simp [tE, hk] at hp
  | some w =>
    rw [tE_some hk] at hp
    exact ((h.2.2.2.1 k w hk).2.2.2.2.2.2.1 p hp).2.2 (by rw [hq]; exact hT)
theorem wf_mk {T : aT} {here d n : Nat} {s : List Int} {vd v : aN} (h : wf T here) (hn : n < 48) (hTd : T d = some vd) (hkd : nK vd = 0) (hTn : T n = none) (hs : isNm s = true) (hl : lkE s (nE vd) = none) (hE : (nE vd).length < 12)
    (v1 : nK v = 0 ∨ nK v = 1 ∨ nK v = 2) (v2 : nE v = []) (v2b : ¬ nK v = 0 → nB v = 0) (v3 : (nK v = 2 → ¬ nX v = []) ∧ (¬ nK v = 2 → nX v = [])) (v4 : bd (nX v) ∧ (nX v).length ≤ 40) (v9 : 0 ≤ nB v ∧ nB v ≤ 7) (v10 : (0 ≤ nZ v ∧ nZ v ≤ 999999) ∧ (0 ≤ nD v ∧ nD v ≤ 999999)) (v11 : nT v = 0) : wf (jnT (ud T n (some v)) d s n v) here := by
  have hd := wf_lt h hTd
  have hnop := wf_nop h hTn
  obtain ⟨h48, hh, h0, hN, ρ, hρ⟩ := h
  have hdn : ¬ d = n := fun q => by subst q; rw [hTd] at hTn; cases hTn
  have hn0 : ¬ n = 0 := fun q => by subst q; have := h0.1; simp [tK, hTn] at this
  have hnh : ¬ n = here := fun q => by subst q; have := hh.2; simp [tK, hTn] at this
  have hto : ∀ m, ¬ m = n → ud T n (some v) m = T m := fun m hm => ud_n hm
  have htE : ∀ k, tE (ud T n (some v)) k = tE T k := fun k => by
    by_cases hk : k = n
    · rw [hk, tE_some (ud_s (T := T) (n := n) (o := some v)), v2]; simp [tE, hTn]
    · simp only [tE]; rw [hto k hk]
  have hcn : ∀ m N, cn (ud T n (some v)) m N = cn T m N := by
    intro m N
    induction N with
    | zero => rfl
    | succ N ih => simp only [cn]; rw [ih, htE]
  have htK : ∀ m, ¬ m = n → tK (ud T n (some v)) m = tK T m := fun m hm => by simp only [tK]; rw [hto m hm]
  refine wf_jn (vd := vd) (fun m hm => by rw [hto m (by omega)]; exact h48 m hm) ⟨hh.1, by rw [htK here (fun q => hnh q.symm)]; exact hh.2⟩ ⟨by rw [htK 0 (fun q => hn0 q.symm)]; exact h0.1, by simp only [tA]; rw [hto 0 (fun q => hn0 q.symm)]; exact h0.2⟩ (fun m w hmn hm => ?_) ⟨ρ, fun m w hmn hm hk hm0 => by rw [hto m hmn] at hm; exact hρ m w hm hk hm0⟩ hd hn hdn hn0 (Or.inl hnh) (by rw [hto d hdn]; exact hTd) hkd ud_s hs hl hE v1 v2 v2b v3 v4 v9 v10 (by rw [hcn, v11, cn_0 48 (fun k _ => hnop k)]; rfl) (fun _ => by rw [hcn, cn_0 48 (fun k _ => hnop k)]) (fun m w hmn hm hk hm0 q => ?_)
  · rw [hto m hmn] at hm
    obtain ⟨w1, w2, w3, w4, w5, w6, w7, w8, w9, w10, w11, w12⟩ := hN m w hm
    refine ⟨w1, w2, w3, w4, w5, w6, fun p hp => ⟨(w7 p hp).1, (w7 p hp).2.1, ?_⟩, w8, w9, w10, fun z => by rw [hcn]; exact w11 z, fun hk z => ?_⟩
    · by_cases hpn : p.2 = n
      · rw [hpn, ud_s]; simp
      · rw [hto _ hpn]; exact (w7 p hp).2.2
    · obtain ⟨y1, s', y2⟩ := w12 hk z
      exact ⟨by rw [hcn]; exact y1, s', by rw [htE]; exact y2⟩
  · rw [hto m hmn] at hm
    obtain ⟨-, s', y⟩ := (hN m w hm).2.2.2.2.2.2.2.2.2.2.2 hk hm0
    rw [q] at y
    simp [tE, hTn] at y
theorem wf_pt {T : aT} {here d n : Nat} {s : List Int} {vd v : aN} (h : wf T here) (hTd : T d = some vd) (hTn : T n = some v) (hm : (s, n) ∈ nE vd) (hnh : ¬ n = here) (hne : nE v = []) : ¬ d = n ∧ ¬ n = 0 ∧ nK vd = 0 ∧ wf (ptT T d s n vd v) here := by
  have hd := wf_lt h hTd
  have hn := wf_lt h hTn
  have hE12 := wf_E12 h
  obtain ⟨h48, hh, h0, hN, ρ, hρ⟩ := h
  obtain ⟨v1, v2, v3, v4, v5, v6, v7, v8, v9, v10, v11, v12⟩ := hN n v hTn
  obtain ⟨d1, d2, d3, d4, d5, d6, d7, d8, d9, d10, d11, d12⟩ := hN d vd hTd
  have hdn : ¬ d = n := fun q => by subst q; rw [hTd] at hTn; cases hTn; rw [hne] at hm; simp at hm
  have hn0 : ¬ n = 0 := (d7 _ hm).2.1
  have hkd : nK vd = 0 := by
    by_cases hk : nK vd = 0
    · exact hk
    · rw [(d2 hk).1] at hm; simp at hm
  refine ⟨hdn, hn0, hkd, ?_⟩
  have hu := srt_unq d5
  unfold ptT
  generalize ho : (if nT v - 1 = 0 then none else some (vT v (nT v - 1))) = o
  generalize hT' : ud (ud T d (some (vE vd (delE (nE vd) s)))) n o = T'
  have tn : T' n = o := by rw [← hT', ud_s]
  have td : T' d = some (vE vd (delE (nE vd) s)) := by rw [← hT', ud_n hdn, ud_s]
  have to : ∀ m, ¬ m = n → ¬ m = d → T' m = T m := fun m h1 h2 => by rw [← hT', ud_n h1, ud_n h2]
  have tEd : tE T' d = delE (nE vd) s := by rw [tE_some td]; rfl
  have tEn : tE T' n = [] := by
    simp only [tE]; rw [tn, ← ho]
    split
    · rfl
    · exact hne
  have tEo : ∀ k, ¬ k = d → tE T' k = tE T k := fun k hk => by
    by_cases h1 : k = n
    · rw [h1, tEn, tE_some hTn, hne]
    · simp only [tE]; rw [to k h1 hk]
  have hpm := delE_perm2 hu hm
  have hcn : ∀ m, cn T m 48 = cn T' m 48 + (if m = n then 1 else 0) := fun m => by
    have := cn_ch (T := T') (T' := T) (m := m) (d := d) (z := if n = m then 1 else 0) (fun k hk => (tEo k hk).symm) (by
      rw [tEd, tE_some hTd, hpm.countP_eq, List.countP_cons]; simp) 48
    rw [this, if_pos hd]
    by_cases h1 : n = m
    · rw [if_pos h1, if_pos h1.symm]
    · rw [if_neg h1, if_neg (fun q => h1 q.symm)]
  have hsub : ∀ k p, p ∈ tE T' k → p ∈ tE T k := fun k p hp => by
    by_cases h1 : k = d
    · rw [h1, tEd] at hp; rw [h1, tE_some hTd]; exact (List.mem_filter.mp hp).1
    · rw [tEo k h1] at hp; exact hp
  have hkeep : ∀ k s' m, ¬ m = n → (s', m) ∈ tE T k → (s', m) ∈ tE T' k := fun k s' m hmn hp => by
    by_cases h1 : k = d
    · rw [h1, tE_some hTd] at hp
      rw [h1, tEd]
      refine List.mem_filter.mpr ⟨hp, ?_⟩
      have : ¬ s' = s := fun q => by subst q; exact hmn (mem_unq hu hp hm)
      simpa using this
    · rw [tEo k h1]; exact hp
  have hc1 : nT v = (cn T n 48 : Int) := v11 hn0
  have hcnn := hcn n
  rw [if_pos rfl] at hcnn
  have hgone : o = none → ∀ k p, p ∈ tE T' k → ¬ p.2 = n := fun hon k p hp hq => by
    have hz : nT v - 1 = 0 := by
      by_cases hz : nT v - 1 = 0
      · exact hz
      · rw [if_neg hz] at ho; rw [hon] at ho; cases ho
    have hk48 : k < 48 := Nat.lt_of_not_le fun q => by
      have := hsub k p hp
      simp [tE, h48 k q] at this
    have := cn_pos (T := T') (n := n) (d := k) (s := p.1) 48 hk48 (by rw [← hq]; exact hp)
    omega
  have tnone : ∀ m, ¬ m = n → ¬ T m = none → ¬ T' m = none := fun m h1 hmm => by
    by_cases h2 : m = d
    · rw [h2, td]; simp
    · rw [to m h1 h2]; exact hmm
  have hpt : ∀ k p, p ∈ tE T' k → ¬ T p.2 = none → ¬ T' p.2 = none := fun k p hp hx => by
    by_cases h1 : p.2 = n
    · rw [h1, tn]
      intro q
      exact hgone q k p hp h1
    · exact tnone _ h1 hx
  have hkT : ∀ m, ¬ m = n → tK T' m = tK T m := fun m h1 => by
    by_cases h2 : m = d
    · rw [h2, tK_some td, tK_some hTd]; rfl
    · simp only [tK]; rw [to m h1 h2]
  refine ⟨fun m hm => ?_, ⟨hh.1, by rw [hkT here (fun q => hnh q.symm)]; exact hh.2⟩, ⟨by rw [hkT 0 (fun q => hn0 q.symm)]; exact h0.1, ?_⟩, fun m w hm' => ?_, ρ, fun m w hm' hk hm0 => ?_⟩
  · rw [to m (by omega) (by omega)]; exact h48 m hm
  · by_cases h2 : 0 = d
    · rw [← h2] at td hTd
      rw [tA_some td]; have := h0.2; rw [tA_some hTd] at this; exact this
    · simp only [tA]; rw [to 0 (fun q => hn0 q.symm) h2]; exact h0.2
  · by_cases h1 : m = n
    · subst h1
      rw [tn, ← ho] at hm'
      split at hm'
      · cases hm'
      · rename_i hz
        cases hm'
        refine ⟨v1, v2, v3, v4, v5, v6, fun p hp => by rw [show nE (vT v (nT v - 1)) = [] from hne] at hp; simp at hp, v8, v9, v10, fun _ => ?_, fun hk q => ?_⟩
        · show nT v - 1 = _; omega
        · have := (v12 hk q).1
          omega
    · by_cases h2 : m = d
      · subst h2
        rw [td] at hm'; cases hm'
        refine ⟨d1, fun q => absurd hkd q, d3, d4, delE_srt d5, ?_, fun p hp => ?_, d8, d9, d10, fun q => ?_, fun hk q => ?_⟩
        · have := delE_len hu hm; show (delE (nE vd) s).length ≤ 12; omega
        · have hp' : p ∈ delE (nE vd) s := hp
          have hp2 : p ∈ nE vd := (List.mem_filter.mp hp').1
          exact ⟨(d7 p hp2).1, (d7 p hp2).2.1, hpt m p (by rw [tEd]; exact hp') (d7 p hp2).2.2⟩
        · have := hcn m; rw [if_neg h1] at this; show nT vd = _; rw [d11 q]; omega
        · obtain ⟨y1, s', y2⟩ := d12 hk q
          have := hcn m; rw [if_neg h1] at this
          exact ⟨by omega, s', hkeep _ _ _ h1 y2⟩
      · rw [to m h1 h2] at hm'
        obtain ⟨w1, w2, w3, w4, w5, w6, w7, w8, w9, w10, w11, w12⟩ := hN m w hm'
        refine ⟨w1, w2, w3, w4, w5, w6, fun p hp => ⟨(w7 p hp).1, (w7 p hp).2.1, hpt m p (by rw [tEo m h2, tE_some hm']; exact hp) (w7 p hp).2.2⟩, w8, w9, w10, fun q => ?_, fun hk q => ?_⟩
        · have := hcn m; rw [if_neg h1] at this; rw [w11 q]; omega
        · obtain ⟨y1, s', y2⟩ := w12 hk q
          have := hcn m; rw [if_neg h1] at this
          exact ⟨by omega, s', hkeep _ _ _ h1 y2⟩
  · by_cases h1 : m = n
    · subst h1
      rw [tn, ← ho] at hm'
      split at hm'
      · cases hm'
      · rename_i hz
        cases hm'
        exact hρ m v hTn hk hm0
    · by_cases h2 : m = d
      · subst h2
        rw [td] at hm'; cases hm'
        exact hρ m vd hTd hk hm0
      · rw [to m h1 h2] at hm'
        exact hρ m w hm' hk hm0
theorem wf_B {T : aT} {here n : Nat} {v : aN} {b : Int} (h : wf T here) (hTn : T n = some v) (hk : nK v = 0) (hb : 0 ≤ b ∧ b ≤ 7) : wf (ud T n (some (vB v b))) here := by
  obtain ⟨h48, hh, h0, hN, ρ, hρ⟩ := h
  have hto : ∀ m, ¬ m = n → ud T n (some (vB v b)) m = T m := fun m hm => ud_n hm
  have htE : ∀ k, tE (ud T n (some (vB v b))) k = tE T k := fun k => by
    by_cases hk : k = n
    · rw [hk, tE_some (ud_s (T := T) (n := n) (o := some (vB v b))), tE_some hTn]; rfl
    · simp only [tE]; rw [hto k hk]
  have htK : ∀ k, tK (ud T n (some (vB v b))) k = tK T k := fun k => by
    by_cases hk : k = n
    · rw [hk, tK_some (ud_s (T := T) (n := n) (o := some (vB v b))), tK_some hTn]; rfl
    · simp only [tK]; rw [hto k hk]
  have hcn : ∀ m N, cn (ud T n (some (vB v b))) m N = cn T m N := by
    intro m N
    induction N with
    | zero => rfl
    | succ N ih => simp only [cn]; rw [ih, htE]
  have hnn : ∀ m, ¬ T m = none → ¬ ud T n (some (vB v b)) m = none := fun m hm => by
    by_cases hk : m = n
    · rw [hk, ud_s]; simp
    · rw [hto m hk]; exact hm
  have hback : ∀ m w, ud T n (some (vB v b)) m = some w → ∃ w', T m = some w' ∧ nK w' = nK w ∧ nA w' = nA w := fun m w hm => by
    by_cases hk : m = n
    · subst hk; rw [ud_s] at hm; cases hm; exact ⟨v, hTn, rfl, rfl⟩
    · rw [hto m hk] at hm; exact ⟨w, hm, rfl, rfl⟩
  refine ⟨fun m hm => ?_, ⟨hh.1, by rw [htK]; exact hh.2⟩, ⟨by rw [htK]; exact h0.1, ?_⟩, fun m w hm => ?_, ρ, fun m w hm hk hm0 => ?_⟩
  · rw [hto m (fun q => by rw [q] at hm; rw [h48 n hm] at hTn; cases hTn)]; exact h48 m hm
  · by_cases hq : 0 = n
    · rw [← hq] at hTn ⊢
      rw [tA_some (ud_s (T := T) (n := 0) (o := some (vB v b)))]; have := h0.2; rw [tA_some hTn] at this; exact this
    · simp only [tA]; rw [hto 0 hq]; exact h0.2
  · have key : ∀ w', T m = some w' → nK w' = nK w → nZ w' = nZ w → nD w' = nD w → nX w' = nX w → nE w' = nE w → nT w' = nT w → nA w' = nA w → (0 ≤ nB w ∧ nB w ≤ 7) → (¬ nK w = 0 → nB w = 0) → wfN (ud T n (some (vB v b))) m w := by
      intro w' hw e1 e2 e3 e4 e5 e6 e7 e8 e9
      obtain ⟨w1, w2, w3, w4, w5, w6, w7, w8, w9, w10, w11, w12⟩ := hN m w' hw
      rw [e1] at w1 w2 w3 w12; rw [e2, e3] at w10; rw [e4] at w3 w4; rw [e5] at w2 w5 w6 w7; rw [e6] at w11; rw [e7] at w8 w12
      exact ⟨w1, fun q => ⟨(w2 q).1, e9 q⟩, w3, w4, w5, w6, fun p hp => ⟨(w7 p hp).1, (w7 p hp).2.1, hnn _ (w7 p hp).2.2⟩, w8, e8, w10, fun q => by rw [hcn]; exact w11 q, fun hk q => by
        obtain ⟨y1, s', y2⟩ := w12 hk q
        exact ⟨by rw [hcn]; exact y1, s', by rw [htE]; exact y2⟩⟩
    by_cases hq : m = n
    · subst hq
      rw [ud_s] at hm; cases hm
      exact key v hTn rfl rfl rfl rfl rfl rfl rfl hb (fun q => absurd hk q)
    · rw [hto m hq] at hm
      have hw := hN m w hm
      exact key w hm rfl rfl rfl rfl rfl rfl rfl hw.2.2.2.2.2.2.2.2.1 (fun q => (hw.2.1 q).2)
  · obtain ⟨w', y1, y2, y3⟩ := hback m w hm
    rw [← y3]; exact hρ m w' y1 (by rw [y2]; exact hk) hm0
theorem wf_go {T : aT} {here n : Nat} (h : wf T here) (hn : n < 48) (hk : tK T n = 0) : wf T n := ⟨h.1, ⟨hn, hk⟩, h.2.2⟩
/-- the tree at the beginning -/
def T0 : aT := fun n => if n = 0 then some ((0, 0, 0), (7, 1, 0), [], []) else none
theorem wf_0 : wf T0 0 := by
  have h0 : T0 0 = some ((0, 0, 0), (7, 1, 0), [], []) := rfl
  have hn : ∀ n, ¬ n = 0 → T0 n = none := fun n h => by simp [T0, h]
  refine ⟨fun n h => hn n (by omega), ⟨by omega, rfl⟩, ⟨rfl, rfl⟩, fun n v h => ?_, fun _ => 0, fun n v h hk h0' => ?_⟩
  · by_cases hq : n = 0
    · subst hq
      rw [h0] at h; cases h
      exact ⟨Or.inl rfl, fun q => absurd rfl q, ⟨fun q => by simp [nK] at q, fun _ => rfl⟩, ⟨fun c hc => by simp [nX] at hc, by simp [nX]⟩, List.Pairwise.nil, by simp [nE], fun p hp => by simp [nE] at hp, by simp [nA], by simp [nB], by simp [nZ, nD], fun q => absurd rfl q, fun _ q => absurd rfl q⟩
    · rw [hn n hq] at h; cases h
  · rw [hn n h0'] at h; cases h
