/-! PUBLIC METHODS of the class: make, link, tie, drop -/
theorem TR_na {t m a : Nat} {h : mH} {T : aT} {here : Nat} (H : TR t h T here) (hm : m < 48) (ha : hvr h (t + 1) m = some a) : hty h a = some (5, 10) := by
  obtain ⟨t1, t2, t3, t4, t5, t6, t7, t8⟩ := H
  cases hT : T m with
  | none => rw [t6 m hm hT] at ha; cases ha
  | some w =>
    obtain ⟨x, x1, x2⟩ := t7 m w hm hT
    rw [ha] at x1; cases x1; exact x2.1
theorem TI_jn {t d n e : Nat} {h' : mH} {T : aT} {s : List Int} {vd v : aN} (hTd : T d = some vd) (hdn : ¬ d = n) (hTn : T n = some v) (hE : nE v = [])
    (hI : ∀ m w, m < 48 → ¬ m = n → T m = some w → nK w = 0 → ¬ m = 0 → ∃ a e s, hvr h' (t + 1) m = some a ∧ hvr h' a 9 = some e ∧ EN h' e (s, m) ∧ (s, m) ∈ tE T (nA w))
    (hn : ∃ a, hvr h' (t + 1) n = some a ∧ hvr h' a 9 = some e) (he : EN h' e (s, n)) : TI t h' (jnT T d s n v) := by
  have hjn : jnT T d s n v = ud (ud T d (some (vE vd (insE (nE vd) (s, n))))) n (some (vA (vT v (nT v + 1)) d)) := by simp [jnT, addE, hTd]
  rw [hjn]
  generalize hT' : ud (ud T d (some (vE vd (insE (nE vd) (s, n))))) n (some (vA (vT v (nT v + 1)) d)) = T'
  have tn : T' n = some (vA (vT v (nT v + 1)) d) := by rw [← hT', ud_s]
  have td : T' d = some (vE vd (insE (nE vd) (s, n))) := by rw [← hT', ud_n hdn, ud_s]
  have to : ∀ m, ¬ m = n → ¬ m = d → T' m = T m := fun m h1 h2 => by rw [← hT', ud_n h1, ud_n h2]
  have tEd : tE T' d = insE (nE vd) (s, n) := by rw [tE_some td]; rfl
  have hmem : ∀ k p, p ∈ tE T k → p ∈ tE T' k := fun k p hp => by
    by_cases h1 : k = d
    · rw [h1, tEd]; rw [h1, tE_some hTd] at hp
      exact (insE_perm _ _).mem_iff.mpr (List.mem_cons_of_mem _ hp)
    · by_cases h2 : k = n
      · rw [h2, tE_some hTn, hE] at hp; simp at hp
      · simp only [tE] at hp ⊢; rw [to k h2 h1]; exact hp
  intro m w hm hTm hk h0
  by_cases h1 : m = n
  · subst h1
    rw [tn] at hTm; cases hTm
    obtain ⟨a, a1, a2⟩ := hn
    exact ⟨a, e, s, a1, a2, he, by show (s, m) ∈ tE T' d; rw [tEd]; exact (insE_perm _ _).mem_iff.mpr List.mem_cons_self⟩
  · have hb : ∃ w', T m = some w' ∧ nK w' = nK w ∧ nA w' = nA w := by
      by_cases h2 : m = d
      · subst h2; rw [td] at hTm; cases hTm; exact ⟨vd, hTd, rfl, rfl⟩
      · rw [to m h1 h2] at hTm; exact ⟨w, hTm, rfl, rfl⟩
    obtain ⟨w', y1, y2, y3⟩ := hb
    obtain ⟨a, e', s', z1, z2, z3, z4⟩ := hI m w' hm h1 y1 (by rw [y2]; exact hk) h0
    exact ⟨a, e', s', z1, z2, z3, by rw [← y3]; exact hmem _ _ z4⟩
/-- a name laid and a node tied by it -/
theorem c_tieUp {G : Nat → Nat} {d kk pc nx c di n k j : Nat} {h0 h : mH} {C : mQ} {L : List Int} {T T0 : aT} {here : Nat} {O : List Int} {cp bad : Int} {vd v : aN} (H0 : CS c h0 L T0 here O cp bad) (q0 : ex (fun x => hty h0 x = none ∨ nS h0 x) h0 h) (hf : fsh h) (HT : TR (c + 5) h T here)
    (hI : ∀ m w, m < 48 → ¬ m = n → T m = some w → nK w = 0 → ¬ m = 0 → ∃ a e s, hvr h (c + 5 + 1) m = some a ∧ hvr h a 9 = some e ∧ EN h e (s, m) ∧ (s, m) ∈ tE T (nA w))
    (hdi : di < 48) (hn : n < 48) (hdn : ¬ di = n) (hTd : T di = some vd) (hTn : T n = some v) (hE : nE v = []) (hkd : nK vd = 0) (hEd : (nE vd).length < 12) (hnm : isNm (nmL L k) = true) (hv : -1000 ≤ nT v ∧ nT v ≤ 1000) (hw : wf (jnT T di (nmL L k) n v) here)
    {st : List mV} (hd : 4 ≤ d)
    (hC : ∀ h', CS c h' L (jnT T di (nmL L k) n v) here O cp bad → C none h') :
    LI (c + 1) h L ∧ ∀ h1, h1 = hcpy (hpush h 21 (nmL L k).length) (c + 1 + 1) (lS L k) (hsz h) 0 (nmL L k).length → (∀ i, i < (nmL L k).length → hvi h1 (hsz h) i = lf (nmL L k) i) → hty h1 (c + 5) = some (7, 3) ∧ (∀ X, callG (wp G) d 51 1 2 7 [.inr (.inl (some (c + 5))), .inl (di : Int), .inr (.inl (some (hsz h))), .inl (n : Int)] h1 C X) := by
  have q0' : ex (fun x => nS h0 x) h0 h := ex_mono (fun x hx z => z.resolve_left hx) q0
  have hk0 : ∀ x, nS h0 x → yk (hty h0 x) := fun x hx => by
    rcases hx with z | z | z | z
    · exact Or.inr (Or.inr (Or.inl z))
    · exact Or.inr (Or.inr (Or.inr (Or.inl z)))
    · exact Or.inr (Or.inr (Or.inr (Or.inr (Or.inl z))))
    · exact Or.inr (Or.inr (Or.inr (Or.inr (Or.inr z))))
  have hLI := LI_ex q0' hk0 H0.2.1
  refine ⟨hLI, fun h1 he1 hr1 => ?_⟩
  have hnb := isNm_b hnm
  have hmt : nMx vd = 12 := by unfold nMx; rw [if_pos hkd]
  have q1 : ex (fun x => x = hsz h) h h1 := by
    rw [he1]
    exact ex_trans (ex_push hf) (ex_ch (ch_C rfl))
  have hfe : hty h (hsz h) = none := hf _ (Nat.le_refl _)
  have f1 : fsh h1 := by rw [he1]; exact fsh_push hf
  have HT1 := TR_ex q1 (fun x hx => by subst hx; rw [hfe]; simp [frn]) HT
  have hb1 : hty h1 (hsz h) = some (21, (nmL L k).length) := by rw [he1]; simp [hty_I, hvi_I, hvr_I, hvl_I, hsz_I, hty_R, hvi_R, hvr_R, hvl_R, hsz_R, hty_L, hvi_L, hvr_L, hvl_L, hsz_L, hty_P, hvi_P, hvr_P, hvl_P, hsz_P, hty_C, hvi_C, hvr_C, hvl_C, hsz_C]
  refine ⟨HT1.1, fun X => c_Tjoin (by omega) HT1 f1 hdi hn hdn hTd hTn (by omega) hb1 (fun i hi => by rw [Nat.zero_add]; exact hr1 i hi) hnb.1 hnb.2.2.1 hv (fun h2 p1 p2 p3 p4 p5 p6 p7 => ?_)⟩
  refine hC h2 ?_
  have q2 : ex (fun x => hty h0 x = none ∨ nS h0 x) h0 h1 := ex_trans q0 (ex_mono (fun x hx z => ?_) q1)
  · have q3 : ex (fun x => hty h0 x = none ∨ nS h0 x) h0 h2 := by
      refine ex_trans q2 (ex_mono (fun x hx z => ?_) p1)
      by_cases h0x : hty h0 x = none
      · exact Or.inl h0x
      · right
        have := (q2.2 x h0x).1
        unfold nS at z ⊢
        rw [this] at z; exact z
    refine CS_upd H0 q3 (fun x z => z) p2 p4 ?_ hw
    refine TI_jn hTd hdn hTn hE (fun m w hm hmn hTm hk hm0 => ?_) p5 p6
    obtain ⟨a, e, s, z1, z2, z3, z4⟩ := hI m w hm hmn hTm hk hm0
    have ta := TR_na HT hm z1
    have z1' : hvr h1 (c + 5 + 1) m = some a := by
      rw [((q1.2 (c + 5 + 1) (by rw [HT.2.2.1]; simp)).2 (fun q => by have := HT.2.2.1; rw [q, hfe] at this; cases this) _).1]; exact z1
    have z2' : hvr h1 a 9 = some e := by
      rw [((q1.2 a (by rw [ta]; simp)).2 (fun q => by rw [q, hfe] at ta; cases ta) _).1]; exact z2
    obtain ⟨y1, y2⟩ := p7 m a hm hmn z1'
    refine ⟨a, e, s, y1, by rw [y2]; exact z2', ?_, z4⟩
    have z3' := EN_ex q1 (fun x hx => by subst hx; rw [hfe]; simp) z3
    refine EN_ex p1 (fun x hx => ?_) z3'
    rcases hx with z | ⟨k, z⟩ | z | z <;> rw [z] <;> simp
  · subst z; exact absurd hfe hx
