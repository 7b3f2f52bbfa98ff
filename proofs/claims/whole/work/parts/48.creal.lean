/-! real of the class -/
def PB (g : Nat) (h : mH) (P : List Int) : Prop := hty h g = some (6, 3) ∧ hvr h g 0 = some (g + 1) ∧ hty h (g + 1) = some (21, 1500) ∧ hvi h g 2 = 1500 - (P.length : Int) ∧ P.length ≤ 1500 ∧ ro h (g + 1) (1500 - P.length) P ∧ bd P
theorem c_pageFront {G : Nat → Nat} {d g e : Nat} {h : mH} {C : mQ} {X : mX} {P s : List Int} {n : Nat} (H : PB g h P) (he : EN h e (s, n)) (hl : P.length + s.length + 1 ≤ 1500)
    (hC : ∀ h', chI (fun a => a = g ∨ a = g + 1) h h' → PB g h' (47 :: s ++ P) → C none h') :
    callG (wp G) d 45 0 0 3 [.inr (.inl (some g)), .inr (.inl (some e))] h C X := by
  obtain ⟨p1, p2, p3, p4, p5, p6, p7⟩ := H
  obtain ⟨e1, e2, e3, e4, e5, b, e6, e7, e8⟩ := he
  simp only at e2 e3 e6 e7 e8
  obtain ⟨F, hF⟩ : ∃ F, F + s.length + 1 + P.length = 1500 := ⟨1500 - (s.length + 1 + P.length), by omega⟩
  have f1 : 1500 - (P.length : Int) = ((F + s.length + 1 : Nat) : Int) := by omega
  have f2 : ((F + s.length + 1 : Nat) : Int) - (s.length : Int) = ((F + 1 : Nat) : Int) := by omega
  have f3 : ((F + s.length + 1 : Nat) : Int) - ((s.length : Int) + 1) = (F : Int) := by omega
  have f4 : ¬ ((F + s.length + 1 : Nat) : Int) < (s.length : Int) + 1 := by omega
  have f5 : ((F + 1 : Nat) : Int).toNat = F + 1 := by omega
  have hge : ¬ g = e := fun q => by rw [q, e1] at p1; cases p1
  have hgb : ¬ b = g + 1 := fun q => by rw [q, p3] at e7; injection e7 with e7; injection e7 with e7 e8; omega
  rw [f1] at p4
  have hl1 : (47 :: s ++ P).length = s.length + 1 + P.length := by simp; omega
  have hfin : PB g (hsetI (hsetI (hcpy h b 0 (g + 1) (F + 1) s.length) g 2 (F : Int)) (g + 1) F 47) (47 :: s ++ P) := by
    refine ⟨p1, p2, p3, by rw [hl1]; simp [hty_I, hvi_I, hvr_I, hvl_I, hsz_I, hty_R, hvi_R, hvr_R, hvl_R, hsz_R, hty_L, hvi_L, hvr_L, hvl_L, hsz_L, hty_P, hvi_P, hvr_P, hvl_P, hsz_P, hty_C, hvi_C, hvr_C, hvl_C, hsz_C]; omega, by omega, ?_, ?_⟩
    · rw [hl1, show 1500 - (s.length + 1 + P.length) = F by omega]
      intro i hi
      rw [hl1] at hi
      rw [List.cons_append]
      by_cases h0 : i = 0
      · subst h0; simp [hty_I, hvi_I, hvr_I, hvl_I, hsz_I, hty_R, hvi_R, hvr_R, hvl_R, hsz_R, hty_L, hvi_L, hvr_L, hvl_L, hsz_L, hty_P, hvi_P, hvr_P, hvl_P, hsz_P, hty_C, hvi_C, hvr_C, hvl_C, hsz_C, lf]
      · obtain ⟨j, rfl⟩ : ∃ j, i = j + 1 := ⟨i - 1, by omega⟩
        have hlf : lf (47 :: (s ++ P)) (j + 1) = lf (s ++ P) j := by simp [lf]
        rw [hlf]
        rw [hvi_I, if_neg (by omega), hvi_I, if_neg (by omega), hvi_C]
        by_cases hj : j < s.length
        · rw [if_pos (by omega), lf_app_l hj, show 0 + (F + (j + 1) - (F + 1)) = 0 + j by omega]
          exact e8 j hj
        · rw [if_neg (by omega), lf_app_r (by omega)]
          have := p6 (j - s.length) (by omega)
          rw [show 1500 - P.length + (j - s.length) = F + (j + 1) by omega] at this
          exact this
    · intro c hc
      rw [List.cons_append] at hc
      rcases List.mem_cons.mp hc with q | q
      · omega
      · exact bd_app e2 p7 c q
  have hz := hC _ (chI_trans (chI_trans (chI_cpy (Or.inr rfl)) (chI_set (Or.inl rfl))) (chI_set (Or.inr rfl))) hfin
  refine ⟨C, fun _ _ => False, ?_, fun _ _ q => q, fun _ _ q => q.elim⟩
  (repeat' (first | with_reducible assumption | (refine And.intro ?_ ?_) | (with_reducible intro _) | (simp [wp_eq, wpE, mk_X6_putInFront, mg, mc_X6_putInFront, lget, lset, popN, cats, rcv, entL, isArr, kC_s, kC_n, st1, st2, st3, st4, st5, st6, st7, st8, st9, st10, st11, st12, st13, st14, st15, st16, st17, st18, st19, st20, st21, st22, st23, st24, st25, st26, st27, st28, st29, st30, st31, st32, st33, st34, st35, st36, st37, st38, st39, st40, st41, st42, st43, st44, st45, st46, st47, st48, st49, st50, st51, st52, st53, st54, st55, st56, st57, st58, st59, st60, st61, st62, st63, st64, st65, st66, st67, st68, st69, st70, st71, st72, st73, st74, st75, st76, st77, st78, st79, st80, st81, st82, st83, st84, st85, st86, st87, st88, st89, st90, st91, -Int.natCast_add, p1, p2, p3, p4, e1, e6, e7, f2, f3, f4, f5, inR, hty_I, hvi_I, hvr_I, hvl_I, hsz_I, hty_R, hvi_R, hvr_R, hvl_R, hsz_R, hty_L, hvi_L, hvr_L, hvl_L, hsz_L, hty_P, hvi_P, hvr_P, hvl_P, hsz_P, hty_C, hvi_C, hvr_C, hvl_C, hsz_C]))) <;> (try (first | omega | exact hz))
theorem c_moveToFront {G : Nat → Nat} {d g : Nat} {h : mH} {C : mQ} {X : mX} {P : List Int} (H : PB g h P)
    (hC : ∀ h', chI (fun a => a = g ∨ a = g + 1) h h' → PG g h' (if P = [] then [47] else P) → C none h') :
    callG (wp G) d 46 0 0 1 [.inr (.inl (some g))] h C X := by
  obtain ⟨p1, p2, p3, p4, p5, p6, p7⟩ := H
  refine ⟨C, fun _ _ => False, ?_, fun _ _ q => q, fun _ _ q => q.elim⟩
  by_cases hP : P = []
  · rw [if_pos hP] at hC
    subst hP
    simp at p4
    have hz := hC (hcpy (hsetI (hsetI (hsetI h g 2 1499) (g + 1) 1499 47) g 1 1) (g + 1) 1499 (g + 1) 0 1) (chI_trans (chI_trans (chI_trans (chI_set (Or.inl rfl)) (chI_set (Or.inr rfl))) (chI_set (Or.inl rfl))) (chI_cpy (Or.inr rfl))) ⟨p1, p3, by simp [hty_I, hvi_I, hvr_I, hvl_I, hsz_I, hty_R, hvi_R, hvr_R, hvl_R, hsz_R, hty_L, hvi_L, hvr_L, hvl_L, hsz_L, hty_P, hvi_P, hvr_P, hvl_P, hsz_P, hty_C, hvi_C, hvr_C, hvl_C, hsz_C], by simp, fun i hi => by simp at hi; subst hi; simp [hty_I, hvi_I, hvr_I, hvl_I, hsz_I, hty_R, hvi_R, hvr_R, hvl_R, hsz_R, hty_L, hvi_L, hvr_L, hvl_L, hsz_L, hty_P, hvi_P, hvr_P, hvl_P, hsz_P, hty_C, hvi_C, hvr_C, hvl_C, hsz_C, lf], fun c hc => by simp at hc; omega⟩
    (repeat' (first | with_reducible assumption | (refine And.intro ?_ ?_) | (with_reducible intro _) | (simp [wp_eq, wpE, mk_X6_moveToFront, mg, mc_X6_moveToFront, lget, lset, popN, cats, rcv, entL, isArr, kC_s, kC_n, st1, st2, st3, st4, st5, st6, st7, st8, st9, st10, st11, st12, st13, st14, st15, st16, st17, st18, st19, st20, st21, st22, st23, st24, st25, st26, st27, st28, st29, st30, st31, st32, st33, st34, st35, st36, st37, st38, st39, st40, st41, st42, st43, st44, st45, st46, st47, st48, st49, st50, st51, st52, st53, st54, st55, st56, st57, st58, st59, st60, st61, st62, st63, st64, st65, st66, st67, st68, st69, st70, st71, st72, st73, st74, st75, st76, st77, st78, st79, st80, st81, st82, st83, st84, st85, st86, st87, st88, st89, st90, st91, p1, p2, p3, p4, inR, hty_I, hvi_I, hvr_I, hvl_I, hsz_I, hty_R, hvi_R, hvr_R, hvl_R, hsz_R, hty_L, hvi_L, hvr_L, hvl_L, hsz_L, hty_P, hvi_P, hvr_P, hvl_P, hsz_P, hty_C, hvi_C, hvr_C, hvl_C, hsz_C]))) <;> (try (first | omega | exact hz))
  · rw [if_neg hP] at hC
    have hl : 0 < P.length := Nat.pos_of_ne_zero (fun q => hP (List.length_eq_zero_iff.mp q))
    obtain ⟨F, hF⟩ : ∃ F, F + P.length = 1500 := ⟨1500 - P.length, by omega⟩
    have f1 : 1500 - (P.length : Int) = (F : Int) := by omega
    have f2 : 1500 - (F : Int) = (P.length : Int) := by omega
    have f3 : (F : Int) < 1500 := by omega
    rw [f1] at p4
    rw [show 1500 - P.length = F by omega] at p6
    have hz := hC (hcpy (hsetI h g 1 (P.length : Int)) (g + 1) F (g + 1) 0 P.length) (chI_trans (chI_set (Or.inl rfl)) (chI_cpy (Or.inr rfl))) ⟨p1, p3, by simp [hty_I, hvi_I, hvr_I, hvl_I, hsz_I, hty_R, hvi_R, hvr_R, hvl_R, hsz_R, hty_L, hvi_L, hvr_L, hvl_L, hsz_L, hty_P, hvi_P, hvr_P, hvl_P, hsz_P, hty_C, hvi_C, hvr_C, hvl_C, hsz_C], p5, fun i hi => by rw [hvi_C, if_pos (by omega), hvi_I, if_neg (by omega), show F + (0 + i - 0) = F + i by omega]; exact p6 i hi, p7⟩
    (repeat' (first | with_reducible assumption | (refine And.intro ?_ ?_) | (with_reducible intro _) | (simp [wp_eq, wpE, mk_X6_moveToFront, mg, mc_X6_moveToFront, lget, lset, popN, cats, rcv, entL, isArr, kC_s, kC_n, st1, st2, st3, st4, st5, st6, st7, st8, st9, st10, st11, st12, st13, st14, st15, st16, st17, st18, st19, st20, st21, st22, st23, st24, st25, st26, st27, st28, st29, st30, st31, st32, st33, st34, st35, st36, st37, st38, st39, st40, st41, st42, st43, st44, st45, st46, st47, st48, st49, st50, st51, st52, st53, st54, st55, st56, st57, st58, st59, st60, st61, st62, st63, st64, st65, st66, st67, st68, st69, st70, st71, st72, st73, st74, st75, st76, st77, st78, st79, st80, st81, st82, st83, st84, st85, st86, st87, st88, st89, st90, st91, p1, p2, p3, p4, f2, f3, show F < 1500 by omega, inR, hty_I, hvi_I, hvr_I, hvl_I, hsz_I, hty_R, hvi_R, hvr_R, hvl_R, hsz_R, hty_L, hvi_L, hvr_L, hvl_L, hsz_L, hty_P, hvi_P, hvr_P, hvl_P, hsz_P, hty_C, hvi_C, hvr_C, hvl_C, hsz_C]))) <;> (try (first | omega | exact hz))
theorem CS_page {c : Nat} {h h' : mH} {L : List Int} {T : aT} {here : Nat} {O O' : List Int} {cp bad : Int} (H : CS c h L T here O cp bad) (hp : PG (c + 12) h' O') (q : chI (fun a => a = c + 12 ∨ a = c + 12 + 1) h h') : CS c h' L T here O' cp bad := by
  obtain ⟨h1, h2, h3, h4, h5, h6, h7, h8, h9, h10⟩ := H
  obtain ⟨p1, p2, p3, p4, p5, p6⟩ := h6
  have hf : ∀ x, (x = c + 12 ∨ x = c + 12 + 1) → frn (hty h x) := fun x hx => by
    rcases hx with rfl | rfl
    · rw [p1]; simp [frn]
    · rw [p2]; simp [frn]; omega
  have q' := ch_ofI q
  obtain ⟨⟨a1, a2, a3, a4, a5, a6, a7⟩, ⟨b1, b2, b3, b4, b5⟩, b6⟩ := h2
  refine ⟨CF_chI q h1, ⟨LN_ch q ⟨a1, a2, a3, a4, a5, a6, a7⟩, ⟨b1, by rw [q.2.2.2.2 _ _ (by omega)]; exact b2, fun i hi => by rw [q.2.2.2.2 _ _ (by omega)]; exact b3 i hi, by rw [q.2.2.2.2 _ _ (by omega)]; exact b4, fun k hk => by rw [q.2.2.2.2 _ _ (by omega), q.2.2.2.2 _ _ (by omega)]; exact b5 k hk⟩, b6⟩, TR_ch q' hf h3, ⟨by rw [q.2.1]; exact h4.1, by rw [q.2.2.1]; exact h4.2.1, by rw [q.2.2.1]; exact h4.2.2.1, by rw [q.2.1]; exact h4.2.2.2⟩, TI_ex (ex_ch q') hf h3 h5, hp, by rw [q.2.2.2.2 _ _ (by omega)]; exact h7, by rw [q.2.2.2.2 _ _ (by omega)]; exact h8, fsh_ch q' h9, h10⟩
/-- the state while the page is written from its back -/
def CSb (c : Nat) (h : mH) (L : List Int) (T : aT) (here : Nat) (cp bad : Int) (P : List Int) : Prop := CF c h ∧ LI (c + 1) h L ∧ TR (c + 5) h T here ∧ WY (c + 10) (c + 5) h ∧ TI (c + 5) h T ∧ PB (c + 12) h P ∧ hvi h (c + 19) 8 = cp ∧ hvi h c 6 = bad ∧ fsh h ∧ wf T here
theorem CSb_of {c : Nat} {h h' : mH} {L : List Int} {T : aT} {here : Nat} {cp bad : Int} {P P' : List Int} (H : CSb c h L T here cp bad P) (hp : PB (c + 12) h' P') (q : chI (fun a => a = c + 12 ∨ a = c + 12 + 1) h h') : CSb c h' L T here cp bad P' := by
  obtain ⟨h1, h2, h3, h4, h5, h6, h7, h8, h9, h10⟩ := H
  have p1 := h6.1
  have p2 := h6.2.2.1
  have hf : ∀ x, (x = c + 12 ∨ x = c + 12 + 1) → frn (hty h x) := fun x hx => by
    rcases hx with rfl | rfl
    · rw [p1]; simp [frn]
    · rw [p2]; simp [frn]; omega
  have q' := ch_ofI q
  obtain ⟨⟨a1, a2, a3, a4, a5, a6, a7⟩, ⟨b1, b2, b3, b4, b5⟩, b6⟩ := h2
  refine ⟨CF_chI q h1, ⟨LN_ch q ⟨a1, a2, a3, a4, a5, a6, a7⟩, ⟨b1, by rw [q.2.2.2.2 _ _ (by omega)]; exact b2, fun i hi => by rw [q.2.2.2.2 _ _ (by omega)]; exact b3 i hi, by rw [q.2.2.2.2 _ _ (by omega)]; exact b4, fun k hk => by rw [q.2.2.2.2 _ _ (by omega), q.2.2.2.2 _ _ (by omega)]; exact b5 k hk⟩, b6⟩, TR_ch q' hf h3, ⟨by rw [q.2.1]; exact h4.1, by rw [q.2.2.1]; exact h4.2.1, by rw [q.2.2.1]; exact h4.2.2.1, by rw [q.2.1]; exact h4.2.2.2⟩, TI_ex (ex_ch q') hf h3 h5, hp, by rw [q.2.2.2.2 _ _ (by omega)]; exact h7, by rw [q.2.2.2.2 _ _ (by omega)]; exact h8, fsh_ch q' h9, h10⟩
theorem CSb_end {c : Nat} {h h' : mH} {L : List Int} {T : aT} {here : Nat} {cp bad : Int} {P O : List Int} (H : CSb c h L T here cp bad P) (hp : PG (c + 12) h' O) (q : chI (fun a => a = c + 12 ∨ a = c + 12 + 1) h h') : CS c h' L T here O cp bad := by
  obtain ⟨h1, h2, h3, h4, h5, h6, h7, h8, h9, h10⟩ := H
  have p1 := h6.1
  have p2 := h6.2.2.1
  have hf : ∀ x, (x = c + 12 ∨ x = c + 12 + 1) → frn (hty h x) := fun x hx => by
    rcases hx with rfl | rfl
    · rw [p1]; simp [frn]
    · rw [p2]; simp [frn]; omega
  have q' := ch_ofI q
  obtain ⟨⟨a1, a2, a3, a4, a5, a6, a7⟩, ⟨b1, b2, b3, b4, b5⟩, b6⟩ := h2
  refine ⟨CF_chI q h1, ⟨LN_ch q ⟨a1, a2, a3, a4, a5, a6, a7⟩, ⟨b1, by rw [q.2.2.2.2 _ _ (by omega)]; exact b2, fun i hi => by rw [q.2.2.2.2 _ _ (by omega)]; exact b3 i hi, by rw [q.2.2.2.2 _ _ (by omega)]; exact b4, fun k hk => by rw [q.2.2.2.2 _ _ (by omega), q.2.2.2.2 _ _ (by omega)]; exact b5 k hk⟩, b6⟩, TR_ch q' hf h3, ⟨by rw [q.2.1]; exact h4.1, by rw [q.2.2.1]; exact h4.2.1, by rw [q.2.2.1]; exact h4.2.2.1, by rw [q.2.1]; exact h4.2.2.2⟩, TI_ex (ex_ch q') hf h3 h5, hp, by rw [q.2.2.2.2 _ _ (by omega)]; exact h7, by rw [q.2.2.2.2 _ _ (by omega)]; exact h8, fsh_ch q' h9, h10⟩
theorem real_loop {G : Nat → Nat} {d c : Nat} {C : mQ} {X : mX} {L : List Int} {T : aT} {here : Nat} {cp bad : Int} {x1 : Option mV} (hd : 2 ≤ d) : ∀ (f n t : Nat) (P : List Int) (h : mH) (x4 : Option mV), f + t ≤ 47 → rch T f n → tK T n = 0 → CSb c h L T here cp bad P → P.length + 15 * f ≤ 1500 →
    (∀ h' x2 x3 x4, CSb c h' L T here cp bad (ups T f n ++ P) → wp G d 79 116 [some (.inr (.inl (some c))), x1, x2, x3, x4] [] h' 0 0 C X) →
    wp G d 79 100056 [some (.inr (.inl (some c))), x1, some (.inl (n : Int)), some (.inl (t : Int)), x4] [] h 0 0 C X := by
  have hd0 : (0 < d) = True := eq_true (by omega)
  intro f
  induction f with
  | zero =>
    intro n t P h x4 hft hr hk H hl hC
    have hn0 : n = 0 := hr
    subst hn0
    have hz := hC h (some (.inl 0)) (some (.inl (t : Int))) x4 (by simpa [ups] using H)
    have ht : (t : Int) < 48 := by omega
    rw [wp_hd]
    (repeat' (first | with_reducible assumption | (refine And.intro ?_ ?_) | (with_reducible intro _) | (simp [wp_ne 116, wpE, mk_X10_real, mg, mc_X10_real, lget, lset, popN, cats, rcv, entL, isArr, kC_s, kC_n, st1, st2, st3, st4, st5, st6, st7, st8, st9, st10, st11, st12, st13, st14, st15, st16, st17, st18, st19, st20, st21, st22, st23, st24, st25, st26, st27, st28, st29, st30, st31, st32, st33, st34, st35, st36, st37, st38, st39, st40, st41, st42, st43, st44, st45, st46, st47, st48, st49, st50, st51, st52, st53, st54, st55, st56, st57, st58, st59, st60, st61, st62, st63, st64, st65, st66, st67, st68, st69, st70, st71, st72, st73, st74, st75, st76, st77, st78, st79, st80, st81, st82, st83, st84, st85, st86, st87, st88, st89, st90, st91, ht, show t < 48 by omega]))) <;> (try (first | omega | exact hz))
  | succ f ih =>
    intro n t P h x4 hft hr hk H hl hC
    have ht : (t : Int) < 48 := by omega
    simp only [ups] at hC
    rw [wp_hd]
    by_cases h0 : n = 0
    · subst h0
      rw [if_pos rfl] at hC
      have hz := hC h (some (.inl 0)) (some (.inl (t : Int))) x4 (by simpa using H)
      (repeat' (first | with_reducible assumption | (refine And.intro ?_ ?_) | (with_reducible intro _) | (simp [wp_ne 116, wpE, mk_X10_real, mg, mc_X10_real, lget, lset, popN, cats, rcv, entL, isArr, kC_s, kC_n, st1, st2, st3, st4, st5, st6, st7, st8, st9, st10, st11, st12, st13, st14, st15, st16, st17, st18, st19, st20, st21, st22, st23, st24, st25, st26, st27, st28, st29, st30, st31, st32, st33, st34, st35, st36, st37, st38, st39, st40, st41, st42, st43, st44, st45, st46, st47, st48, st49, st50, st51, st52, st53, st54, st55, st56, st57, st58, st59, st60, st61, st62, st63, st64, st65, st66, st67, st68, st69, st70, st71, st72, st73, st74, st75, st76, st77, st78, st79, st80, st81, st82, st83, st84, st85, st86, st87, st88, st89, st90, st91, ht, show t < 48 by omega]))) <;> (try (first | omega | exact hz))
    · rw [if_neg h0] at hC
      have HH := H
      obtain ⟨h1, h2, h3, h4, h5, h6, h7, h8, h9, h10⟩ := HH
      obtain ⟨v, hT, hkv⟩ := tK_ge hk
      have hn := wf_lt h10 hT
      obtain ⟨a, e, s, z1, z2, z3, z4⟩ := h5 n v hn hT hkv h0
      obtain ⟨o1, o2⟩ := one_tie h10 hT hkv h0 z4
      obtain ⟨m1, m2⟩ := nmO_ok h10 hk h0
      have hb := isNm_b m1
      rw [← o2] at hb
      obtain ⟨a', y1, y2⟩ := h3.2.2.2.2.2.2.1 n v hn hT
      rw [z1] at y1; cases y1
      have y3 := y2.1
      have y4 : hvi h a 8 = (nA v : Int) := y2.2.2.2.2.2.2.2.2.2.1
      have x1 : hty h c = some (10, 7) := h1.1 (0, 10, 7) (by decide)
      have x2 : hvr h c 1 = some (c + 5) := h1.2 (0, 1, 5) (by decide)
      have x3 : hvr h c 3 = some (c + 12) := h1.2 (0, 3, 12) (by decide)
      have t1 := h3.1
      have g1 := h6.1
      have hn0' : ¬ (n : Int) = 0 := by omega
      rw [tA_some hT] at hC m2
      have hcp : ∀ {C : mQ} {X : mX}, (∀ h', chI (fun a => a = c + 12 ∨ a = c + 12 + 1) h h' → PB (c + 12) h' (47 :: s ++ P) → C none h') → callG (wp G) d 45 0 0 3 [.inr (.inl (some (c + 12))), .inr (.inl (some e))] h C X := fun {C X} q => c_pageFront h6 z3 (by omega) q
      (repeat' (first | with_reducible assumption | (refine c_atN hn h3 ?_) | (refine hcp ?_) | (refine And.intro ?_ ?_) | (with_reducible intro _) | (simp [wp_ne 116, wpE, mk_X10_real, mg, mc_X10_real, lget, lset, popN, cats, rcv, entL, isArr, kC_s, kC_n, st1, st2, st3, st4, st5, st6, st7, st8, st9, st10, st11, st12, st13, st14, st15, st16, st17, st18, st19, st20, st21, st22, st23, st24, st25, st26, st27, st28, st29, st30, st31, st32, st33, st34, st35, st36, st37, st38, st39, st40, st41, st42, st43, st44, st45, st46, st47, st48, st49, st50, st51, st52, st53, st54, st55, st56, st57, st58, st59, st60, st61, st62, st63, st64, st65, st66, st67, st68, st69, st70, st71, st72, st73, st74, st75, st76, st77, st78, st79, st80, st81, st82, st83, st84, st85, st86, st87, st88, st89, st90, st91, x1, x2, x3, t1, g1, hd0, ht, show t < 48 by omega, hn0', h0, z1, z2, y3]))) <;> (try (first | omega | exact hz))
      all_goals
        rename_i zzh zz1 zz2
        have H' := CSb_of H zz2 zz1
        have w1 : hty zzh a = some (5, 10) := by rw [zz1.2.1]; exact y3
        have ha1 : ¬ (a = c + 12 ∨ a = c + 12 + 1) := fun q => by
          rcases q with q | q
          · rw [q, g1] at y3; cases y3
          · rw [q, h6.2.2.1] at y3; cases y3
        have w2 : hvi zzh a 8 = (nA v : Int) := by rw [zz1.2.2.2.2 _ _ ha1]; exact y4
        have hr' : rch T f (nA v) := by have := hr.resolve_left h0; rw [tA_some hT] at this; exact this
        have hz := fun x4 => ih (nA v) (t + 1) (47 :: s ++ P) zzh x4 (by omega) hr' m2 H' (by simp; omega) (fun h' x2 x3 x4 q => hC h' x2 x3 x4 (by rw [o2] at q; simpa using q))
        (repeat' (first | with_reducible assumption | (refine And.intro ?_ ?_) | (with_reducible intro _) | (simp [wp_ne 116, wpE, mk_X10_real, mg, mc_X10_real, lget, lset, popN, cats, rcv, entL, isArr, kC_s, kC_n, st1, st2, st3, st4, st5, st6, st7, st8, st9, st10, st11, st12, st13, st14, st15, st16, st17, st18, st19, st20, st21, st22, st23, st24, st25, st26, st27, st28, st29, st30, st31, st32, st33, st34, st35, st36, st37, st38, st39, st40, st41, st42, st43, st44, st45, st46, st47, st48, st49, st50, st51, st52, st53, st54, st55, st56, st57, st58, st59, st60, st61, st62, st63, st64, st65, st66, st67, st68, st69, st70, st71, st72, st73, st74, st75, st76, st77, st78, st79, st80, st81, st82, st83, st84, st85, st86, st87, st88, st89, st90, st91, w1, w2, inR]))) <;> (try (first | omega | exact hz))
        all_goals exact hz _
theorem p_real {G : Nat → Nat} {d c : Nat} {h : mH} {C : mQ} {X : mX} {L : List Int} {T : aT} {here : Nat} {O : List Int} {cp bad : Int} (hd : 8 ≤ d) (H : CS c h L T here O cp bad) (hC : ∀ h', CS c h' L T here (reO T here L O) cp bad → C (some (.inl (reR T here L))) h') :
    callG (wp G) d 79 0 0 5 [.inr (.inl (some c))] h C X := by
  have x1 : hty h c = some (10, 7) := H.1.1 (0, 10, 7) (by decide)
  have hw := H.2.2.2.2.2.2.2.2.2
  refine cg 7 (by omega) (fun d hd => ?_)
  have hd0 : (0 < d) = True := eq_true (by omega)
  simp [wp_eq, wpE, mk_X10_real, mg, mc_X10_real, lget, lset, popN, cats, rcv, entL, isArr, kC_s, kC_n, st1, st2, st3, st4, st5, st6, st7, st8, st9, st10, st11, st12, st13, st14, st15, st16, st17, st18, st19, st20, st21, st22, st23, st24, st25, st26, st27, st28, st29, st30, st31, st32, st33, st34, st35, st36, st37, st38, st39, st40, st41, st42, st43, st44, st45, st46, st47, st48, st49, st50, st51, st52, st53, st54, st55, st56, st57, st58, st59, st60, st61, st62, st63, st64, st65, st66, st67, st68, st69, st70, st71, st72, st73, st74, st75, st76, st77, st78, st79, st80, st81, st82, st83, st84, st85, st86, st87, st88, st89, st90, st91, x1, hd0]
  refine c_nodeOfWord (k := 0) (fol := true) (by omega) H (fun h1 H1 hcm => ?_)
  have y1 : hty h1 c = some (10, 7) := H1.1.1 (0, 10, 7) (by decide)
  have y2 : hvr h1 c 3 = some (c + 12) := H1.1.2 (0, 3, 12) (by decide)
  have y3 : hvr h1 c 2 = some (c + 10) := H1.1.2 (0, 2, 10) (by decide)
  have y4 : hvr h1 (c + 12) 0 = some (c + 13) := H1.1.2 (12, 0, 13) (by decide)
  obtain ⟨pg1, pg2, -⟩ := H1.2.2.2.2.2.1
  have hres := nwR_res (L := L) (k := 0) (fol := true) hw
  have hdir := fun n => nwR_dir (n := n) (L := L) (k := 0) (fol := true) hw
  have hncm := fun n d s => nwR_cm (n := n) (L := L) (k := 0) (fol := true) (d := d) (s := s) hw
  unfold reR reO at hC
  generalize hq : nwR T here L 0 true = q at *
  obtain ⟨z, cm⟩ := q
  simp only at hC hres ⊢
  rcases hres with hn | ⟨n, hn, he⟩
  · simp only [hn, if_true] at hC
    have hz := hC h1 H1
    (repeat' (first | with_reducible assumption | (refine And.intro ?_ ?_) | (with_reducible intro _) | (simp [wp_eq, wpE, mk_X10_real, mg, mc_X10_real, lget, lset, popN, cats, rcv, entL, isArr, kC_s, kC_n, st1, st2, st3, st4, st5, st6, st7, st8, st9, st10, st11, st12, st13, st14, st15, st16, st17, st18, st19, st20, st21, st22, st23, st24, st25, st26, st27, st28, st29, st30, st31, st32, st33, st34, st35, st36, st37, st38, st39, st40, st41, st42, st43, st44, st45, st46, st47, st48, st49, st50, st51, st52, st53, st54, st55, st56, st57, st58, st59, st60, st61, st62, st63, st64, st65, st66, st67, st68, st69, st70, st71, st72, st73, st74, st75, st76, st77, st78, st79, st80, st81, st82, st83, st84, st85, st86, st87, st88, st89, st90, st91, hn]))) <;> (try (first | omega | exact hz))
  · subst he
    have hn0 : ¬ (n : Int) < 0 := by omega
    simp only [hn0, if_false, Int.toNat_natCast] at hC
    have hcm := (hcm n cm rfl).2
    have q2 : chI (fun a => a = c + 12 ∨ a = c + 12 + 1) h1 (hsetI h1 (c + 12) 2 1500) := chI_set (Or.inl rfl)
    have hPB : PB (c + 12) (hsetI h1 (c + 12) 2 1500) [] := ⟨pg1, y4, pg2, by simp [hty_I, hvi_I, hvr_I, hvl_I, hsz_I, hty_R, hvi_R, hvr_R, hvl_R, hsz_R, hty_L, hvi_L, hvr_L, hvl_L, hsz_L, hty_P, hvi_P, hvr_P, hvl_P, hsz_P, hty_C, hvi_C, hvr_C, hvl_C, hsz_C], by simp, fun i hi => by simp at hi, fun c hc => by simp at hc⟩
    have HB : CSb c (hsetI h1 (c + 12) 2 1500) L T here cp bad [] := by
      have e := CS_page (O' := O) H1 (by
        obtain ⟨p1, p2, p3, p4, p5, p6⟩ := H1.2.2.2.2.2.1
        exact ⟨p1, p2, by simp [hty_I, hvi_I, hvr_I, hvl_I, hsz_I, hty_R, hvi_R, hvr_R, hvl_R, hsz_R, hty_L, hvi_L, hvr_L, hvl_L, hsz_L, hty_P, hvi_P, hvr_P, hvl_P, hsz_P, hty_C, hvi_C, hvr_C, hvl_C, hsz_C]; exact p3, p4, fun i hi => by simp [hty_I, hvi_I, hvr_I, hvl_I, hsz_I, hty_R, hvi_R, hvr_R, hvl_R, hsz_R, hty_L, hvi_L, hvr_L, hvl_L, hsz_L, hty_P, hvi_P, hvr_P, hvl_P, hsz_P, hty_C, hvi_C, hvr_C, hvl_C, hsz_C]; have := p5 i hi; simpa using this, p6⟩) q2
      obtain ⟨g1, g2, g3, g4, g5, g6, g7, g8, g9, g10⟩ := e
      exact ⟨g1, g2, g3, g4, g5, hPB, g7, g8, g9, g10⟩
    have hback : ∀ {C : mQ} {X : mX}, C none (hsetI h1 (c + 12) 2 1500) → callG (wp G) d 44 0 0 1 [.inr (.inl (some (c + 12)))] h1 C X := fun {C X} q => by
      refine ⟨C, fun _ _ => False, ?_, fun _ _ q => q, fun _ _ q => q.elim⟩
      (repeat' (first | with_reducible assumption | (refine And.intro ?_ ?_) | (with_reducible intro _) | (simp [wp_eq, wpE, mk_X6_beginAtBack, mg, mc_X6_beginAtBack, lget, lset, popN, cats, rcv, entL, isArr, kC_s, kC_n, st1, st2, st3, st4, st5, st6, st7, st8, st9, st10, st11, st12, st13, st14, st15, st16, st17, st18, st19, st20, st21, st22, st23, st24, st25, st26, st27, st28, st29, st30, st31, st32, st33, st34, st35, st36, st37, st38, st39, st40, st41, st42, st43, st44, st45, st46, st47, st48, st49, st50, st51, st52, st53, st54, st55, st56, st57, st58, st59, st60, st61, st62, st63, st64, st65, st66, st67, st68, st69, st70, st71, st72, st73, st74, st75, st76, st77, st78, st79, st80, st81, st82, st83, st84, st85, st86, st87, st88, st89, st90, st91, pg1]))) <;> (try (first | omega | exact hz))
    have hend : ∀ (P : List Int) h' x1 x2 x3 x4, CSb c h' L T here cp bad P → (P = rePth T n cm) → wp G d 79 116 [some (.inr (.inl (some c))), x1, x2, x3, x4] [] h' 0 0 C (fun _ _ => False) := by
      intro P h' x1 x2 x3 x4 HP hPe
      have u1 : hty h' c = some (10, 7) := HP.1.1 (0, 10, 7) (by decide)
      have u2 : hvr h' c 3 = some (c + 12) := HP.1.2 (0, 3, 12) (by decide)
      have u3 := HP.2.2.2.2.2.1.1
      simp [wp_eq, wpE, mk_X10_real, mg, mc_X10_real, lget, lset, popN, cats, rcv, entL, isArr, kC_s, kC_n, st1, st2, st3, st4, st5, st6, st7, st8, st9, st10, st11, st12, st13, st14, st15, st16, st17, st18, st19, st20, st21, st22, st23, st24, st25, st26, st27, st28, st29, st30, st31, st32, st33, st34, st35, st36, st37, st38, st39, st40, st41, st42, st43, st44, st45, st46, st47, st48, st49, st50, st51, st52, st53, st54, st55, st56, st57, st58, st59, st60, st61, st62, st63, st64, st65, st66, st67, st68, st69, st70, st71, st72, st73, st74, st75, st76, st77, st78, st79, st80, st81, st82, st83, st84, st85, st86, st87, st88, st89, st90, st91, u1, u2, u3, hd0]
      refine c_moveToFront HP.2.2.2.2.2.1 (fun h2 r1 r2 => ?_)
      have H2 := CSb_end HP r2 r1
      have v1 : hty h2 c = some (10, 7) := H2.1.1 (0, 10, 7) (by decide)
      have v2 : hvr h2 c 3 = some (c + 12) := H2.1.2 (0, 3, 12) (by decide)
      rw [hPe] at H2 r2
      have v3 := r2.1
      have v4 := r2.2.2.1
      have hz := hC h2 H2
      (repeat' (first | with_reducible assumption | (refine And.intro ?_ ?_) | (with_reducible intro _) | (simp [wp_eq, wpE, mk_X10_real, mg, mc_X10_real, lget, lset, popN, cats, rcv, entL, isArr, kC_s, kC_n, st1, st2, st3, st4, st5, st6, st7, st8, st9, st10, st11, st12, st13, st14, st15, st16, st17, st18, st19, st20, st21, st22, st23, st24, st25, st26, st27, st28, st29, st30, st31, st32, st33, st34, st35, st36, st37, st38, st39, st40, st41, st42, st43, st44, st45, st46, st47, st48, st49, st50, st51, st52, st53, st54, st55, st56, st57, st58, st59, st60, st61, st62, st63, st64, st65, st66, st67, st68, st69, st70, st71, st72, st73, st74, st75, st76, st77, st78, st79, st80, st81, st82, st83, st84, st85, st86, st87, st88, st89, st90, st91, v1, v2, v3, v4]))) <;> (try (first | omega | exact hz))
    cases cm with
    | none =>
      have hb : hvr (hsetI h1 (c + 12) 2 1500) (c + 10) 6 = none := hcm
      have hk := hdir n rfl
      have w1 : hty (hsetI h1 (c + 12) 2 1500) (c + 10) = some (9, 7) := HB.2.2.2.1.1
      have u1 : hty (hsetI h1 (c + 12) 2 1500) c = some (10, 7) := HB.1.1 (0, 10, 7) (by decide)
      have u2 : hvr (hsetI h1 (c + 12) 2 1500) c 2 = some (c + 10) := HB.1.2 (0, 2, 10) (by decide)
      have hz := fun x4 => real_loop (G := G) (d := d) (C := C) (X := fun _ _ => False) (x1 := some (.inl (n : Int))) (by omega) 47 n 0 [] _ x4 (by omega) (rch_all hw n hk) hk HB (by simp) (fun h' x2 x3 x4 q => hend _ h' _ _ _ _ q (by simp [rePth]))
      (repeat' (first | with_reducible assumption | (refine hback ?_) | (refine And.intro ?_ ?_) | (with_reducible intro _) | (simp [wp_eq, wpE, mk_X10_real, mg, mc_X10_real, lget, lset, popN, cats, rcv, entL, isArr, kC_s, kC_n, st1, st2, st3, st4, st5, st6, st7, st8, st9, st10, st11, st12, st13, st14, st15, st16, st17, st18, st19, st20, st21, st22, st23, st24, st25, st26, st27, st28, st29, st30, st31, st32, st33, st34, st35, st36, st37, st38, st39, st40, st41, st42, st43, st44, st45, st46, st47, st48, st49, st50, st51, st52, st53, st54, st55, st56, st57, st58, st59, st60, st61, st62, st63, st64, st65, st66, st67, st68, st69, st70, st71, st72, st73, st74, st75, st76, st77, st78, st79, st80, st81, st82, st83, st84, st85, st86, st87, st88, st89, st90, st91, y1, y2, pg1, w1, u1, u2, hb, hd0, hn0]))) <;> (try (first | omega | exact hz))
      all_goals exact hz _
    | some p =>
      obtain ⟨di, s⟩ := p
      obtain ⟨k5, e, k6, ad, vd, ix, hdi, ad1, hTd, hix, hie⟩ := hcm
      have hm : (s, n) ∈ nE vd := List.mem_of_getElem? hix
      have hNd := hw.2.2.2.1 di vd hTd
      have hkd : tK T di = 0 := by
        rw [tK_some hTd]
        by_cases q : nK vd = 0
        · exact q
        · rw [(hNd.2.1 q).1] at hm; simp at hm
      have hnb := isNm_b (hNd.2.2.2.2.2.2.1 _ hm).1
      have hs14 : s.length ≤ 14 := hnb.2.2.1
      obtain ⟨ad', b1, b2⟩ := H1.2.2.1.2.2.2.2.2.2.1 di vd hdi hTd
      rw [ad1] at b1; cases b1
      have hen : EN h1 e (s, n) := by
        obtain ⟨e', c1, c2⟩ := b2.2.2.2.2.2.2.2.2.2.2.2.2.2.2.2 ix _ hix
        rw [hie] at c1; cases c1; exact c2
      have hen2 : EN (hsetI h1 (c + 12) 2 1500) e (s, n) := EN_ex (ex_ch (ch_ofI q2)) (fun x hx => by
        rcases hx with rfl | rfl
        · rw [pg1]; simp
        · rw [pg2]; simp; omega) hen
      have u1 : hty (hsetI h1 (c + 12) 2 1500) c = some (10, 7) := HB.1.1 (0, 10, 7) (by decide)
      have u2 : hvr (hsetI h1 (c + 12) 2 1500) c 2 = some (c + 10) := HB.1.2 (0, 2, 10) (by decide)
      have u3 : hvr (hsetI h1 (c + 12) 2 1500) c 3 = some (c + 12) := HB.1.2 (0, 3, 12) (by decide)
      have u4 : hty (hsetI h1 (c + 12) 2 1500) (c + 10) = some (9, 7) := HB.2.2.2.1.1
      have u5 : hty (hsetI h1 (c + 12) 2 1500) (c + 12) = some (6, 3) := pg1
      have k5' : hvi (hsetI h1 (c + 12) 2 1500) (c + 10) 5 = (di : Int) := by simp [hty_I, hvi_I, hvr_I, hvl_I, hsz_I, hty_R, hvi_R, hvr_R, hvl_R, hsz_R, hty_L, hvi_L, hvr_L, hvl_L, hsz_L, hty_P, hvi_P, hvr_P, hvl_P, hsz_P, hty_C, hvi_C, hvr_C, hvl_C, hsz_C]; exact k5
      have k6' : hvr (hsetI h1 (c + 12) 2 1500) (c + 10) 6 = some e := k6
      generalize hsetI h1 (c + 12) 2 1500 = h2 at *
      have hcp : ∀ {C : mQ} {X : mX}, (∀ h', chI (fun a => a = c + 12 ∨ a = c + 12 + 1) h2 h' → PB (c + 12) h' (47 :: s ++ []) → C none h') → callG (wp G) d 45 0 0 3 [.inr (.inl (some (c + 12))), .inr (.inl (some e))] h2 C X := fun {C X} q => c_pageFront hPB hen2 (by simp; omega) q
      (repeat' (first | with_reducible assumption | (refine hback ?_) | (refine hcp ?_) | (refine And.intro ?_ ?_) | (with_reducible intro _) | (simp [wp_eq, wpE, mk_X10_real, mg, mc_X10_real, lget, lset, popN, cats, rcv, entL, isArr, kC_s, kC_n, st1, st2, st3, st4, st5, st6, st7, st8, st9, st10, st11, st12, st13, st14, st15, st16, st17, st18, st19, st20, st21, st22, st23, st24, st25, st26, st27, st28, st29, st30, st31, st32, st33, st34, st35, st36, st37, st38, st39, st40, st41, st42, st43, st44, st45, st46, st47, st48, st49, st50, st51, st52, st53, st54, st55, st56, st57, st58, st59, st60, st61, st62, st63, st64, st65, st66, st67, st68, st69, st70, st71, st72, st73, st74, st75, st76, st77, st78, st79, st80, st81, st82, st83, st84, st85, st86, st87, st88, st89, st90, st91, y1, y2, pg1, u1, u2, u3, u4, u5, k6', hd0, hn0]))) <;> (try (first | omega | exact hz))
      all_goals
        rename_i zzh zz1 zz2
        have H' := CSb_of HB zz2 zz1
        have w1 : hty zzh c = some (10, 7) := H'.1.1 (0, 10, 7) (by decide)
        have w2 : hvr zzh c 2 = some (c + 10) := H'.1.2 (0, 2, 10) (by decide)
        have w3 := H'.2.2.2.1.1
        have w4 : hvi zzh (c + 10) 5 = (di : Int) := by rw [zz1.2.2.2.2 _ _ (by omega)]; exact k5'
        have hz := fun x4 => real_loop (G := G) (d := d) (C := C) (X := fun _ _ => False) (x1 := some (.inl (n : Int))) (by omega) 47 di 0 (47 :: s ++ []) zzh x4 (by omega) (rch_all hw di hkd) hkd H' (by simp; omega) (fun h' x2 x3 x4 q => hend _ h' _ _ _ _ q (by simp [rePth]))
        (repeat' (first | with_reducible assumption | (refine And.intro ?_ ?_) | (with_reducible intro _) | (simp [wp_eq, wpE, mk_X10_real, mg, mc_X10_real, lget, lset, popN, cats, rcv, entL, isArr, kC_s, kC_n, st1, st2, st3, st4, st5, st6, st7, st8, st9, st10, st11, st12, st13, st14, st15, st16, st17, st18, st19, st20, st21, st22, st23, st24, st25, st26, st27, st28, st29, st30, st31, st32, st33, st34, st35, st36, st37, st38, st39, st40, st41, st42, st43, st44, st45, st46, st47, st48, st49, st50, st51, st52, st53, st54, st55, st56, st57, st58, st59, st60, st61, st62, st63, st64, st65, st66, st67, st68, st69, st70, st71, st72, st73, st74, st75, st76, st77, st78, st79, st80, st81, st82, st83, st84, st85, st86, st87, st88, st89, st90, st91, w1, w2, w3, w4]))) <;> (try (first | omega | exact hz))
        all_goals exact hz _
