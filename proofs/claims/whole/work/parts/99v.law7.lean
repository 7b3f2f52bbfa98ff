/-! THE LAW: all turns, and the start -/
theorem law_loop {G : Nat → Nat} {n0 b Ln : Nat} {h0 : mH} (hb : b < n0) (hs : hty h0 b = some (50, Ln)) (hL : Ln ≤ 3072) (hg0 : G 0 < n0) (hg1 : hty h0 (G 0) = some (51, 1)) (hg2 : hvi h0 (G 0) 0 = 46) :
    ∀ (n i bc bs : Nat) (H : mH) (s : aQ) (v5 v6 : Option mV), Ln < i + 6 * n + 6 → 9 * n ≤ bc → 352 * n ≤ bs → IC n0 H s → IR n0 H s → IK n0 h0 H →
    wp G 1000 161 100023 [some (.inr (.inl (some b))), some (.inr (.inl (some n0))), some (.inr (.inl (some (n0 + 27)))), some (.inr (.inl (some (n0 + 59)))), some (.inl (i : Int)), v5, v6] [] H bc bs (fun v _ => v = some (.inl 1)) (fun _ _ => False) := by
  intro n
  induction n with
  | zero =>
    intro i bc bs H s v5 v6 h1 h2 h3 hI hR hK
    have S0 := (hK.1 b hb).1.trans hs
    have hx : ((Ln : Int) - 6 < (i : Int)) = True := eq_true (by omega)
    have R0 : inR ((Ln : Int) - 6) = True := eq_true ⟨by omega, by omega⟩
    rw [wp_hd]
    simp [wp_ne 33, wpE, mk_L_law, mg, mc_L_law, lget, lset, popN, cats, rcv, entL, isArr, kC_s, kC_n, st1, st2, st3, st4, st5, st6, st7, st8, st9, st10, st11, st12, st13, st14, st15, st16, st17, st18, st19, st20, st21, st22, st23, st24, st25, st26, st27, st28, st29, st30, st31, st32, st33, st34, st35, st36, st37, st38, st39, st40, st41, st42, st43, st44, st45, st46, st47, st48, st49, st50, st51, st52, st53, st54, st55, st56, st57, st58, st59, st60, st61, st62, st63, st64, st65, st66, st67, st68, st69, st70, st71, st72, st73, st74, st75, st76, st77, st78, st79, st80, st81, st82, st83, st84, st85, st86, st87, st88, st89, st90, st91, S0, R0, hx]
  | succ n ih =>
    intro i bc bs H s v5 v6 h1 h2 h3 hI hR hK
    have S0 := (hK.1 b hb).1.trans hs
    have R0 : inR ((Ln : Int) - 6) = True := eq_true ⟨by omega, by omega⟩
    by_cases hc : (Ln : Int) - 6 < (i : Int)
    · have hx : ((Ln : Int) - 6 < (i : Int)) = True := eq_true hc
      rw [wp_hd]
      simp [wp_ne 33, wpE, mk_L_law, mg, mc_L_law, lget, lset, popN, cats, rcv, entL, isArr, kC_s, kC_n, st1, st2, st3, st4, st5, st6, st7, st8, st9, st10, st11, st12, st13, st14, st15, st16, st17, st18, st19, st20, st21, st22, st23, st24, st25, st26, st27, st28, st29, st30, st31, st32, st33, st34, st35, st36, st37, st38, st39, st40, st41, st42, st43, st44, st45, st46, st47, st48, st49, st50, st51, st52, st53, st54, st55, st56, st57, st58, st59, st60, st61, st62, st63, st64, st65, st66, st67, st68, st69, st70, st71, st72, st73, st74, st75, st76, st77, st78, st79, st80, st81, st82, st83, st84, st85, st86, st87, st88, st89, st90, st91, S0, R0, hx]
    · have hx : ((Ln : Int) - 6 < (i : Int)) = False := eq_false hc
      have E0 : (i : Int) < (Ln : Int) := by omega
      have E0' : (i < Ln) = True := eq_true (by omega)
      have hi : i + 6 ≤ Ln := by omega
      have hz : lwK G n0 b i bc bs h0 (fun v _ => v = some (.inl 1)) (fun _ _ => False) := by
        intro H' s' bc' bs' w5 w6 i1 i2 i3 e1 e2
        have R6 : inR ((i : Int) + 6) = True := eq_true ⟨by omega, by omega⟩
        have hq := ih (i + 6) bc' bs' H' s' w5 w6 (by omega) (by omega) (by omega) i1 i2 i3
        rw [show ((i + 6 : Nat) : Int) = (i : Int) + 6 from by omega] at hq
        simp [wp_eq, wpE, mk_L_law, mg, mc_L_law, lget, lset, popN, cats, rcv, entL, isArr, kC_s, kC_n, st1, st2, st3, st4, st5, st6, st7, st8, st9, st10, st11, st12, st13, st14, st15, st16, st17, st18, st19, st20, st21, st22, st23, st24, st25, st26, st27, st28, st29, st30, st31, st32, st33, st34, st35, st36, st37, st38, st39, st40, st41, st42, st43, st44, st45, st46, st47, st48, st49, st50, st51, st52, st53, st54, st55, st56, st57, st58, st59, st60, st61, st62, st63, st64, st65, st66, st67, st68, st69, st70, st71, st72, st73, st74, st75, st76, st77, st78, st79, st80, st81, st82, st83, st84, st85, st86, st87, st88, st89, st90, st91, R6]
        exact hq
      rw [wp_hd]
      simp [wp_ne 40, wpE, mk_L_law, mg, mc_L_law, lget, lset, popN, cats, rcv, entL, isArr, kC_s, kC_n, st1, st2, st3, st4, st5, st6, st7, st8, st9, st10, st11, st12, st13, st14, st15, st16, st17, st18, st19, st20, st21, st22, st23, st24, st25, st26, st27, st28, st29, st30, st31, st32, st33, st34, st35, st36, st37, st38, st39, st40, st41, st42, st43, st44, st45, st46, st47, st48, st49, st50, st51, st52, st53, st54, st55, st56, st57, st58, st59, st60, st61, st62, st63, st64, st65, st66, st67, st68, st69, st70, st71, st72, st73, st74, st75, st76, st77, st78, st79, st80, st81, st82, st83, st84, st85, st86, st87, st88, st89, st90, st91, S0, R0, hx, E0, E0']
      generalize bAnd (hvi H b i) 15 = op
      rw [wp_hd]
      simp [wpE, mk_L_law, mg, mc_L_law, st52]
      refine ⟨fun _ => hz H s bc bs v5 v6 hI hR hK (by omega) (by omega), ?_⟩
      simp only [swl]
      exact ⟨fun _ => o_type hb hs hi hL (by omega) (by omega) hI hR hK hz, fun _ => o_erase hb hs hi hL (by omega) (by omega) hI hR hK hz, fun _ => o_make hb hs hi hL (by omega) (by omega) hI hR hK hz, fun _ => o_link hb hs hi hL (by omega) (by omega) hI hR hK hz, fun _ => o_tie hb hs hi hL (by omega) (by omega) hI hR hK hz, fun _ => o_drop hb hs hi hL (by omega) (by omega) hI hR hK hz, fun _ => o_bits hb hs hi hL (by omega) (by omega) hI hR hK hz, fun _ => o_go hb hs hi hL (by omega) (by omega) hI hR hK hz, fun _ => o_node hb hs hi hL (by omega) (by omega) hI hR hK hz, fun _ => o_real hb hs hi hL (by omega) (by omega) hI hR hK hz, fun _ => o_find hb hs hi hL (by omega) (by omega) hI hR hK hz hg0 hg1 hg2, fun _ => o_place hb hs hi hL (by omega) (by omega) hI hR hK hz, fun _ => o_output hb hs hi hL (by omega) (by omega) hI hR hK hz, fun _ => o_tell hb hs hi hL (by omega) (by omega) hI hR hK hz, fun _ => o_count hb hs hi hL (by omega) (by omega) hI hR hK hz, trivial⟩
/-- WHAT WAS LEFT: the small machine's run of the law answers 1 -/
theorem law_wp_run (b Ln : Nat) (xs : Nat → Int) (hL : Ln ≤ 3072) (G : Nat → Nat) (h : mH) (hs : hty h b = some (50, Ln)) (hg1 : hty h (G 0) = some (51, 1)) (hg2 : hvi h (G 0) 0 = 46) (hf : ∀ a, hsz h ≤ a → hty h a = none) :
    wp G 1000 161 0 [some (.inr (.inl (some b))), none, none, none, none, none, none] [] h 601024 7293034 (fun v _ => v = some (.inl 1)) (fun _ _ => False) := by
  have ns : ∀ a t, hty h a = some t → a < hsz h := fun a t q => by
    by_cases hc : a < hsz h
    · exact hc
    · rw [hf a (by omega)] at q; exact absurd q (by simp)
  have hb := ns b _ hs
  have hg0 := ns (G 0) _ hg1
  let P : Nat → Bool := fun a => decide (a < hsz h)
  have hP : ∀ a, P a = true ↔ a < hsz h := fun a => by show decide (a < hsz h) = true ↔ _; simp
  have sep0 : sepP P (er P (hpush h 10 7)) := fun a ha => ⟨by have := (hP a).mp ha; rw [er_sz, hsz_P]; omega, by rw [er_ty, if_pos ha]⟩
  have hST : ST (er P h) (hsz h) (er P (hpush h 10 7)) 1 (fun _ => (10, 7)) (fun _ _ => none) (fun _ _ => 0) := by
    refine ⟨by rw [er_sz, hsz_P], fun i hi => ?_, fun a ha => ⟨?_, fun j => ?_⟩, fun a ha => ?_⟩
    · have h0 : i = 0 := by omega
      subst h0
      have hn : ¬ P (hsz h + 0) = true := fun q => by have := (hP _).mp q; omega
      refine ⟨by rw [er_ty, if_neg hn, hty_P]; simp, fun j => ⟨?_, ?_⟩⟩
      · rw [er_vr, hvr_P]; simp
      · rw [er_vi, hvi_P]; simp
    · rw [er_ty, er_ty, if_pos ((hP a).mpr ha), if_pos ((hP a).mpr ha)]
    · have hne : ¬ a = hsz h := by omega
      refine ⟨?_, ?_, ?_⟩
      · rw [er_vr, er_vr, hvr_P, if_neg hne]
      · rw [er_vi, er_vi, hvi_P, if_neg hne]
      · show hvl (hpush h 10 7) a j = hvl h a j
        rw [hvl_P, if_neg hne]
    · have hn : ¬ P a = true := fun q => by have := (hP _).mp q; omega
      rw [er_ty, if_neg hn, hty_P, if_neg (by omega)]
      exact hf a (by omega)
  have k1 := call_fr (f := hpush h 10 7) sep0 (i_X10 (G := G) (d := 1000) (C := fun v g => v = none ∧ CQ (hsz h) g ([], T0, 0, [], 0, -1) ∧ hsz g = hsz h + 27) (X := fun _ _ => False) (by omega) hST rfl (fun h' c1 c2 _ => ⟨rfl, c1, c2⟩))
  rw [er_cmb] at k1
  simp [wp_eq, wpE, mk_L_law, mg, mc_L_law, lget, lset, popN, cats, rcv, entL, isArr, kC_s, kC_n, st1, st2, st3, st4, st5, st6, st7, st8, st9, st10, st11, st12, st13, st14, st15, st16, st17, st18, st19, st20, st21, st22, st23, st24, st25, st26, st27, st28, st29, st30, st31, st32, st33, st34, st35, st36, st37, st38, st39, st40, st41, st42, st43, st44, st45, st46, st47, st48, st49, st50, st51, st52, st53, st54, st55, st56, st57, st58, st59, st60, st61, st62, st63, st64, st65, st66, st67, st68, st69, st70, st71, st72, st73, st74, st75, st76, st77, st78, st79, st80, st81, st82, st83, st84, st85, st86, st87, st88, st89, st90, st91, hty_P]
  refine callG_mono (fun _ _ _ _ _ _ _ _ _ _ q => q) (fun v H1 q => ?_) (fun e H' q => by obtain ⟨g, -, -, q⟩ := q; exact q.elim) k1
  obtain ⟨g, e1, hp, rfl, hc, hgz⟩ := q
  have z1 : hsz H1 = hsz h + 27 := by rw [e1, cm_sz]; exact hgz
  have gf := hc.2.2.2.2.2.2.2.2.1
  have t1 : ∀ a, ¬ a < hsz h → hty H1 a = hty g a ∧ ∀ j, hvr H1 a j = hvr g a j ∧ hvi H1 a j = hvi g a j := fun a ha => by
    have hn : ¬ P a = true := fun q => ha ((hP a).mp q)
    rw [e1]
    exact ⟨by rw [cm_ty, if_neg hn], fun j => ⟨by rw [cm_vr, if_neg hn], by rw [cm_vi, if_neg hn]⟩⟩
  have t2 : ∀ a, a < hsz h → hty H1 a = hty h a ∧ ∀ j, hvi H1 a j = hvi h a j := fun a ha => by
    have hn : P a = true := (hP a).mpr ha
    have hne : ¬ a = hsz h := by omega
    rw [e1]
    exact ⟨by rw [cm_ty, if_pos hn, hty_P, if_neg hne], fun j => by rw [cm_vi, if_pos hn, hvi_P, if_neg hne]⟩
  have hS2 : ST H1 (hsz h + 27) H1 0 (fun _ => (0, 0)) (fun _ _ => none) (fun _ _ => 0) := ⟨by rw [z1], fun i hi => absurd hi (by omega), fun a _ => ⟨rfl, fun j => ⟨rfl, rfl, rfl⟩⟩, fun a ha => by rw [(t1 a (by omega)).1]; exact gf a (by rw [hgz]; omega)⟩
  simp [wp_eq, wpE, mk_L_law, mg, mc_L_law, lget, lset, popN, cats, rcv, entL, isArr, kC_s, kC_n, st1, st2, st3, st4, st5, st6, st7, st8, st9, st10, st11, st12, st13, st14, st15, st16, st17, st18, st19, st20, st21, st22, st23, st24, st25, st26, st27, st28, st29, st30, st31, st32, st33, st34, st35, st36, st37, st38, st39, st40, st41, st42, st43, st44, st45, st46, st47, st48, st49, st50, st51, st52, st53, st54, st55, st56, st57, st58, st59, st60, st61, st62, st63, st64, st65, st66, st67, st68, st69, st70, st71, st72, st73, st74, st75, st76, st77, st78, st79, st80, st81, st82, st83, st84, st85, st86, st87, st88, st89, st90, st91, hty_P, z1]
  refine i_X11 (ST_P hS2) rfl (fun j => by simp [uF]) (fun H2 r1 r2 _ r3 r4 => ?_)
  simp [wp_eq, wpE, mk_L_law, mg, mc_L_law, lget, lset, popN, cats, rcv, entL, isArr, kC_s, kC_n, st1, st2, st3, st4, st5, st6, st7, st8, st9, st10, st11, st12, st13, st14, st15, st16, st17, st18, st19, st20, st21, st22, st23, st24, st25, st26, st27, st28, st29, st30, st31, st32, st33, st34, st35, st36, st37, st38, st39, st40, st41, st42, st43, st44, st45, st46, st47, st48, st49, st50, st51, st52, st53, st54, st55, st56, st57, st58, st59, st60, st61, st62, st63, st64, st65, st66, st67, st68, st69, st70, st71, st72, st73, st74, st75, st76, st77, st78, st79, st80, st81, st82, st83, st84, st85, st86, st87, st88, st89, st90, st91, r2]
  have e59 : hsz h + 27 + 32 = hsz h + 59 := by omega
  have r5 : hsz H2 = hsz h + 59 := by omega
  rw [e59]
  have q1 : ∀ a, a < hsz h + 59 → hty (hpush H2 23 1) a = hty H2 a ∧ ∀ j, hvr (hpush H2 23 1) a j = hvr H2 a j ∧ hvi (hpush H2 23 1) a j = hvi H2 a j := fun a ha => by
    have hne : ¬ a = hsz H2 := by omega
    exact ⟨by rw [hty_P, if_neg hne], fun j => ⟨by rw [hvr_P, if_neg hne], by rw [hvi_P, if_neg hne]⟩⟩
  have hIC : IC (hsz h) (hpush H2 23 1) ([], T0, 0, [], 0, -1) := by
    refine ⟨CS_fr (S := fun _ => False) hc ⟨by rw [er_sz, hsz_P]; omega, fun a ha => ?_⟩ (fun x hx => hx.elim) (fun a ha => ?_), by rw [hsz_P]; omega⟩
    · have a1 : ¬ a < hsz h := fun q => ha (hp a ((hP a).mpr q)).2
      have a2 : a < hsz h + 27 := by
        by_cases hq : a < hsz h + 27
        · exact hq
        · exact absurd (gf a (by omega)) ha
      have hn : ¬ Pc (hsz h) a = true := fun q => by have := Pc_iff.mp q; omega
      have b1 := q1 a (by omega)
      have b2 := r3 a (by omega)
      have b3 := t1 a a1
      refine ⟨by rw [er_ty, if_neg hn, b1.1, b2.1, b3.1], fun _ j => ⟨?_, ?_⟩⟩
      · rw [er_vr, (b1.2 j).1, (b2.2 j).1, (b3.2 j).1]
      · rw [er_vi, (b1.2 j).2, (b2.2 j).2.1, (b3.2 j).2]
    · rw [er_sz, hsz_P] at ha
      rw [er_ty]
      by_cases hq : Pc (hsz h) a = true
      · rw [if_pos hq]
      · rw [if_neg hq, hty_P, if_neg (by omega)]
        exact r4 a (by omega)
  have hIR : IR (hsz h) (hpush H2 23 1) ([], T0, 0, [], 0, -1) := ⟨fun _ => [], RS_eq (h := H2) (fun i hi => q1 _ (by omega)) r1⟩
  have hIK : IK (hsz h) h (hpush H2 23 1) := by
    refine ⟨fun a ha => ?_, by rw [hty_P, if_pos (by omega)]⟩
    have b1 := q1 a (by omega)
    have b2 := r3 a (by omega)
    have b3 := t2 a ha
    exact ⟨by rw [b1.1, b2.1, b3.1], fun j => by rw [(b1.2 j).2, (b2.2 j).2.1, b3.2 j]⟩
  exact law_loop hb hs hL hg0 hg1 hg2 512 0 _ _ _ _ none none (by omega) (by omega) (by omega) hIC hIR hIK
