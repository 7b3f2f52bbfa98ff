theorem se_loop1 {G : Nat → Nat} {d c : Nat} {h : mH} {C : mQ} {X : mX} {P : List Int} {x1 x2 x3 x4 x5 x7 : Option mV} (hx : hty h (c + 19) = some (2, 14)) (hp : hvr h (c + 19) 5 = some (c + 25)) (ht : hty h (c + 25) = some (21, 820)) (hr : ro h (c + 25) 0 P) (hl : P.length ≤ 820) : ∀ k, k ≤ P.length → wp G d 13 74 [some (.inr (.inl (some (c + 19)))), x1, x2, x3, x4, x5, some (.inl (lsE (lf P) 0 k : Int)), x7] [] h 0 0 C X →
    wp G d 13 100049 [some (.inr (.inl (some (c + 19)))), x1, x2, x3, x4, x5, some (.inl (k : Int)), x7] [] h 0 0 C X := by
  intro k
  induction k with
  | zero =>
    intro hk hz
    simp only [lsE] at hz
    rw [wp_hd]
    (repeat' (first | with_reducible assumption | (refine And.intro ?_ ?_) | (with_reducible intro _) | (simp [wp_ne 74, wpE, mk_X2_search, mg, mc_X2_search, lget, lset, popN, cats, rcv, entL, isArr, kC_s, kC_n, st1, st2, st3, st4, st5, st6, st7, st8, st9, st10, st11, st12, st13, st14, st15, st16, st17, st18, st19, st20, st21, st22, st23, st24, st25, st26, st27, st28, st29, st30, st31, st32, st33, st34, st35, st36, st37, st38, st39, st40, st41, st42, st43, st44, st45, st46, st47, st48, st49, st50, st51, st52, st53, st54, st55, st56, st57, st58, st59, st60, st61, st62, st63, st64, st65, st66, st67, st68, st69, st70, st71, st72, st73, st74, st75, st76, st77, st78, st79, st80, st81, st82, st83, st84, st85, st86, st87, st88, st89, st90, st91]))) <;> (try (first | omega | exact hz))
  | succ k ih =>
    intro hk hz
    simp only [lsE] at hz
    have ck : hvi h (c + 25) k = lf P k := by have := hr k (by omega); simpa using this
    rw [wp_hd]
    by_cases h47 : lf P k = 47
    · rw [if_pos ⟨by omega, h47⟩] at hz
      have hz := ih (by omega) hz
      (repeat' (first | with_reducible assumption | (refine And.intro ?_ ?_) | (with_reducible intro _) | (simp [wp_ne 74, wpE, mk_X2_search, mg, mc_X2_search, lget, lset, popN, cats, rcv, entL, isArr, kC_s, kC_n, st1, st2, st3, st4, st5, st6, st7, st8, st9, st10, st11, st12, st13, st14, st15, st16, st17, st18, st19, st20, st21, st22, st23, st24, st25, st26, st27, st28, st29, st30, st31, st32, st33, st34, st35, st36, st37, st38, st39, st40, st41, st42, st43, st44, st45, st46, st47, st48, st49, st50, st51, st52, st53, st54, st55, st56, st57, st58, st59, st60, st61, st62, st63, st64, st65, st66, st67, st68, st69, st70, st71, st72, st73, st74, st75, st76, st77, st78, st79, st80, st81, st82, st83, st84, st85, st86, st87, st88, st89, st90, st91, hx, hp, ht, ck, h47, inR, show (k : Int) + 1 + -1 = (k : Int) by omega]))) <;> (try (first | omega | exact hz))
    · rw [if_neg (fun q => h47 q.2)] at hz
      (repeat' (first | with_reducible assumption | (refine And.intro ?_ ?_) | (with_reducible intro _) | (simp [wp_ne 74, wpE, mk_X2_search, mg, mc_X2_search, lget, lset, popN, cats, rcv, entL, isArr, kC_s, kC_n, st1, st2, st3, st4, st5, st6, st7, st8, st9, st10, st11, st12, st13, st14, st15, st16, st17, st18, st19, st20, st21, st22, st23, st24, st25, st26, st27, st28, st29, st30, st31, st32, st33, st34, st35, st36, st37, st38, st39, st40, st41, st42, st43, st44, st45, st46, st47, st48, st49, st50, st51, st52, st53, st54, st55, st56, st57, st58, st59, st60, st61, st62, st63, st64, st65, st66, st67, st68, st69, st70, st71, st72, st73, st74, st75, st76, st77, st78, st79, st80, st81, st82, st83, st84, st85, st86, st87, st88, st89, st90, st91, hx, hp, ht, ck, h47, inR, show (k : Int) + 1 + -1 = (k : Int) by omega]))) <;> (try (first | omega | exact hz))
theorem se_loop2 {G : Nat → Nat} {d c : Nat} {h : mH} {C : mQ} {X : mX} {P : List Int} {x1 x2 x3 x4 x5 x6 : Option mV} (hx : hty h (c + 19) = some (2, 14)) (hp : hvr h (c + 19) 5 = some (c + 25)) (ht : hty h (c + 25) = some (21, 820)) (hr : ro h (c + 25) 0 P) (hl : P.length ≤ 820) : ∀ k, k ≤ P.length → wp G d 13 103 [some (.inr (.inl (some (c + 19)))), x1, x2, x3, x4, x5, x6, some (.inl (lsS (lf P) 0 k : Int))] [] h 0 0 C X →
    wp G d 13 100078 [some (.inr (.inl (some (c + 19)))), x1, x2, x3, x4, x5, x6, some (.inl (k : Int))] [] h 0 0 C X := by
  intro k
  induction k with
  | zero =>
    intro hk hz
    simp only [lsS] at hz
    rw [wp_hd]
    (repeat' (first | with_reducible assumption | (refine And.intro ?_ ?_) | (with_reducible intro _) | (simp [wp_ne 103, wpE, mk_X2_search, mg, mc_X2_search, lget, lset, popN, cats, rcv, entL, isArr, kC_s, kC_n, st1, st2, st3, st4, st5, st6, st7, st8, st9, st10, st11, st12, st13, st14, st15, st16, st17, st18, st19, st20, st21, st22, st23, st24, st25, st26, st27, st28, st29, st30, st31, st32, st33, st34, st35, st36, st37, st38, st39, st40, st41, st42, st43, st44, st45, st46, st47, st48, st49, st50, st51, st52, st53, st54, st55, st56, st57, st58, st59, st60, st61, st62, st63, st64, st65, st66, st67, st68, st69, st70, st71, st72, st73, st74, st75, st76, st77, st78, st79, st80, st81, st82, st83, st84, st85, st86, st87, st88, st89, st90, st91]))) <;> (try (first | omega | exact hz))
  | succ k ih =>
    intro hk hz
    simp only [lsS] at hz
    have ck : hvi h (c + 25) k = lf P k := by have := hr k (by omega); simpa using this
    rw [wp_hd]
    by_cases h47 : lf P k = 47
    · rw [if_neg (fun q => q.2 h47)] at hz
      (repeat' (first | with_reducible assumption | (refine And.intro ?_ ?_) | (with_reducible intro _) | (simp [wp_ne 103, wpE, mk_X2_search, mg, mc_X2_search, lget, lset, popN, cats, rcv, entL, isArr, kC_s, kC_n, st1, st2, st3, st4, st5, st6, st7, st8, st9, st10, st11, st12, st13, st14, st15, st16, st17, st18, st19, st20, st21, st22, st23, st24, st25, st26, st27, st28, st29, st30, st31, st32, st33, st34, st35, st36, st37, st38, st39, st40, st41, st42, st43, st44, st45, st46, st47, st48, st49, st50, st51, st52, st53, st54, st55, st56, st57, st58, st59, st60, st61, st62, st63, st64, st65, st66, st67, st68, st69, st70, st71, st72, st73, st74, st75, st76, st77, st78, st79, st80, st81, st82, st83, st84, st85, st86, st87, st88, st89, st90, st91, hx, hp, ht, ck, h47, inR, show (k : Int) + 1 + -1 = (k : Int) by omega]))) <;> (try (first | omega | exact hz))
    · rw [if_pos ⟨by omega, h47⟩] at hz
      have hz := ih (by omega) hz
      (repeat' (first | with_reducible assumption | (refine And.intro ?_ ?_) | (with_reducible intro _) | (simp [wp_ne 103, wpE, mk_X2_search, mg, mc_X2_search, lget, lset, popN, cats, rcv, entL, isArr, kC_s, kC_n, st1, st2, st3, st4, st5, st6, st7, st8, st9, st10, st11, st12, st13, st14, st15, st16, st17, st18, st19, st20, st21, st22, st23, st24, st25, st26, st27, st28, st29, st30, st31, st32, st33, st34, st35, st36, st37, st38, st39, st40, st41, st42, st43, st44, st45, st46, st47, st48, st49, st50, st51, st52, st53, st54, st55, st56, st57, st58, st59, st60, st61, st62, st63, st64, st65, st66, st67, st68, st69, st70, st71, st72, st73, st74, st75, st76, st77, st78, st79, st80, st81, st82, st83, st84, st85, st86, st87, st88, st89, st90, st91, hx, hp, ht, ck, h47, inR, show (k : Int) + 1 + -1 = (k : Int) by omega]))) <;> (try (first | omega | exact hz))
theorem f_search {G : Nat → Nat} {d c here a fr n k N : Nat} {h : mH} {C : mQ} {X : mX} {L : List Int} {T : aT} {K : List aK} {pr bad : Int} {P : List Int} {u : aU} {z : Int} (hz0 : z = ((fr + P.length : Nat) : Int)) (E : EV L T here K pr) (hd : 107 ≤ d) (hn : n < 48) (HF : FA c h L T here K pr u.1 u.2 bad) (hu : 0 ≤ u.2 ∧ u.2 ≤ 100) (hk : k = 21 ∨ k = 51) (ha : hty h a = some (k, N)) (hac : ¬ a = c + 25) (hN : fr + P.length ≤ N) (hN2 : N ≤ 60000) (hr : ro h a fr P) (bP : bd P) (hP1 : 1 ≤ P.length) (hP2 : P.length ≤ 100) (h14 : (tpN P).length ≤ 14)
    (hC : ∀ h', chI (SA c) h h' → FA c h' L T here K pr (vis L T here K pr 48 n (tpN P) P u).1 (vis L T here K pr 48 n (tpN P) P u).2 bad → C (some (.inl (if (vis L T here K pr 48 n (tpN P) P u).1.2.2.2 = true then -8 else ((vis L T here K pr 48 n (tpN P) P u).1.2.2.1 : Int)))) h') :
    callG (wp G) d 13 0 0 8 [.inr (.inl (some (c + 19))), .inl (n : Int), .inr (.inl (some a)), .inl (fr : Int), .inl z] h C X := by
  subst hz0
  have CFh := HF.1.1
  have x1 : hty h (c + 19) = some (2, 14) := CFh.1 (19, 2, 14) (by decide)
  have y4 : hvr h (c + 19) 5 = some (c + 25) := CFh.2 (19, 5, 25) (by decide)
  have y5 : hty h (c + 25) = some (21, 820) := CFh.1 (25, 21, 820) (by decide)
  have q1 : chI (SA c) h (hcpy h a fr (c + 25) 0 P.length) := chI_cpy (by unfold SA; omega)
  have hcy : ∀ x j, ¬ x = c + 25 → hvi (hcpy h a fr (c + 25) 0 P.length) x j = hvi h x j := fun x j hx => by rw [hvi_C, if_neg (fun q => hx q.1)]
  have HH := HF
  obtain ⟨f1, f2, f3, ⟨k6, k7, k9, k10⟩, f5⟩ := HH
  have HF1 : FA c (hcpy h a fr (c + 25) 0 P.length) L T here K pr u.1 u.2 bad := FA_ch HF q1 (PG_chI (S := fun x => x = c + 25) (chI_cpy rfl) (by omega) (by omega) f1.2.2.2.2.2.1) (by rw [hcy _ _ (by omega)]; exact k6) (by rw [hcy _ _ (by omega)]; exact k7) (by rw [hcy _ _ (by omega)]; exact f1.2.2.2.2.2.2.1) (by rw [hcy _ _ (by omega)]; exact k9) (by rw [hcy _ _ (by omega)]; exact k10) f5
  have r1 : ro (hcpy h a fr (c + 25) 0 P.length) (c + 25) 0 P := fun j hj => by
    rw [hvi_C, if_pos (by omega)]
    have := hr j hj
    rw [show fr + (0 + j - 0) = fr + j by omega]; exact this
  obtain ⟨b1, b2, b3, b4, b5, b6, b7⟩ := tp_b hP1
  have hw48 := wt_48 T n
  refine cg 106 (by omega) (fun d hd => ?_)
  have hd0 : (0 < d) = True := eq_true (by omega)
  have z1 : hty (hcpy h a fr (c + 25) 0 P.length) (c + 19) = some (2, 14) := x1
  have z4 : hvr (hcpy h a fr (c + 25) 0 P.length) (c + 19) 5 = some (c + 25) := y4
  have z5 : hty (hcpy h a fr (c + 25) 0 P.length) (c + 25) = some (21, 820) := y5
  have e1 : ((fr + P.length : Nat) : Int) - (fr : Int) = (P.length : Int) := by omega
  generalize hh1 : hcpy h a fr (c + 25) 0 P.length = zg at *
  have last : ∀ h', chI (SA c) h h' → FA c h' L T here K pr (vis L T here K pr 48 n (tpN P) P u).1 (vis L T here K pr 48 n (tpN P) P u).2 bad → ∀ l, wp G d 13 119 (some (.inr (.inl (some (c + 19)))) :: l) [] h' 0 0 C (fun _ _ => False) := by
    intro h' s1 s2 l
    have CF2 := s2.1.1
    have w1 : hty h' (c + 19) = some (2, 14) := CF2.1 (19, 2, 14) (by decide)
    have w7 := s2.2.2.2.1.2.1
    have w10 := s2.2.2.2.1.2.2.2
    have hz := hC h' s1 s2
    cases hfu : (vis L T here K pr 48 n (tpN P) P u).1.2.2.2 with
    | true =>
      rw [hfu] at w10 hz
      simp [b01] at w10 hz
      (repeat' (first | with_reducible assumption | (refine And.intro ?_ ?_) | (with_reducible intro _) | (simp [wp_eq, wpE, mk_X2_search, mg, mc_X2_search, lget, lset, popN, cats, rcv, entL, isArr, kC_s, kC_n, st1, st2, st3, st4, st5, st6, st7, st8, st9, st10, st11, st12, st13, st14, st15, st16, st17, st18, st19, st20, st21, st22, st23, st24, st25, st26, st27, st28, st29, st30, st31, st32, st33, st34, st35, st36, st37, st38, st39, st40, st41, st42, st43, st44, st45, st46, st47, st48, st49, st50, st51, st52, st53, st54, st55, st56, st57, st58, st59, st60, st61, st62, st63, st64, st65, st66, st67, st68, st69, st70, st71, st72, st73, st74, st75, st76, st77, st78, st79, st80, st81, st82, st83, st84, st85, st86, st87, st88, st89, st90, st91, w1, w7, w10]))) <;> (try (first | omega | exact hz))
    | false =>
      rw [hfu] at w10 hz
      simp [b01] at w10 hz
      (repeat' (first | with_reducible assumption | (refine And.intro ?_ ?_) | (with_reducible intro _) | (simp [wp_eq, wpE, mk_X2_search, mg, mc_X2_search, lget, lset, popN, cats, rcv, entL, isArr, kC_s, kC_n, st1, st2, st3, st4, st5, st6, st7, st8, st9, st10, st11, st12, st13, st14, st15, st16, st17, st18, st19, st20, st21, st22, st23, st24, st25, st26, st27, st28, st29, st30, st31, st32, st33, st34, st35, st36, st37, st38, st39, st40, st41, st42, st43, st44, st45, st46, st47, st48, st49, st50, st51, st52, st53, st54, st55, st56, st57, st58, st59, st60, st61, st62, st63, st64, st65, st66, st67, st68, st69, st70, st71, st72, st73, st74, st75, st76, st77, st78, st79, st80, st81, st82, st83, st84, st85, st86, st87, st88, st89, st90, st91, w1, w7, w10]))) <;> (try (first | omega | exact hz))
  have hvis := fun {C : mQ} {X : mX} => f_visit (G := G) (bad := bad) E 48 d n (tpF P) 0 zg C X (tpN P) P u (by omega) (by omega) hn HF1 (by omega) r1 bP hP1 (by omega) b7 (by omega) h14
  rw [b6] at hvis
  rw [show tpF P + (tpE P - tpF P) = tpE P by omega] at hvis
  have zst2 : ∀ x2 x3 x4, wp G d 13 103 [some (.inr (.inl (some (c + 19)))), some (.inl (n : Int)), x2, x3, x4, some (.inl (P.length : Int)), some (.inl (tpL P : Int)), some (.inl (tpF P : Int))] [] zg 0 0 C (fun _ _ => False) := by
    intro x2 x3 x4
    have em : (if 1 < (tpL P : Int) then (tpL P : Int) else 1) = (tpE P : Int) := by unfold tpE; split <;> split <;> omega
    simp [wp_ne 119, wpE, mk_X2_search, mg, mc_X2_search, lget, lset, popN, cats, rcv, entL, isArr, kC_s, kC_n, st1, st2, st3, st4, st5, st6, st7, st8, st9, st10, st11, st12, st13, st14, st15, st16, st17, st18, st19, st20, st21, st22, st23, st24, st25, st26, st27, st28, st29, st30, st31, st32, st33, st34, st35, st36, st37, st38, st39, st40, st41, st42, st43, st44, st45, st46, st47, st48, st49, st50, st51, st52, st53, st54, st55, st56, st57, st58, st59, st60, st61, st62, st63, st64, st65, st66, st67, st68, st69, st70, st71, st72, st73, st74, st75, st76, st77, st78, st79, st80, st81, st82, st83, st84, st85, st86, st87, st88, st89, st90, st91, z1, hd0]
    rw [em]
    refine hvis (fun zzh zz1 zz2 zz3 => ?_)
    have hz := last zzh (chI_trans q1 zz1) zz2
    (repeat' (first | with_reducible assumption | (refine And.intro ?_ ?_) | (with_reducible intro _) | (simp [wp_ne 119, wpE, mk_X2_search, mg, mc_X2_search, lget, lset, popN, cats, rcv, entL, isArr, kC_s, kC_n, st1, st2, st3, st4, st5, st6, st7, st8, st9, st10, st11, st12, st13, st14, st15, st16, st17, st18, st19, st20, st21, st22, st23, st24, st25, st26, st27, st28, st29, st30, st31, st32, st33, st34, st35, st36, st37, st38, st39, st40, st41, st42, st43, st44, st45, st46, st47, st48, st49, st50, st51, st52, st53, st54, st55, st56, st57, st58, st59, st60, st61, st62, st63, st64, st65, st66, st67, st68, st69, st70, st71, st72, st73, st74, st75, st76, st77, st78, st79, st80, st81, st82, st83, st84, st85, st86, st87, st88, st89, st90, st91]))) <;> (try (first | omega | exact hz))
    all_goals exact hz _
  have zst1 := fun x2 x3 x4 x7 => se_loop1 (G := G) (d := d) (C := C) (X := fun _ _ => False) (x1 := some (.inl (n : Int))) (x2 := x2) (x3 := x3) (x4 := x4) (x5 := some (.inl (P.length : Int))) (x7 := x7) z1 z4 z5 r1 (by omega) P.length (Nat.le_refl _) (by
    have hz := se_loop2 (G := G) (d := d) (C := C) (X := fun _ _ => False) (x1 := some (.inl (n : Int))) (x2 := x2) (x3 := x3) (x4 := x4) (x5 := some (.inl (P.length : Int))) (x6 := some (.inl (tpL P : Int))) z1 z4 z5 r1 (by omega) (tpL P) b2 (zst2 x2 x3 x4)
    simp [wp_ne 103, wpE, mk_X2_search, mg, mc_X2_search, lget, lset, popN, cats, rcv, entL, isArr, kC_s, kC_n, st1, st2, st3, st4, st5, st6, st7, st8, st9, st10, st11, st12, st13, st14, st15, st16, st17, st18, st19, st20, st21, st22, st23, st24, st25, st26, st27, st28, st29, st30, st31, st32, st33, st34, st35, st36, st37, st38, st39, st40, st41, st42, st43, st44, st45, st46, st47, st48, st49, st50, st51, st52, st53, st54, st55, st56, st57, st58, st59, st60, st61, st62, st63, st64, st65, st66, st67, st68, st69, st70, st71, st72, st73, st74, st75, st76, st77, st78, st79, st80, st81, st82, st83, st84, st85, st86, st87, st88, st89, st90, st91]
    exact hz)
  have hz := zst1
  rcases hk with rfl | rfl
  all_goals
    (repeat' (first | with_reducible assumption | (refine And.intro ?_ ?_) | (with_reducible intro _) | (simp [wp_eq, wpE, mk_X2_search, mg, mc_X2_search, lget, lset, popN, cats, rcv, entL, isArr, kC_s, kC_n, st1, st2, st3, st4, st5, st6, st7, st8, st9, st10, st11, st12, st13, st14, st15, st16, st17, st18, st19, st20, st21, st22, st23, st24, st25, st26, st27, st28, st29, st30, st31, st32, st33, st34, st35, st36, st37, st38, st39, st40, st41, st42, st43, st44, st45, st46, st47, st48, st49, st50, st51, st52, st53, st54, st55, st56, st57, st58, st59, st60, st61, st62, st63, st64, st65, st66, st67, st68, st69, st70, st71, st72, st73, st74, st75, st76, st77, st78, st79, st80, st81, st82, st83, st84, st85, st86, st87, st88, st89, st90, st91, -Int.natCast_add, hh1, x1, y4, y5, ha, e1, inR, show ¬ (fr : Int) < 0 by omega, show ¬ (N : Int) < ((fr + P.length : Nat) : Int) by omega, show ¬ (P.length : Int) < 1 by omega, show (P.length : Int) ≤ 100 by omega, show ((fr + P.length : Nat) : Int) ≤ (N : Int) by omega]))) <;> (try (first | omega | exact hz))
    all_goals first | omega | exact hz _ _ _ _
