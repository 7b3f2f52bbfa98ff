/-! THE EXPRESSION of the class is read -/
/-- a part: its kind, the word behind it, the number, the sign -/
abbrev aK : Type := Nat × Nat × Int × Int
def EP (x : Nat) (h : mH) (K : List aK) : Prop := K.length ≤ 50 ∧ hvi h x 5 = (K.length : Int) ∧ hvi h x 6 = b01 (K.any (fun t => t.1 == 13)) ∧ hvi h x 7 = b01 (K.any (fun t => t.1 == 14)) ∧ ∀ i t, K[i]? = some t → hvi h (x + 1) i = (t.1 : Int) ∧ (6 ≤ t.1 ∧ t.1 < 12 → hvi h (x + 2) i = (t.2.1 : Int)) ∧ (7 ≤ t.1 ∧ t.1 ≤ 10 → hvi h (x + 3) i = t.2.2.1) ∧ (8 ≤ t.1 ∧ t.1 ≤ 10 → hvi h (x + 4) i = t.2.2.2)
theorem c_addPart {G : Nat → Nat} {d x l : Nat} {h : mH} {C : mQ} {X : mX} {K : List aK} {t : aK} (HX : XC x l h K.length) (H : EP x h K) (hl : K.length < 50) (h2 : 6 ≤ t.1 ∧ t.1 < 12 → hvi h (x + 2) K.length = (t.2.1 : Int)) (h3 : 7 ≤ t.1 ∧ t.1 ≤ 10 → hvi h (x + 3) K.length = t.2.2.1) (h4 : 8 ≤ t.1 ∧ t.1 ≤ 10 → hvi h (x + 4) K.length = t.2.2.2)
    (hC : ∀ h', chI (fun a => a = x ∨ a = x + 1) h h' → XC x l h' (K ++ [t]).length → EP x h' (K ++ [t]) → C none h') :
    callG (wp G) d 5 0 0 2 [.inr (.inl (some x)), .inl (t.1 : Int)] h C X := by
  obtain ⟨e1, e2, e3, e4, e5, e6, e7, e8, e9, e10, e11⟩ := HX
  obtain ⟨g1, g2, g3, g4, g5⟩ := H
  have hfin : ∀ p q : Int, p = b01 ((K ++ [t]).any (fun t => t.1 == 13)) → q = b01 ((K ++ [t]).any (fun t => t.1 == 14)) → C none (hsetI (hsetI (hsetI (hsetI h (x + 1) K.length (t.1 : Int)) x 5 ((K.length : Int) + 1)) x 6 p) x 7 q) := by
    intro p q hp hq
    refine hC _ (chI_trans (chI_trans (chI_trans (chI_set (Or.inr rfl)) (chI_set (Or.inl rfl))) (chI_set (Or.inl rfl))) (chI_set (Or.inl rfl))) ⟨e1, e2, e3, e4, e5, e6, e7, e8, e9, e10, by simp [hty_I, hvi_I, hvr_I, hvl_I, hsz_I, hty_R, hvi_R, hvr_R, hvl_R, hsz_R, hty_L, hvi_L, hvr_L, hvl_L, hsz_L, hty_P, hvi_P, hvr_P, hvl_P, hsz_P, hty_C, hvi_C, hvr_C, hvl_C, hsz_C]⟩ ⟨by simp; omega, by simp [hty_I, hvi_I, hvr_I, hvl_I, hsz_I, hty_R, hvi_R, hvr_R, hvl_R, hsz_R, hty_L, hvi_L, hvr_L, hvl_L, hsz_L, hty_P, hvi_P, hvr_P, hvl_P, hsz_P, hty_C, hvi_C, hvr_C, hvl_C, hsz_C], by simp only [hvi_I]; simp [hp], by simp only [hvi_I]; simp [hq], fun i s hi => ?_⟩
    by_cases hil : i < K.length
    · rw [List.getElem?_append_left hil] at hi
      obtain ⟨f1, f2, f3, f4⟩ := g5 i s hi
      exact ⟨by simp [hty_I, hvi_I, hvr_I, hvl_I, hsz_I, hty_R, hvi_R, hvr_R, hvl_R, hsz_R, hty_L, hvi_L, hvr_L, hvl_L, hsz_L, hty_P, hvi_P, hvr_P, hvl_P, hsz_P, hty_C, hvi_C, hvr_C, hvl_C, hsz_C, show ¬ i = K.length by omega, f1], fun z => by simp [hty_I, hvi_I, hvr_I, hvl_I, hsz_I, hty_R, hvi_R, hvr_R, hvl_R, hsz_R, hty_L, hvi_L, hvr_L, hvl_L, hsz_L, hty_P, hvi_P, hvr_P, hvl_P, hsz_P, hty_C, hvi_C, hvr_C, hvl_C, hsz_C]; exact f2 z, fun z => by simp [hty_I, hvi_I, hvr_I, hvl_I, hsz_I, hty_R, hvi_R, hvr_R, hvl_R, hsz_R, hty_L, hvi_L, hvr_L, hvl_L, hsz_L, hty_P, hvi_P, hvr_P, hvl_P, hsz_P, hty_C, hvi_C, hvr_C, hvl_C, hsz_C]; exact f3 z, fun z => by simp [hty_I, hvi_I, hvr_I, hvl_I, hsz_I, hty_R, hvi_R, hvr_R, hvl_R, hsz_R, hty_L, hvi_L, hvr_L, hvl_L, hsz_L, hty_P, hvi_P, hvr_P, hvl_P, hsz_P, hty_C, hvi_C, hvr_C, hvl_C, hsz_C]; exact f4 z⟩
    · rw [List.getElem?_append_right (by omega)] at hi
      have hk0 : i - K.length = 0 := by
        cases hn : i - K.length with
        | zero => rfl
        | succ n => rw [hn] at hi; simp at hi
      rw [hk0] at hi
      simp at hi
      have : i = K.length := by omega
      subst this; subst hi
      exact ⟨by simp [hty_I, hvi_I, hvr_I, hvl_I, hsz_I, hty_R, hvi_R, hvr_R, hvl_R, hsz_R, hty_L, hvi_L, hvr_L, hvl_L, hsz_L, hty_P, hvi_P, hvr_P, hvl_P, hsz_P, hty_C, hvi_C, hvr_C, hvl_C, hsz_C], fun z => by simp [hty_I, hvi_I, hvr_I, hvl_I, hsz_I, hty_R, hvi_R, hvr_R, hvl_R, hsz_R, hty_L, hvi_L, hvr_L, hvl_L, hsz_L, hty_P, hvi_P, hvr_P, hvl_P, hsz_P, hty_C, hvi_C, hvr_C, hvl_C, hsz_C]; exact h2 z, fun z => by simp [hty_I, hvi_I, hvr_I, hvl_I, hsz_I, hty_R, hvi_R, hvr_R, hvl_R, hsz_R, hty_L, hvi_L, hvr_L, hvl_L, hsz_L, hty_P, hvi_P, hvr_P, hvl_P, hsz_P, hty_C, hvi_C, hvr_C, hvl_C, hsz_C]; exact h3 z, fun z => by simp [hty_I, hvi_I, hvr_I, hvl_I, hsz_I, hty_R, hvi_R, hvr_R, hvl_R, hsz_R, hty_L, hvi_L, hvr_L, hvl_L, hsz_L, hty_P, hvi_P, hvr_P, hvl_P, hsz_P, hty_C, hvi_C, hvr_C, hvl_C, hsz_C]; exact h4 z⟩
  simp only [List.any_append, List.any_cons, List.any_nil, Bool.or_false] at hfin
  refine ⟨C, fun _ _ => False, ?_, fun _ _ q => q, fun _ _ q => q.elim⟩
  generalize K.any (fun t => t.1 == 13) = b13 at *
  generalize K.any (fun t => t.1 == 14) = b14 at *
  have hl' : ((K.length : Int) < 50) := by omega
  by_cases t13 : t.1 = 13
  · have hz := hfin 1 (b01 b14) (by simp [t13, b01]) (by simp [t13])
    rw [show (t.1 : Int) = 13 by omega] at hz
    cases b13 <;> cases b14
    all_goals
      simp only [b01] at hz g3 g4
      simp at hz g3 g4
      (repeat' (first | with_reducible assumption | (refine And.intro ?_ ?_) | (with_reducible intro _) | (simp [wp_eq, wpE, mk_X1_addPart, mg, mc_X1_addPart, lget, lset, popN, cats, rcv, entL, isArr, kC_s, kC_n, st1, st2, st3, st4, st5, st6, st7, st8, st9, st10, st11, st12, st13, st14, st15, st16, st17, st18, st19, st20, st21, st22, st23, st24, st25, st26, st27, st28, st29, st30, st31, st32, st33, st34, st35, st36, st37, st38, st39, st40, st41, st42, st43, st44, st45, st46, st47, st48, st49, st50, st51, st52, st53, st54, st55, st56, st57, st58, st59, st60, st61, st62, st63, st64, st65, st66, st67, st68, st69, st70, st71, st72, st73, st74, st75, st76, st77, st78, st79, st80, st81, st82, st83, st84, st85, st86, st87, st88, st89, st90, st91, e1, e3, e7, e11, g3, g4, hl, t13, inR, hty_I, hvi_I, hvr_I, hvl_I, hsz_I, hty_R, hvi_R, hvr_R, hvl_R, hsz_R, hty_L, hvi_L, hvr_L, hvl_L, hsz_L, hty_P, hvi_P, hvr_P, hvl_P, hsz_P, hty_C, hvi_C, hvr_C, hvl_C, hsz_C]))) <;> (try (first | omega | exact hz))
  · by_cases t14 : t.1 = 14
    · have hz := hfin (b01 b13) 1 (by simp [t14]) (by simp [t14, b01])
      rw [show (t.1 : Int) = 14 by omega] at hz
      cases b13 <;> cases b14
      all_goals
        simp only [b01] at hz g3 g4
        simp at hz g3 g4
        (repeat' (first | with_reducible assumption | (refine And.intro ?_ ?_) | (with_reducible intro _) | (simp [wp_eq, wpE, mk_X1_addPart, mg, mc_X1_addPart, lget, lset, popN, cats, rcv, entL, isArr, kC_s, kC_n, st1, st2, st3, st4, st5, st6, st7, st8, st9, st10, st11, st12, st13, st14, st15, st16, st17, st18, st19, st20, st21, st22, st23, st24, st25, st26, st27, st28, st29, st30, st31, st32, st33, st34, st35, st36, st37, st38, st39, st40, st41, st42, st43, st44, st45, st46, st47, st48, st49, st50, st51, st52, st53, st54, st55, st56, st57, st58, st59, st60, st61, st62, st63, st64, st65, st66, st67, st68, st69, st70, st71, st72, st73, st74, st75, st76, st77, st78, st79, st80, st81, st82, st83, st84, st85, st86, st87, st88, st89, st90, st91, e1, e3, e7, e11, g3, g4, hl, t14, inR, hty_I, hvi_I, hvr_I, hvl_I, hsz_I, hty_R, hvi_R, hvr_R, hvl_R, hsz_R, hty_L, hvi_L, hvr_L, hvl_L, hsz_L, hty_P, hvi_P, hvr_P, hvl_P, hsz_P, hty_C, hvi_C, hvr_C, hvl_C, hsz_C]))) <;> (try (first | omega | exact hz))
    · have f13 : (t.1 == 13) = false := by simpa using t13
      have f14 : (t.1 == 14) = false := by simpa using t14
      have hz := hfin (b01 b13) (b01 b14) (by rw [f13, Bool.or_false]) (by rw [f14, Bool.or_false])
      cases b13 <;> cases b14
      all_goals
        simp only [b01] at hz g3 g4
        simp at hz g3 g4
        (repeat' (first | with_reducible assumption | (refine And.intro ?_ ?_) | (with_reducible intro _) | (simp [wp_eq, wpE, mk_X1_addPart, mg, mc_X1_addPart, lget, lset, popN, cats, rcv, entL, isArr, kC_s, kC_n, st1, st2, st3, st4, st5, st6, st7, st8, st9, st10, st11, st12, st13, st14, st15, st16, st17, st18, st19, st20, st21, st22, st23, st24, st25, st26, st27, st28, st29, st30, st31, st32, st33, st34, st35, st36, st37, st38, st39, st40, st41, st42, st43, st44, st45, st46, st47, st48, st49, st50, st51, st52, st53, st54, st55, st56, st57, st58, st59, st60, st61, st62, st63, st64, st65, st66, st67, st68, st69, st70, st71, st72, st73, st74, st75, st76, st77, st78, st79, st80, st81, st82, st83, st84, st85, st86, st87, st88, st89, st90, st91, e1, e3, e7, e11, g3, g4, hl, t13, t14, inR, hty_I, hvi_I, hvr_I, hvl_I, hsz_I, hty_R, hvi_R, hvr_R, hvl_R, hsz_R, hty_L, hvi_L, hvr_L, hvl_L, hsz_L, hty_P, hvi_P, hvr_P, hvl_P, hsz_P, hty_C, hvi_C, hvr_C, hvl_C, hsz_C]))) <;> (try (first | omega | exact hz))
