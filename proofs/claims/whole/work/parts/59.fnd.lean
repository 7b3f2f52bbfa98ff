/-! THE FINDER of the class: small things -/
def cmpS (s v n : Int) : Bool := if s = 43 then decide (n < v) else if s = 45 then decide (v < n) else v == n
theorem c_compares {G : Nat → Nat} {d c i : Nat} {h : mH} {C : mQ} {X : mX} {K : List aK} {t : aK} {v : Int} (HF : CF c h) (HE : EP (c + 14) h K) (hi : K[i]? = some t) (ht : 8 ≤ t.1 ∧ t.1 ≤ 10) (hC : C (some (.inl (b01 (cmpS t.2.2.2 v t.2.2.1)))) h) :
    callG (wp G) d 18 0 0 4 [.inr (.inl (some (c + 19))), .inl v, .inl (i : Int)] h C X := by
  have x1 : hty h (c + 19) = some (2, 14) := HF.1 (19, 2, 14) (by decide)
  have x2 : hvr h (c + 19) 1 = some (c + 14) := HF.2 (19, 1, 14) (by decide)
  have x3 : hty h (c + 14) = some (1, 8) := HF.1 (14, 1, 8) (by decide)
  have x4 : hvr h (c + 14) 3 = some (c + 17) := HF.2 (14, 3, 17) (by decide)
  have x5 : hvr h (c + 14) 4 = some (c + 18) := HF.2 (14, 4, 18) (by decide)
  have x6 : hty h (c + 17) = some (20, 50) := HF.1 (17, 20, 50) (by decide)
  have x7 : hty h (c + 18) = some (21, 50) := HF.1 (18, 21, 50) (by decide)
  obtain ⟨g1, g2, g3, g4, g5⟩ := HE
  have hil := (List.getElem?_eq_some_iff.mp hi).1
  obtain ⟨f1, f2, f3, f4⟩ := g5 i t hi
  have n1 : hvi h (c + 17) i = t.2.2.1 := f3 (by omega)
  have n2 : hvi h (c + 18) i = t.2.2.2 := f4 ht
  unfold cmpS at hC
  generalize t.2.2.1 = n at *
  generalize t.2.2.2 = s at *
  refine ⟨C, fun _ _ => False, ?_, fun _ _ q => q, fun _ _ q => q.elim⟩
  by_cases s1 : s = 43
  · rw [if_pos s1] at hC
    by_cases hv : n < v
    · simp [hv, b01] at hC
      (repeat' (first | with_reducible assumption | (refine And.intro ?_ ?_) | (with_reducible intro _) | (simp [wp_eq, wpE, mk_X2_compares, mg, mc_X2_compares, lget, lset, popN, cats, rcv, entL, isArr, kC_s, kC_n, st1, st2, st3, st4, st5, st6, st7, st8, st9, st10, st11, st12, st13, st14, st15, st16, st17, st18, st19, st20, st21, st22, st23, st24, st25, st26, st27, st28, st29, st30, st31, st32, st33, st34, st35, st36, st37, st38, st39, st40, st41, st42, st43, st44, st45, st46, st47, st48, st49, st50, st51, st52, st53, st54, st55, st56, st57, st58, st59, st60, st61, st62, st63, st64, st65, st66, st67, st68, st69, st70, st71, st72, st73, st74, st75, st76, st77, st78, st79, st80, st81, st82, st83, st84, st85, st86, st87, st88, st89, st90, st91, x1, x2, x3, x4, x5, x6, x7, n1, n2, s1, hv]))) <;> (try (first | omega | exact hz))
    · simp [hv, b01] at hC
      (repeat' (first | with_reducible assumption | (refine And.intro ?_ ?_) | (with_reducible intro _) | (simp [wp_eq, wpE, mk_X2_compares, mg, mc_X2_compares, lget, lset, popN, cats, rcv, entL, isArr, kC_s, kC_n, st1, st2, st3, st4, st5, st6, st7, st8, st9, st10, st11, st12, st13, st14, st15, st16, st17, st18, st19, st20, st21, st22, st23, st24, st25, st26, st27, st28, st29, st30, st31, st32, st33, st34, st35, st36, st37, st38, st39, st40, st41, st42, st43, st44, st45, st46, st47, st48, st49, st50, st51, st52, st53, st54, st55, st56, st57, st58, st59, st60, st61, st62, st63, st64, st65, st66, st67, st68, st69, st70, st71, st72, st73, st74, st75, st76, st77, st78, st79, st80, st81, st82, st83, st84, st85, st86, st87, st88, st89, st90, st91, x1, x2, x3, x4, x5, x6, x7, n1, n2, s1, hv]))) <;> (try (first | omega | exact hz))
  · rw [if_neg s1] at hC
    by_cases s2 : s = 45
    · rw [if_pos s2] at hC
      by_cases hv : v < n
      · simp [hv, b01] at hC
        (repeat' (first | with_reducible assumption | (refine And.intro ?_ ?_) | (with_reducible intro _) | (simp [wp_eq, wpE, mk_X2_compares, mg, mc_X2_compares, lget, lset, popN, cats, rcv, entL, isArr, kC_s, kC_n, st1, st2, st3, st4, st5, st6, st7, st8, st9, st10, st11, st12, st13, st14, st15, st16, st17, st18, st19, st20, st21, st22, st23, st24, st25, st26, st27, st28, st29, st30, st31, st32, st33, st34, st35, st36, st37, st38, st39, st40, st41, st42, st43, st44, st45, st46, st47, st48, st49, st50, st51, st52, st53, st54, st55, st56, st57, st58, st59, st60, st61, st62, st63, st64, st65, st66, st67, st68, st69, st70, st71, st72, st73, st74, st75, st76, st77, st78, st79, st80, st81, st82, st83, st84, st85, st86, st87, st88, st89, st90, st91, x1, x2, x3, x4, x5, x6, x7, n1, n2, s2, hv]))) <;> (try (first | omega | exact hz))
      · simp [hv, b01] at hC
        (repeat' (first | with_reducible assumption | (refine And.intro ?_ ?_) | (with_reducible intro _) | (simp [wp_eq, wpE, mk_X2_compares, mg, mc_X2_compares, lget, lset, popN, cats, rcv, entL, isArr, kC_s, kC_n, st1, st2, st3, st4, st5, st6, st7, st8, st9, st10, st11, st12, st13, st14, st15, st16, st17, st18, st19, st20, st21, st22, st23, st24, st25, st26, st27, st28, st29, st30, st31, st32, st33, st34, st35, st36, st37, st38, st39, st40, st41, st42, st43, st44, st45, st46, st47, st48, st49, st50, st51, st52, st53, st54, st55, st56, st57, st58, st59, st60, st61, st62, st63, st64, st65, st66, st67, st68, st69, st70, st71, st72, st73, st74, st75, st76, st77, st78, st79, st80, st81, st82, st83, st84, st85, st86, st87, st88, st89, st90, st91, x1, x2, x3, x4, x5, x6, x7, n1, n2, s2, hv]))) <;> (try (first | omega | exact hz))
    · rw [if_neg s2] at hC
      by_cases hv : v = n
      · simp [hv, b01] at hC
        (repeat' (first | with_reducible assumption | (refine And.intro ?_ ?_) | (with_reducible intro _) | (simp [wp_eq, wpE, mk_X2_compares, mg, mc_X2_compares, lget, lset, popN, cats, rcv, entL, isArr, kC_s, kC_n, st1, st2, st3, st4, st5, st6, st7, st8, st9, st10, st11, st12, st13, st14, st15, st16, st17, st18, st19, st20, st21, st22, st23, st24, st25, st26, st27, st28, st29, st30, st31, st32, st33, st34, st35, st36, st37, st38, st39, st40, st41, st42, st43, st44, st45, st46, st47, st48, st49, st50, st51, st52, st53, st54, st55, st56, st57, st58, st59, st60, st61, st62, st63, st64, st65, st66, st67, st68, st69, st70, st71, st72, st73, st74, st75, st76, st77, st78, st79, st80, st81, st82, st83, st84, st85, st86, st87, st88, st89, st90, st91, x1, x2, x3, x4, x5, x6, x7, n1, n2, s1, s2, hv]))) <;> (try (first | omega | exact hz))
      · simp [hv, b01] at hC
        (repeat' (first | with_reducible assumption | (refine And.intro ?_ ?_) | (with_reducible intro _) | (simp [wp_eq, wpE, mk_X2_compares, mg, mc_X2_compares, lget, lset, popN, cats, rcv, entL, isArr, kC_s, kC_n, st1, st2, st3, st4, st5, st6, st7, st8, st9, st10, st11, st12, st13, st14, st15, st16, st17, st18, st19, st20, st21, st22, st23, st24, st25, st26, st27, st28, st29, st30, st31, st32, st33, st34, st35, st36, st37, st38, st39, st40, st41, st42, st43, st44, st45, st46, st47, st48, st49, st50, st51, st52, st53, st54, st55, st56, st57, st58, st59, st60, st61, st62, st63, st64, st65, st66, st67, st68, st69, st70, st71, st72, st73, st74, st75, st76, st77, st78, st79, st80, st81, st82, st83, st84, st85, st86, st87, st88, st89, st90, st91, x1, x2, x3, x4, x5, x6, x7, n1, n2, s1, s2, hv]))) <;> (try (first | omega | exact hz))
theorem c_writeLine {G : Nat → Nat} {d g a N : Nat} {h : mH} {C : mQ} {X : mX} {O P : List Int} (H : PG g h O) (hg : hvr h g 0 = some (g + 1)) (ha : hty h a = some (21, N)) (hag : ¬ a = g + 1) (hN : P.length ≤ N) (hN2 : N ≤ 60000) (hr : ro h a 0 P) (bP : bd P)
    (hF : ¬ O.length + P.length + 1 ≤ 1500 → C (some (.inl 0)) h)
    (hC : O.length + P.length + 1 ≤ 1500 → ∀ h', chI (fun x => x = g ∨ x = g + 1) h h' → PG g h' (O ++ P ++ [10]) → C (some (.inl 1)) h') :
    callG (wp G) d 43 0 0 3 [.inr (.inl (some g)), .inr (.inl (some a)), .inl (P.length : Int)] h C X := by
  obtain ⟨p1, p2, p3, p4, p5, p6⟩ := H
  refine ⟨C, fun _ _ => False, ?_, fun _ _ q => q, fun _ _ q => q.elim⟩
  by_cases hl : O.length + P.length + 1 ≤ 1500
  · have e1 : (O.length : Int) + (P.length : Int) = ((O.length + P.length : Nat) : Int) := by omega
    have e2 : ((O.length + P.length : Nat) : Int).toNat = O.length + P.length := by omega
    have hq : chI (fun x => x = g ∨ x = g + 1) h (hsetI (hsetI (hsetI (hcpy h a 0 (g + 1) O.length P.length) g 1 ((O.length + P.length : Nat) : Int)) (g + 1) (O.length + P.length) 10) g 1 (((O.length + P.length : Nat) : Int) + 1)) := chI_trans (chI_trans (chI_trans (chI_cpy (Or.inr rfl)) (chI_set (Or.inl rfl))) (chI_set (Or.inr rfl))) (chI_set (Or.inl rfl))
    have hz := hC hl _ hq ⟨p1, p2, by simp only [hvi_I]; simp; omega, by simp; omega, fun i hi => by
      simp at hi
      rw [hvi_I, if_neg (by omega)]
      by_cases h1 : i < O.length
      · rw [List.append_assoc, lf_app_l h1, hvi_I, if_neg (by omega), hvi_I, if_neg (by omega), hvi_C, if_neg (by omega)]; exact p5 i h1
      · by_cases h2 : i < O.length + P.length
        · rw [lf_app_l (by simp; omega), lf_app_r (by omega), hvi_I, if_neg (by omega), hvi_I, if_neg (by omega), hvi_C, if_pos (by omega), show 0 + (0 + i - O.length) = 0 + (i - O.length) by omega]; exact hr _ (by omega)
        · have h3 : i = O.length + P.length := by omega
          rw [lf_app_r (by simp; omega), hvi_I, if_pos (by omega)]; simp [h3, lf], bd_app (bd_app p6 bP) (fun c hc => by simp at hc; omega)⟩
    (repeat' (first | with_reducible assumption | (refine And.intro ?_ ?_) | (with_reducible intro _) | (simp [wp_eq, wpE, mk_X6_writeLine, mg, mc_X6_writeLine, lget, lset, popN, cats, rcv, entL, isArr, kC_s, kC_n, st1, st2, st3, st4, st5, st6, st7, st8, st9, st10, st11, st12, st13, st14, st15, st16, st17, st18, st19, st20, st21, st22, st23, st24, st25, st26, st27, st28, st29, st30, st31, st32, st33, st34, st35, st36, st37, st38, st39, st40, st41, st42, st43, st44, st45, st46, st47, st48, st49, st50, st51, st52, st53, st54, st55, st56, st57, st58, st59, st60, st61, st62, st63, st64, st65, st66, st67, st68, st69, st70, st71, st72, st73, st74, st75, st76, st77, st78, st79, st80, st81, st82, st83, st84, st85, st86, st87, st88, st89, st90, st91, -Int.natCast_add, p1, p2, p3, hg, ha, e1, e2, inR, hty_I, hvi_I, hvr_I, hvl_I, hsz_I, hty_R, hvi_R, hvr_R, hvl_R, hsz_R, hty_L, hvi_L, hvr_L, hvl_L, hsz_L, hty_P, hvi_P, hvr_P, hvl_P, hsz_P, hty_C, hvi_C, hvr_C, hvl_C, hsz_C]))) <;> (try (first | omega | exact hz))
  · have hz := hF hl
    (repeat' (first | with_reducible assumption | (refine And.intro ?_ ?_) | (with_reducible intro _) | (simp [wp_eq, wpE, mk_X6_writeLine, mg, mc_X6_writeLine, lget, lset, popN, cats, rcv, entL, isArr, kC_s, kC_n, st1, st2, st3, st4, st5, st6, st7, st8, st9, st10, st11, st12, st13, st14, st15, st16, st17, st18, st19, st20, st21, st22, st23, st24, st25, st26, st27, st28, st29, st30, st31, st32, st33, st34, st35, st36, st37, st38, st39, st40, st41, st42, st43, st44, st45, st46, st47, st48, st49, st50, st51, st52, st53, st54, st55, st56, st57, st58, st59, st60, st61, st62, st63, st64, st65, st66, st67, st68, st69, st70, st71, st72, st73, st74, st75, st76, st77, st78, st79, st80, st81, st82, st83, st84, st85, st86, st87, st88, st89, st90, st91, p1, p2, p3, hg, ha, inR, hty_I, hvi_I, hvr_I, hvl_I, hsz_I, hty_R, hvi_R, hvr_R, hvl_R, hsz_R, hty_L, hvi_L, hvr_L, hvl_L, hsz_L, hty_P, hvi_P, hvr_P, hvl_P, hsz_P, hty_C, hvi_C, hvr_C, hvl_C, hsz_C]))) <;> (try (first | omega | exact hz))
