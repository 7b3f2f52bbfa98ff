theorem r_testOf {G : Nat → Nat} {d r k : Nat} {h : mH} {L : List Int} {C : mQ} {X : mX} (hd : 3 ≤ d) (HR : RN r h) (hl : L.length ≤ 100) (HP : RP r h L) (H : RW r h L) (hk : k < (wds L).length) (hC : C (some (.inl (tsO (wd L k)))) h) :
    callG (wp G) d 123 0 0 2 [.inr (.inl (some r)), .inl (k : Int)] h C X := by
  have R0 := HR.1; have R_line := rn_line HR; have R_begins := rn_begins HR
  have h1 := (H.2 k hk).1
  have h3 := wS_le L k
  have h4 := wd_len L k
  have h5 := wds_len hl
  have e5 : ((wS L k : Int) + 5).toNat = wS L k + 5 := by omega
  have h14 := kd_14 (wd L k)
  have c5 : (wd L k).length = 6 → hvi h (r + 13) (wS L k + 5) = lf (wd L k) 5 := fun q => RP_wd (k := k) (i := 5) hl HP (by omega)
  refine cg 2 (by omega) (fun d hd => ?_)
  have hd0 : (0 < d) = True := eq_true (by omega)
  have rs5 : ∀ {a b c e f : Int} {C : mQ} {X : mX}, C (some (.inl (b01 (smW (wd L k) a b c e f 5)))) h → callG (wp G) d 124 0 0 9 [.inr (.inl (some r)), .inl (k : Int), .inl a, .inl b, .inl c, .inl e, .inl f, .inl 5] h C X := fun {a b c e f C X} z => r_same (n := 5) (by omega) HR hl HP H hk (by omega) z
  have rs6 : ∀ {a b c e f : Int} {C : mQ} {X : mX}, C (some (.inl (b01 (smW (wd L k) a b c e f 6)))) h → callG (wp G) d 124 0 0 9 [.inr (.inl (some r)), .inl (k : Int), .inl a, .inl b, .inl c, .inl e, .inl f, .inl 6] h C X := fun {a b c e f C X} z => r_same (n := 6) (by omega) HR hl HP H hk (by omega) z
  have len6 : ∀ {a b c e f : Int}, smW (wd L k) a b c e f 6 = true → (wd L k).length = 6 := fun {a b c e f} q => by unfold smW at q; simp only [Bool.and_eq_true, decide_eq_true_eq] at q; exact q.1
  generalize hw : wd L k = w at *
  by_cases p6 : smW w 45 110 97 109 101 5 = true
  · have f6 := p6
    have f7 : smW w 45 116 121 112 101 5 = false := sm_ex p6 (by decide)
    have f8 : smW w 45 115 105 122 101 5 = false := sm_ex p6 (by decide)
    have f9 : smW w 45 109 116 105 109 6 = false := sm_ex p6 (by decide)
    have f10 : smW w 45 108 105 110 107 6 = false := sm_ex p6 (by decide)
    have f11 : smW w 45 110 101 119 101 6 = false := sm_ex p6 (by decide)
    have f12 : smW w 45 112 114 117 110 6 = false := sm_ex p6 (by decide)
    have f13 : smW w 45 112 114 105 110 6 = false := sm_ex p6 (by decide)
    have f14 : smW w 45 100 101 112 116 6 = false := sm_ex p6 (by decide)
    have hz := hC
    rw [show tsO w = 0 by rw [l5 p6]; decide] at hz
    (repeat' (first | with_reducible assumption | (refine rs5 ?_) | (refine rs6 ?_) | (refine And.intro ?_ ?_) | (with_reducible intro _) | (simp [wp_eq, wpE, mk_X11_testOf, mg, mc_X11_testOf, lget, lset, popN, cats, rcv, entL, isArr, kC_s, kC_n, st1, st2, st3, st4, st5, st6, st7, st8, st9, st10, st11, st12, st13, st14, st15, st16, st17, st18, st19, st20, st21, st22, st23, st24, st25, st26, st27, st28, st29, st30, st31, st32, st33, st34, st35, st36, st37, st38, st39, st40, st41, st42, st43, st44, st45, st46, st47, st48, st49, st50, st51, st52, st53, st54, st55, st56, st57, st58, st59, st60, st61, st62, st63, st64, st65, st66, st67, st68, st69, st70, st71, st72, st73, st74, st75, st76, st77, st78, st79, st80, st81, st82, st83, st84, st85, st86, st87, st88, st89, st90, st91, R0, R_line, R_begins, h1, e5, hd0, inR, b01, f6, f7, f8, f9, f10, f11, f12, f13, f14]))) <;> (try (first | omega | exact hz))
  have f6 : smW w 45 110 97 109 101 5 = false := by simpa using p6
  by_cases p7 : smW w 45 116 121 112 101 5 = true
  · have f7 := p7
    have f6 : smW w 45 110 97 109 101 5 = false := sm_ex p7 (by decide)
    have f8 : smW w 45 115 105 122 101 5 = false := sm_ex p7 (by decide)
    have f9 : smW w 45 109 116 105 109 6 = false := sm_ex p7 (by decide)
    have f10 : smW w 45 108 105 110 107 6 = false := sm_ex p7 (by decide)
    have f11 : smW w 45 110 101 119 101 6 = false := sm_ex p7 (by decide)
    have f12 : smW w 45 112 114 117 110 6 = false := sm_ex p7 (by decide)
    have f13 : smW w 45 112 114 105 110 6 = false := sm_ex p7 (by decide)
    have f14 : smW w 45 100 101 112 116 6 = false := sm_ex p7 (by decide)
    have hz := hC
    rw [show tsO w = 1 by rw [l5 p7]; decide] at hz
    (repeat' (first | with_reducible assumption | (refine rs5 ?_) | (refine rs6 ?_) | (refine And.intro ?_ ?_) | (with_reducible intro _) | (simp [wp_eq, wpE, mk_X11_testOf, mg, mc_X11_testOf, lget, lset, popN, cats, rcv, entL, isArr, kC_s, kC_n, st1, st2, st3, st4, st5, st6, st7, st8, st9, st10, st11, st12, st13, st14, st15, st16, st17, st18, st19, st20, st21, st22, st23, st24, st25, st26, st27, st28, st29, st30, st31, st32, st33, st34, st35, st36, st37, st38, st39, st40, st41, st42, st43, st44, st45, st46, st47, st48, st49, st50, st51, st52, st53, st54, st55, st56, st57, st58, st59, st60, st61, st62, st63, st64, st65, st66, st67, st68, st69, st70, st71, st72, st73, st74, st75, st76, st77, st78, st79, st80, st81, st82, st83, st84, st85, st86, st87, st88, st89, st90, st91, R0, R_line, R_begins, h1, e5, hd0, inR, b01, f6, f7, f8, f9, f10, f11, f12, f13, f14]))) <;> (try (first | omega | exact hz))
  have f7 : smW w 45 116 121 112 101 5 = false := by simpa using p7
  by_cases p8 : smW w 45 115 105 122 101 5 = true
  · have f8 := p8
    have f6 : smW w 45 110 97 109 101 5 = false := sm_ex p8 (by decide)
    have f7 : smW w 45 116 121 112 101 5 = false := sm_ex p8 (by decide)
    have f9 : smW w 45 109 116 105 109 6 = false := sm_ex p8 (by decide)
    have f10 : smW w 45 108 105 110 107 6 = false := sm_ex p8 (by decide)
    have f11 : smW w 45 110 101 119 101 6 = false := sm_ex p8 (by decide)
    have f12 : smW w 45 112 114 117 110 6 = false := sm_ex p8 (by decide)
    have f13 : smW w 45 112 114 105 110 6 = false := sm_ex p8 (by decide)
    have f14 : smW w 45 100 101 112 116 6 = false := sm_ex p8 (by decide)
    have hz := hC
    rw [show tsO w = 2 by rw [l5 p8]; decide] at hz
    (repeat' (first | with_reducible assumption | (refine rs5 ?_) | (refine rs6 ?_) | (refine And.intro ?_ ?_) | (with_reducible intro _) | (simp [wp_eq, wpE, mk_X11_testOf, mg, mc_X11_testOf, lget, lset, popN, cats, rcv, entL, isArr, kC_s, kC_n, st1, st2, st3, st4, st5, st6, st7, st8, st9, st10, st11, st12, st13, st14, st15, st16, st17, st18, st19, st20, st21, st22, st23, st24, st25, st26, st27, st28, st29, st30, st31, st32, st33, st34, st35, st36, st37, st38, st39, st40, st41, st42, st43, st44, st45, st46, st47, st48, st49, st50, st51, st52, st53, st54, st55, st56, st57, st58, st59, st60, st61, st62, st63, st64, st65, st66, st67, st68, st69, st70, st71, st72, st73, st74, st75, st76, st77, st78, st79, st80, st81, st82, st83, st84, st85, st86, st87, st88, st89, st90, st91, R0, R_line, R_begins, h1, e5, hd0, inR, b01, f6, f7, f8, f9, f10, f11, f12, f13, f14]))) <;> (try (first | omega | exact hz))
  have f8 : smW w 45 115 105 122 101 5 = false := by simpa using p8
  by_cases p9 : smW w 45 109 116 105 109 6 = true
  · have f9 := p9
    have f6 : smW w 45 110 97 109 101 5 = false := sm_ex p9 (by decide)
    have f7 : smW w 45 116 121 112 101 5 = false := sm_ex p9 (by decide)
    have f8 : smW w 45 115 105 122 101 5 = false := sm_ex p9 (by decide)
    have f10 : smW w 45 108 105 110 107 6 = false := sm_ex p9 (by decide)
    have f11 : smW w 45 110 101 119 101 6 = false := sm_ex p9 (by decide)
    have f12 : smW w 45 112 114 117 110 6 = false := sm_ex p9 (by decide)
    have f13 : smW w 45 112 114 105 110 6 = false := sm_ex p9 (by decide)
    have f14 : smW w 45 100 101 112 116 6 = false := sm_ex p9 (by decide)
    have c5 := c5 (len6 p9)
    have z6 := len6 p9
    by_cases hc : lf w 5 = 101
    · have hz := hC
      rw [show tsO w = 3 by rw [l6 p9, hc]; decide] at hz
      (repeat' (first | with_reducible assumption | (refine rs5 ?_) | (refine rs6 ?_) | (refine And.intro ?_ ?_) | (with_reducible intro _) | (simp [wp_eq, wpE, mk_X11_testOf, mg, mc_X11_testOf, lget, lset, popN, cats, rcv, entL, isArr, kC_s, kC_n, st1, st2, st3, st4, st5, st6, st7, st8, st9, st10, st11, st12, st13, st14, st15, st16, st17, st18, st19, st20, st21, st22, st23, st24, st25, st26, st27, st28, st29, st30, st31, st32, st33, st34, st35, st36, st37, st38, st39, st40, st41, st42, st43, st44, st45, st46, st47, st48, st49, st50, st51, st52, st53, st54, st55, st56, st57, st58, st59, st60, st61, st62, st63, st64, st65, st66, st67, st68, st69, st70, st71, st72, st73, st74, st75, st76, st77, st78, st79, st80, st81, st82, st83, st84, st85, st86, st87, st88, st89, st90, st91, R0, R_line, R_begins, h1, e5, hd0, inR, b01, c5, hc, f6, f7, f8, f9, f10, f11, f12, f13, f14]))) <;> (try (first | omega | exact hz))
    · have hz := hC
      have hno : ∀ j, 6 ≤ j → j ≤ 14 → ¬ w = sT j := by
        intro j j1 j2 q
        have key : ∀ j, j < 15 → 6 ≤ j → smW (sT j) 45 109 116 105 109 6 = true → lf (sT j) 5 = 101 := by decide
        rw [q] at p9 hc
        exact hc (key j (by omega) j1 p9)
      have hts : tsO w = -1 := by
        unfold tsO
        by_cases hkk : 6 ≤ kdOf w
        · exact absurd (kd_sT rfl (by omega)) (hno (kdOf w) hkk h14)
        · rw [if_neg hkk]
      rw [hts] at hz
      (repeat' (first | with_reducible assumption | (refine rs5 ?_) | (refine rs6 ?_) | (refine And.intro ?_ ?_) | (with_reducible intro _) | (simp [wp_eq, wpE, mk_X11_testOf, mg, mc_X11_testOf, lget, lset, popN, cats, rcv, entL, isArr, kC_s, kC_n, st1, st2, st3, st4, st5, st6, st7, st8, st9, st10, st11, st12, st13, st14, st15, st16, st17, st18, st19, st20, st21, st22, st23, st24, st25, st26, st27, st28, st29, st30, st31, st32, st33, st34, st35, st36, st37, st38, st39, st40, st41, st42, st43, st44, st45, st46, st47, st48, st49, st50, st51, st52, st53, st54, st55, st56, st57, st58, st59, st60, st61, st62, st63, st64, st65, st66, st67, st68, st69, st70, st71, st72, st73, st74, st75, st76, st77, st78, st79, st80, st81, st82, st83, st84, st85, st86, st87, st88, st89, st90, st91, R0, R_line, R_begins, h1, e5, hd0, inR, b01, c5, hc, f6, f7, f8, f9, f10, f11, f12, f13, f14]))) <;> (try (first | omega | exact hz))
  have f9 : smW w 45 109 116 105 109 6 = false := by simpa using p9
  by_cases p10 : smW w 45 108 105 110 107 6 = true
  · have f10 := p10
    have f6 : smW w 45 110 97 109 101 5 = false := sm_ex p10 (by decide)
    have f7 : smW w 45 116 121 112 101 5 = false := sm_ex p10 (by decide)
    have f8 : smW w 45 115 105 122 101 5 = false := sm_ex p10 (by decide)
    have f9 : smW w 45 109 116 105 109 6 = false := sm_ex p10 (by decide)
    have f11 : smW w 45 110 101 119 101 6 = false := sm_ex p10 (by decide)
    have f12 : smW w 45 112 114 117 110 6 = false := sm_ex p10 (by decide)
    have f13 : smW w 45 112 114 105 110 6 = false := sm_ex p10 (by decide)
    have f14 : smW w 45 100 101 112 116 6 = false := sm_ex p10 (by decide)
    have c5 := c5 (len6 p10)
    have z6 := len6 p10
    by_cases hc : lf w 5 = 115
    · have hz := hC
      rw [show tsO w = 4 by rw [l6 p10, hc]; decide] at hz
      (repeat' (first | with_reducible assumption | (refine rs5 ?_) | (refine rs6 ?_) | (refine And.intro ?_ ?_) | (with_reducible intro _) | (simp [wp_eq, wpE, mk_X11_testOf, mg, mc_X11_testOf, lget, lset, popN, cats, rcv, entL, isArr, kC_s, kC_n, st1, st2, st3, st4, st5, st6, st7, st8, st9, st10, st11, st12, st13, st14, st15, st16, st17, st18, st19, st20, st21, st22, st23, st24, st25, st26, st27, st28, st29, st30, st31, st32, st33, st34, st35, st36, st37, st38, st39, st40, st41, st42, st43, st44, st45, st46, st47, st48, st49, st50, st51, st52, st53, st54, st55, st56, st57, st58, st59, st60, st61, st62, st63, st64, st65, st66, st67, st68, st69, st70, st71, st72, st73, st74, st75, st76, st77, st78, st79, st80, st81, st82, st83, st84, st85, st86, st87, st88, st89, st90, st91, R0, R_line, R_begins, h1, e5, hd0, inR, b01, c5, hc, f6, f7, f8, f9, f10, f11, f12, f13, f14]))) <;> (try (first | omega | exact hz))
    · have hz := hC
      have hno : ∀ j, 6 ≤ j → j ≤ 14 → ¬ w = sT j := by
        intro j j1 j2 q
        have key : ∀ j, j < 15 → 6 ≤ j → smW (sT j) 45 108 105 110 107 6 = true → lf (sT j) 5 = 115 := by decide
        rw [q] at p10 hc
        exact hc (key j (by omega) j1 p10)
      have hts : tsO w = -1 := by
        unfold tsO
        by_cases hkk : 6 ≤ kdOf w
        · exact absurd (kd_sT rfl (by omega)) (hno (kdOf w) hkk h14)
        · rw [if_neg hkk]
      rw [hts] at hz
      (repeat' (first | with_reducible assumption | (refine rs5 ?_) | (refine rs6 ?_) | (refine And.intro ?_ ?_) | (with_reducible intro _) | (simp [wp_eq, wpE, mk_X11_testOf, mg, mc_X11_testOf, lget, lset, popN, cats, rcv, entL, isArr, kC_s, kC_n, st1, st2, st3, st4, st5, st6, st7, st8, st9, st10, st11, st12, st13, st14, st15, st16, st17, st18, st19, st20, st21, st22, st23, st24, st25, st26, st27, st28, st29, st30, st31, st32, st33, st34, st35, st36, st37, st38, st39, st40, st41, st42, st43, st44, st45, st46, st47, st48, st49, st50, st51, st52, st53, st54, st55, st56, st57, st58, st59, st60, st61, st62, st63, st64, st65, st66, st67, st68, st69, st70, st71, st72, st73, st74, st75, st76, st77, st78, st79, st80, st81, st82, st83, st84, st85, st86, st87, st88, st89, st90, st91, R0, R_line, R_begins, h1, e5, hd0, inR, b01, c5, hc, f6, f7, f8, f9, f10, f11, f12, f13, f14]))) <;> (try (first | omega | exact hz))
  have f10 : smW w 45 108 105 110 107 6 = false := by simpa using p10
  by_cases p11 : smW w 45 110 101 119 101 6 = true
  · have f11 := p11
    have f6 : smW w 45 110 97 109 101 5 = false := sm_ex p11 (by decide)
    have f7 : smW w 45 116 121 112 101 5 = false := sm_ex p11 (by decide)
    have f8 : smW w 45 115 105 122 101 5 = false := sm_ex p11 (by decide)
    have f9 : smW w 45 109 116 105 109 6 = false := sm_ex p11 (by decide)
    have f10 : smW w 45 108 105 110 107 6 = false := sm_ex p11 (by decide)
    have f12 : smW w 45 112 114 117 110 6 = false := sm_ex p11 (by decide)
    have f13 : smW w 45 112 114 105 110 6 = false := sm_ex p11 (by decide)
    have f14 : smW w 45 100 101 112 116 6 = false := sm_ex p11 (by decide)
    have c5 := c5 (len6 p11)
    have z6 := len6 p11
    by_cases hc : lf w 5 = 114
    · have hz := hC
      rw [show tsO w = 5 by rw [l6 p11, hc]; decide] at hz
      (repeat' (first | with_reducible assumption | (refine rs5 ?_) | (refine rs6 ?_) | (refine And.intro ?_ ?_) | (with_reducible intro _) | (simp [wp_eq, wpE, mk_X11_testOf, mg, mc_X11_testOf, lget, lset, popN, cats, rcv, entL, isArr, kC_s, kC_n, st1, st2, st3, st4, st5, st6, st7, st8, st9, st10, st11, st12, st13, st14, st15, st16, st17, st18, st19, st20, st21, st22, st23, st24, st25, st26, st27, st28, st29, st30, st31, st32, st33, st34, st35, st36, st37, st38, st39, st40, st41, st42, st43, st44, st45, st46, st47, st48, st49, st50, st51, st52, st53, st54, st55, st56, st57, st58, st59, st60, st61, st62, st63, st64, st65, st66, st67, st68, st69, st70, st71, st72, st73, st74, st75, st76, st77, st78, st79, st80, st81, st82, st83, st84, st85, st86, st87, st88, st89, st90, st91, R0, R_line, R_begins, h1, e5, hd0, inR, b01, c5, hc, f6, f7, f8, f9, f10, f11, f12, f13, f14]))) <;> (try (first | omega | exact hz))
    · have hz := hC
      have hno : ∀ j, 6 ≤ j → j ≤ 14 → ¬ w = sT j := by
        intro j j1 j2 q
        have key : ∀ j, j < 15 → 6 ≤ j → smW (sT j) 45 110 101 119 101 6 = true → lf (sT j) 5 = 114 := by decide
        rw [q] at p11 hc
        exact hc (key j (by omega) j1 p11)
      have hts : tsO w = -1 := by
        unfold tsO
        by_cases hkk : 6 ≤ kdOf w
        · exact absurd (kd_sT rfl (by omega)) (hno (kdOf w) hkk h14)
        · rw [if_neg hkk]
      rw [hts] at hz
      (repeat' (first | with_reducible assumption | (refine rs5 ?_) | (refine rs6 ?_) | (refine And.intro ?_ ?_) | (with_reducible intro _) | (simp [wp_eq, wpE, mk_X11_testOf, mg, mc_X11_testOf, lget, lset, popN, cats, rcv, entL, isArr, kC_s, kC_n, st1, st2, st3, st4, st5, st6, st7, st8, st9, st10, st11, st12, st13, st14, st15, st16, st17, st18, st19, st20, st21, st22, st23, st24, st25, st26, st27, st28, st29, st30, st31, st32, st33, st34, st35, st36, st37, st38, st39, st40, st41, st42, st43, st44, st45, st46, st47, st48, st49, st50, st51, st52, st53, st54, st55, st56, st57, st58, st59, st60, st61, st62, st63, st64, st65, st66, st67, st68, st69, st70, st71, st72, st73, st74, st75, st76, st77, st78, st79, st80, st81, st82, st83, st84, st85, st86, st87, st88, st89, st90, st91, R0, R_line, R_begins, h1, e5, hd0, inR, b01, c5, hc, f6, f7, f8, f9, f10, f11, f12, f13, f14]))) <;> (try (first | omega | exact hz))
  have f11 : smW w 45 110 101 119 101 6 = false := by simpa using p11
  by_cases p12 : smW w 45 112 114 117 110 6 = true
  · have f12 := p12
    have f6 : smW w 45 110 97 109 101 5 = false := sm_ex p12 (by decide)
    have f7 : smW w 45 116 121 112 101 5 = false := sm_ex p12 (by decide)
    have f8 : smW w 45 115 105 122 101 5 = false := sm_ex p12 (by decide)
    have f9 : smW w 45 109 116 105 109 6 = false := sm_ex p12 (by decide)
    have f10 : smW w 45 108 105 110 107 6 = false := sm_ex p12 (by decide)
    have f11 : smW w 45 110 101 119 101 6 = false := sm_ex p12 (by decide)
    have f13 : smW w 45 112 114 105 110 6 = false := sm_ex p12 (by decide)
    have f14 : smW w 45 100 101 112 116 6 = false := sm_ex p12 (by decide)
    have c5 := c5 (len6 p12)
    have z6 := len6 p12
    by_cases hc : lf w 5 = 101
    · have hz := hC
      rw [show tsO w = 6 by rw [l6 p12, hc]; decide] at hz
      (repeat' (first | with_reducible assumption | (refine rs5 ?_) | (refine rs6 ?_) | (refine And.intro ?_ ?_) | (with_reducible intro _) | (simp [wp_eq, wpE, mk_X11_testOf, mg, mc_X11_testOf, lget, lset, popN, cats, rcv, entL, isArr, kC_s, kC_n, st1, st2, st3, st4, st5, st6, st7, st8, st9, st10, st11, st12, st13, st14, st15, st16, st17, st18, st19, st20, st21, st22, st23, st24, st25, st26, st27, st28, st29, st30, st31, st32, st33, st34, st35, st36, st37, st38, st39, st40, st41, st42, st43, st44, st45, st46, st47, st48, st49, st50, st51, st52, st53, st54, st55, st56, st57, st58, st59, st60, st61, st62, st63, st64, st65, st66, st67, st68, st69, st70, st71, st72, st73, st74, st75, st76, st77, st78, st79, st80, st81, st82, st83, st84, st85, st86, st87, st88, st89, st90, st91, R0, R_line, R_begins, h1, e5, hd0, inR, b01, c5, hc, f6, f7, f8, f9, f10, f11, f12, f13, f14]))) <;> (try (first | omega | exact hz))
    · have hz := hC
      have hno : ∀ j, 6 ≤ j → j ≤ 14 → ¬ w = sT j := by
        intro j j1 j2 q
        have key : ∀ j, j < 15 → 6 ≤ j → smW (sT j) 45 112 114 117 110 6 = true → lf (sT j) 5 = 101 := by decide
        rw [q] at p12 hc
        exact hc (key j (by omega) j1 p12)
      have hts : tsO w = -1 := by
        unfold tsO
        by_cases hkk : 6 ≤ kdOf w
        · exact absurd (kd_sT rfl (by omega)) (hno (kdOf w) hkk h14)
        · rw [if_neg hkk]
      rw [hts] at hz
      (repeat' (first | with_reducible assumption | (refine rs5 ?_) | (refine rs6 ?_) | (refine And.intro ?_ ?_) | (with_reducible intro _) | (simp [wp_eq, wpE, mk_X11_testOf, mg, mc_X11_testOf, lget, lset, popN, cats, rcv, entL, isArr, kC_s, kC_n, st1, st2, st3, st4, st5, st6, st7, st8, st9, st10, st11, st12, st13, st14, st15, st16, st17, st18, st19, st20, st21, st22, st23, st24, st25, st26, st27, st28, st29, st30, st31, st32, st33, st34, st35, st36, st37, st38, st39, st40, st41, st42, st43, st44, st45, st46, st47, st48, st49, st50, st51, st52, st53, st54, st55, st56, st57, st58, st59, st60, st61, st62, st63, st64, st65, st66, st67, st68, st69, st70, st71, st72, st73, st74, st75, st76, st77, st78, st79, st80, st81, st82, st83, st84, st85, st86, st87, st88, st89, st90, st91, R0, R_line, R_begins, h1, e5, hd0, inR, b01, c5, hc, f6, f7, f8, f9, f10, f11, f12, f13, f14]))) <;> (try (first | omega | exact hz))
  have f12 : smW w 45 112 114 117 110 6 = false := by simpa using p12
  by_cases p13 : smW w 45 112 114 105 110 6 = true
  · have f13 := p13
    have f6 : smW w 45 110 97 109 101 5 = false := sm_ex p13 (by decide)
    have f7 : smW w 45 116 121 112 101 5 = false := sm_ex p13 (by decide)
    have f8 : smW w 45 115 105 122 101 5 = false := sm_ex p13 (by decide)
    have f9 : smW w 45 109 116 105 109 6 = false := sm_ex p13 (by decide)
    have f10 : smW w 45 108 105 110 107 6 = false := sm_ex p13 (by decide)
    have f11 : smW w 45 110 101 119 101 6 = false := sm_ex p13 (by decide)
    have f12 : smW w 45 112 114 117 110 6 = false := sm_ex p13 (by decide)
    have f14 : smW w 45 100 101 112 116 6 = false := sm_ex p13 (by decide)
    have c5 := c5 (len6 p13)
    have z6 := len6 p13
    by_cases hc : lf w 5 = 116
    · have hz := hC
      rw [show tsO w = 7 by rw [l6 p13, hc]; decide] at hz
      (repeat' (first | with_reducible assumption | (refine rs5 ?_) | (refine rs6 ?_) | (refine And.intro ?_ ?_) | (with_reducible intro _) | (simp [wp_eq, wpE, mk_X11_testOf, mg, mc_X11_testOf, lget, lset, popN, cats, rcv, entL, isArr, kC_s, kC_n, st1, st2, st3, st4, st5, st6, st7, st8, st9, st10, st11, st12, st13, st14, st15, st16, st17, st18, st19, st20, st21, st22, st23, st24, st25, st26, st27, st28, st29, st30, st31, st32, st33, st34, st35, st36, st37, st38, st39, st40, st41, st42, st43, st44, st45, st46, st47, st48, st49, st50, st51, st52, st53, st54, st55, st56, st57, st58, st59, st60, st61, st62, st63, st64, st65, st66, st67, st68, st69, st70, st71, st72, st73, st74, st75, st76, st77, st78, st79, st80, st81, st82, st83, st84, st85, st86, st87, st88, st89, st90, st91, R0, R_line, R_begins, h1, e5, hd0, inR, b01, c5, hc, f6, f7, f8, f9, f10, f11, f12, f13, f14]))) <;> (try (first | omega | exact hz))
    · have hz := hC
      have hno : ∀ j, 6 ≤ j → j ≤ 14 → ¬ w = sT j := by
        intro j j1 j2 q
        have key : ∀ j, j < 15 → 6 ≤ j → smW (sT j) 45 112 114 105 110 6 = true → lf (sT j) 5 = 116 := by decide
        rw [q] at p13 hc
        exact hc (key j (by omega) j1 p13)
      have hts : tsO w = -1 := by
        unfold tsO
        by_cases hkk : 6 ≤ kdOf w
        · exact absurd (kd_sT rfl (by omega)) (hno (kdOf w) hkk h14)
        · rw [if_neg hkk]
      rw [hts] at hz
      (repeat' (first | with_reducible assumption | (refine rs5 ?_) | (refine rs6 ?_) | (refine And.intro ?_ ?_) | (with_reducible intro _) | (simp [wp_eq, wpE, mk_X11_testOf, mg, mc_X11_testOf, lget, lset, popN, cats, rcv, entL, isArr, kC_s, kC_n, st1, st2, st3, st4, st5, st6, st7, st8, st9, st10, st11, st12, st13, st14, st15, st16, st17, st18, st19, st20, st21, st22, st23, st24, st25, st26, st27, st28, st29, st30, st31, st32, st33, st34, st35, st36, st37, st38, st39, st40, st41, st42, st43, st44, st45, st46, st47, st48, st49, st50, st51, st52, st53, st54, st55, st56, st57, st58, st59, st60, st61, st62, st63, st64, st65, st66, st67, st68, st69, st70, st71, st72, st73, st74, st75, st76, st77, st78, st79, st80, st81, st82, st83, st84, st85, st86, st87, st88, st89, st90, st91, R0, R_line, R_begins, h1, e5, hd0, inR, b01, c5, hc, f6, f7, f8, f9, f10, f11, f12, f13, f14]))) <;> (try (first | omega | exact hz))
  have f13 : smW w 45 112 114 105 110 6 = false := by simpa using p13
  by_cases p14 : smW w 45 100 101 112 116 6 = true
  · have f14 := p14
    have f6 : smW w 45 110 97 109 101 5 = false := sm_ex p14 (by decide)
    have f7 : smW w 45 116 121 112 101 5 = false := sm_ex p14 (by decide)
    have f8 : smW w 45 115 105 122 101 5 = false := sm_ex p14 (by decide)
    have f9 : smW w 45 109 116 105 109 6 = false := sm_ex p14 (by decide)
    have f10 : smW w 45 108 105 110 107 6 = false := sm_ex p14 (by decide)
    have f11 : smW w 45 110 101 119 101 6 = false := sm_ex p14 (by decide)
    have f12 : smW w 45 112 114 117 110 6 = false := sm_ex p14 (by decide)
    have f13 : smW w 45 112 114 105 110 6 = false := sm_ex p14 (by decide)
    have c5 := c5 (len6 p14)
    have z6 := len6 p14
    by_cases hc : lf w 5 = 104
    · have hz := hC
      rw [show tsO w = 8 by rw [l6 p14, hc]; decide] at hz
      (repeat' (first | with_reducible assumption | (refine rs5 ?_) | (refine rs6 ?_) | (refine And.intro ?_ ?_) | (with_reducible intro _) | (simp [wp_eq, wpE, mk_X11_testOf, mg, mc_X11_testOf, lget, lset, popN, cats, rcv, entL, isArr, kC_s, kC_n, st1, st2, st3, st4, st5, st6, st7, st8, st9, st10, st11, st12, st13, st14, st15, st16, st17, st18, st19, st20, st21, st22, st23, st24, st25, st26, st27, st28, st29, st30, st31, st32, st33, st34, st35, st36, st37, st38, st39, st40, st41, st42, st43, st44, st45, st46, st47, st48, st49, st50, st51, st52, st53, st54, st55, st56, st57, st58, st59, st60, st61, st62, st63, st64, st65, st66, st67, st68, st69, st70, st71, st72, st73, st74, st75, st76, st77, st78, st79, st80, st81, st82, st83, st84, st85, st86, st87, st88, st89, st90, st91, R0, R_line, R_begins, h1, e5, hd0, inR, b01, c5, hc, f6, f7, f8, f9, f10, f11, f12, f13, f14]))) <;> (try (first | omega | exact hz))
    · have hz := hC
      have hno : ∀ j, 6 ≤ j → j ≤ 14 → ¬ w = sT j := by
        intro j j1 j2 q
        have key : ∀ j, j < 15 → 6 ≤ j → smW (sT j) 45 100 101 112 116 6 = true → lf (sT j) 5 = 104 := by decide
        rw [q] at p14 hc
        exact hc (key j (by omega) j1 p14)
      have hts : tsO w = -1 := by
        unfold tsO
        by_cases hkk : 6 ≤ kdOf w
        · exact absurd (kd_sT rfl (by omega)) (hno (kdOf w) hkk h14)
        · rw [if_neg hkk]
      rw [hts] at hz
      (repeat' (first | with_reducible assumption | (refine rs5 ?_) | (refine rs6 ?_) | (refine And.intro ?_ ?_) | (with_reducible intro _) | (simp [wp_eq, wpE, mk_X11_testOf, mg, mc_X11_testOf, lget, lset, popN, cats, rcv, entL, isArr, kC_s, kC_n, st1, st2, st3, st4, st5, st6, st7, st8, st9, st10, st11, st12, st13, st14, st15, st16, st17, st18, st19, st20, st21, st22, st23, st24, st25, st26, st27, st28, st29, st30, st31, st32, st33, st34, st35, st36, st37, st38, st39, st40, st41, st42, st43, st44, st45, st46, st47, st48, st49, st50, st51, st52, st53, st54, st55, st56, st57, st58, st59, st60, st61, st62, st63, st64, st65, st66, st67, st68, st69, st70, st71, st72, st73, st74, st75, st76, st77, st78, st79, st80, st81, st82, st83, st84, st85, st86, st87, st88, st89, st90, st91, R0, R_line, R_begins, h1, e5, hd0, inR, b01, c5, hc, f6, f7, f8, f9, f10, f11, f12, f13, f14]))) <;> (try (first | omega | exact hz))
  have f14 : smW w 45 100 101 112 116 6 = false := by simpa using p14
  have hz := hC
  have hno : ∀ j, 6 ≤ j → j ≤ 14 → ¬ w = sT j := by
    intro j j1 j2 q
    have key : ∀ j, j < 15 → 6 ≤ j → smW (sT j) 45 110 97 109 101 5 = true ∨ smW (sT j) 45 116 121 112 101 5 = true ∨ smW (sT j) 45 115 105 122 101 5 = true ∨ smW (sT j) 45 109 116 105 109 6 = true ∨ smW (sT j) 45 108 105 110 107 6 = true ∨ smW (sT j) 45 110 101 119 101 6 = true ∨ smW (sT j) 45 112 114 117 110 6 = true ∨ smW (sT j) 45 112 114 105 110 6 = true ∨ smW (sT j) 45 100 101 112 116 6 = true := by decide
    have := key j (by omega) j1
    rw [← q] at this
    simp [f6, f7, f8, f9, f10, f11, f12, f13, f14] at this
  have hts : tsO w = -1 := by
    unfold tsO
    by_cases hkk : 6 ≤ kdOf w
    · exact absurd (kd_sT rfl (by omega)) (hno (kdOf w) hkk h14)
    · rw [if_neg hkk]
  rw [hts] at hz
  (repeat' (first | with_reducible assumption | (refine rs5 ?_) | (refine rs6 ?_) | (refine And.intro ?_ ?_) | (with_reducible intro _) | (simp [wp_eq, wpE, mk_X11_testOf, mg, mc_X11_testOf, lget, lset, popN, cats, rcv, entL, isArr, kC_s, kC_n, st1, st2, st3, st4, st5, st6, st7, st8, st9, st10, st11, st12, st13, st14, st15, st16, st17, st18, st19, st20, st21, st22, st23, st24, st25, st26, st27, st28, st29, st30, st31, st32, st33, st34, st35, st36, st37, st38, st39, st40, st41, st42, st43, st44, st45, st46, st47, st48, st49, st50, st51, st52, st53, st54, st55, st56, st57, st58, st59, st60, st61, st62, st63, st64, st65, st66, st67, st68, st69, st70, st71, st72, st73, st74, st75, st76, st77, st78, st79, st80, st81, st82, st83, st84, st85, st86, st87, st88, st89, st90, st91, R0, R_line, R_begins, h1, e5, hd0, inR, b01, f6, f7, f8, f9, f10, f11, f12, f13, f14]))) <;> (try (first | omega | exact hz))
