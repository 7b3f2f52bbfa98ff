def RX (r : Nat) (h : mH) (L : List Int) (T : aT) (Es : Nat → List aE) (here : Nat) (pr : Int) : Prop := RN r h ∧ RP r h L ∧ RW r h L ∧ RT r h T Es here ∧ hvi h r 38 = pr ∧ L.length ≤ 100
def RQ (r : Nat) (h : mH) (P : List Int) (fr n : Nat) : Prop := hvi h r 43 = (P.length : Int) ∧ hvi h r 44 = (fr : Int) ∧ hvi h r 45 = ((fr + n : Nat) : Int) ∧ ro h (r + 26) 0 P
def tkO (L : List Int) (t : aK) : Prop := (6 ≤ t.1 ∧ t.1 ≤ 14) ∧ (t.1 < 12 → t.2.1 < (wds L).length ∧ opd t.1 (wd L t.2.1) = some (t.2.2.1, t.2.2.2))
def sTS : List Nat := [16, 31, 120, 139, 140, 141]
theorem RA_ch {r : Nat} {h h' : mH} {s : aS} {l : List Nat} (q : chJ (sR r l) h h') (hl : ∀ c ∈ [0, 16, 120, 139, 140, 141], ¬ c ∈ l) (H : RA r h s) : RA r h' s := ⟨by rw [chJ_fld q (hl _ (by simp)) (hl _ (by simp))]; exact H.1, RO_ch q (fun c hc => hl c (by simp at hc ⊢; omega)) H.2.1, by rw [chJ_fld q (hl _ (by simp)) (hl _ (by simp))]; exact H.2.2.1, by rw [chJ_fld q (hl _ (by simp)) (hl _ (by simp))]; exact H.2.2.2.1, H.2.2.2.2⟩
theorem r_test {G : Nat → Nat} {d r p n fr nn here : Nat} {h : mH} {C : mQ} {X : mX} {L : List Int} {T : aT} {Es : Nat → List aE} {pr : Int} {v : aN} {w P : List Int} {t : aK} {s : aS} (hd : 4 ≤ d) (HX : RX r h L T Es here pr) (hT : T n = some v) (hn : n < 48) (hb : (0 ≤ pr ∧ pr ≤ 999999) ∧ 0 ≤ nD v ∧ nD v ≤ 999999) (HQ : RQ r h P fr nn) (hw : w.length = nn) (hwr : ro h (r + 26) fr w) (hnn : nn ≤ 14) (hfn : fr + nn ≤ P.length) (bP : bd P) (hP : P.length ≤ 1000) (HA : RA r h s) (hp : p < 60) (ht : tkO L t) (hk : hvi h (r + 19) p = (t.1 : Int) - 6) (hf : t.1 < 12 → hvi h (r + 20) p = (t.2.1 : Int)) (hdy : t.1 = 11 → hvi h (r + 22) p = dyW T here L t.2.1)
    (hC : ∀ h', chJ (sR r sTS) h h' → RA r h' (tsF L T here pr v w P t s).2 → C (some (.inl (b01 (tsF L T here pr v w P t s).1))) h') :
    callG (wp G) d 136 0 0 4 [.inr (.inl (some r)), .inl (p : Int), .inl (n : Int)] h C X := by
  obtain ⟨HR, HP, HW, HT, h38, hl⟩ := HX
  obtain ⟨q43, q44, q45, qr⟩ := HQ
  obtain ⟨ht1, ht2⟩ := ht
  have h50 := wds_len hl
  have R0 := HR.1; have R_kinds := rn_kinds HR; have R_sizes := rn_sizes HR; have R_days := rn_days HR; have R_ties := rn_ties HR; have R_line := rn_line HR; have R_begins := rn_begins HR; have R_partKind := rn_partKind HR; have R_first := rn_first HR; have R_dayOf := rn_dayOf HR
  have hRT := HT.2.2 n v hn hT
  have c1 : hvi h (r + 1) n = nK v := by rw [HT.2.1 n hn, tK_some hT]
  have c2 := hRT.1
  have c3 := hRT.2.1
  have c4 := hRT.2.2.1
  refine cg 3 (by omega) (fun d hd => ?_)
  have hd0 : (0 < d) = True := eq_true (by omega)
  have hkk : t.1 = 6 ∨ t.1 = 7 ∨ t.1 = 8 ∨ t.1 = 9 ∨ t.1 = 10 ∨ t.1 = 11 ∨ t.1 = 12 ∨ t.1 = 13 ∨ t.1 = 14 := by omega
  have hid := hC h chJ_refl
  rcases hkk with k | k | k | k | k | k | k | k | k
  · have e : tsF L T here pr v w P t s = (glM L t.2.1 w, s) := by unfold tsF; simp [k]
    rw [e] at hC
    have hf := hf (by omega)
    have ht2 := ht2 (by omega)
    rw [k] at hk
    simp at hk
    have cm : ∀ {C : mQ} {X : mX}, (∀ h', chJ (sR r [31]) h h' → C (some (.inl (b01 (glM L t.2.1 w)))) h') → callG (wp G) d 133 0 0 10 [.inr (.inl (some r)), .inl (t.2.1 : Int)] h C X := fun {C X} z => r_matches (by omega) hl HR HP HW ht2.1 hnn hw (by omega) q44 q45 hwr z
    simp [wp_eq, wpE, mk_X11_test, mg, mc_X11_test, lget, lset, popN, cats, rcv, entL, isArr, kC_s, kC_n, st1, st2, st3, st4, st5, st6, st7, st8, st9, st10, st11, st12, st13, st14, st15, st16, st17, st18, st19, st20, st21, st22, st23, st24, st25, st26, st27, st28, st29, st30, st31, st32, st33, st34, st35, st36, st37, st38, st39, st40, st41, st42, st43, st44, st45, st46, st47, st48, st49, st50, st51, st52, st53, st54, st55, st56, st57, st58, st59, st60, st61, st62, st63, st64, st65, st66, st67, st68, st69, st70, st71, st72, st73, st74, st75, st76, st77, st78, st79, st80, st81, st82, st83, st84, st85, st86, st87, st88, st89, st90, st91, R0, R_partKind, R_first, hk, hf, hd0, swl, show (p : Int) < 60 by omega]
    refine cm (fun zzh zz1 => ?_)
    have hz := hC zzh (chJ_sub zz1 (by simp [sTS])) (RA_ch zz1 (by simp) HA)
    (repeat' (first | with_reducible assumption | (refine And.intro ?_ ?_) | (with_reducible intro _) | (simp [wp_eq, wpE, mk_X11_test, mg, mc_X11_test, lget, lset, popN, cats, rcv, entL, isArr, kC_s, kC_n, st1, st2, st3, st4, st5, st6, st7, st8, st9, st10, st11, st12, st13, st14, st15, st16, st17, st18, st19, st20, st21, st22, st23, st24, st25, st26, st27, st28, st29, st30, st31, st32, st33, st34, st35, st36, st37, st38, st39, st40, st41, st42, st43, st44, st45, st46, st47, st48, st49, st50, st51, st52, st53, st54, st55, st56, st57, st58, st59, st60, st61, st62, st63, st64, st65, st66, st67, st68, st69, st70, st71, st72, st73, st74, st75, st76, st77, st78, st79, st80, st81, st82, st83, st84, st85, st86, st87, st88, st89, st90, st91, swl]))) <;> (try (first | omega | exact hz))
    all_goals first | exact b01_or _ | exact hz
  · have e : tsF L T here pr v w P t s = (nK v == t.2.2.1, s) := by unfold tsF; simp [k]
    rw [e] at hid
    have hf := hf (by omega)
    obtain ⟨ht2, hop⟩ := ht2 (by omega)
    rw [k] at hk hop
    simp at hk
    unfold opd at hop
    rw [if_pos rfl] at hop
    have hz := hid HA
    have b1 := (HW.2 t.2.1 ht2).1
    have hat := wds_at ht2
    have hwl := wd_len L t.2.1
    have c0 := RP_wd (k := t.2.1) (i := 0) hl HP (by omega)
    simp only [Nat.add_zero] at c0
    cases htk : typK (wd L t.2.1) with
    | false => rw [htk] at hop; simp at hop
    | true =>
      rw [htk, if_pos rfl] at hop
      injection hop with hop
      injection hop with ho1 ho2
      rw [← ho1] at hz
      unfold typN at hz
      generalize lf (wd L t.2.1) 0 = y at *
      by_cases y1 : y = 100
      · rw [if_pos y1] at hz
        by_cases y9 : nK v = 0
        · simp [y9, b01] at hz
          (repeat' (first | with_reducible assumption | (refine And.intro ?_ ?_) | (with_reducible intro _) | (simp [wp_eq, wpE, mk_X11_test, mg, mc_X11_test, lget, lset, popN, cats, rcv, entL, isArr, kC_s, kC_n, st1, st2, st3, st4, st5, st6, st7, st8, st9, st10, st11, st12, st13, st14, st15, st16, st17, st18, st19, st20, st21, st22, st23, st24, st25, st26, st27, st28, st29, st30, st31, st32, st33, st34, st35, st36, st37, st38, st39, st40, st41, st42, st43, st44, st45, st46, st47, st48, st49, st50, st51, st52, st53, st54, st55, st56, st57, st58, st59, st60, st61, st62, st63, st64, st65, st66, st67, st68, st69, st70, st71, st72, st73, st74, st75, st76, st77, st78, st79, st80, st81, st82, st83, st84, st85, st86, st87, st88, st89, st90, st91, R0, R_kinds, R_sizes, R_days, R_ties, R_line, R_begins, R_partKind, R_first, R_dayOf, hk, hf, hd0, swl, b1, c0, c1, y1, y9, inR]))) <;> (try (first | omega | exact hz))
        · simp [y9, b01] at hz
          (repeat' (first | with_reducible assumption | (refine And.intro ?_ ?_) | (with_reducible intro _) | (simp [wp_eq, wpE, mk_X11_test, mg, mc_X11_test, lget, lset, popN, cats, rcv, entL, isArr, kC_s, kC_n, st1, st2, st3, st4, st5, st6, st7, st8, st9, st10, st11, st12, st13, st14, st15, st16, st17, st18, st19, st20, st21, st22, st23, st24, st25, st26, st27, st28, st29, st30, st31, st32, st33, st34, st35, st36, st37, st38, st39, st40, st41, st42, st43, st44, st45, st46, st47, st48, st49, st50, st51, st52, st53, st54, st55, st56, st57, st58, st59, st60, st61, st62, st63, st64, st65, st66, st67, st68, st69, st70, st71, st72, st73, st74, st75, st76, st77, st78, st79, st80, st81, st82, st83, st84, st85, st86, st87, st88, st89, st90, st91, R0, R_kinds, R_sizes, R_days, R_ties, R_line, R_begins, R_partKind, R_first, R_dayOf, hk, hf, hd0, swl, b1, c0, c1, y1, y9, inR]))) <;> (try (first | omega | exact hz))
      · rw [if_neg y1] at hz
        by_cases y2 : y = 102
        · rw [if_pos y2] at hz
          by_cases y9 : nK v = 1
          · simp [y9, b01] at hz
            (repeat' (first | with_reducible assumption | (refine And.intro ?_ ?_) | (with_reducible intro _) | (simp [wp_eq, wpE, mk_X11_test, mg, mc_X11_test, lget, lset, popN, cats, rcv, entL, isArr, kC_s, kC_n, st1, st2, st3, st4, st5, st6, st7, st8, st9, st10, st11, st12, st13, st14, st15, st16, st17, st18, st19, st20, st21, st22, st23, st24, st25, st26, st27, st28, st29, st30, st31, st32, st33, st34, st35, st36, st37, st38, st39, st40, st41, st42, st43, st44, st45, st46, st47, st48, st49, st50, st51, st52, st53, st54, st55, st56, st57, st58, st59, st60, st61, st62, st63, st64, st65, st66, st67, st68, st69, st70, st71, st72, st73, st74, st75, st76, st77, st78, st79, st80, st81, st82, st83, st84, st85, st86, st87, st88, st89, st90, st91, R0, R_kinds, R_sizes, R_days, R_ties, R_line, R_begins, R_partKind, R_first, R_dayOf, hk, hf, hd0, swl, b1, c0, c1, y2, y9, inR]))) <;> (try (first | omega | exact hz))
          · simp [y9, b01] at hz
            (repeat' (first | with_reducible assumption | (refine And.intro ?_ ?_) | (with_reducible intro _) | (simp [wp_eq, wpE, mk_X11_test, mg, mc_X11_test, lget, lset, popN, cats, rcv, entL, isArr, kC_s, kC_n, st1, st2, st3, st4, st5, st6, st7, st8, st9, st10, st11, st12, st13, st14, st15, st16, st17, st18, st19, st20, st21, st22, st23, st24, st25, st26, st27, st28, st29, st30, st31, st32, st33, st34, st35, st36, st37, st38, st39, st40, st41, st42, st43, st44, st45, st46, st47, st48, st49, st50, st51, st52, st53, st54, st55, st56, st57, st58, st59, st60, st61, st62, st63, st64, st65, st66, st67, st68, st69, st70, st71, st72, st73, st74, st75, st76, st77, st78, st79, st80, st81, st82, st83, st84, st85, st86, st87, st88, st89, st90, st91, R0, R_kinds, R_sizes, R_days, R_ties, R_line, R_begins, R_partKind, R_first, R_dayOf, hk, hf, hd0, swl, b1, c0, c1, y2, y9, inR]))) <;> (try (first | omega | exact hz))
        · rw [if_neg y2] at hz
          by_cases y9 : nK v = 2
          · simp [y9, b01] at hz
            (repeat' (first | with_reducible assumption | (refine And.intro ?_ ?_) | (with_reducible intro _) | (simp [wp_eq, wpE, mk_X11_test, mg, mc_X11_test, lget, lset, popN, cats, rcv, entL, isArr, kC_s, kC_n, st1, st2, st3, st4, st5, st6, st7, st8, st9, st10, st11, st12, st13, st14, st15, st16, st17, st18, st19, st20, st21, st22, st23, st24, st25, st26, st27, st28, st29, st30, st31, st32, st33, st34, st35, st36, st37, st38, st39, st40, st41, st42, st43, st44, st45, st46, st47, st48, st49, st50, st51, st52, st53, st54, st55, st56, st57, st58, st59, st60, st61, st62, st63, st64, st65, st66, st67, st68, st69, st70, st71, st72, st73, st74, st75, st76, st77, st78, st79, st80, st81, st82, st83, st84, st85, st86, st87, st88, st89, st90, st91, R0, R_kinds, R_sizes, R_days, R_ties, R_line, R_begins, R_partKind, R_first, R_dayOf, hk, hf, hd0, swl, b1, c0, c1, y1, y2, y9, inR]))) <;> (try (first | omega | exact hz))
          · simp [y9, b01] at hz
            (repeat' (first | with_reducible assumption | (refine And.intro ?_ ?_) | (with_reducible intro _) | (simp [wp_eq, wpE, mk_X11_test, mg, mc_X11_test, lget, lset, popN, cats, rcv, entL, isArr, kC_s, kC_n, st1, st2, st3, st4, st5, st6, st7, st8, st9, st10, st11, st12, st13, st14, st15, st16, st17, st18, st19, st20, st21, st22, st23, st24, st25, st26, st27, st28, st29, st30, st31, st32, st33, st34, st35, st36, st37, st38, st39, st40, st41, st42, st43, st44, st45, st46, st47, st48, st49, st50, st51, st52, st53, st54, st55, st56, st57, st58, st59, st60, st61, st62, st63, st64, st65, st66, st67, st68, st69, st70, st71, st72, st73, st74, st75, st76, st77, st78, st79, st80, st81, st82, st83, st84, st85, st86, st87, st88, st89, st90, st91, R0, R_kinds, R_sizes, R_days, R_ties, R_line, R_begins, R_partKind, R_first, R_dayOf, hk, hf, hd0, swl, b1, c0, c1, y1, y2, y9, inR]))) <;> (try (first | omega | exact hz))
  · have e : tsF L T here pr v w P t s = (cmpS t.2.2.2 (nZ v) t.2.2.1, s) := by unfold tsF; simp [k]
    rw [e] at hid
    have hf := hf (by omega)
    obtain ⟨ht2, hop⟩ := ht2 (by omega)
    rw [k] at hk hop
    simp at hk
    have hop : nbr (wd L t.2.1) = some (t.2.2.1, t.2.2.2) := hop
    have hz := hid HA
    (repeat' (first | with_reducible assumption | (refine r_compares HR hl HP HW ht2 hop ?_) | (refine And.intro ?_ ?_) | (with_reducible intro _) | (simp [wp_eq, wpE, mk_X11_test, mg, mc_X11_test, lget, lset, popN, cats, rcv, entL, isArr, kC_s, kC_n, st1, st2, st3, st4, st5, st6, st7, st8, st9, st10, st11, st12, st13, st14, st15, st16, st17, st18, st19, st20, st21, st22, st23, st24, st25, st26, st27, st28, st29, st30, st31, st32, st33, st34, st35, st36, st37, st38, st39, st40, st41, st42, st43, st44, st45, st46, st47, st48, st49, st50, st51, st52, st53, st54, st55, st56, st57, st58, st59, st60, st61, st62, st63, st64, st65, st66, st67, st68, st69, st70, st71, st72, st73, st74, st75, st76, st77, st78, st79, st80, st81, st82, st83, st84, st85, st86, st87, st88, st89, st90, st91, R0, R_kinds, R_sizes, R_days, R_ties, R_line, R_begins, R_partKind, R_first, R_dayOf, hk, hf, hd0, swl, c2, inR]))) <;> (try (first | omega | exact hz))
    all_goals first | omega | exact b01_or _ | exact hz
  · have e : tsF L T here pr v w P t s = (cmpS t.2.2.2 (pr - nD v) t.2.2.1, s) := by unfold tsF; simp [k]
    rw [e] at hid
    have hf := hf (by omega)
    obtain ⟨ht2, hop⟩ := ht2 (by omega)
    rw [k] at hk hop
    simp at hk
    have hop : nbr (wd L t.2.1) = some (t.2.2.1, t.2.2.2) := hop
    have hz := hid HA
    (repeat' (first | with_reducible assumption | (refine r_compares HR hl HP HW ht2 hop ?_) | (refine And.intro ?_ ?_) | (with_reducible intro _) | (simp [wp_eq, wpE, mk_X11_test, mg, mc_X11_test, lget, lset, popN, cats, rcv, entL, isArr, kC_s, kC_n, st1, st2, st3, st4, st5, st6, st7, st8, st9, st10, st11, st12, st13, st14, st15, st16, st17, st18, st19, st20, st21, st22, st23, st24, st25, st26, st27, st28, st29, st30, st31, st32, st33, st34, st35, st36, st37, st38, st39, st40, st41, st42, st43, st44, st45, st46, st47, st48, st49, st50, st51, st52, st53, st54, st55, st56, st57, st58, st59, st60, st61, st62, st63, st64, st65, st66, st67, st68, st69, st70, st71, st72, st73, st74, st75, st76, st77, st78, st79, st80, st81, st82, st83, st84, st85, st86, st87, st88, st89, st90, st91, R0, R_kinds, R_sizes, R_days, R_ties, R_line, R_begins, R_partKind, R_first, R_dayOf, hk, hf, hd0, swl, c3, h38, inR]))) <;> (try (first | omega | exact hz))
    all_goals first | omega | exact b01_or _ | exact hz
  · have e : tsF L T here pr v w P t s = (cmpS t.2.2.2 (nT v) t.2.2.1, s) := by unfold tsF; simp [k]
    rw [e] at hid
    have hf := hf (by omega)
    obtain ⟨ht2, hop⟩ := ht2 (by omega)
    rw [k] at hk hop
    simp at hk
    have hop : nbr (wd L t.2.1) = some (t.2.2.1, t.2.2.2) := hop
    have hz := hid HA
    (repeat' (first | with_reducible assumption | (refine r_compares HR hl HP HW ht2 hop ?_) | (refine And.intro ?_ ?_) | (with_reducible intro _) | (simp [wp_eq, wpE, mk_X11_test, mg, mc_X11_test, lget, lset, popN, cats, rcv, entL, isArr, kC_s, kC_n, st1, st2, st3, st4, st5, st6, st7, st8, st9, st10, st11, st12, st13, st14, st15, st16, st17, st18, st19, st20, st21, st22, st23, st24, st25, st26, st27, st28, st29, st30, st31, st32, st33, st34, st35, st36, st37, st38, st39, st40, st41, st42, st43, st44, st45, st46, st47, st48, st49, st50, st51, st52, st53, st54, st55, st56, st57, st58, st59, st60, st61, st62, st63, st64, st65, st66, st67, st68, st69, st70, st71, st72, st73, st74, st75, st76, st77, st78, st79, st80, st81, st82, st83, st84, st85, st86, st87, st88, st89, st90, st91, R0, R_kinds, R_sizes, R_days, R_ties, R_line, R_begins, R_partKind, R_first, R_dayOf, hk, hf, hd0, swl, c4, inR]))) <;> (try (first | omega | exact hz))
    all_goals first | omega | exact b01_or _ | exact hz
  · have e : tsF L T here pr v w P t s = (decide (dyW T here L t.2.1 < nD v), s) := by unfold tsF; simp [k]
    rw [e] at hid
    have hdy := hdy k
    rw [k] at hk
    simp at hk
    have hz := hid HA
    generalize dyW T here L t.2.1 = y at *
    by_cases hy : y < nD v
    · simp [hy, b01] at hz
      (repeat' (first | with_reducible assumption | (refine And.intro ?_ ?_) | (with_reducible intro _) | (simp [wp_eq, wpE, mk_X11_test, mg, mc_X11_test, lget, lset, popN, cats, rcv, entL, isArr, kC_s, kC_n, st1, st2, st3, st4, st5, st6, st7, st8, st9, st10, st11, st12, st13, st14, st15, st16, st17, st18, st19, st20, st21, st22, st23, st24, st25, st26, st27, st28, st29, st30, st31, st32, st33, st34, st35, st36, st37, st38, st39, st40, st41, st42, st43, st44, st45, st46, st47, st48, st49, st50, st51, st52, st53, st54, st55, st56, st57, st58, st59, st60, st61, st62, st63, st64, st65, st66, st67, st68, st69, st70, st71, st72, st73, st74, st75, st76, st77, st78, st79, st80, st81, st82, st83, st84, st85, st86, st87, st88, st89, st90, st91, R0, R_kinds, R_sizes, R_days, R_ties, R_line, R_begins, R_partKind, R_first, R_dayOf, hk, hd0, swl, c3, hdy, hy]))) <;> (try (first | omega | exact hz))
    · simp [hy, b01] at hz
      (repeat' (first | with_reducible assumption | (refine And.intro ?_ ?_) | (with_reducible intro _) | (simp [wp_eq, wpE, mk_X11_test, mg, mc_X11_test, lget, lset, popN, cats, rcv, entL, isArr, kC_s, kC_n, st1, st2, st3, st4, st5, st6, st7, st8, st9, st10, st11, st12, st13, st14, st15, st16, st17, st18, st19, st20, st21, st22, st23, st24, st25, st26, st27, st28, st29, st30, st31, st32, st33, st34, st35, st36, st37, st38, st39, st40, st41, st42, st43, st44, st45, st46, st47, st48, st49, st50, st51, st52, st53, st54, st55, st56, st57, st58, st59, st60, st61, st62, st63, st64, st65, st66, st67, st68, st69, st70, st71, st72, st73, st74, st75, st76, st77, st78, st79, st80, st81, st82, st83, st84, st85, st86, st87, st88, st89, st90, st91, R0, R_kinds, R_sizes, R_days, R_ties, R_line, R_begins, R_partKind, R_first, R_dayOf, hk, hd0, swl, c3, hdy, hy]))) <;> (try (first | omega | exact hz))
  · have e : tsF L T here pr v w P t s = (true, (true, s.2)) := by unfold tsF; simp [k]
    rw [e] at hC
    rw [k] at hk
    simp at hk
    have hz := hC (hsetI h r 41 1) (chJ_set (by simp [sR, sTS])) ⟨by rw [hvi_I, if_pos ⟨rfl, rfl⟩]; rfl, RO_ch (l := [141]) (chJ_set (by simp [sR])) (by simp) HA.2.1, by rw [hvi_I, if_neg (by omega)]; exact HA.2.2.1, by rw [hvi_I, if_neg (by omega)]; exact HA.2.2.2.1, HA.2.2.2.2⟩
    simp [b01] at hz
    (repeat' (first | with_reducible assumption | (refine And.intro ?_ ?_) | (with_reducible intro _) | (simp [wp_eq, wpE, mk_X11_test, mg, mc_X11_test, lget, lset, popN, cats, rcv, entL, isArr, kC_s, kC_n, st1, st2, st3, st4, st5, st6, st7, st8, st9, st10, st11, st12, st13, st14, st15, st16, st17, st18, st19, st20, st21, st22, st23, st24, st25, st26, st27, st28, st29, st30, st31, st32, st33, st34, st35, st36, st37, st38, st39, st40, st41, st42, st43, st44, st45, st46, st47, st48, st49, st50, st51, st52, st53, st54, st55, st56, st57, st58, st59, st60, st61, st62, st63, st64, st65, st66, st67, st68, st69, st70, st71, st72, st73, st74, st75, st76, st77, st78, st79, st80, st81, st82, st83, st84, st85, st86, st87, st88, st89, st90, st91, R0, R_kinds, R_sizes, R_days, R_ties, R_line, R_begins, R_partKind, R_first, R_dayOf, hk, hd0, swl]))) <;> (try (first | omega | exact hz))
  · have e : tsF L T here pr v w P t s = (true, prt P s) := by unfold tsF; simp [k]
    rw [e] at hC
    rw [k] at hk
    simp at hk
    have cp9 : ∀ {C : mQ} {X : mX}, (∀ h', chJ (sR r sPt) h h' → RA r h' (prt P s) → C none h') → callG (wp G) d 135 0 0 2 [.inr (.inl (some r))] h C X := fun {C X} z => r_print (by omega) HR q43 qr bP hP HA z
    simp [wp_eq, wpE, mk_X11_test, mg, mc_X11_test, lget, lset, popN, cats, rcv, entL, isArr, kC_s, kC_n, st1, st2, st3, st4, st5, st6, st7, st8, st9, st10, st11, st12, st13, st14, st15, st16, st17, st18, st19, st20, st21, st22, st23, st24, st25, st26, st27, st28, st29, st30, st31, st32, st33, st34, st35, st36, st37, st38, st39, st40, st41, st42, st43, st44, st45, st46, st47, st48, st49, st50, st51, st52, st53, st54, st55, st56, st57, st58, st59, st60, st61, st62, st63, st64, st65, st66, st67, st68, st69, st70, st71, st72, st73, st74, st75, st76, st77, st78, st79, st80, st81, st82, st83, st84, st85, st86, st87, st88, st89, st90, st91, R0, R_partKind, R_first, hk, hd0, swl, show (p : Int) < 60 by omega]
    refine cp9 (fun zzh zz1 zz2 => ?_)
    have hz := hC zzh (chJ_sub zz1 (by simp [sPt, sTS])) zz2
    simp [b01] at hz
    (repeat' (first | with_reducible assumption | (refine And.intro ?_ ?_) | (with_reducible intro _) | (simp [wp_eq, wpE, mk_X11_test, mg, mc_X11_test, lget, lset, popN, cats, rcv, entL, isArr, kC_s, kC_n, st1, st2, st3, st4, st5, st6, st7, st8, st9, st10, st11, st12, st13, st14, st15, st16, st17, st18, st19, st20, st21, st22, st23, st24, st25, st26, st27, st28, st29, st30, st31, st32, st33, st34, st35, st36, st37, st38, st39, st40, st41, st42, st43, st44, st45, st46, st47, st48, st49, st50, st51, st52, st53, st54, st55, st56, st57, st58, st59, st60, st61, st62, st63, st64, st65, st66, st67, st68, st69, st70, st71, st72, st73, st74, st75, st76, st77, st78, st79, st80, st81, st82, st83, st84, st85, st86, st87, st88, st89, st90, st91, swl]))) <;> (try (first | omega | exact hz))
  · have e : tsF L T here pr v w P t s = (true, s) := by unfold tsF; simp [k]
    rw [e] at hid
    rw [k] at hk
    simp at hk
    have hz := hid HA
    simp [b01] at hz
    (repeat' (first | with_reducible assumption | (refine And.intro ?_ ?_) | (with_reducible intro _) | (simp [wp_eq, wpE, mk_X11_test, mg, mc_X11_test, lget, lset, popN, cats, rcv, entL, isArr, kC_s, kC_n, st1, st2, st3, st4, st5, st6, st7, st8, st9, st10, st11, st12, st13, st14, st15, st16, st17, st18, st19, st20, st21, st22, st23, st24, st25, st26, st27, st28, st29, st30, st31, st32, st33, st34, st35, st36, st37, st38, st39, st40, st41, st42, st43, st44, st45, st46, st47, st48, st49, st50, st51, st52, st53, st54, st55, st56, st57, st58, st59, st60, st61, st62, st63, st64, st65, st66, st67, st68, st69, st70, st71, st72, st73, st74, st75, st76, st77, st78, st79, st80, st81, st82, st83, st84, st85, st86, st87, st88, st89, st90, st91, R0, R_kinds, R_sizes, R_days, R_ties, R_line, R_begins, R_partKind, R_first, R_dayOf, hk, hd0, swl]))) <;> (try (first | omega | exact hz))
