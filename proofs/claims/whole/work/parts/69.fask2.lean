theorem b01_or (b : Bool) : b01 b = 0 ∨ b01 b = 1 := by cases b <;> simp [b01]
def NF (c : Nat) (h : mH) (fr n e : Nat) : Prop := hvi h (c + 19) 11 = (fr : Int) ∧ hvi h (c + 19) 12 = ((fr + n : Nat) : Int) ∧ hvi h (c + 19) 13 = (e : Int)
theorem f_isTrue {G : Nat → Nat} {d c here a i fr n : Nat} {h : mH} {C : mQ} {X : mX} {L : List Int} {T : aT} {K : List aK} {pr : Int} {s : aS} {cp bad : Int} {v : aN} {w P : List Int} {t : aK} (hd : 4 ≤ d) (H : FA c h L T here K pr s cp bad) (hv : ND h a v) (hb : (0 ≤ pr ∧ pr ≤ 999999) ∧ 0 ≤ nD v ∧ nD v ≤ 999999) (hi : K[i]? = some t) (ht : 6 ≤ t.1 ∧ t.1 ≤ 14) (hP : ro h (c + 25) 0 P) (bP : bd P) (hl : P.length ≤ 820) (hN : NF c h fr n P.length) (hw : w.length = n) (hr : ro h (c + 25) fr w) (hn : n ≤ 14) (hfn : fr + n ≤ 820)
    (hC : ∀ h', chI (SI c) h h' → FA c h' L T here K pr (tsF L T here pr v w P t s).2 cp bad → (∀ j, 11 ≤ j → hvi h' (c + 19) j = hvi h (c + 19) j) → C (some (.inl (b01 (tsF L T here pr v w P t s).1))) h') :
    callG (wp G) d 17 0 0 4 [.inr (.inl (some (c + 19))), .inr (.inl (some a)), .inl (i : Int)] h C X := by
  have HH := H
  obtain ⟨f1, ⟨p1, p2, p3, p4, p5⟩, f3, ⟨k6, k7, k9, k10⟩, f5⟩ := HH
  have hcp := f1.2.2.2.2.2.2.1
  have HF := f1.1
  have HL := f1.2.1
  have hp := f1.2.2.2.2.2.1
  have HE := H.2.1
  have x1 : hty h (c + 19) = some (2, 14) := HF.1 (19, 2, 14) (by decide)
  have x2 : hvr h (c + 19) 1 = some (c + 14) := HF.2 (19, 1, 14) (by decide)
  have x3 : hty h (c + 14) = some (1, 8) := HF.1 (14, 1, 8) (by decide)
  have x4 : hvr h (c + 14) 3 = some (c + 17) := HF.2 (14, 3, 17) (by decide)
  have x5 : hvr h (c + 14) 1 = some (c + 15) := HF.2 (14, 1, 15) (by decide)
  have x6 : hty h (c + 17) = some (20, 50) := HF.1 (17, 20, 50) (by decide)
  have x7 : hty h (c + 15) = some (20, 50) := HF.1 (15, 20, 50) (by decide)
  have x8 : hvr h (c + 14) 2 = some (c + 16) := HF.2 (14, 2, 16) (by decide)
  have x9 : hty h (c + 16) = some (20, 50) := HF.1 (16, 20, 50) (by decide)
  have y1 : hvr h (c + 19) 3 = some (c + 26) := HF.2 (19, 3, 26) (by decide)
  have y2 : hty h (c + 26) = some (3, 2) := HF.1 (26, 3, 2) (by decide)
  have y3 : hvr h (c + 26) 0 = some (c + 1) := HF.2 (26, 0, 1) (by decide)
  have y4 : hvr h (c + 19) 5 = some (c + 25) := HF.2 (19, 5, 25) (by decide)
  have y5 : hty h (c + 25) = some (21, 820) := HF.1 (25, 21, 820) (by decide)
  have hil := (List.getElem?_eq_some_iff.mp hi).1
  obtain ⟨f11, f12, f13, f14⟩ := p5 i t hi
  have n1 : hvi h (c + 15) i = (t.1 : Int) := f11
  have n2 : 6 ≤ t.1 ∧ t.1 < 12 → hvi h (c + 16) i = (t.2.1 : Int) := f12
  have n3 : 7 ≤ t.1 ∧ t.1 ≤ 10 → hvi h (c + 17) i = t.2.2.1 := f13
  have v1 := hv.1
  have v2 := hv.2.1
  have v3 := hv.2.2.1
  have v4 := hv.2.2.2.1
  have v5 := hv.2.2.2.2.2.2.2.2.1
  obtain ⟨m1, m2, m3⟩ := hN
  have h50 : i < 50 := by omega
  have h50i : (i : Int) < 50 := by omega
  have hk : t.1 = 6 ∨ t.1 = 7 ∨ t.1 = 8 ∨ t.1 = 9 ∨ t.1 = 10 ∨ t.1 = 11 ∨ t.1 = 12 ∨ t.1 = 13 ∨ t.1 = 14 := by omega
  refine cg 3 (by omega) (fun d hd => ?_)
  have hd0 : (0 < d) = True := eq_true (by omega)
  rcases hk with hk | hk | hk | hk | hk | hk | hk | hk | hk
  · have e : tsF L T here pr v w P t s = (glM L t.2.1 w, s) := by unfold tsF; simp [hk]
    rw [e] at hC
    have n2 := n2 (by omega)
    rw [hk] at n1
    have q1 : chI (SI c) h (hsetI h (c + 26) 1 (wE L t.2.1 : Int)) := chI_set (by unfold SI; omega)
    have hz := hC _ q1 (FA_ch H (chI_mono (fun a => SI_SA) q1) (PG_set (by omega) (by omega) hp) (by rw [hvi_I, if_neg (by omega)]; exact k6) (by rw [hvi_I, if_neg (by omega)]; exact k7) (by rw [hvi_I, if_neg (by omega)]; exact hcp) (by rw [hvi_I, if_neg (by omega)]; exact k9) (by rw [hvi_I, if_neg (by omega)]; exact k10) f5) (fun j hj => by rw [hvi_I, if_neg (by omega)])
    have cm : ∀ {C : mQ} {X : mX}, C (some (.inl (b01 (glM L t.2.1 w)))) (hsetI h (c + 26) 1 (wE L t.2.1 : Int)) → callG (wp G) d 21 0 0 15 [.inr (.inl (some (c + 26))), .inl (t.2.1 : Int), .inr (.inl (some (c + 25))), .inl (fr : Int), .inl ((fr + n : Nat) : Int)] h C X := fun {C X} z => c_matches (N := 820) (by omega) y2 y3 HL (by omega) (by omega) y5 hfn (by omega) hw hr hn z
    (repeat' (first | with_reducible assumption | (refine cm ?_) | (refine And.intro ?_ ?_) | (with_reducible intro _) | (simp [wp_eq, wpE, mk_X2_isTrue, mg, mc_X2_isTrue, lget, lset, popN, cats, rcv, entL, isArr, kC_s, kC_n, st1, st2, st3, st4, st5, st6, st7, st8, st9, st10, st11, st12, st13, st14, st15, st16, st17, st18, st19, st20, st21, st22, st23, st24, st25, st26, st27, st28, st29, st30, st31, st32, st33, st34, st35, st36, st37, st38, st39, st40, st41, st42, st43, st44, st45, st46, st47, st48, st49, st50, st51, st52, st53, st54, st55, st56, st57, st58, st59, st60, st61, st62, st63, st64, st65, st66, st67, st68, st69, st70, st71, st72, st73, st74, st75, st76, st77, st78, st79, st80, st81, st82, st83, st84, st85, st86, st87, st88, st89, st90, st91, -Int.natCast_add, x1, x2, x3, x4, x5, x6, x7, x8, x9, y1, y2, y4, n1, n2, m1, m2, hd0, h50, swl]))) <;> (try (first | omega | exact hz))
    all_goals first | omega | exact b01_or _ | exact hz
  · have e : tsF L T here pr v w P t s = (nK v == t.2.2.1, s) := by unfold tsF; simp [hk]
    rw [e] at hC
    have n3 := n3 (by omega)
    rw [hk] at n1
    have hz := hC h chI_refl H (fun _ _ => rfl)
    generalize t.2.2.1 = y at *
    by_cases hy : nK v = y
    · simp [hy, b01] at hz
      (repeat' (first | with_reducible assumption | (refine And.intro ?_ ?_) | (with_reducible intro _) | (simp [wp_eq, wpE, mk_X2_isTrue, mg, mc_X2_isTrue, lget, lset, popN, cats, rcv, entL, isArr, kC_s, kC_n, st1, st2, st3, st4, st5, st6, st7, st8, st9, st10, st11, st12, st13, st14, st15, st16, st17, st18, st19, st20, st21, st22, st23, st24, st25, st26, st27, st28, st29, st30, st31, st32, st33, st34, st35, st36, st37, st38, st39, st40, st41, st42, st43, st44, st45, st46, st47, st48, st49, st50, st51, st52, st53, st54, st55, st56, st57, st58, st59, st60, st61, st62, st63, st64, st65, st66, st67, st68, st69, st70, st71, st72, st73, st74, st75, st76, st77, st78, st79, st80, st81, st82, st83, st84, st85, st86, st87, st88, st89, st90, st91, x1, x2, x3, x4, x5, x6, x7, n1, n3, v1, v2, hd0, h50, hy, swl]))) <;> (try (first | omega | exact hz))
    · simp [hy, b01] at hz
      (repeat' (first | with_reducible assumption | (refine And.intro ?_ ?_) | (with_reducible intro _) | (simp [wp_eq, wpE, mk_X2_isTrue, mg, mc_X2_isTrue, lget, lset, popN, cats, rcv, entL, isArr, kC_s, kC_n, st1, st2, st3, st4, st5, st6, st7, st8, st9, st10, st11, st12, st13, st14, st15, st16, st17, st18, st19, st20, st21, st22, st23, st24, st25, st26, st27, st28, st29, st30, st31, st32, st33, st34, st35, st36, st37, st38, st39, st40, st41, st42, st43, st44, st45, st46, st47, st48, st49, st50, st51, st52, st53, st54, st55, st56, st57, st58, st59, st60, st61, st62, st63, st64, st65, st66, st67, st68, st69, st70, st71, st72, st73, st74, st75, st76, st77, st78, st79, st80, st81, st82, st83, st84, st85, st86, st87, st88, st89, st90, st91, x1, x2, x3, x4, x5, x6, x7, n1, n3, v1, v2, hd0, h50, hy, swl]))) <;> (try (first | omega | exact hz))
  · have e : tsF L T here pr v w P t s = (cmpS t.2.2.2 (nZ v) t.2.2.1, s) := by unfold tsF; simp [hk]
    rw [e] at hC
    rw [hk] at n1
    have hz := hC h chI_refl H (fun _ _ => rfl)
    (repeat' (first | with_reducible assumption | (refine c_compares HF HE hi (by omega) ?_) | (refine And.intro ?_ ?_) | (with_reducible intro _) | (simp [wp_eq, wpE, mk_X2_isTrue, mg, mc_X2_isTrue, lget, lset, popN, cats, rcv, entL, isArr, kC_s, kC_n, st1, st2, st3, st4, st5, st6, st7, st8, st9, st10, st11, st12, st13, st14, st15, st16, st17, st18, st19, st20, st21, st22, st23, st24, st25, st26, st27, st28, st29, st30, st31, st32, st33, st34, st35, st36, st37, st38, st39, st40, st41, st42, st43, st44, st45, st46, st47, st48, st49, st50, st51, st52, st53, st54, st55, st56, st57, st58, st59, st60, st61, st62, st63, st64, st65, st66, st67, st68, st69, st70, st71, st72, st73, st74, st75, st76, st77, st78, st79, st80, st81, st82, st83, st84, st85, st86, st87, st88, st89, st90, st91, x1, x2, x3, x4, x5, x6, x7, n1, v1, v3, hd0, h50, swl]))) <;> (try (first | omega | exact hz))
    all_goals first | omega | exact b01_or _ | exact hz
  · have e : tsF L T here pr v w P t s = (cmpS t.2.2.2 (pr - nD v) t.2.2.1, s) := by unfold tsF; simp [hk]
    rw [e] at hC
    rw [hk] at n1
    have hz := hC h chI_refl H (fun _ _ => rfl)
    (repeat' (first | with_reducible assumption | (refine c_compares HF HE hi (by omega) ?_) | (refine And.intro ?_ ?_) | (with_reducible intro _) | (simp [wp_eq, wpE, mk_X2_isTrue, mg, mc_X2_isTrue, lget, lset, popN, cats, rcv, entL, isArr, kC_s, kC_n, st1, st2, st3, st4, st5, st6, st7, st8, st9, st10, st11, st12, st13, st14, st15, st16, st17, st18, st19, st20, st21, st22, st23, st24, st25, st26, st27, st28, st29, st30, st31, st32, st33, st34, st35, st36, st37, st38, st39, st40, st41, st42, st43, st44, st45, st46, st47, st48, st49, st50, st51, st52, st53, st54, st55, st56, st57, st58, st59, st60, st61, st62, st63, st64, st65, st66, st67, st68, st69, st70, st71, st72, st73, st74, st75, st76, st77, st78, st79, st80, st81, st82, st83, st84, st85, st86, st87, st88, st89, st90, st91, x1, x2, x3, x4, x5, x6, x7, n1, v1, v4, k6, hd0, h50, inR, swl]))) <;> (try (first | omega | exact hz))
    all_goals first | omega | exact b01_or _ | exact hz
  · have e : tsF L T here pr v w P t s = (cmpS t.2.2.2 (nT v) t.2.2.1, s) := by unfold tsF; simp [hk]
    rw [e] at hC
    rw [hk] at n1
    have hz := hC h chI_refl H (fun _ _ => rfl)
    (repeat' (first | with_reducible assumption | (refine c_compares HF HE hi (by omega) ?_) | (refine And.intro ?_ ?_) | (with_reducible intro _) | (simp [wp_eq, wpE, mk_X2_isTrue, mg, mc_X2_isTrue, lget, lset, popN, cats, rcv, entL, isArr, kC_s, kC_n, st1, st2, st3, st4, st5, st6, st7, st8, st9, st10, st11, st12, st13, st14, st15, st16, st17, st18, st19, st20, st21, st22, st23, st24, st25, st26, st27, st28, st29, st30, st31, st32, st33, st34, st35, st36, st37, st38, st39, st40, st41, st42, st43, st44, st45, st46, st47, st48, st49, st50, st51, st52, st53, st54, st55, st56, st57, st58, st59, st60, st61, st62, st63, st64, st65, st66, st67, st68, st69, st70, st71, st72, st73, st74, st75, st76, st77, st78, st79, st80, st81, st82, st83, st84, st85, st86, st87, st88, st89, st90, st91, x1, x2, x3, x4, x5, x6, x7, n1, v1, v5, hd0, h50, swl]))) <;> (try (first | omega | exact hz))
    all_goals first | omega | exact b01_or _ | exact hz
  · have e : tsF L T here pr v w P t s = (decide (dyW T here L t.2.1 < nD v), s) := by unfold tsF; simp [hk]
    rw [e] at hC
    have n9 := f3 i t hi hk
    rw [hk] at n1
    have hz := hC h chI_refl H (fun _ _ => rfl)
    generalize dyW T here L t.2.1 = y at *
    by_cases hy : y < nD v
    · simp [hy, b01] at hz
      (repeat' (first | with_reducible assumption | (refine And.intro ?_ ?_) | (with_reducible intro _) | (simp [wp_eq, wpE, mk_X2_isTrue, mg, mc_X2_isTrue, lget, lset, popN, cats, rcv, entL, isArr, kC_s, kC_n, st1, st2, st3, st4, st5, st6, st7, st8, st9, st10, st11, st12, st13, st14, st15, st16, st17, st18, st19, st20, st21, st22, st23, st24, st25, st26, st27, st28, st29, st30, st31, st32, st33, st34, st35, st36, st37, st38, st39, st40, st41, st42, st43, st44, st45, st46, st47, st48, st49, st50, st51, st52, st53, st54, st55, st56, st57, st58, st59, st60, st61, st62, st63, st64, st65, st66, st67, st68, st69, st70, st71, st72, st73, st74, st75, st76, st77, st78, st79, st80, st81, st82, st83, st84, st85, st86, st87, st88, st89, st90, st91, x1, x2, x3, x4, x5, x6, x7, n1, n9, v1, v4, hd0, h50, hy, swl]))) <;> (try (first | omega | exact hz))
    · simp [hy, b01] at hz
      (repeat' (first | with_reducible assumption | (refine And.intro ?_ ?_) | (with_reducible intro _) | (simp [wp_eq, wpE, mk_X2_isTrue, mg, mc_X2_isTrue, lget, lset, popN, cats, rcv, entL, isArr, kC_s, kC_n, st1, st2, st3, st4, st5, st6, st7, st8, st9, st10, st11, st12, st13, st14, st15, st16, st17, st18, st19, st20, st21, st22, st23, st24, st25, st26, st27, st28, st29, st30, st31, st32, st33, st34, st35, st36, st37, st38, st39, st40, st41, st42, st43, st44, st45, st46, st47, st48, st49, st50, st51, st52, st53, st54, st55, st56, st57, st58, st59, st60, st61, st62, st63, st64, st65, st66, st67, st68, st69, st70, st71, st72, st73, st74, st75, st76, st77, st78, st79, st80, st81, st82, st83, st84, st85, st86, st87, st88, st89, st90, st91, x1, x2, x3, x4, x5, x6, x7, n1, n9, v1, v4, hd0, h50, hy, swl]))) <;> (try (first | omega | exact hz))
  · have e : tsF L T here pr v w P t s = (true, (true, s.2)) := by unfold tsF; simp [hk]
    rw [e] at hC
    rw [hk] at n1
    have q1 : chI (SI c) h (hsetI h (c + 19) 9 1) := chI_set (by unfold SI; omega)
    have hz := hC _ q1 (FA_ch H (chI_mono (fun a => SI_SA) q1) (PG_set (by omega) (by omega) hp) (by rw [hvi_I, if_neg (by omega)]; exact k6) (by rw [hvi_I, if_neg (by omega)]; exact k7) (by rw [hvi_I, if_neg (by omega)]; exact hcp) (by rw [hvi_I, if_pos (by omega)]; simp [b01]) (by rw [hvi_I, if_neg (by omega)]; exact k10) f5) (fun j hj => by rw [hvi_I, if_neg (by omega)])
    simp [b01] at hz
    (repeat' (first | with_reducible assumption | (refine And.intro ?_ ?_) | (with_reducible intro _) | (simp [wp_eq, wpE, mk_X2_isTrue, mg, mc_X2_isTrue, lget, lset, popN, cats, rcv, entL, isArr, kC_s, kC_n, st1, st2, st3, st4, st5, st6, st7, st8, st9, st10, st11, st12, st13, st14, st15, st16, st17, st18, st19, st20, st21, st22, st23, st24, st25, st26, st27, st28, st29, st30, st31, st32, st33, st34, st35, st36, st37, st38, st39, st40, st41, st42, st43, st44, st45, st46, st47, st48, st49, st50, st51, st52, st53, st54, st55, st56, st57, st58, st59, st60, st61, st62, st63, st64, st65, st66, st67, st68, st69, st70, st71, st72, st73, st74, st75, st76, st77, st78, st79, st80, st81, st82, st83, st84, st85, st86, st87, st88, st89, st90, st91, x1, x2, x3, x4, x5, x6, x7, n1, hd0, h50, swl]))) <;> (try (first | omega | exact hz))
    all_goals first | omega | exact b01_or _ | exact hz
  · have e : tsF L T here pr v w P t s = (true, prt P s) := by unfold tsF; simp [hk]
    rw [e] at hC
    rw [hk] at n1
    have cp9 : ∀ {C : mQ} {X : mX}, (∀ h', chI (SI c) h h' → FA c h' L T here K pr (prt P s) cp bad → (∀ j, 11 ≤ j → hvi h' (c + 19) j = hvi h (c + 19) j) → C none h') → callG (wp G) d 19 0 0 1 [.inr (.inl (some (c + 19)))] h C X := fun {C X} z => f_print (by omega) H hP bP hl m3 z
    simp only [b01, if_true] at hC
    simp [wp_eq, wpE, mk_X2_isTrue, mg, mc_X2_isTrue, lget, lset, popN, cats, rcv, entL, isArr, kC_s, kC_n, st1, st2, st3, st4, st5, st6, st7, st8, st9, st10, st11, st12, st13, st14, st15, st16, st17, st18, st19, st20, st21, st22, st23, st24, st25, st26, st27, st28, st29, st30, st31, st32, st33, st34, st35, st36, st37, st38, st39, st40, st41, st42, st43, st44, st45, st46, st47, st48, st49, st50, st51, st52, st53, st54, st55, st56, st57, st58, st59, st60, st61, st62, st63, st64, st65, st66, st67, st68, st69, st70, st71, st72, st73, st74, st75, st76, st77, st78, st79, st80, st81, st82, st83, st84, st85, st86, st87, st88, st89, st90, st91, x1, x2, x3, x4, x5, x6, x7, n1, hd0, h50, h50i, swl]
    refine cp9 (fun zzh zz1 zz2 zz3 => ?_)
    have hz := hC zzh zz1 zz2 zz3
    (repeat' (first | with_reducible assumption | (refine And.intro ?_ ?_) | (with_reducible intro _) | (simp [wp_eq, wpE, mk_X2_isTrue, mg, mc_X2_isTrue, lget, lset, popN, cats, rcv, entL, isArr, kC_s, kC_n, st1, st2, st3, st4, st5, st6, st7, st8, st9, st10, st11, st12, st13, st14, st15, st16, st17, st18, st19, st20, st21, st22, st23, st24, st25, st26, st27, st28, st29, st30, st31, st32, st33, st34, st35, st36, st37, st38, st39, st40, st41, st42, st43, st44, st45, st46, st47, st48, st49, st50, st51, st52, st53, st54, st55, st56, st57, st58, st59, st60, st61, st62, st63, st64, st65, st66, st67, st68, st69, st70, st71, st72, st73, st74, st75, st76, st77, st78, st79, st80, st81, st82, st83, st84, st85, st86, st87, st88, st89, st90, st91]))) <;> (try (first | omega | exact hz))
  · have e : tsF L T here pr v w P t s = (true, s) := by unfold tsF; simp [hk]
    rw [e] at hC
    rw [hk] at n1
    have hz := hC h chI_refl H (fun _ _ => rfl)
    simp [b01] at hz
    (repeat' (first | with_reducible assumption | (refine And.intro ?_ ?_) | (with_reducible intro _) | (simp [wp_eq, wpE, mk_X2_isTrue, mg, mc_X2_isTrue, lget, lset, popN, cats, rcv, entL, isArr, kC_s, kC_n, st1, st2, st3, st4, st5, st6, st7, st8, st9, st10, st11, st12, st13, st14, st15, st16, st17, st18, st19, st20, st21, st22, st23, st24, st25, st26, st27, st28, st29, st30, st31, st32, st33, st34, st35, st36, st37, st38, st39, st40, st41, st42, st43, st44, st45, st46, st47, st48, st49, st50, st51, st52, st53, st54, st55, st56, st57, st58, st59, st60, st61, st62, st63, st64, st65, st66, st67, st68, st69, st70, st71, st72, st73, st74, st75, st76, st77, st78, st79, st80, st81, st82, st83, st84, st85, st86, st87, st88, st89, st90, st91, x1, x2, x3, x4, x5, x6, x7, n1, hd0, h50, swl]))) <;> (try (first | omega | exact hz))
    all_goals first | omega | exact b01_or _ | exact hz
