def vX (v : aN) (X : List Int) : aN := (v.1, v.2.1, X, v.2.2.2)
theorem jn_text {T : aT} {n di : Nat} {s X : List Int} {v v' : aN} (hdn : ¬ di = n) (h : vA (vX v X) 0 = vA v' 0) : ud (jnT (ud T n (some v)) di s n v) n (some (vX (vA (vT v (nT v + 1)) di) X)) = jnT (ud T n (some v')) di s n v' := by
  obtain ⟨⟨a1, a2, a3⟩, ⟨b1, b2, b3⟩, c1, c2⟩ := v
  obtain ⟨⟨a1', a2', a3'⟩, ⟨b1', b2', b3'⟩, c1', c2'⟩ := v'
  simp only [vA, vX, Prod.mk.injEq] at h
  obtain ⟨⟨rfl, rfl, rfl⟩, ⟨rfl, rfl, -⟩, rfl, rfl⟩ := h
  funext m
  unfold jnT addE
  rw [ud_n hdn, ud_n hdn]
  by_cases hm : m = n
  · rw [hm, ud_s, ud_s]; rfl
  · rw [ud_n hm, ud_n hm, ud_n hm]
    cases T di with
    | none => simp only; rw [ud_n hm, ud_n hm]
    | some vd =>
      simp only
      by_cases h2 : m = di
      · rw [h2, ud_s, ud_s]
      · rw [ud_n h2, ud_n h2, ud_n hm, ud_n hm]
theorem RT_text {r n : Nat} {h h' : mH} {T : aT} {Es : Nat → List aE} {here : Nat} {w : aN} {X : List Int} {l : List Nat} (H : RT r h T Es here) (hT : T n = some w) (q : chJ (sR r l) h h') (hl : ∀ c ∈ [0, 1, 2, 3, 4, 5, 6, 9, 10, 11, 12, 113], ¬ c ∈ l) (h7 : ∀ m, ¬ m = n → hvi h' (r + 7) m = hvi h (r + 7) m) (h8 : ∀ j, j < 40 * n ∨ 40 * n + 40 ≤ j → hvi h' (r + 8) j = hvi h (r + 8) j) (h9 : hvi h' (r + 7) n = (X.length : Int)) (h10 : ro h' (r + 8) (40 * n) X) (bX : bd X ∧ X.length ≤ 40) : RT r h' (ud T n (some (vX w X))) Es here := by
  obtain ⟨g1, g2, g3⟩ := H
  refine ⟨by rw [chJ_fld q (hl _ (by simp)) (hl _ (by simp))]; exact g1, fun m hm => ?_, fun m u hm hTm => ?_⟩
  · rw [chJ_row q (by omega) (hl _ (by simp)), g2 m hm]
    by_cases h1 : m = n
    · rw [h1, tK_some hT, tK_some ud_s]; rfl
    · simp only [tK]; rw [ud_n h1]
  · have key : ∀ w', T m = some w' → nZ w' = nZ u → nD w' = nD u → nT w' = nT u → nK w' = nK u → nB w' = nB u → nA w' = nA u → nE w' = nE u → (nK u = 2 → hvi h' (r + 7) m = ((nX u).length : Int) ∧ ro h' (r + 8) (40 * m) (nX u) ∧ bd (nX u) ∧ (nX u).length ≤ 40) → hvi h' (r + 2) m = nZ u ∧ hvi h' (r + 3) m = nD u ∧ hvi h' (r + 4) m = nT u ∧ (nK u = 0 → hvi h' (r + 5) m = nB u ∧ hvi h' (r + 6) m = (nA u : Int) ∧ RE r h' m (Es m) ∧ (Es m).Perm (nE u)) ∧ (nK u = 2 → hvi h' (r + 7) m = ((nX u).length : Int) ∧ ro h' (r + 8) (40 * m) (nX u) ∧ bd (nX u) ∧ (nX u).length ≤ 40) := by
      intro w' hw' k1 k2 k3 k4 k5 k6 k7 k8
      obtain ⟨f1, f2, f3, f4, f5⟩ := g3 m w' hm hw'
      rw [k1] at f1; rw [k2] at f2; rw [k3] at f3; rw [k4, k5, k6, k7] at f4
      refine ⟨by rw [chJ_row q (by omega) (hl _ (by simp))]; exact f1, by rw [chJ_row q (by omega) (hl _ (by simp))]; exact f2, by rw [chJ_row q (by omega) (hl _ (by simp))]; exact f3, fun hk => ?_, k8⟩
      obtain ⟨e1, e2, e3, e4⟩ := f4 hk
      exact ⟨by rw [chJ_row q (by omega) (hl _ (by simp))]; exact e1, by rw [chJ_row q (by omega) (hl _ (by simp))]; exact e2, RE_ch q ⟨hl _ (by simp), hl _ (by simp), hl _ (by simp), hl _ (by simp)⟩ e3, e4⟩
    by_cases h1 : m = n
    · subst h1
      rw [ud_s] at hTm; cases hTm
      exact key w hT rfl rfl rfl rfl rfl rfl rfl (fun _ => ⟨h9, h10, bX.1, bX.2⟩)
    · rw [ud_n h1] at hTm
      refine key u hTm rfl rfl rfl rfl rfl rfl rfl (fun hk => ?_)
      obtain ⟨e1, e2, e3, e4⟩ := (g3 m u hm hTm).2.2.2.2 hk
      exact ⟨by rw [h7 m h1]; exact e1, fun i hi => by rw [h8 _ (by omega)]; exact e2 i hi, e3, e4⟩
theorem text_loop {G : Nat → Nat} {d r n : Nat} {h0 : mH} {C : mQ} {X : mX} {L : List Int} {x1 x2 : Option mV} (hd : 1 ≤ d) (hn : n < 48) (hl : L.length ≤ 100) (bL : bd L) (hk : 0 < (wds L).length) (h40 : (wd L 0).length ≤ 40)
    (hC : ∀ h', chJ (sR r [8]) h0 h' → ro h' (r + 8) (40 * n) (wd L 0) → (∀ j, j < 40 * n ∨ 40 * n + 40 ≤ j → hvi h' (r + 8) j = hvi h0 (r + 8) j) → C (some (.inl (n : Int))) h') :
    ∀ (m i : Nat) (h : mH), m + i = (wd L 0).length → RN r h → RP r h L → RW r h L → chJ (sR r [8]) h0 h → (∀ j, j < i → hvi h (r + 8) (40 * n + j) = lf (wd L 0) j) → (∀ j, j < 40 * n ∨ 40 * n + 40 ≤ j → hvi h (r + 8) j = hvi h0 (r + 8) j) →
    wp G d 114 100085 [some (.inr (.inl (some r))), x1, x2, some (.inl (n : Int)), some (.inl (i : Int))] [] h 0 0 C X := by
  have hd0 : (0 < d) = True := eq_true (by omega)
  intro m
  induction m with
  | zero =>
    intro i h hm HR HP HW q hp hx
    have R0 := HR.1; have R_textSizes := rn_textSizes HR; have R_texts := rn_texts HR; have R_line := rn_line HR; have R_begins := rn_begins HR
    have hi : i = (wd L 0).length := by omega
    have hz := hC h q (fun j hj => hp j (by omega)) hx
    rw [wp_hd]
    (repeat' (first | with_reducible assumption | (refine r_wordSize (k := 0) HR hl HW hk ?_) | (refine And.intro ?_ ?_) | (with_reducible intro _) | (simp [wp_eq, wpE, mk_X11_link, mg, mc_X11_link, lget, lset, popN, cats, rcv, entL, isArr, kC_s, kC_n, st1, st2, st3, st4, st5, st6, st7, st8, st9, st10, st11, st12, st13, st14, st15, st16, st17, st18, st19, st20, st21, st22, st23, st24, st25, st26, st27, st28, st29, st30, st31, st32, st33, st34, st35, st36, st37, st38, st39, st40, st41, st42, st43, st44, st45, st46, st47, st48, st49, st50, st51, st52, st53, st54, st55, st56, st57, st58, st59, st60, st61, st62, st63, st64, st65, st66, st67, st68, st69, st70, st71, st72, st73, st74, st75, st76, st77, st78, st79, st80, st81, st82, st83, st84, st85, st86, st87, st88, st89, st90, st91, R0, R_textSizes, R_texts, R_line, R_begins, hd0, hi]))) <;> (try (first | omega | exact hz))
  | succ m ih =>
    intro i h hm HR HP HW q hp hx
    have R0 := HR.1; have R_textSizes := rn_textSizes HR; have R_texts := rn_texts HR; have R_line := rn_line HR; have R_begins := rn_begins HR
    have hi : i < (wd L 0).length := by omega
    have c := RP_wd (k := 0) hl HP hi
    have bi := lf_b (wd_b bL 0) i
    have hat := wds_at hk
    have hwl := wd_len L 0
    have hw1 := (HW.2 0 hk).1
    have q1 : chJ (sR r [8]) h (hsetI h (r + 8) (40 * n + i) (lf (wd L 0) i)) := chJ_set (by simp [sR])
    have hz := ih (i + 1) _ (by omega) (RN_ch q1 HR) (RP_ch q1 (by simp) (by simp) (by simp) HP) (RW_ch q1 (by simp) HW) (chJ_trans q q1) (fun j hj => by
      by_cases he : j = i
      · simp [hty_I, hvi_I, hvr_I, hvl_I, hsz_I, hty_R, hvi_R, hvr_R, hvl_R, hsz_R, hty_L, hvi_L, hvr_L, hvl_L, hsz_L, hty_P, hvi_P, hvr_P, hvl_P, hsz_P, hty_C, hvi_C, hvr_C, hvl_C, hsz_C, he]
      · simp [hty_I, hvi_I, hvr_I, hvl_I, hsz_I, hty_R, hvi_R, hvr_R, hvl_R, hsz_R, hty_L, hvi_L, hvr_L, hvl_L, hsz_L, hty_P, hvi_P, hvr_P, hvl_P, hsz_P, hty_C, hvi_C, hvr_C, hvl_C, hsz_C, he]; exact hp j (by omega)) (fun j hj => by simp only [hvi_I]; rw [if_neg (by omega)]; exact hx j hj)
    have e1 : ((40 : Int) * (n : Int) + (i : Int)).toNat = 40 * n + i := by omega
    have e2 : ((wS L 0 : Int) + (i : Int)).toNat = wS L 0 + i := by omega
    rw [wp_hd]
    (repeat' (first | with_reducible assumption | (refine r_wordSize (k := 0) HR hl HW hk ?_) | (refine And.intro ?_ ?_) | (with_reducible intro _) | (simp [wp_eq, wpE, mk_X11_link, mg, mc_X11_link, lget, lset, popN, cats, rcv, entL, isArr, kC_s, kC_n, st1, st2, st3, st4, st5, st6, st7, st8, st9, st10, st11, st12, st13, st14, st15, st16, st17, st18, st19, st20, st21, st22, st23, st24, st25, st26, st27, st28, st29, st30, st31, st32, st33, st34, st35, st36, st37, st38, st39, st40, st41, st42, st43, st44, st45, st46, st47, st48, st49, st50, st51, st52, st53, st54, st55, st56, st57, st58, st59, st60, st61, st62, st63, st64, st65, st66, st67, st68, st69, st70, st71, st72, st73, st74, st75, st76, st77, st78, st79, st80, st81, st82, st83, st84, st85, st86, st87, st88, st89, st90, st91, R0, R_textSizes, R_texts, R_line, R_begins, hd0, hi, hw1, c, e1, e2, inR]))) <;> (try (first | omega | exact hz))
theorem q_link {G : Nat → Nat} {d r : Nat} {h : mH} {C : mQ} {X : mX} {Es : Nat → List aE} {L : List Int} {T : aT} {here : Nat} {O : List Int} {cp bad D : Int} (hd : 7 ≤ d) (H : RS r h Es L T here O cp bad) (hw : wf T here)
    (hC1 : (0 ≤ D ∧ D ≤ 999999) → ∀ h' Es', RS r h' Es' L (lkT T here L D) here O cp bad → hvi h' r 0 = 0 → C (some (.inl (lkR T here L))) h')
    (hC2 : ¬ (0 ≤ D ∧ D ≤ 999999) → ∀ h', RS r h' Es L T here O cp bad → hvi h' r 0 = 1 → C (some (.inl 0)) h') :
    callG (wp G) d 114 0 0 5 [.inr (.inl (some r)), .inl D] h C X := by
  have R0 := H.1.1
  refine cg 6 (by omega) (fun d hd => ?_)
  have hd0 : (0 < d) = True := eq_true (by omega)
  by_cases hb : 0 ≤ D ∧ D ≤ 999999
  · have hC := hC1 hb
    have z2 : (if 0 ≤ D ∧ D ≤ 999999 then (1 : Int) else 0) = 1 := if_pos hb
    have q0 : chJ (sR r [100]) h (hsetI h r 0 0) := chJ_set (by simp [sR])
    have H0 := RS_ch q0 (by simp) H
    have R00 : hty (hsetI h r 0 0) r = some (11, 54) := R0
    (repeat' (first | with_reducible assumption | (refine r_isIn ?_) | (refine r_refused H.1 ?_) | (refine And.intro ?_ ?_) | (with_reducible intro _) | (simp [wp_eq, wpE, mk_X11_link, mg, mc_X11_link, lget, lset, popN, cats, rcv, entL, isArr, kC_s, kC_n, st1, st2, st3, st4, st5, st6, st7, st8, st9, st10, st11, st12, st13, st14, st15, st16, st17, st18, st19, st20, st21, st22, st23, st24, st25, st26, st27, st28, st29, st30, st31, st32, st33, st34, st35, st36, st37, st38, st39, st40, st41, st42, st43, st44, st45, st46, st47, st48, st49, st50, st51, st52, st53, st54, st55, st56, st57, st58, st59, st60, st61, st62, st63, st64, st65, st66, st67, st68, st69, st70, st71, st72, st73, st74, st75, st76, st77, st78, st79, st80, st81, st82, st83, st84, st85, st86, st87, st88, st89, st90, st91, R0, R00, hd0, z2]))) <;> (try (first | omega | exact hz))
    refine r_cut H0.1 H0.2.2.1.1 H0.2.1 (fun h1 z1 z2 z3 z4 => ?_)
    have H1 := RS_ch z4 (by simp) H0
    have R1 := H1.1.1
    have w16 := z3.1
    have hl100 := H1.2.2.1.1
    have hr1 : hvi h1 r 0 = 0 := by rw [chJ_fld z4 (by simp) (by simp)]; simp [hty_I, hvi_I, hvr_I, hvl_I, hsz_I, hty_R, hvi_R, hvr_R, hvl_R, hsz_R, hty_L, hvi_L, hvr_L, hvl_L, hsz_L, hty_P, hvi_P, hvr_P, hvl_P, hsz_P, hty_C, hvi_C, hvr_C, hvl_C, hsz_C]
    unfold lkR lkT mkR mkT at hC
    by_cases hk0 : 0 < (wds L).length
    · by_cases h40 : 40 < (wd L 0).length
      · simp only [h40, if_true] at hC
        have hz := hC h1 Es H1 hr1
        have h40' : ¬ (wd L 0).length ≤ 40 := by omega
        (repeat' (first | with_reducible assumption | (refine r_wordSize (k := 0) H1.1 hl100 z3 hk0 ?_) | (refine And.intro ?_ ?_) | (with_reducible intro _) | (simp [wp_eq, wpE, mk_X11_link, mg, mc_X11_link, lget, lset, popN, cats, rcv, entL, isArr, kC_s, kC_n, st1, st2, st3, st4, st5, st6, st7, st8, st9, st10, st11, st12, st13, st14, st15, st16, st17, st18, st19, st20, st21, st22, st23, st24, st25, st26, st27, st28, st29, st30, st31, st32, st33, st34, st35, st36, st37, st38, st39, st40, st41, st42, st43, st44, st45, st46, st47, st48, st49, st50, st51, st52, st53, st54, st55, st56, st57, st58, st59, st60, st61, st62, st63, st64, st65, st66, st67, st68, st69, st70, st71, st72, st73, st74, st75, st76, st77, st78, st79, st80, st81, st82, st83, st84, st85, st86, st87, st88, st89, st90, st91, R1, hd0, w16, hk0, h40, h40']))) <;> (try (first | omega | exact hz))
      · simp only [h40, if_false] at hC
        have h40' : (wd L 0).length ≤ 40 := by omega
        (repeat' (first | with_reducible assumption | (refine r_wordSize (k := 0) H1.1 hl100 z3 hk0 ?_) | (refine And.intro ?_ ?_) | (with_reducible intro _) | (simp [wp_eq, wpE, mk_X11_link, mg, mc_X11_link, lget, lset, popN, cats, rcv, entL, isArr, kC_s, kC_n, st1, st2, st3, st4, st5, st6, st7, st8, st9, st10, st11, st12, st13, st14, st15, st16, st17, st18, st19, st20, st21, st22, st23, st24, st25, st26, st27, st28, st29, st30, st31, st32, st33, st34, st35, st36, st37, st38, st39, st40, st41, st42, st43, st44, st45, st46, st47, st48, st49, st50, st51, st52, st53, st54, st55, st56, st57, st58, st59, st60, st61, st62, st63, st64, st65, st66, st67, st68, st69, st70, st71, st72, st73, st74, st75, st76, st77, st78, st79, st80, st81, st82, st83, st84, st85, st86, st87, st88, st89, st90, st91, R1, hd0, w16, hk0, h40, h40']))) <;> (try (first | omega | exact hz))
        refine r_newPlace (k := 1) (fn := true) (by omega) H1 z3 hw (fun h3 p2 p3 => ?_)
        have H3 := RS_ch p2 (by simp) H1
        have HW3 := RW_ch p2 (by simp) z3
        have R3 := H3.1.1
        have hr3 : hvi h3 r 0 = 0 := by rw [chJ_fld p2 (by simp) (by simp)]; exact hr1
        rcases npl_ok (L := L) (k := 1) (fn := true) hw with hn | ⟨di, vd, e1, e2, e3, e4, e5, e6, e7, e8, e9⟩
        · simp only [hn, if_true] at hC
          have hz := hC h3 Es H3 hr3
          (repeat' (first | with_reducible assumption | (refine And.intro ?_ ?_) | (with_reducible intro _) | (simp [wp_eq, wpE, mk_X11_link, mg, mc_X11_link, lget, lset, popN, cats, rcv, entL, isArr, kC_s, kC_n, st1, st2, st3, st4, st5, st6, st7, st8, st9, st10, st11, st12, st13, st14, st15, st16, st17, st18, st19, st20, st21, st22, st23, st24, st25, st26, st27, st28, st29, st30, st31, st32, st33, st34, st35, st36, st37, st38, st39, st40, st41, st42, st43, st44, st45, st46, st47, st48, st49, st50, st51, st52, st53, st54, st55, st56, st57, st58, st59, st60, st61, st62, st63, st64, st65, st66, st67, st68, st69, st70, st71, st72, st73, st74, st75, st76, st77, st78, st79, st80, st81, st82, st83, st84, st85, st86, st87, st88, st89, st90, st91, hn]))) <;> (try (first | omega | exact hz))
        · rw [e1] at hC p3 ⊢
          simp only [show ¬ (di : Int) < 0 by omega, if_false, Int.toNat_natCast] at hC
          have hdi : ¬ (di : Int) < 0 := by omega
          obtain ⟨k1, k2⟩ := p3 (by omega)
          have hfl := frF_lt (e9 rfl)
          have hdn : ¬ di = frF T 48 := fun q => by have := hfl.2; rw [← q, e5] at this; cases this
          (repeat' (first | with_reducible assumption | (refine r_wordSize (k := 0) H3.1 hl100 HW3 hk0 ?_) | (refine And.intro ?_ ?_) | (with_reducible intro _) | (simp [wp_eq, wpE, mk_X11_link, mg, mc_X11_link, lget, lset, popN, cats, rcv, entL, isArr, kC_s, kC_n, st1, st2, st3, st4, st5, st6, st7, st8, st9, st10, st11, st12, st13, st14, st15, st16, st17, st18, st19, st20, st21, st22, st23, st24, st25, st26, st27, st28, st29, st30, st31, st32, st33, st34, st35, st36, st37, st38, st39, st40, st41, st42, st43, st44, st45, st46, st47, st48, st49, st50, st51, st52, st53, st54, st55, st56, st57, st58, st59, st60, st61, st62, st63, st64, st65, st66, st67, st68, st69, st70, st71, st72, st73, st74, st75, st76, st77, st78, st79, st80, st81, st82, st83, st84, st85, st86, st87, st88, st89, st90, st91, R3, hd0, hdi]))) <;> (try (first | omega | exact hz))
          refine r_makeNode (by omega) H3 hw k1 k2 e3 e4 e5 e6 e8 (e9 rfl) (fun h4 Es4 y1 H4 => ?_)
          have HW4 := RW_ch y1 (by simp) HW3
          have HR4 := H4.1
          have R_textSizes4 := rn_textSizes HR4
          have R4 := HR4.1
          have hr4 : hvi h4 r 0 = 0 := by rw [chJ_fld y1 (by simp) (by simp)]; exact hr3
          have hjt := jn_text (T := T) (n := frF T 48) (di := di) (s := nmL L 1) (X := wd L 0) (v := mv0 2 ((wd L 0).length : Int) D di) (v' := lkV L D) hdn (by simp [mv0, lkV, vA, vX])
          rw [← hjt] at hC
          generalize hnn : frF T 48 = n at *
          have q7 : chJ (sR r [7, 8]) h4 (hsetI h4 (r + 7) n ((wd L 0).length : Int)) := chJ_set (by simp [sR])
          have hz := fun x1 x2 (d : Nat) (hd : 1 ≤ d) => text_loop (G := G) (d := d) (r := r) (n := n) (C := C) (X := fun _ _ => False) (L := L) (x1 := x1) (x2 := x2) hd hfl.1 hl100 H4.2.2.1.2 hk0 h40' (fun h5 w1 w2 w3 => by
            have q5 : chJ (sR r [7, 8]) h4 h5 := chJ_trans q7 (chJ_sub w1 (by simp))
            refine hC h5 Es4 ⟨RN_ch q5 H4.1, RP_ch q5 (by simp) (by simp) (by simp) H4.2.1, H4.2.2.1, ?_, fun j => by rw [chJ_row q5 (by omega) (by simp)]; exact H4.2.2.2.2.1 j, RO_ch q5 (by simp) H4.2.2.2.2.2.1, by rw [chJ_fld q5 (by simp) (by simp)]; exact H4.2.2.2.2.2.2.1, by rw [chJ_fld q5 (by simp) (by simp)]; exact H4.2.2.2.2.2.2.2⟩ (by rw [chJ_fld q5 (by simp) (by simp)]; exact hr4)
            refine RT_text H4.2.2.2.1 (by unfold jnT; rw [ud_s]) q5 (by simp) (fun m hm => ?_) (fun j hj => ?_) ?_ w2 ⟨wd_b H4.2.2.1.2 0, h40'⟩
            · rw [chJ_row w1 (by omega) (by simp)]; simp [hty_I, hvi_I, hvr_I, hvl_I, hsz_I, hty_R, hvi_R, hvr_R, hvl_R, hsz_R, hty_L, hvi_L, hvr_L, hvl_L, hsz_L, hty_P, hvi_P, hvr_P, hvl_P, hsz_P, hty_C, hvi_C, hvr_C, hvl_C, hsz_C, hm]
            · rw [w3 j hj]; simp [hty_I, hvi_I, hvr_I, hvl_I, hsz_I, hty_R, hvi_R, hvr_R, hvl_R, hsz_R, hty_L, hvi_L, hvr_L, hvl_L, hsz_L, hty_P, hvi_P, hvr_P, hvl_P, hsz_P, hty_C, hvi_C, hvr_C, hvl_C, hsz_C]
            · rw [chJ_row w1 (by omega) (by simp)]; simp [hty_I, hvi_I, hvr_I, hvl_I, hsz_I, hty_R, hvi_R, hvr_R, hvl_R, hsz_R, hty_L, hvi_L, hvr_L, hvl_L, hsz_L, hty_P, hvi_P, hvr_P, hvl_P, hsz_P, hty_C, hvi_C, hvr_C, hvl_C, hsz_C]) (wd L 0).length 0 _ (by omega) (RN_ch q7 H4.1) (RP_ch q7 (by simp) (by simp) (by simp) H4.2.1) (RW_ch q7 (by simp) HW4) chJ_refl (fun j hj => by omega) (fun j _ => rfl)
          (repeat' (first | with_reducible assumption | (refine r_wordSize (k := 0) H4.1 hl100 HW4 hk0 ?_) | (refine And.intro ?_ ?_) | (with_reducible intro _) | (simp [wp_eq, wpE, mk_X11_link, mg, mc_X11_link, lget, lset, popN, cats, rcv, entL, isArr, kC_s, kC_n, st1, st2, st3, st4, st5, st6, st7, st8, st9, st10, st11, st12, st13, st14, st15, st16, st17, st18, st19, st20, st21, st22, st23, st24, st25, st26, st27, st28, st29, st30, st31, st32, st33, st34, st35, st36, st37, st38, st39, st40, st41, st42, st43, st44, st45, st46, st47, st48, st49, st50, st51, st52, st53, st54, st55, st56, st57, st58, st59, st60, st61, st62, st63, st64, st65, st66, st67, st68, st69, st70, st71, st72, st73, st74, st75, st76, st77, st78, st79, st80, st81, st82, st83, st84, st85, st86, st87, st88, st89, st90, st91, R4, R_textSizes4, hd0]))) <;> (try (first | omega | exact hz))
          all_goals first | omega | exact hz _ _ _ (by omega)
    · have hwd : (wd L 0).length = 0 := by rw [wd_len]; have := wds_no hk0; omega
      have h40 : ¬ 40 < (wd L 0).length := by omega
      simp only [h40, if_false] at hC
      have hv : npl T here L 1 true = -2 := by unfold npl; rw [if_pos (by omega)]
      rw [hv] at hC
      simp only [show (-2 : Int) < 0 by decide, if_true] at hC
      have hz0 : (wds L).length = 0 := by omega
      (repeat' (first | with_reducible assumption | (refine And.intro ?_ ?_) | (with_reducible intro _) | (simp [wp_eq, wpE, mk_X11_link, mg, mc_X11_link, lget, lset, popN, cats, rcv, entL, isArr, kC_s, kC_n, st1, st2, st3, st4, st5, st6, st7, st8, st9, st10, st11, st12, st13, st14, st15, st16, st17, st18, st19, st20, st21, st22, st23, st24, st25, st26, st27, st28, st29, st30, st31, st32, st33, st34, st35, st36, st37, st38, st39, st40, st41, st42, st43, st44, st45, st46, st47, st48, st49, st50, st51, st52, st53, st54, st55, st56, st57, st58, st59, st60, st61, st62, st63, st64, st65, st66, st67, st68, st69, st70, st71, st72, st73, st74, st75, st76, st77, st78, st79, st80, st81, st82, st83, st84, st85, st86, st87, st88, st89, st90, st91, R1, hd0, w16, hz0]))) <;> (try (first | omega | exact hz))
      refine r_newPlace (k := 1) (fn := true) (by omega) H1 z3 hw (fun h3 p2 p3 => ?_)
      have H3 := RS_ch p2 (by simp) H1
      have hr3 : hvi h3 r 0 = 0 := by rw [chJ_fld p2 (by simp) (by simp)]; exact hr1
      have hz := hC h3 Es H3 hr3
      rw [hv]
      (repeat' (first | with_reducible assumption | (refine And.intro ?_ ?_) | (with_reducible intro _) | (simp [wp_eq, wpE, mk_X11_link, mg, mc_X11_link, lget, lset, popN, cats, rcv, entL, isArr, kC_s, kC_n, st1, st2, st3, st4, st5, st6, st7, st8, st9, st10, st11, st12, st13, st14, st15, st16, st17, st18, st19, st20, st21, st22, st23, st24, st25, st26, st27, st28, st29, st30, st31, st32, st33, st34, st35, st36, st37, st38, st39, st40, st41, st42, st43, st44, st45, st46, st47, st48, st49, st50, st51, st52, st53, st54, st55, st56, st57, st58, st59, st60, st61, st62, st63, st64, st65, st66, st67, st68, st69, st70, st71, st72, st73, st74, st75, st76, st77, st78, st79, st80, st81, st82, st83, st84, st85, st86, st87, st88, st89, st90, st91]))) <;> (try (first | omega | exact hz))
  · have q0 : chJ (sR r [100]) h (hsetI h r 0 1) := chJ_set (by simp [sR])
    have hz := hC2 hb _ (RS_ch q0 (by simp) H) (by simp [hty_I, hvi_I, hvr_I, hvl_I, hsz_I, hty_R, hvi_R, hvr_R, hvl_R, hsz_R, hty_L, hvi_L, hvr_L, hvl_L, hsz_L, hty_P, hvi_P, hvr_P, hvl_P, hsz_P, hty_C, hvi_C, hvr_C, hvl_C, hsz_C])
    have z1 : (if 0 ≤ D ∧ D ≤ 999999 then (1 : Int) else 0) = 0 := if_neg hb
    (repeat' (first | with_reducible assumption | (refine r_isIn ?_) | (refine r_refused H.1 ?_) | (refine And.intro ?_ ?_) | (with_reducible intro _) | (simp [wp_eq, wpE, mk_X11_link, mg, mc_X11_link, lget, lset, popN, cats, rcv, entL, isArr, kC_s, kC_n, st1, st2, st3, st4, st5, st6, st7, st8, st9, st10, st11, st12, st13, st14, st15, st16, st17, st18, st19, st20, st21, st22, st23, st24, st25, st26, st27, st28, st29, st30, st31, st32, st33, st34, st35, st36, st37, st38, st39, st40, st41, st42, st43, st44, st45, st46, st47, st48, st49, st50, st51, st52, st53, st54, st55, st56, st57, st58, st59, st60, st61, st62, st63, st64, st65, st66, st67, st68, st69, st70, st71, st72, st73, st74, st75, st76, st77, st78, st79, st80, st81, st82, st83, st84, st85, st86, st87, st88, st89, st90, st91, R0, hd0, z1]))) <;> (try (first | omega | exact hz))
