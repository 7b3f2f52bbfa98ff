/-! PUBLIC METHODS of the reference: make, link, tie, drop -/
theorem r_isIn {G : Nat → Nat} {d : Nat} {h : mH} {C : mQ} {X : mX} {z : Int} (hC : C (some (.inl (if 0 ≤ z ∧ z ≤ 999999 then 1 else 0))) h) : callG (wp G) d 112 0 0 1 [.inl z] h C X := by
  refine ⟨C, fun _ _ => False, ?_, fun _ _ q => q, fun _ _ q => q.elim⟩
  by_cases hz : 0 ≤ z ∧ z ≤ 999999
  · rw [if_pos hz] at hC
    (repeat' (first | with_reducible assumption | (refine And.intro ?_ ?_) | (with_reducible intro _) | (simp [wp_eq, wpE, mk_X11_isIn, mg, mc_X11_isIn, lget, lset, popN, cats, rcv, entL, isArr, kC_s, kC_n, st1, st2, st3, st4, st5, st6, st7, st8, st9, st10, st11, st12, st13, st14, st15, st16, st17, st18, st19, st20, st21, st22, st23, st24, st25, st26, st27, st28, st29, st30, st31, st32, st33, st34, st35, st36, st37, st38, st39, st40, st41, st42, st43, st44, st45, st46, st47, st48, st49, st50, st51, st52, st53, st54, st55, st56, st57, st58, st59, st60, st61, st62, st63, st64, st65, st66, st67, st68, st69, st70, st71, st72, st73, st74, st75, st76, st77, st78, st79, st80, st81, st82, st83, st84, st85, st86, st87, st88, st89, st90, st91]))) <;> (try (first | omega | exact hz))
  · rw [if_neg hz] at hC
    (repeat' (first | with_reducible assumption | (refine And.intro ?_ ?_) | (with_reducible intro _) | (simp [wp_eq, wpE, mk_X11_isIn, mg, mc_X11_isIn, lget, lset, popN, cats, rcv, entL, isArr, kC_s, kC_n, st1, st2, st3, st4, st5, st6, st7, st8, st9, st10, st11, st12, st13, st14, st15, st16, st17, st18, st19, st20, st21, st22, st23, st24, st25, st26, st27, st28, st29, st30, st31, st32, st33, st34, st35, st36, st37, st38, st39, st40, st41, st42, st43, st44, st45, st46, st47, st48, st49, st50, st51, st52, st53, st54, st55, st56, st57, st58, st59, st60, st61, st62, st63, st64, st65, st66, st67, st68, st69, st70, st71, st72, st73, st74, st75, st76, st77, st78, st79, st80, st81, st82, st83, st84, st85, st86, st87, st88, st89, st90, st91]))) <;> (try (first | omega | exact hz))
/-- rows of entries when one is added -/
def EsA (Es : Nat → List aE) (d : Nat) (E : List aE) : Nat → List aE := fun m => if m = d then E else Es m
theorem r_addNameZ {G : Nat → Nat} {d r o n m : Nat} {z : Int} {h : mH} {C : mQ} {X : mX} {s : List Int} {E : List aE} (hz : z = ((o + s.length : Nat) : Int)) (HR : RN r h) (hc : RC r h) (hn : n < 48) (hm : m < 48) (hE : E.length < 12) (bs : bd s) (hs : s.length ≤ 14) (hN : o + s.length ≤ 100) (hr : ro h (r + 13) o s) (H : RE r h n E)
    (hC : ∀ h', chJ (sR r [9, 10, 11, 12]) h h' → RC r h' → RE r h' n (E ++ [(s, m)]) → (∀ n' E', ¬ n' = n → RE r h n' E' → RE r h' n' E') → C none h') :
    callG (wp G) d 103 0 0 8 [.inr (.inl (some r)), .inl (n : Int), .inr (.inl (some (r + 13))), .inl (o : Int), .inl z, .inl (m : Int)] h C X := by subst hz; exact r_addName HR hc hn hm hE bs hs hN hr H hC
/-- a node tied in the reference: what RT needs -/
theorem RT_jn {r : Nat} {h h' : mH} {T : aT} {Es : Nat → List aE} {here di n : Nat} {s : List Int} {vd v : aN} {l : List Nat} (hw : wf T here ∨ True) (H : RT r h T Es here) (hdn : ¬ di = n) (hdi : di < 48) (hTd : T di = some vd) (hkd : nK vd = 0) (hTn : T n = some v) (hkn : nE v = [])
    (q : chJ (sR r l) h h') (hl : ∀ c ∈ [0, 1, 2, 3, 5, 6, 7, 8, 113], ¬ c ∈ l) (h4 : ∀ m, m < 48 → hvi h' (r + 4) m = if m = n then nT v + 1 else hvi h (r + 4) m) (hEd : RE r h' di (Es di ++ [(s, n)])) (hEo : ∀ m, ¬ m = di → ∀ E, RE r h m E → RE r h' m E) (hA : nK v = 0 → hvi h (r + 6) n = (di : Int)) :
    RT r h' (jnT T di s n v) (EsA Es di (Es di ++ [(s, n)])) here := by
  have hjn : jnT T di s n v = ud (ud T di (some (vE vd (insE (nE vd) (s, n))))) n (some (vA (vT v (nT v + 1)) di)) := by simp [jnT, addE, hTd]
  rw [hjn]
  obtain ⟨g1, g2, g3⟩ := H
  refine ⟨by rw [chJ_fld q (hl _ (by simp)) (hl _ (by simp))]; exact g1, fun m hm => ?_, fun m w hm hTm => ?_⟩
  · rw [chJ_row q (by omega) (hl _ (by simp)), g2 m hm]
    by_cases h1 : m = n
    · rw [h1, tK_some hTn, tK_some ud_s]; rfl
    · by_cases h2 : m = di
      · rw [h2, tK_some hTd, tK_some (by rw [ud_n hdn, ud_s])]; rfl
      · simp only [tK]; rw [ud_n h1, ud_n h2]
  · by_cases h1 : m = n
    · subst h1
      rw [ud_s] at hTm; cases hTm
      obtain ⟨f1, f2, f3, f4, f5⟩ := g3 m v hm hTn
      refine ⟨by rw [chJ_row q (by omega) (hl _ (by simp))]; exact f1, by rw [chJ_row q (by omega) (hl _ (by simp))]; exact f2, by rw [h4 m hm, if_pos rfl]; rfl, fun hk => ?_, fun hk => ?_⟩
      · obtain ⟨e1, e2, e3, e4⟩ := f4 hk
        refine ⟨by rw [chJ_row q (by omega) (hl _ (by simp))]; exact e1, by rw [chJ_row q (by omega) (hl _ (by simp))]; exact hA hk, ?_, ?_⟩
        · unfold EsA; rw [if_neg (fun z => hdn z.symm)]; exact hEo m (fun z => hdn z.symm) _ e3
        · unfold EsA; rw [if_neg (fun z => hdn z.symm)]; exact e4
      · obtain ⟨e1, e2, e3⟩ := f5 hk
        exact ⟨by rw [chJ_row q (by omega) (hl _ (by simp))]; exact e1, fun i hi => by rw [chJ_row q (by omega) (hl _ (by simp))]; exact e2 i hi, e3⟩
    · rw [ud_n h1] at hTm
      by_cases h2 : m = di
      · subst h2
        rw [ud_s] at hTm; cases hTm
        obtain ⟨f1, f2, f3, f4, f5⟩ := g3 m vd hm hTd
        refine ⟨by rw [chJ_row q (by omega) (hl _ (by simp))]; exact f1, by rw [chJ_row q (by omega) (hl _ (by simp))]; exact f2, by rw [h4 m hm, if_neg h1]; exact f3, fun hk => ?_, fun hk => ?_⟩
        · obtain ⟨e1, e2, e3, e4⟩ := f4 hk
          refine ⟨by rw [chJ_row q (by omega) (hl _ (by simp))]; exact e1, by rw [chJ_row q (by omega) (hl _ (by simp))]; exact e2, ?_, ?_⟩
          · unfold EsA; rw [if_pos rfl]; exact hEd
          · unfold EsA; rw [if_pos rfl]
            exact (List.perm_append_singleton _ _).trans ((e4.cons _).trans (insE_perm _ _).symm)
        · obtain ⟨e1, e2, e3⟩ := f5 hk
          exact ⟨by rw [chJ_row q (by omega) (hl _ (by simp))]; exact e1, fun i hi => by rw [chJ_row q (by omega) (hl _ (by simp))]; exact e2 i hi, e3⟩
      · rw [ud_n h2] at hTm
        obtain ⟨f1, f2, f3, f4, f5⟩ := g3 m w hm hTm
        refine ⟨by rw [chJ_row q (by omega) (hl _ (by simp))]; exact f1, by rw [chJ_row q (by omega) (hl _ (by simp))]; exact f2, by rw [h4 m hm, if_neg h1]; exact f3, fun hk => ?_, fun hk => ?_⟩
        · obtain ⟨e1, e2, e3, e4⟩ := f4 hk
          refine ⟨by rw [chJ_row q (by omega) (hl _ (by simp))]; exact e1, by rw [chJ_row q (by omega) (hl _ (by simp))]; exact e2, ?_, ?_⟩
          · unfold EsA; rw [if_neg h2]; exact hEo m h2 _ e3
          · unfold EsA; rw [if_neg h2]; exact e4
        · obtain ⟨e1, e2, e3⟩ := f5 hk
          exact ⟨by rw [chJ_row q (by omega) (hl _ (by simp))]; exact e1, fun i hi => by rw [chJ_row q (by omega) (hl _ (by simp))]; exact e2 i hi, e3⟩
theorem q_tie {G : Nat → Nat} {d r : Nat} {h : mH} {C : mQ} {X : mX} {Es : Nat → List aE} {L : List Int} {T : aT} {here : Nat} {O : List Int} {cp bad : Int} (hd : 7 ≤ d) (H : RS r h Es L T here O cp bad) (hw : wf T here) (hC : ∀ h' Es', RS r h' Es' L (tiT T here L) here O cp bad → C (some (.inl (tiR T here L))) h') :
    callG (wp G) d 115 0 0 3 [.inr (.inl (some r))] h C X := by
  have R0 := H.1.1
  have q0 : chJ (sR r [100]) h (hsetI h r 0 0) := chJ_set (by simp [sR])
  have H0 := RS_ch q0 (by simp) H
  unfold tiR tiT tiN at hC
  refine cg 6 (by omega) (fun d hd => ?_)
  have hd0 : (0 < d) = True := eq_true (by omega)
  simp [wp_eq, wpE, mk_X11_tie, mg, mc_X11_tie, lget, lset, popN, cats, rcv, entL, isArr, kC_s, kC_n, st1, st2, st3, st4, st5, st6, st7, st8, st9, st10, st11, st12, st13, st14, st15, st16, st17, st18, st19, st20, st21, st22, st23, st24, st25, st26, st27, st28, st29, st30, st31, st32, st33, st34, st35, st36, st37, st38, st39, st40, st41, st42, st43, st44, st45, st46, st47, st48, st49, st50, st51, st52, st53, st54, st55, st56, st57, st58, st59, st60, st61, st62, st63, st64, st65, st66, st67, st68, st69, st70, st71, st72, st73, st74, st75, st76, st77, st78, st79, st80, st81, st82, st83, st84, st85, st86, st87, st88, st89, st90, st91, R0, hd0, hty_I, hvi_I, hvr_I, hvl_I, hsz_I, hty_R, hvi_R, hvr_R, hvl_R, hsz_R, hty_L, hvi_L, hvr_L, hvl_L, hsz_L, hty_P, hvi_P, hvr_P, hvl_P, hsz_P, hty_C, hvi_C, hvr_C, hvl_C, hsz_C]
  refine r_cut H0.1 H0.2.2.1.1 H0.2.1 (fun h1 z1 z2 z3 z4 => ?_)
  have H1 := RS_ch z4 (by simp) H0
  have R1 := H1.1.1
  simp [wp_eq, wpE, mk_X11_tie, mg, mc_X11_tie, lget, lset, popN, cats, rcv, entL, isArr, kC_s, kC_n, st1, st2, st3, st4, st5, st6, st7, st8, st9, st10, st11, st12, st13, st14, st15, st16, st17, st18, st19, st20, st21, st22, st23, st24, st25, st26, st27, st28, st29, st30, st31, st32, st33, st34, st35, st36, st37, st38, st39, st40, st41, st42, st43, st44, st45, st46, st47, st48, st49, st50, st51, st52, st53, st54, st55, st56, st57, st58, st59, st60, st61, st62, st63, st64, st65, st66, st67, st68, st69, st70, st71, st72, st73, st74, st75, st76, st77, st78, st79, st80, st81, st82, st83, st84, st85, st86, st87, st88, st89, st90, st91, R1, hd0]
  refine r_wwR (k := 0) (fol := false) (by omega) H1 z3 hw (fun h2 p1 H2 _ => ?_)
  have HR2 := H2.1
  have HW2 := RW_ch p1 (by simp) z3
  have R0 := HR2.1; have R_kinds := rn_kinds HR2; have R_ties := rn_ties HR2; have R_line := rn_line HR2
  obtain ⟨g1, g2, g3⟩ := H2.2.2.2.1
  rcases nwR_res (L := L) (k := 0) (fol := false) hw with hn | ⟨n, hn, he⟩
  · simp only [hn, if_true] at hC
    have hz := hC h2 Es H2
    (repeat' (first | with_reducible assumption | (refine And.intro ?_ ?_) | (with_reducible intro _) | (simp [wp_eq, wpE, mk_X11_tie, mg, mc_X11_tie, lget, lset, popN, cats, rcv, entL, isArr, kC_s, kC_n, st1, st2, st3, st4, st5, st6, st7, st8, st9, st10, st11, st12, st13, st14, st15, st16, st17, st18, st19, st20, st21, st22, st23, st24, st25, st26, st27, st28, st29, st30, st31, st32, st33, st34, st35, st36, st37, st38, st39, st40, st41, st42, st43, st44, st45, st46, st47, st48, st49, st50, st51, st52, st53, st54, st55, st56, st57, st58, st59, st60, st61, st62, st63, st64, st65, st66, st67, st68, st69, st70, st71, st72, st73, st74, st75, st76, st77, st78, st79, st80, st81, st82, st83, st84, st85, st86, st87, st88, st89, st90, st91, R0, R_kinds, R_ties, R_line, hn]))) <;> (try (first | omega | exact hz))
  · obtain ⟨v, hT⟩ := nwR_live hw he
    rw [he] at hC ⊢
    simp only [show ¬ (n : Int) < 0 by omega, if_false, Int.toNat_natCast] at hC
    have hn0 : ¬ (n : Int) < 0 := by omega
    have gk := g2 n hn
    by_cases hk : tK T n = 0
    · simp only [hk, if_true] at hC
      have hz := hC h2 Es H2
      (repeat' (first | with_reducible assumption | (refine And.intro ?_ ?_) | (with_reducible intro _) | (simp [wp_eq, wpE, mk_X11_tie, mg, mc_X11_tie, lget, lset, popN, cats, rcv, entL, isArr, kC_s, kC_n, st1, st2, st3, st4, st5, st6, st7, st8, st9, st10, st11, st12, st13, st14, st15, st16, st17, st18, st19, st20, st21, st22, st23, st24, st25, st26, st27, st28, st29, st30, st31, st32, st33, st34, st35, st36, st37, st38, st39, st40, st41, st42, st43, st44, st45, st46, st47, st48, st49, st50, st51, st52, st53, st54, st55, st56, st57, st58, st59, st60, st61, st62, st63, st64, st65, st66, st67, st68, st69, st70, st71, st72, st73, st74, st75, st76, st77, st78, st79, st80, st81, st82, st83, st84, st85, st86, st87, st88, st89, st90, st91, R0, R_kinds, R_ties, R_line, hn0, gk, hk]))) <;> (try (first | omega | exact hz))
    · simp only [hk, if_false] at hC
      (repeat' (first | with_reducible assumption | (refine And.intro ?_ ?_) | (with_reducible intro _) | (simp [wp_eq, wpE, mk_X11_tie, mg, mc_X11_tie, lget, lset, popN, cats, rcv, entL, isArr, kC_s, kC_n, st1, st2, st3, st4, st5, st6, st7, st8, st9, st10, st11, st12, st13, st14, st15, st16, st17, st18, st19, st20, st21, st22, st23, st24, st25, st26, st27, st28, st29, st30, st31, st32, st33, st34, st35, st36, st37, st38, st39, st40, st41, st42, st43, st44, st45, st46, st47, st48, st49, st50, st51, st52, st53, st54, st55, st56, st57, st58, st59, st60, st61, st62, st63, st64, st65, st66, st67, st68, st69, st70, st71, st72, st73, st74, st75, st76, st77, st78, st79, st80, st81, st82, st83, st84, st85, st86, st87, st88, st89, st90, st91, R0, R_kinds, R_ties, R_line, hn0, gk, hk, hd0]))) <;> (try (first | omega | exact hz))
      refine r_newPlace (k := 1) (fn := false) (by omega) H2 HW2 hw (fun h3 p2 p3 => ?_)
      have H3 := RS_ch p2 (by simp) H2
      have R03 := H3.1.1
      rcases npl_ok (L := L) (k := 1) (fn := false) hw with hm | ⟨di, vd, e1, e2, e3, e4, e5, e6, e7, e8, e9⟩
      · simp only [hm, if_true] at hC
        have hz := hC h3 Es H3
        (repeat' (first | with_reducible assumption | (refine And.intro ?_ ?_) | (with_reducible intro _) | (simp [wp_eq, wpE, mk_X11_tie, mg, mc_X11_tie, lget, lset, popN, cats, rcv, entL, isArr, kC_s, kC_n, st1, st2, st3, st4, st5, st6, st7, st8, st9, st10, st11, st12, st13, st14, st15, st16, st17, st18, st19, st20, st21, st22, st23, st24, st25, st26, st27, st28, st29, st30, st31, st32, st33, st34, st35, st36, st37, st38, st39, st40, st41, st42, st43, st44, st45, st46, st47, st48, st49, st50, st51, st52, st53, st54, st55, st56, st57, st58, st59, st60, st61, st62, st63, st64, st65, st66, st67, st68, st69, st70, st71, st72, st73, st74, st75, st76, st77, st78, st79, st80, st81, st82, st83, st84, st85, st86, st87, st88, st89, st90, st91, hm]))) <;> (try (first | omega | exact hz))
      · rw [e1] at hC p3 ⊢
        simp only [show ¬ (di : Int) < 0 by omega, if_false, Int.toNat_natCast, hT, Option.getD_some] at hC
        have hdi : ¬ (di : Int) < 0 := by omega
        have hkn : ¬ nK v = 0 := by rw [tK_some hT] at hk; exact hk
        have hN := hw.2.2.2.1 n v hT
        have hn00 : ¬ n = 0 := fun q => by subst q; exact hk hw.2.2.1.1
        have hdn : ¬ di = n := fun q => by subst q; rw [e5] at hT; cases hT; exact hkn e6
        have hcn := cn_le T n (wf_E12 hw) 48
        have hnt := hN.2.2.2.2.2.2.2.2.2.2.1 hn00
        obtain ⟨k1, k2⟩ := p3 (by omega)
        have HR3 := H3.1
        have R0c := HR3.1; have R_kindsc := rn_kinds HR3; have R_tiesc := rn_ties HR3; have R_linec := rn_line HR3
        have hb := lE_b L 1
        have hnl := nmL_len L 1
        have hE : (lE L 1 : Int) = ((lS L 1 + (nmL L 1).length : Nat) : Int) := by omega
        have hl100 := H3.2.2.1.1
        have hnb := isNm_b e4
        have hro : ro h3 (r + 13) (lS L 1) (nmL L 1) := fun i hi => by rw [nmL_get (by omega)]; exact H3.2.1.2 _ (by omega) (by omega)
        obtain ⟨-, -, -, f4, -⟩ := H3.2.2.2.1.2.2 di vd e2 e5
        obtain ⟨-, -, f6, f7⟩ := f4 e6
        have hpl := f7.length_eq
        (repeat' (first | with_reducible assumption | (refine And.intro ?_ ?_) | (with_reducible intro _) | (simp [wp_eq, wpE, mk_X11_tie, mg, mc_X11_tie, lget, lset, popN, cats, rcv, entL, isArr, kC_s, kC_n, st1, st2, st3, st4, st5, st6, st7, st8, st9, st10, st11, st12, st13, st14, st15, st16, st17, st18, st19, st20, st21, st22, st23, st24, st25, st26, st27, st28, st29, st30, st31, st32, st33, st34, st35, st36, st37, st38, st39, st40, st41, st42, st43, st44, st45, st46, st47, st48, st49, st50, st51, st52, st53, st54, st55, st56, st57, st58, st59, st60, st61, st62, st63, st64, st65, st66, st67, st68, st69, st70, st71, st72, st73, st74, st75, st76, st77, st78, st79, st80, st81, st82, st83, st84, st85, st86, st87, st88, st89, st90, st91, R0c, R_kindsc, R_tiesc, R_linec, hdi, k1, k2, hd0]))) <;> (try (first | omega | exact hz))
        refine r_addNameZ (s := nmL L 1) (E := Es di) hE HR3 H3.2.2.2.2.1 e2 hn (by omega) hnb.1 hnb.2.2.1 (by omega) hro f6 (fun h4 y1 y2 y3 y4 => ?_)
        have HR4 := RN_ch y1 HR3
        have R0e := HR4.1; have R_kindse := rn_kinds HR4; have R_tiese := rn_ties HR4; have R_linee := rn_line HR4
        obtain ⟨-, -, t3, -, -⟩ := H3.2.2.2.1.2.2 n v hn hT
        have t4 : hvi h4 (r + 4) n = nT v := by rw [chJ_row y1 (by omega) (by simp)]; exact t3
        have q5 : chJ (sR r [4, 9, 10, 11, 12]) h3 (hsetI h4 (r + 4) n (nT v + 1)) := chJ_trans (chJ_sub y1 (by simp)) (chJ_set (by simp [sR]))
        have q45 : chJ (sR r [4]) h4 (hsetI h4 (r + 4) n (nT v + 1)) := chJ_set (by simp [sR])
        have HT5 : RT r (hsetI h4 (r + 4) n (nT v + 1)) (jnT T di (nmL L 1) n v) (EsA Es di (Es di ++ [(nmL L 1, n)])) here := by
          refine RT_jn (Or.inr trivial) H3.2.2.2.1 hdn e2 e5 e6 hT (hN.2.1 hkn).1 q5 (by simp) (fun m hm => ?_) (RE_ch q45 (by simp) y3) (fun m hm E hE => RE_ch q45 (by simp) (y4 m E hm hE)) (fun q => absurd q hkn)
          by_cases hmn : m = n
          · simp [hty_I, hvi_I, hvr_I, hvl_I, hsz_I, hty_R, hvi_R, hvr_R, hvl_R, hsz_R, hty_L, hvi_L, hvr_L, hvl_L, hsz_L, hty_P, hvi_P, hvr_P, hvl_P, hsz_P, hty_C, hvi_C, hvr_C, hvl_C, hsz_C, hmn]
          · simp [hty_I, hvi_I, hvr_I, hvl_I, hsz_I, hty_R, hvi_R, hvr_R, hvl_R, hsz_R, hty_L, hvi_L, hvr_L, hvl_L, hsz_L, hty_P, hvi_P, hvr_P, hvl_P, hsz_P, hty_C, hvi_C, hvr_C, hvl_C, hsz_C, hmn]; rw [chJ_row y1 (by omega) (by simp)]
        have hz := hC _ _ (⟨RN_ch q5 HR3, RP_ch q5 (by simp) (by simp) (by simp) H3.2.1, H3.2.2.1, HT5, (fun j => by rw [chJ_row q45 (by omega) (by simp)]; exact y2 j), RO_ch q5 (by simp) H3.2.2.2.2.2.1, by rw [chJ_fld q5 (by simp) (by simp)]; exact H3.2.2.2.2.2.2.1, by rw [chJ_fld q5 (by simp) (by simp)]; exact H3.2.2.2.2.2.2.2⟩ : RS r _ _ L _ here O cp bad)
        (repeat' (first | with_reducible assumption | (refine And.intro ?_ ?_) | (with_reducible intro _) | (simp [wp_eq, wpE, mk_X11_tie, mg, mc_X11_tie, lget, lset, popN, cats, rcv, entL, isArr, kC_s, kC_n, st1, st2, st3, st4, st5, st6, st7, st8, st9, st10, st11, st12, st13, st14, st15, st16, st17, st18, st19, st20, st21, st22, st23, st24, st25, st26, st27, st28, st29, st30, st31, st32, st33, st34, st35, st36, st37, st38, st39, st40, st41, st42, st43, st44, st45, st46, st47, st48, st49, st50, st51, st52, st53, st54, st55, st56, st57, st58, st59, st60, st61, st62, st63, st64, st65, st66, st67, st68, st69, st70, st71, st72, st73, st74, st75, st76, st77, st78, st79, st80, st81, st82, st83, st84, st85, st86, st87, st88, st89, st90, st91, R0e, R_kindse, R_tiese, R_linee, t4, inR]))) <;> (try (first | omega | exact hz))
