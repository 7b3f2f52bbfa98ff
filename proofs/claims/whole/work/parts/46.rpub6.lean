theorem RT_pt {r : Nat} {h h' : mH} {T : aT} {Es : Nat → List aE} {here di n k : Nat} {s : List Int} {vd v : aN} {l : List Nat} (hw : wf T here) (H : RT r h T Es here) (hdn : ¬ di = n) (hdi : di < 48) (hTd : T di = some vd) (hTn : T n = some v) (hE0 : nE v = []) (hkd : nK vd = 0) (hk : (Es di)[k]? = some (s, n))
    (q : chJ (sR r l) h h') (hl : ∀ c ∈ [0, 2, 3, 5, 6, 7, 8, 113], ¬ c ∈ l) (h1 : ∀ m, m < 48 → hvi h' (r + 1) m = if m = n ∧ nT v - 1 = 0 then -1 else hvi h (r + 1) m) (h4 : ∀ m, m < 48 → hvi h' (r + 4) m = if m = n then nT v - 1 else hvi h (r + 4) m) (hEd : RE r h' di (swr (Es di) k)) (hEo : ∀ m, ¬ m = di → ∀ E, RE r h m E → RE r h' m E) :
    RT r h' (ptT T di s n vd v) (EsA Es di (swr (Es di) k)) here := by
  obtain ⟨g1, g2, g3⟩ := H
  have hkl := (List.getElem?_eq_some_iff.mp hk).1
  have tdi : ptT T di s n vd v di = some (vE vd (delE (nE vd) s)) := by unfold ptT; rw [ud_n hdn, ud_s]
  refine ⟨by rw [chJ_fld q (hl _ (by simp)) (hl _ (by simp))]; exact g1, fun m hm => ?_, fun m w hm hTm => ?_⟩
  · rw [h1 m hm]
    by_cases hmn : m = n
    · subst hmn
      by_cases hz : nT v - 1 = 0
      · rw [if_pos ⟨rfl, hz⟩]; unfold ptT; rw [if_pos hz]; simp [tK, ud_s]
      · rw [if_neg (fun z => hz z.2), g2 m hm, tK_some hTn]; unfold ptT; rw [if_neg hz, tK_some ud_s]; rfl
    · rw [if_neg (fun z => hmn z.1), g2 m hm]
      by_cases h2 : m = di
      · rw [h2, tK_some hTd, tK_some tdi]; rfl
      · simp only [tK]; unfold ptT; rw [ud_n hmn, ud_n h2]
  · by_cases hmn : m = n
    · subst hmn
      unfold ptT at hTm
      rw [ud_s] at hTm
      split at hTm
      · cases hTm
      · cases hTm
        obtain ⟨f1, f2, f3, f4, f5⟩ := g3 m v hm hTn
        refine ⟨by rw [chJ_row q (by omega) (hl _ (by simp))]; exact f1, by rw [chJ_row q (by omega) (hl _ (by simp))]; exact f2, by rw [h4 m hm, if_pos rfl]; rfl, fun hk => ?_, fun hk => ?_⟩
        · obtain ⟨e1, e2, e3, e4⟩ := f4 hk
          refine ⟨by rw [chJ_row q (by omega) (hl _ (by simp))]; exact e1, by rw [chJ_row q (by omega) (hl _ (by simp))]; exact e2, ?_, ?_⟩
          · unfold EsA; rw [if_neg (fun z => hdn z.symm)]; exact hEo m (fun z => hdn z.symm) _ e3
          · unfold EsA; rw [if_neg (fun z => hdn z.symm)]; exact e4
        · obtain ⟨e1, e2, e3⟩ := f5 hk
          exact ⟨by rw [chJ_row q (by omega) (hl _ (by simp))]; exact e1, fun i hi => by rw [chJ_row q (by omega) (hl _ (by simp))]; exact e2 i hi, e3⟩
    · by_cases h2 : m = di
      · subst h2
        rw [tdi] at hTm; cases hTm
        obtain ⟨f1, f2, f3, f4, f5⟩ := g3 m vd hm hTd
        refine ⟨by rw [chJ_row q (by omega) (hl _ (by simp))]; exact f1, by rw [chJ_row q (by omega) (hl _ (by simp))]; exact f2, by rw [h4 m hm, if_neg hmn]; exact f3, fun hk' => ?_, fun hk' => ?_⟩
        · obtain ⟨e1, e2, e3, e4⟩ := f4 hk'
          refine ⟨by rw [chJ_row q (by omega) (hl _ (by simp))]; exact e1, by rw [chJ_row q (by omega) (hl _ (by simp))]; exact e2, ?_, ?_⟩
          · unfold EsA; rw [if_pos rfl]; exact hEd
          · unfold EsA; rw [if_pos rfl]
            have hu : unq (Es m) := unq_perm e4.symm (wf_unq hw m vd hm hTd)
            have hde : delE (Es m) s = (Es m).eraseIdx k := delE_idx hu hk
            have hp := swr_perm hkl
            rw [← hde] at hp
            exact hp.trans (delE_perm e4)
        · obtain ⟨e1, e2, e3⟩ := f5 hk'
          exact ⟨by rw [chJ_row q (by omega) (hl _ (by simp))]; exact e1, fun i hi => by rw [chJ_row q (by omega) (hl _ (by simp))]; exact e2 i hi, e3⟩
      · have : ptT T di s n vd v m = T m := by unfold ptT; rw [ud_n hmn, ud_n h2]
        rw [this] at hTm
        obtain ⟨f1, f2, f3, f4, f5⟩ := g3 m w hm hTm
        refine ⟨by rw [chJ_row q (by omega) (hl _ (by simp))]; exact f1, by rw [chJ_row q (by omega) (hl _ (by simp))]; exact f2, by rw [h4 m hm, if_neg hmn]; exact f3, fun hk => ?_, fun hk => ?_⟩
        · obtain ⟨e1, e2, e3, e4⟩ := f4 hk
          refine ⟨by rw [chJ_row q (by omega) (hl _ (by simp))]; exact e1, by rw [chJ_row q (by omega) (hl _ (by simp))]; exact e2, ?_, ?_⟩
          · unfold EsA; rw [if_neg h2]; exact hEo m h2 _ e3
          · unfold EsA; rw [if_neg h2]; exact e4
        · obtain ⟨e1, e2, e3⟩ := f5 hk
          exact ⟨by rw [chJ_row q (by omega) (hl _ (by simp))]; exact e1, fun i hi => by rw [chJ_row q (by omega) (hl _ (by simp))]; exact e2 i hi, e3⟩
/-- by what entry a way came -/
theorem wk_cm {T : aT} {here : Nat} {fol : Bool} (hw : wf T here) : ∀ (f nd lk : Nat) (cm : aC) (w : List Int) (n : Nat) (c : aC), (∀ d s, cm = some (d, s) → lkE s (tE T d) = some nd) → wk T fol f nd lk cm w = ((n : Int), c) → ∀ d s, c = some (d, s) → lkE s (tE T d) = some n := by
  intro f
  induction f with
  | zero => intro nd lk cm w n c _ hq; simp [wk] at hq
  | succ f ih =>
    intro nd lk cm w n c hcm hq
    simp only [wk] at hq
    split at hq
    · split at hq
      · cases hq
      · injection hq with h1 h2
        have : nd = n := by omega
        subst h2; subst this; exact hcm
    · cases hs : stp T fol nd lk (dsl w) with
      | inl z =>
        rw [hs] at hq
        have := stp_neg hs
        injection hq with h1 h2
        omega
      | inr q =>
        rw [hs] at hq
        refine ih q.1 q.2.1 q.2.2.1 q.2.2.2 n c (fun d s hc => ?_) hq
        unfold stp at hs
        split at hs
        · cases hs
        split at hs
        · cases hs
        split at hs
        · cases hs; cases hc
        split at hs
        · cases hs; cases hc
        split at hs
        · cases hs
        · rename_i m hm
          split at hs
          · split at hs
            · cases hs
            · cases hs; cases hc
          · cases hs; cases hc; exact hm
theorem nwR_cm {T : aT} {here n k : Nat} {L : List Int} {fol : Bool} {d : Nat} {s : List Int} (hw : wf T here) (hq : nwR T here L k fol = ((n : Int), some (d, s))) : lkE s (tE T d) = some n := by
  unfold nwR at hq
  split at hq
  · exact wk_cm hw 421 _ 0 none (wd L k) n (some (d, s)) (fun d s q => by cases q) hq d s rfl
  · cases hq
theorem q_drop {G : Nat → Nat} {d r : Nat} {h : mH} {C : mQ} {X : mX} {Es : Nat → List aE} {L : List Int} {T : aT} {here : Nat} {O : List Int} {cp bad : Int} (hd : 7 ≤ d) (H : RS r h Es L T here O cp bad) (hw : wf T here) (hC : ∀ h' Es', RS r h' Es' L (drT T here L) here O cp bad → C (some (.inl (drR T here L))) h') :
    callG (wp G) d 116 0 0 2 [.inr (.inl (some r))] h C X := by
  have R0 := H.1.1
  have q0 : chJ (sR r [100]) h (hsetI h r 0 0) := chJ_set (by simp [sR])
  have H0 := RS_ch q0 (by simp) H
  refine cg 6 (by omega) (fun d hd => ?_)
  have hd0 : (0 < d) = True := eq_true (by omega)
  simp [wp_eq, wpE, mk_X11_drop, mg, mc_X11_drop, lget, lset, popN, cats, rcv, entL, isArr, kC_s, kC_n, st1, st2, st3, st4, st5, st6, st7, st8, st9, st10, st11, st12, st13, st14, st15, st16, st17, st18, st19, st20, st21, st22, st23, st24, st25, st26, st27, st28, st29, st30, st31, st32, st33, st34, st35, st36, st37, st38, st39, st40, st41, st42, st43, st44, st45, st46, st47, st48, st49, st50, st51, st52, st53, st54, st55, st56, st57, st58, st59, st60, st61, st62, st63, st64, st65, st66, st67, st68, st69, st70, st71, st72, st73, st74, st75, st76, st77, st78, st79, st80, st81, st82, st83, st84, st85, st86, st87, st88, st89, st90, st91, R0, hd0, hty_I, hvi_I, hvr_I, hvl_I, hsz_I, hty_R, hvi_R, hvr_R, hvl_R, hsz_R, hty_L, hvi_L, hvr_L, hvl_L, hsz_L, hty_P, hvi_P, hvr_P, hvl_P, hsz_P, hty_C, hvi_C, hvr_C, hvl_C, hsz_C]
  refine r_cut H0.1 H0.2.2.1.1 H0.2.1 (fun h1 z1 z2 z3 z4 => ?_)
  have H1 := RS_ch z4 (by simp) H0
  have R1 := H1.1.1
  simp [wp_eq, wpE, mk_X11_drop, mg, mc_X11_drop, lget, lset, popN, cats, rcv, entL, isArr, kC_s, kC_n, st1, st2, st3, st4, st5, st6, st7, st8, st9, st10, st11, st12, st13, st14, st15, st16, st17, st18, st19, st20, st21, st22, st23, st24, st25, st26, st27, st28, st29, st30, st31, st32, st33, st34, st35, st36, st37, st38, st39, st40, st41, st42, st43, st44, st45, st46, st47, st48, st49, st50, st51, st52, st53, st54, st55, st56, st57, st58, st59, st60, st61, st62, st63, st64, st65, st66, st67, st68, st69, st70, st71, st72, st73, st74, st75, st76, st77, st78, st79, st80, st81, st82, st83, st84, st85, st86, st87, st88, st89, st90, st91, R1, hd0]
  refine r_wwR (k := 0) (fol := false) (by omega) H1 z3 hw (fun h2 p1 H2 hcm => ?_)
  have HR2 := H2.1
  have R0 := HR2.1; have R_kinds := rn_kinds HR2; have R_ties := rn_ties HR2; have R_bitsOf := rn_bitsOf HR2; have R_many := rn_many HR2
  have HT2 := H2.2.2.2.1
  obtain ⟨g1, g2, g3⟩ := HT2
  have hres := nwR_res (L := L) (k := 0) (fol := false) hw
  have hlive := fun n => nwR_live (n := n) (L := L) (k := 0) (fol := false) hw
  have hncm := fun n d s => nwR_cm (n := n) (L := L) (k := 0) (fol := false) (d := d) (s := s) hw
  unfold drR drT drO at hC
  generalize hq : nwR T here L 0 false = q at *
  obtain ⟨z, cm⟩ := q
  simp only at hC hres hlive ⊢
  rcases hres with hn | ⟨n, hn, he⟩
  · simp only [hn, if_true] at hC
    have hz := hC h2 Es H2
    (repeat' (first | with_reducible assumption | (refine And.intro ?_ ?_) | (with_reducible intro _) | (simp [wp_eq, wpE, mk_X11_drop, mg, mc_X11_drop, lget, lset, popN, cats, rcv, entL, isArr, kC_s, kC_n, st1, st2, st3, st4, st5, st6, st7, st8, st9, st10, st11, st12, st13, st14, st15, st16, st17, st18, st19, st20, st21, st22, st23, st24, st25, st26, st27, st28, st29, st30, st31, st32, st33, st34, st35, st36, st37, st38, st39, st40, st41, st42, st43, st44, st45, st46, st47, st48, st49, st50, st51, st52, st53, st54, st55, st56, st57, st58, st59, st60, st61, st62, st63, st64, st65, st66, st67, st68, st69, st70, st71, st72, st73, st74, st75, st76, st77, st78, st79, st80, st81, st82, st83, st84, st85, st86, st87, st88, st89, st90, st91, R0, R_kinds, R_ties, R_bitsOf, R_many, hn]))) <;> (try (first | omega | exact hz))
  · subst he
    have hn0 : ¬ (n : Int) < 0 := by omega
    simp only [hn0, if_false, Int.toNat_natCast] at hC
    obtain ⟨v, hT⟩ := hlive n rfl
    have hcm := (hcm n cm rfl).2
    cases cm with
    | none =>
      have hb : hvi h2 r 26 = -1 := hcm
      have hz := hC h2 Es H2
      (repeat' (first | with_reducible assumption | (refine And.intro ?_ ?_) | (with_reducible intro _) | (simp [wp_eq, wpE, mk_X11_drop, mg, mc_X11_drop, lget, lset, popN, cats, rcv, entL, isArr, kC_s, kC_n, st1, st2, st3, st4, st5, st6, st7, st8, st9, st10, st11, st12, st13, st14, st15, st16, st17, st18, st19, st20, st21, st22, st23, st24, st25, st26, st27, st28, st29, st30, st31, st32, st33, st34, st35, st36, st37, st38, st39, st40, st41, st42, st43, st44, st45, st46, st47, st48, st49, st50, st51, st52, st53, st54, st55, st56, st57, st58, st59, st60, st61, st62, st63, st64, st65, st66, st67, st68, st69, st70, st71, st72, st73, st74, st75, st76, st77, st78, st79, st80, st81, st82, st83, st84, st85, st86, st87, st88, st89, st90, st91, R0, R_kinds, R_ties, R_bitsOf, R_many, hn0, hb]))) <;> (try (first | omega | exact hz))
    | some p =>
      obtain ⟨di, s⟩ := p
      obtain ⟨k, hdi, hk12, hca, hke⟩ := hcm
      have hlk := hncm n di s rfl
      cases hTd : T di with
      | none => simp [tE, hTd, lkE] at hlk
      | some vd =>
        rw [tE_some hTd] at hlk
        have hm : (s, n) ∈ nE vd := lkE_mem hlk
        simp only [tB_some hTd, tE_some hT, hT, hTd] at hC
        have hca0 : ¬ ((12 * di + k : Nat) : Int) < 0 := by omega
        have e12 : ((12 * di + k : Nat) : Int) / 12 = (di : Int) := by omega
        have hNd := hw.2.2.2.1 di vd hTd
        have hkd : nK vd = 0 := by
          by_cases q : nK vd = 0
          · exact q
          · rw [(hNd.2.1 q).1] at hm; simp at hm
        obtain ⟨b1, b2, b3, b4⟩ := (g3 di vd hdi hTd).2.2.2.1 hkd
        by_cases hh : n = here
        · rw [if_pos (by omega)] at hC
          have hz := hC h2 Es H2
          have hhi : ((n : Int) = (here : Int)) = True := eq_true (by omega)
          (repeat' (first | with_reducible assumption | (refine And.intro ?_ ?_) | (with_reducible intro _) | (simp [wp_eq, wpE, mk_X11_drop, mg, mc_X11_drop, lget, lset, popN, cats, rcv, entL, isArr, kC_s, kC_n, st1, st2, st3, st4, st5, st6, st7, st8, st9, st10, st11, st12, st13, st14, st15, st16, st17, st18, st19, st20, st21, st22, st23, st24, st25, st26, st27, st28, st29, st30, st31, st32, st33, st34, st35, st36, st37, st38, st39, st40, st41, st42, st43, st44, st45, st46, st47, st48, st49, st50, st51, st52, st53, st54, st55, st56, st57, st58, st59, st60, st61, st62, st63, st64, st65, st66, st67, st68, st69, st70, st71, st72, st73, st74, st75, st76, st77, st78, st79, st80, st81, st82, st83, st84, st85, st86, st87, st88, st89, st90, st91, R0, R_kinds, R_ties, R_bitsOf, R_many, -Int.natCast_add, -Int.natCast_mul, hn0, hca, hca0, g1, hhi]))) <;> (try (first | omega | exact hz))
        · rw [if_neg (by omega)] at hC
          have hhi : ((n : Int) = (here : Int)) = False := eq_false (by omega)
          by_cases hb2 : bAnd (nB vd) 2 = 0
          · rw [if_pos hb2] at hC
            have hz := hC h2 Es H2
            (repeat' (first | with_reducible assumption | (refine And.intro ?_ ?_) | (with_reducible intro _) | (simp [wp_eq, wpE, mk_X11_drop, mg, mc_X11_drop, lget, lset, popN, cats, rcv, entL, isArr, kC_s, kC_n, st1, st2, st3, st4, st5, st6, st7, st8, st9, st10, st11, st12, st13, st14, st15, st16, st17, st18, st19, st20, st21, st22, st23, st24, st25, st26, st27, st28, st29, st30, st31, st32, st33, st34, st35, st36, st37, st38, st39, st40, st41, st42, st43, st44, st45, st46, st47, st48, st49, st50, st51, st52, st53, st54, st55, st56, st57, st58, st59, st60, st61, st62, st63, st64, st65, st66, st67, st68, st69, st70, st71, st72, st73, st74, st75, st76, st77, st78, st79, st80, st81, st82, st83, st84, st85, st86, st87, st88, st89, st90, st91, R0, R_kinds, R_ties, R_bitsOf, R_many, -Int.natCast_add, -Int.natCast_mul, hn0, hca, hca0, g1, hhi, e12, b1, hb2]))) <;> (try (first | omega | exact hz))
          · rw [if_neg hb2] at hC
            have gk := g2 n hn
            rw [tK_some hT] at gk
            have hN := hw.2.2.2.1 n v hT
            by_cases hne : 0 < (nE v).length
            · rw [if_pos hne] at hC
              have hz := hC h2 Es H2
              have hk0 : nK v = 0 := by
                by_cases q : nK v = 0
                · exact q
                · rw [(hN.2.1 q).1] at hne; simp at hne
              obtain ⟨-, -, c3, c4⟩ := (g3 n v hn hT).2.2.2.1 hk0
              have c5 := c3.1
              have c6 := c4.length_eq
              rw [c6] at c5
              (repeat' (first | with_reducible assumption | (refine And.intro ?_ ?_) | (with_reducible intro _) | (simp [wp_eq, wpE, mk_X11_drop, mg, mc_X11_drop, lget, lset, popN, cats, rcv, entL, isArr, kC_s, kC_n, st1, st2, st3, st4, st5, st6, st7, st8, st9, st10, st11, st12, st13, st14, st15, st16, st17, st18, st19, st20, st21, st22, st23, st24, st25, st26, st27, st28, st29, st30, st31, st32, st33, st34, st35, st36, st37, st38, st39, st40, st41, st42, st43, st44, st45, st46, st47, st48, st49, st50, st51, st52, st53, st54, st55, st56, st57, st58, st59, st60, st61, st62, st63, st64, st65, st66, st67, st68, st69, st70, st71, st72, st73, st74, st75, st76, st77, st78, st79, st80, st81, st82, st83, st84, st85, st86, st87, st88, st89, st90, st91, R0, R_kinds, R_ties, R_bitsOf, R_many, -Int.natCast_add, -Int.natCast_mul, hn0, hca, hca0, g1, hhi, e12, b1, hb2, gk, hk0, c5, hne]))) <;> (try (first | omega | exact hz))
            · rw [if_neg hne] at hC
              simp only [hTd, hT] at hC
              have hE0 : nE v = [] := List.length_eq_zero_iff.mp (by omega)
              obtain ⟨hdn, hn00, -, hwf⟩ := wf_pt hw hTd hT hm hh hE0
              have hcn := cn_le T n (wf_E12 hw) 48
              have hnt := hN.2.2.2.2.2.2.2.2.2.2.1 hn00
              have hkl := (List.getElem?_eq_some_iff.mp hke).1
              have hmany : nK v = 0 → hvi h2 (r + 9) n = 0 := fun q => by
                obtain ⟨-, -, c3, c4⟩ := (g3 n v hn hT).2.2.2.1 q
                rw [c3.1, c4.length_eq, hE0]; rfl
              have hgo : wp G d 116 81 [some (.inr (.inl (some r))), some (.inl (n : Int))] [] h2 0 0 C (fun _ _ => False) := by
                simp [wp_eq, wpE, mk_X11_drop, mg, mc_X11_drop, lget, lset, popN, cats, rcv, entL, isArr, kC_s, kC_n, st1, st2, st3, st4, st5, st6, st7, st8, st9, st10, st11, st12, st13, st14, st15, st16, st17, st18, st19, st20, st21, st22, st23, st24, st25, st26, st27, st28, st29, st30, st31, st32, st33, st34, st35, st36, st37, st38, st39, st40, st41, st42, st43, st44, st45, st46, st47, st48, st49, st50, st51, st52, st53, st54, st55, st56, st57, st58, st59, st60, st61, st62, st63, st64, st65, st66, st67, st68, st69, st70, st71, st72, st73, st74, st75, st76, st77, st78, st79, st80, st81, st82, st83, st84, st85, st86, st87, st88, st89, st90, st91, R0, hca, hd0, -Int.natCast_add, -Int.natCast_mul]
                refine r_removeName HR2 H2.2.2.2.2.1 hdi hkl b3 (fun h3 y1 y2 y3 y4 => ?_)
                have HR3 := RN_ch y1 HR2
                have R0c := HR3.1; have R_kindsc := rn_kinds HR3; have R_tiesc := rn_ties HR3; have R_bitsOfc := rn_bitsOf HR3; have R_manyc := rn_many HR3
                have t3 : hvi h3 (r + 4) n = nT v := by rw [chJ_row y1 (by omega) (by simp)]; exact (g3 n v hn hT).2.2.1
                by_cases hz0 : nT v - 1 = 0
                · have q4 : chJ (sR r [1, 4]) h3 (hsetI (hsetI h3 (r + 4) n 0) (r + 1) n (-1)) := chJ_trans (chJ_set (by simp [sR])) (chJ_set (by simp [sR]))
                  have q5 : chJ (sR r [1, 4, 9, 10, 11, 12]) h2 (hsetI (hsetI h3 (r + 4) n 0) (r + 1) n (-1)) := chJ_trans (chJ_sub y1 (by simp)) (chJ_sub q4 (by simp))
                  have HT5 := RT_pt (h' := hsetI (hsetI h3 (r + 4) n 0) (r + 1) n (-1)) hw H2.2.2.2.1 hdn hdi hTd hT hE0 hkd hke q5 (by simp) (fun m hm => by
                    by_cases hmn : m = n
                    · simp [hty_I, hvi_I, hvr_I, hvl_I, hsz_I, hty_R, hvi_R, hvr_R, hvl_R, hsz_R, hty_L, hvi_L, hvr_L, hvl_L, hsz_L, hty_P, hvi_P, hvr_P, hvl_P, hsz_P, hty_C, hvi_C, hvr_C, hvl_C, hsz_C, hmn, hz0]
                    · simp [hty_I, hvi_I, hvr_I, hvl_I, hsz_I, hty_R, hvi_R, hvr_R, hvl_R, hsz_R, hty_L, hvi_L, hvr_L, hvl_L, hsz_L, hty_P, hvi_P, hvr_P, hvl_P, hsz_P, hty_C, hvi_C, hvr_C, hvl_C, hsz_C, hmn]; rw [chJ_row y1 (by omega) (by simp)]) (fun m hm => by
                    by_cases hmn : m = n
                    · simp [hty_I, hvi_I, hvr_I, hvl_I, hsz_I, hty_R, hvi_R, hvr_R, hvl_R, hsz_R, hty_L, hvi_L, hvr_L, hvl_L, hsz_L, hty_P, hvi_P, hvr_P, hvl_P, hsz_P, hty_C, hvi_C, hvr_C, hvl_C, hsz_C, hmn, hz0]
                    · simp [hty_I, hvi_I, hvr_I, hvl_I, hsz_I, hty_R, hvi_R, hvr_R, hvl_R, hsz_R, hty_L, hvi_L, hvr_L, hvl_L, hsz_L, hty_P, hvi_P, hvr_P, hvl_P, hsz_P, hty_C, hvi_C, hvr_C, hvl_C, hsz_C, hmn]; rw [chJ_row y1 (by omega) (by simp)]) (RE_ch q4 (by simp) y3) (fun m hm E hE => RE_ch q4 (by simp) (y4 m E hm hE))
                  have hz := hC _ _ (⟨RN_ch q5 HR2, RP_ch q5 (by simp) (by simp) (by simp) H2.2.1, H2.2.2.1, HT5, (fun j => by rw [chJ_row q4 (by omega) (by simp)]; exact y2 j), RO_ch q5 (by simp) H2.2.2.2.2.2.1, by rw [chJ_fld q5 (by simp) (by simp)]; exact H2.2.2.2.2.2.2.1, by rw [chJ_fld q5 (by simp) (by simp)]; exact H2.2.2.2.2.2.2.2⟩ : RS r _ _ L _ here O cp bad)
                  (repeat' (first | with_reducible assumption | (refine And.intro ?_ ?_) | (with_reducible intro _) | (simp [wp_eq, wpE, mk_X11_drop, mg, mc_X11_drop, lget, lset, popN, cats, rcv, entL, isArr, kC_s, kC_n, st1, st2, st3, st4, st5, st6, st7, st8, st9, st10, st11, st12, st13, st14, st15, st16, st17, st18, st19, st20, st21, st22, st23, st24, st25, st26, st27, st28, st29, st30, st31, st32, st33, st34, st35, st36, st37, st38, st39, st40, st41, st42, st43, st44, st45, st46, st47, st48, st49, st50, st51, st52, st53, st54, st55, st56, st57, st58, st59, st60, st61, st62, st63, st64, st65, st66, st67, st68, st69, st70, st71, st72, st73, st74, st75, st76, st77, st78, st79, st80, st81, st82, st83, st84, st85, st86, st87, st88, st89, st90, st91, R0c, R_kindsc, R_tiesc, R_bitsOfc, R_manyc, t3, hz0, inR, hty_I, hvi_I, hvr_I, hvl_I, hsz_I, hty_R, hvi_R, hvr_R, hvl_R, hsz_R, hty_L, hvi_L, hvr_L, hvl_L, hsz_L, hty_P, hvi_P, hvr_P, hvl_P, hsz_P, hty_C, hvi_C, hvr_C, hvl_C, hsz_C]))) <;> (try (first | omega | exact hz))
                · have q4 : chJ (sR r [1, 4]) h3 (hsetI h3 (r + 4) n (nT v - 1)) := chJ_set (by simp [sR])
                  have q5 : chJ (sR r [1, 4, 9, 10, 11, 12]) h2 (hsetI h3 (r + 4) n (nT v - 1)) := chJ_trans (chJ_sub y1 (by simp)) (chJ_sub q4 (by simp))
                  have HT5 := RT_pt (h' := hsetI h3 (r + 4) n (nT v - 1)) hw H2.2.2.2.1 hdn hdi hTd hT hE0 hkd hke q5 (by simp) (fun m hm => by
                    rw [if_neg (fun z => hz0 z.2)]
                    simp [hty_I, hvi_I, hvr_I, hvl_I, hsz_I, hty_R, hvi_R, hvr_R, hvl_R, hsz_R, hty_L, hvi_L, hvr_L, hvl_L, hsz_L, hty_P, hvi_P, hvr_P, hvl_P, hsz_P, hty_C, hvi_C, hvr_C, hvl_C, hsz_C]; rw [chJ_row y1 (by omega) (by simp)]) (fun m hm => by
                    by_cases hmn : m = n
                    · simp [hty_I, hvi_I, hvr_I, hvl_I, hsz_I, hty_R, hvi_R, hvr_R, hvl_R, hsz_R, hty_L, hvi_L, hvr_L, hvl_L, hsz_L, hty_P, hvi_P, hvr_P, hvl_P, hsz_P, hty_C, hvi_C, hvr_C, hvl_C, hsz_C, hmn]
                    · simp [hty_I, hvi_I, hvr_I, hvl_I, hsz_I, hty_R, hvi_R, hvr_R, hvl_R, hsz_R, hty_L, hvi_L, hvr_L, hvl_L, hsz_L, hty_P, hvi_P, hvr_P, hvl_P, hsz_P, hty_C, hvi_C, hvr_C, hvl_C, hsz_C, hmn]; rw [chJ_row y1 (by omega) (by simp)]) (RE_ch q4 (by simp) y3) (fun m hm E hE => RE_ch q4 (by simp) (y4 m E hm hE))
                  have hz := hC _ _ (⟨RN_ch q5 HR2, RP_ch q5 (by simp) (by simp) (by simp) H2.2.1, H2.2.2.1, HT5, (fun j => by rw [chJ_row q4 (by omega) (by simp)]; exact y2 j), RO_ch q5 (by simp) H2.2.2.2.2.2.1, by rw [chJ_fld q5 (by simp) (by simp)]; exact H2.2.2.2.2.2.2.1, by rw [chJ_fld q5 (by simp) (by simp)]; exact H2.2.2.2.2.2.2.2⟩ : RS r _ _ L _ here O cp bad)
                  (repeat' (first | with_reducible assumption | (refine And.intro ?_ ?_) | (with_reducible intro _) | (simp [wp_eq, wpE, mk_X11_drop, mg, mc_X11_drop, lget, lset, popN, cats, rcv, entL, isArr, kC_s, kC_n, st1, st2, st3, st4, st5, st6, st7, st8, st9, st10, st11, st12, st13, st14, st15, st16, st17, st18, st19, st20, st21, st22, st23, st24, st25, st26, st27, st28, st29, st30, st31, st32, st33, st34, st35, st36, st37, st38, st39, st40, st41, st42, st43, st44, st45, st46, st47, st48, st49, st50, st51, st52, st53, st54, st55, st56, st57, st58, st59, st60, st61, st62, st63, st64, st65, st66, st67, st68, st69, st70, st71, st72, st73, st74, st75, st76, st77, st78, st79, st80, st81, st82, st83, st84, st85, st86, st87, st88, st89, st90, st91, R0c, R_kindsc, R_tiesc, R_bitsOfc, R_manyc, t3, hz0, inR, hty_I, hvi_I, hvr_I, hvl_I, hsz_I, hty_R, hvi_R, hvr_R, hvl_R, hsz_R, hty_L, hvi_L, hvr_L, hvl_L, hsz_L, hty_P, hvi_P, hvr_P, hvl_P, hsz_P, hty_C, hvi_C, hvr_C, hvl_C, hsz_C]))) <;> (try (first | omega | exact hz))
              by_cases hk0 : nK v = 0
              · have c5 := hmany hk0
                (repeat' (first | with_reducible assumption | (refine And.intro ?_ ?_) | (with_reducible intro _) | (simp [wp_ne 81, wpE, mk_X11_drop, mg, mc_X11_drop, lget, lset, popN, cats, rcv, entL, isArr, kC_s, kC_n, st1, st2, st3, st4, st5, st6, st7, st8, st9, st10, st11, st12, st13, st14, st15, st16, st17, st18, st19, st20, st21, st22, st23, st24, st25, st26, st27, st28, st29, st30, st31, st32, st33, st34, st35, st36, st37, st38, st39, st40, st41, st42, st43, st44, st45, st46, st47, st48, st49, st50, st51, st52, st53, st54, st55, st56, st57, st58, st59, st60, st61, st62, st63, st64, st65, st66, st67, st68, st69, st70, st71, st72, st73, st74, st75, st76, st77, st78, st79, st80, st81, st82, st83, st84, st85, st86, st87, st88, st89, st90, st91, R0, R_kinds, R_ties, R_bitsOf, R_many, -Int.natCast_add, -Int.natCast_mul, hn0, hca, hca0, g1, hhi, e12, b1, hb2, gk, hk0, c5]))) <;> (try (first | omega | exact hz))
              · (repeat' (first | with_reducible assumption | (refine And.intro ?_ ?_) | (with_reducible intro _) | (simp [wp_ne 81, wpE, mk_X11_drop, mg, mc_X11_drop, lget, lset, popN, cats, rcv, entL, isArr, kC_s, kC_n, st1, st2, st3, st4, st5, st6, st7, st8, st9, st10, st11, st12, st13, st14, st15, st16, st17, st18, st19, st20, st21, st22, st23, st24, st25, st26, st27, st28, st29, st30, st31, st32, st33, st34, st35, st36, st37, st38, st39, st40, st41, st42, st43, st44, st45, st46, st47, st48, st49, st50, st51, st52, st53, st54, st55, st56, st57, st58, st59, st60, st61, st62, st63, st64, st65, st66, st67, st68, st69, st70, st71, st72, st73, st74, st75, st76, st77, st78, st79, st80, st81, st82, st83, st84, st85, st86, st87, st88, st89, st90, st91, R0, R_kinds, R_ties, R_bitsOf, R_many, -Int.natCast_add, -Int.natCast_mul, hn0, hca, hca0, g1, hhi, e12, b1, hb2, gk, hk0]))) <;> (try (first | omega | exact hz))
