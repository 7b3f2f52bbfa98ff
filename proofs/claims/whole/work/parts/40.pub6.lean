theorem p_drop {G : Nat → Nat} {d c : Nat} {h : mH} {C : mQ} {X : mX} {L : List Int} {T : aT} {here : Nat} {O : List Int} {cp bad : Int} (hd : 8 ≤ d) (H : CS c h L T here O cp bad)
    (hC : ∀ h', CS c h' L (drT T here L) here O cp bad → C (some (.inl (drR T here L))) h') :
    callG (wp G) d 75 0 0 4 [.inr (.inl (some c))] h C X := by
  have x1 : hty h c = some (10, 7) := H.1.1 (0, 10, 7) (by decide)
  have hw := H.2.2.2.2.2.2.2.2.2
  refine cg 7 (by omega) (fun d hd => ?_)
  have hd0 : (0 < d) = True := eq_true (by omega)
  simp [wp_eq, wpE, mk_X10_drop, mg, mc_X10_drop, lget, lset, popN, cats, rcv, entL, isArr, kC_s, kC_n, st1, st2, st3, st4, st5, st6, st7, st8, st9, st10, st11, st12, st13, st14, st15, st16, st17, st18, st19, st20, st21, st22, st23, st24, st25, st26, st27, st28, st29, st30, st31, st32, st33, st34, st35, st36, st37, st38, st39, st40, st41, st42, st43, st44, st45, st46, st47, st48, st49, st50, st51, st52, st53, st54, st55, st56, st57, st58, st59, st60, st61, st62, st63, st64, st65, st66, st67, st68, st69, st70, st71, st72, st73, st74, st75, st76, st77, st78, st79, st80, st81, st82, st83, st84, st85, st86, st87, st88, st89, st90, st91, x1, hd0]
  refine c_nodeOfWord (k := 0) (fol := false) (by omega) H (fun h1 H1 hcm => ?_)
  have y1 : hty h1 c = some (10, 7) := H1.1.1 (0, 10, 7) (by decide)
  have y2 : hvr h1 c 1 = some (c + 5) := H1.1.2 (0, 1, 5) (by decide)
  have y3 : hvr h1 c 2 = some (c + 10) := H1.1.2 (0, 2, 10) (by decide)
  have w1 := H1.2.2.2.1.1
  have h3 := H1.2.2.1
  have h3' := h3
  obtain ⟨t1, t2, t3, t4, t5, t6, t7, t8⟩ := h3'
  have hres := nwR_res (L := L) (k := 0) (fol := false) hw
  have hlive := fun n => nwR_live (n := n) (L := L) (k := 0) (fol := false) hw
  unfold drR drT drO at hC
  generalize hq : nwR T here L 0 false = q at *
  obtain ⟨z, cm⟩ := q
  simp only at hC hres hlive ⊢
  rcases hres with hn | ⟨n, hn, he⟩
  · simp only [hn, if_true] at hC
    have hz := hC h1 H1
    (repeat' (first | with_reducible assumption | (refine And.intro ?_ ?_) | (with_reducible intro _) | (simp [wp_eq, wpE, mk_X10_drop, mg, mc_X10_drop, lget, lset, popN, cats, rcv, entL, isArr, kC_s, kC_n, st1, st2, st3, st4, st5, st6, st7, st8, st9, st10, st11, st12, st13, st14, st15, st16, st17, st18, st19, st20, st21, st22, st23, st24, st25, st26, st27, st28, st29, st30, st31, st32, st33, st34, st35, st36, st37, st38, st39, st40, st41, st42, st43, st44, st45, st46, st47, st48, st49, st50, st51, st52, st53, st54, st55, st56, st57, st58, st59, st60, st61, st62, st63, st64, st65, st66, st67, st68, st69, st70, st71, st72, st73, st74, st75, st76, st77, st78, st79, st80, st81, st82, st83, st84, st85, st86, st87, st88, st89, st90, st91, hn]))) <;> (try (first | omega | exact hz))
  · subst he
    have hn0 : ¬ (n : Int) < 0 := by omega
    simp only [hn0, if_false, Int.toNat_natCast] at hC
    obtain ⟨v, hT⟩ := hlive n rfl
    have hcm := (hcm n cm rfl).2
    cases cm with
    | none =>
      have hb : hvr h1 (c + 10) 6 = none := hcm
      have hz := hC h1 H1
      (repeat' (first | with_reducible assumption | (refine And.intro ?_ ?_) | (with_reducible intro _) | (simp [wp_eq, wpE, mk_X10_drop, mg, mc_X10_drop, lget, lset, popN, cats, rcv, entL, isArr, kC_s, kC_n, st1, st2, st3, st4, st5, st6, st7, st8, st9, st10, st11, st12, st13, st14, st15, st16, st17, st18, st19, st20, st21, st22, st23, st24, st25, st26, st27, st28, st29, st30, st31, st32, st33, st34, st35, st36, st37, st38, st39, st40, st41, st42, st43, st44, st45, st46, st47, st48, st49, st50, st51, st52, st53, st54, st55, st56, st57, st58, st59, st60, st61, st62, st63, st64, st65, st66, st67, st68, st69, st70, st71, st72, st73, st74, st75, st76, st77, st78, st79, st80, st81, st82, st83, st84, st85, st86, st87, st88, st89, st90, st91, y1, y2, y3, w1, hn0, hb]))) <;> (try (first | omega | exact hz))
    | some p =>
      obtain ⟨di, s⟩ := p
      obtain ⟨k5, e, k6, ad, vd, ix, hdi, ad1, hTd, hix, hie⟩ := hcm
      have hm : (s, n) ∈ nE vd := List.mem_of_getElem? hix
      obtain ⟨ad', b1, b2⟩ := t7 di vd hdi hTd
      rw [ad1] at b1; cases b1
      obtain ⟨an, an1, an2⟩ := t7 n v hn hT
      have b3 := b2.1
      have b8 : hvi h1 ad 6 = nB vd := b2.2.2.2.2.2.2.2.1
      have n1 := an2.1
      have n5 : hvi h1 an 5 = ((nE v).length : Int) := an2.2.2.2.2.2.2.1
      simp only [tB_some hTd, tE_some hT, hT, hTd] at hC
      by_cases hh : n = here
      · rw [if_pos (by omega)] at hC
        have hz := hC h1 H1
        have hhi : ((n : Int) = (here : Int)) = True := eq_true (by omega)
        (repeat' (first | with_reducible assumption | (refine And.intro ?_ ?_) | (with_reducible intro _) | (simp [wp_eq, wpE, mk_X10_drop, mg, mc_X10_drop, lget, lset, popN, cats, rcv, entL, isArr, kC_s, kC_n, st1, st2, st3, st4, st5, st6, st7, st8, st9, st10, st11, st12, st13, st14, st15, st16, st17, st18, st19, st20, st21, st22, st23, st24, st25, st26, st27, st28, st29, st30, st31, st32, st33, st34, st35, st36, st37, st38, st39, st40, st41, st42, st43, st44, st45, st46, st47, st48, st49, st50, st51, st52, st53, st54, st55, st56, st57, st58, st59, st60, st61, st62, st63, st64, st65, st66, st67, st68, st69, st70, st71, st72, st73, st74, st75, st76, st77, st78, st79, st80, st81, st82, st83, st84, st85, st86, st87, st88, st89, st90, st91, y1, y2, y3, w1, t1, t5, hn0, k6, hhi]))) <;> (try (first | omega | exact hz))
      · rw [if_neg (by omega)] at hC
        have hhi : ((n : Int) = (here : Int)) = False := eq_false (by omega)
        by_cases hb2 : bAnd (nB vd) 2 = 0
        · rw [if_pos hb2] at hC
          have hz := hC h1 H1
          (repeat' (first | with_reducible assumption | (refine c_atN hdi h3 ?_) | (refine And.intro ?_ ?_) | (with_reducible intro _) | (simp [wp_eq, wpE, mk_X10_drop, mg, mc_X10_drop, lget, lset, popN, cats, rcv, entL, isArr, kC_s, kC_n, st1, st2, st3, st4, st5, st6, st7, st8, st9, st10, st11, st12, st13, st14, st15, st16, st17, st18, st19, st20, st21, st22, st23, st24, st25, st26, st27, st28, st29, st30, st31, st32, st33, st34, st35, st36, st37, st38, st39, st40, st41, st42, st43, st44, st45, st46, st47, st48, st49, st50, st51, st52, st53, st54, st55, st56, st57, st58, st59, st60, st61, st62, st63, st64, st65, st66, st67, st68, st69, st70, st71, st72, st73, st74, st75, st76, st77, st78, st79, st80, st81, st82, st83, st84, st85, st86, st87, st88, st89, st90, st91, y1, y2, y3, w1, t1, t5, hd0, hn0, k5, k6, hhi, ad1, b3, b8, hb2]))) <;> (try (first | omega | exact hz))
        · rw [if_neg hb2] at hC
          by_cases hne : 0 < (nE v).length
          · rw [if_pos hne] at hC
            have hz := hC h1 H1
            (repeat' (first | with_reducible assumption | (refine c_atN hdi h3 ?_) | (refine c_atN hn h3 ?_) | (refine And.intro ?_ ?_) | (with_reducible intro _) | (simp [wp_eq, wpE, mk_X10_drop, mg, mc_X10_drop, lget, lset, popN, cats, rcv, entL, isArr, kC_s, kC_n, st1, st2, st3, st4, st5, st6, st7, st8, st9, st10, st11, st12, st13, st14, st15, st16, st17, st18, st19, st20, st21, st22, st23, st24, st25, st26, st27, st28, st29, st30, st31, st32, st33, st34, st35, st36, st37, st38, st39, st40, st41, st42, st43, st44, st45, st46, st47, st48, st49, st50, st51, st52, st53, st54, st55, st56, st57, st58, st59, st60, st61, st62, st63, st64, st65, st66, st67, st68, st69, st70, st71, st72, st73, st74, st75, st76, st77, st78, st79, st80, st81, st82, st83, st84, st85, st86, st87, st88, st89, st90, st91, y1, y2, y3, w1, t1, t5, hd0, hn0, k5, k6, hhi, ad1, b3, b8, hb2, an1, n1, n5, hne]))) <;> (try (first | omega | exact hz))
          · rw [if_neg hne] at hC
            simp only [hTd, hT] at hC
            have hE0 : nE v = [] := List.length_eq_zero_iff.mp (by omega)
            obtain ⟨hdn, hn00, hkd, hwf⟩ := wf_pt hw hTd hT hm hh hE0
            have hN := hw.2.2.2.1 n v hT
            have hu : unq (nE vd) := srt_unq (hw.2.2.2.1 di vd hTd).2.2.2.2.1
            have hcn := cn_le T n (wf_E12 hw) 48
            have hnt := hN.2.2.2.2.2.2.2.2.2.2.1 hn00
            have hne' : ¬ 0 < (nE v).length := hne
            (repeat' (first | with_reducible assumption | (refine c_atN hdi h3 ?_) | (refine c_atN hn h3 ?_) | (refine And.intro ?_ ?_) | (with_reducible intro _) | (simp [wp_eq, wpE, mk_X10_drop, mg, mc_X10_drop, lget, lset, popN, cats, rcv, entL, isArr, kC_s, kC_n, st1, st2, st3, st4, st5, st6, st7, st8, st9, st10, st11, st12, st13, st14, st15, st16, st17, st18, st19, st20, st21, st22, st23, st24, st25, st26, st27, st28, st29, st30, st31, st32, st33, st34, st35, st36, st37, st38, st39, st40, st41, st42, st43, st44, st45, st46, st47, st48, st49, st50, st51, st52, st53, st54, st55, st56, st57, st58, st59, st60, st61, st62, st63, st64, st65, st66, st67, st68, st69, st70, st71, st72, st73, st74, st75, st76, st77, st78, st79, st80, st81, st82, st83, st84, st85, st86, st87, st88, st89, st90, st91, y1, y2, y3, w1, t1, t5, hd0, hn0, k5, k6, hhi, ad1, b3, b8, hb2, an1, n1, n5, hne']))) <;> (try (first | omega | exact hz))
            refine c_Tpart (by omega) h3 hdi hn hdn hTd hT hu ad1 hix hie (by omega) (fun h2 p1 p2 p3 p4 => ?_)
            have hI : TI (c + 5) h2 (ptT T di s n vd v) := by
              intro m w hmm hTm hkm h0
              unfold ptT at hTm
              have hmn : ¬ m = n := fun q => by
                subst q
                rw [ud_s] at hTm
                split at hTm
                · cases hTm
                · rename_i hz
                  cases hTm
                  have := (hN.2.2.2.2.2.2.2.2.2.2.2 hkm h0).1
                  omega
              rw [ud_n hmn] at hTm
              have hb : ∃ w', T m = some w' ∧ nK w' = nK w ∧ nA w' = nA w := by
                by_cases h2 : m = di
                · subst h2; rw [ud_s] at hTm; cases hTm; exact ⟨vd, hTd, rfl, rfl⟩
                · rw [ud_n h2] at hTm; exact ⟨w, hTm, rfl, rfl⟩
              obtain ⟨w', g1, g2, g3⟩ := hb
              obtain ⟨a', e', s', f1, f2, f3, f4⟩ := H1.2.2.2.2.1 m w' hmm g1 (by rw [g2]; exact hkm) h0
              obtain ⟨r1, r2⟩ := p3 m a' hmm hmn f1
              refine ⟨a', e', s', r1, by rw [r2]; exact f2, EN_ex (ex_ch p1) (fun x hx => by rcases hx with z | ⟨k, z⟩ | z | z <;> rw [z] <;> simp) f3, ?_⟩
              rw [← g3]
              by_cases hA : nA w' = n
              · rw [hA, tE_some hT, hE0] at f4; simp at f4
              · by_cases hA2 : nA w' = di
                · have htd : ptT T di s n vd v di = some (vE vd (delE (nE vd) s)) := by unfold ptT; rw [ud_n hdn, ud_s]
                  rw [hA2] at f4 ⊢
                  rw [tE_some htd]
                  rw [tE_some hTd] at f4
                  refine List.mem_filter.mpr ⟨f4, ?_⟩
                  have : ¬ s' = s := fun q => by subst q; exact hmn (mem_unq hu f4 hm)
                  simpa using this
                · have : ptT T di s n vd v (nA w') = T (nA w') := by unfold ptT; rw [ud_n hA, ud_n hA2]
                  simp only [tE] at f4 ⊢; rw [this]; exact f4
            have hz := hC h2 (CS_upd H1 (ex_ch p1) (fun x z => Or.inr z) (fsh_ch p1 H1.2.2.2.2.2.2.2.2.1) p2 hI hwf)
            (repeat' (first | with_reducible assumption | (refine And.intro ?_ ?_) | (with_reducible intro _) | (simp [wp_eq, wpE, mk_X10_drop, mg, mc_X10_drop, lget, lset, popN, cats, rcv, entL, isArr, kC_s, kC_n, st1, st2, st3, st4, st5, st6, st7, st8, st9, st10, st11, st12, st13, st14, st15, st16, st17, st18, st19, st20, st21, st22, st23, st24, st25, st26, st27, st28, st29, st30, st31, st32, st33, st34, st35, st36, st37, st38, st39, st40, st41, st42, st43, st44, st45, st46, st47, st48, st49, st50, st51, st52, st53, st54, st55, st56, st57, st58, st59, st60, st61, st62, st63, st64, st65, st66, st67, st68, st69, st70, st71, st72, st73, st74, st75, st76, st77, st78, st79, st80, st81, st82, st83, st84, st85, st86, st87, st88, st89, st90, st91]))) <;> (try (first | omega | exact hz))
