/-! PUBLIC METHODS of the reference: type, erase, node, go, bits, place, output, tell, count -/
theorem r_wwR {G : Nat → Nat} {d r k : Nat} {h : mH} {C : mQ} {X : mX} {Es : Nat → List aE} {L : List Int} {T : aT} {here : Nat} {O : List Int} {cp bad : Int} {fol : Bool} (hd : 5 ≤ d) (H : RS r h Es L T here O cp bad) (HW : RW r h L) (hw : wf T here)
    (hC : ∀ h', chJ (sR r [17, 18, 125, 126]) h h' → RS r h' Es L T here O cp bad → (∀ (n : Nat) c, nwR T here L k fol = ((n : Int), c) → n < 48 ∧ cmR r h' Es n c) → C (some (.inl (nwR T here L k fol).1)) h') :
    callG (wp G) d 108 0 0 3 [.inr (.inl (some r)), .inl (k : Int), .inl (b01 fol)] h C X := by
  refine r_walkWord hd (wf_W hw) (wf_unq hw) H.1 H.2.2.2.1 hw.2.1.1 H.2.1 HW H.2.2.1.1 H.2.2.1.2 (fun hk => ?_) (fun hk h' q1 q2 => ?_)
  · have hv : nwR T here L k fol = (-2, none) := by unfold nwR; rw [if_neg hk]
    rw [hv] at hC
    exact hC h chJ_refl H (fun n c q => by cases q)
  · have hv : nwR T here L k fol = wkR T fol here (wd L k) := by unfold nwR; rw [if_pos hk]
    rw [hv] at hC
    exact hC h' q1 (RS_ch q1 (by simp) H) q2
theorem RS_line {r : Nat} {h h' : mH} {Es : Nat → List aE} {L L' : List Int} {T : aT} {here : Nat} {O : List Int} {cp bad : Int} {l : List Nat} (q : chJ (sR r l) h h') (hl : ∀ c ∈ [0, 1, 2, 3, 4, 5, 6, 7, 8, 9, 10, 11, 12, 16, 113, 120, 121, 122], ¬ c ∈ l) (H : RS r h Es L T here O cp bad) (hp : RP r h' L') (hb : L'.length ≤ 100 ∧ bd L') : RS r h' Es L' T here O cp bad := by
  obtain ⟨h1, h2, h3, h4, h5, h6, h7, h8⟩ := H
  exact ⟨RN_ch q h1, hp, hb, RT_ch q (fun c hc => hl c (by simp at hc ⊢; omega)) h4, fun j => by rw [chJ_row q (by omega) (hl _ (by simp))]; exact h5 j, RO_ch q (fun c hc => hl c (by simp at hc ⊢; omega)) h6, by rw [chJ_fld q (hl _ (by simp)) (hl _ (by simp))]; exact h7, by rw [chJ_fld q (hl _ (by simp)) (hl _ (by simp))]; exact h8⟩
theorem q_type {G : Nat → Nat} {d r : Nat} {h : mH} {C : mQ} {X : mX} {Es : Nat → List aE} {L : List Int} {T : aT} {here : Nat} {O : List Int} {cp bad : Int} {a b c e f : Int} (hd : 2 ≤ d) (H : RS r h Es L T here O cp bad)
    (hC1 : (L ++ tyA a b c e f).length ≤ 100 → ∀ h', RS r h' Es (L ++ tyA a b c e f) T here O cp bad → hvi h' r 0 = 0 → C (some (.inl ((L ++ tyA a b c e f).length : Int))) h')
    (hC2 : ¬ (L ++ tyA a b c e f).length ≤ 100 → ∀ h', RS r h' Es L T here O cp bad → hvi h' r 0 = 1 → C (some (.inl 0)) h') :
    callG (wp G) d 94 0 0 10 [.inr (.inl (some r)), .inl a, .inl b, .inl c, .inl e, .inl f] h C X :=
  r_type hd H.1 H.2.1 H.2.2.1.1 (fun hl h' p1 p2 p3 => hC1 hl h' (RS_line p3 (by simp) H p1 ⟨hl, bd_app H.2.2.1.2 (tyA_b _ _ _ _ _)⟩) p2) (fun hl h' p1 p2 p3 => hC2 hl h' (RS_line p3 (by simp) H p1 H.2.2.1) p2)
theorem q_erase {G : Nat → Nat} {d r : Nat} {h : mH} {C : mQ} {X : mX} {Es : Nat → List aE} {L : List Int} {T : aT} {here : Nat} {O : List Int} {cp bad : Int} (H : RS r h Es L T here O cp bad) (hC : ∀ h', RS r h' Es [] T here O cp bad → C (some (.inl (L.length : Int))) h') :
    callG (wp G) d 95 0 0 2 [.inr (.inl (some r))] h C X :=
  r_erase H.1 H.2.1 (fun h' p1 _ p3 => hC h' (RS_line p3 (by simp) H p1 ⟨by simp, fun c hc => by simp at hc⟩))
theorem q_node {G : Nat → Nat} {d r : Nat} {h : mH} {C : mQ} {X : mX} {Es : Nat → List aE} {L : List Int} {T : aT} {here : Nat} {O : List Int} {cp bad : Int} {fol : Bool} (hd : 6 ≤ d) (H : RS r h Es L T here O cp bad) (hw : wf T here) (hC : ∀ h', RS r h' Es L T here O cp bad → C (some (.inl (nwR T here L 0 fol).1)) h') :
    callG (wp G) d 119 0 0 2 [.inr (.inl (some r)), .inl (b01 fol)] h C X := by
  have R0 := H.1.1
  have q0 : chJ (sR r [100]) h (hsetI h r 0 0) := chJ_set (by simp [sR])
  have H0 := RS_ch q0 (by simp) H
  refine cg 5 (by omega) (fun d hd => ?_)
  have hd0 : (0 < d) = True := eq_true (by omega)
  simp [wp_eq, wpE, mk_X11_node, mg, mc_X11_node, lget, lset, popN, cats, rcv, entL, isArr, kC_s, kC_n, st1, st2, st3, st4, st5, st6, st7, st8, st9, st10, st11, st12, st13, st14, st15, st16, st17, st18, st19, st20, st21, st22, st23, st24, st25, st26, st27, st28, st29, st30, st31, st32, st33, st34, st35, st36, st37, st38, st39, st40, st41, st42, st43, st44, st45, st46, st47, st48, st49, st50, st51, st52, st53, st54, st55, st56, st57, st58, st59, st60, st61, st62, st63, st64, st65, st66, st67, st68, st69, st70, st71, st72, st73, st74, st75, st76, st77, st78, st79, st80, st81, st82, st83, st84, st85, st86, st87, st88, st89, st90, st91, R0, hd0, hty_I, hvi_I, hvr_I, hvl_I, hsz_I, hty_R, hvi_R, hvr_R, hvl_R, hsz_R, hty_L, hvi_L, hvr_L, hvl_L, hsz_L, hty_P, hvi_P, hvr_P, hvl_P, hsz_P, hty_C, hvi_C, hvr_C, hvl_C, hsz_C]
  refine r_cut H0.1 H0.2.2.1.1 H0.2.1 (fun h1 z1 z2 z3 z4 => ?_)
  have H1 := RS_ch z4 (by simp) H0
  have R1 := H1.1.1
  simp [wp_eq, wpE, mk_X11_node, mg, mc_X11_node, lget, lset, popN, cats, rcv, entL, isArr, kC_s, kC_n, st1, st2, st3, st4, st5, st6, st7, st8, st9, st10, st11, st12, st13, st14, st15, st16, st17, st18, st19, st20, st21, st22, st23, st24, st25, st26, st27, st28, st29, st30, st31, st32, st33, st34, st35, st36, st37, st38, st39, st40, st41, st42, st43, st44, st45, st46, st47, st48, st49, st50, st51, st52, st53, st54, st55, st56, st57, st58, st59, st60, st61, st62, st63, st64, st65, st66, st67, st68, st69, st70, st71, st72, st73, st74, st75, st76, st77, st78, st79, st80, st81, st82, st83, st84, st85, st86, st87, st88, st89, st90, st91, R1, hd0]
  refine r_wwR (k := 0) (by omega) H1 z3 hw (fun h2 p1 H2 _ => ?_)
  have hz := hC h2 H2
  (repeat' (first | with_reducible assumption | (refine And.intro ?_ ?_) | (with_reducible intro _) | (simp [wp_eq, wpE, mk_X11_node, mg, mc_X11_node, lget, lset, popN, cats, rcv, entL, isArr, kC_s, kC_n, st1, st2, st3, st4, st5, st6, st7, st8, st9, st10, st11, st12, st13, st14, st15, st16, st17, st18, st19, st20, st21, st22, st23, st24, st25, st26, st27, st28, st29, st30, st31, st32, st33, st34, st35, st36, st37, st38, st39, st40, st41, st42, st43, st44, st45, st46, st47, st48, st49, st50, st51, st52, st53, st54, st55, st56, st57, st58, st59, st60, st61, st62, st63, st64, st65, st66, st67, st68, st69, st70, st71, st72, st73, st74, st75, st76, st77, st78, st79, st80, st81, st82, st83, st84, st85, st86, st87, st88, st89, st90, st91]))) <;> (try (first | omega | exact hz))
theorem q_go {G : Nat → Nat} {d r : Nat} {h : mH} {C : mQ} {X : mX} {Es : Nat → List aE} {L : List Int} {T : aT} {here : Nat} {O : List Int} {cp bad : Int} (hd : 6 ≤ d) (H : RS r h Es L T here O cp bad) (hw : wf T here) (hC : ∀ h', RS r h' Es L T (if 0 ≤ goR T here L then (goR T here L).toNat else here) O cp bad → C (some (.inl (goR T here L))) h') :
    callG (wp G) d 118 0 0 2 [.inr (.inl (some r))] h C X := by
  have R0 := H.1.1
  have q0 : chJ (sR r [100]) h (hsetI h r 0 0) := chJ_set (by simp [sR])
  have H0 := RS_ch q0 (by simp) H
  refine cg 5 (by omega) (fun d hd => ?_)
  have hd0 : (0 < d) = True := eq_true (by omega)
  simp [wp_eq, wpE, mk_X11_go, mg, mc_X11_go, lget, lset, popN, cats, rcv, entL, isArr, kC_s, kC_n, st1, st2, st3, st4, st5, st6, st7, st8, st9, st10, st11, st12, st13, st14, st15, st16, st17, st18, st19, st20, st21, st22, st23, st24, st25, st26, st27, st28, st29, st30, st31, st32, st33, st34, st35, st36, st37, st38, st39, st40, st41, st42, st43, st44, st45, st46, st47, st48, st49, st50, st51, st52, st53, st54, st55, st56, st57, st58, st59, st60, st61, st62, st63, st64, st65, st66, st67, st68, st69, st70, st71, st72, st73, st74, st75, st76, st77, st78, st79, st80, st81, st82, st83, st84, st85, st86, st87, st88, st89, st90, st91, R0, hd0, hty_I, hvi_I, hvr_I, hvl_I, hsz_I, hty_R, hvi_R, hvr_R, hvl_R, hsz_R, hty_L, hvi_L, hvr_L, hvl_L, hsz_L, hty_P, hvi_P, hvr_P, hvl_P, hsz_P, hty_C, hvi_C, hvr_C, hvl_C, hsz_C]
  refine r_cut H0.1 H0.2.2.1.1 H0.2.1 (fun h1 z1 z2 z3 z4 => ?_)
  have H1 := RS_ch z4 (by simp) H0
  have R1 := H1.1.1
  simp [wp_eq, wpE, mk_X11_go, mg, mc_X11_go, lget, lset, popN, cats, rcv, entL, isArr, kC_s, kC_n, st1, st2, st3, st4, st5, st6, st7, st8, st9, st10, st11, st12, st13, st14, st15, st16, st17, st18, st19, st20, st21, st22, st23, st24, st25, st26, st27, st28, st29, st30, st31, st32, st33, st34, st35, st36, st37, st38, st39, st40, st41, st42, st43, st44, st45, st46, st47, st48, st49, st50, st51, st52, st53, st54, st55, st56, st57, st58, st59, st60, st61, st62, st63, st64, st65, st66, st67, st68, st69, st70, st71, st72, st73, st74, st75, st76, st77, st78, st79, st80, st81, st82, st83, st84, st85, st86, st87, st88, st89, st90, st91, R1, hd0]
  refine r_wwR (k := 0) (fol := true) (by omega) H1 z3 hw (fun h2 p1 H2 _ => ?_)
  have HR2 := H2.1
  have R0 := HR2.1; have R_kinds := rn_kinds HR2; have R_bitsOf := rn_bitsOf HR2
  obtain ⟨g1, g2, g3⟩ := H2.2.2.2.1
  rcases nwR_res (L := L) (k := 0) (fol := true) hw with hn | ⟨n, hn, he⟩
  · rw [goR_n hn, if_neg (by omega)] at hC
    have hz := hC h2 H2
    (repeat' (first | with_reducible assumption | (refine And.intro ?_ ?_) | (with_reducible intro _) | (simp [wp_eq, wpE, mk_X11_go, mg, mc_X11_go, lget, lset, popN, cats, rcv, entL, isArr, kC_s, kC_n, st1, st2, st3, st4, st5, st6, st7, st8, st9, st10, st11, st12, st13, st14, st15, st16, st17, st18, st19, st20, st21, st22, st23, st24, st25, st26, st27, st28, st29, st30, st31, st32, st33, st34, st35, st36, st37, st38, st39, st40, st41, st42, st43, st44, st45, st46, st47, st48, st49, st50, st51, st52, st53, st54, st55, st56, st57, st58, st59, st60, st61, st62, st63, st64, st65, st66, st67, st68, st69, st70, st71, st72, st73, st74, st75, st76, st77, st78, st79, st80, st81, st82, st83, st84, st85, st86, st87, st88, st89, st90, st91, R0, R_kinds, R_bitsOf, hn]))) <;> (try (first | omega | exact hz))
  · have hgp := goR_p he
    rw [he]
    have hn0 : ¬ (n : Int) < 0 := by omega
    have gk := g2 n hn
    by_cases hk : tK T n = 0
    · obtain ⟨v, hT, hkv⟩ := tK_ge hk
      obtain ⟨f5, -⟩ := (g3 n v hn hT).2.2.2.1 hkv
      rw [if_neg (fun q => q hk), tB_some hT] at hgp
      by_cases hb : bAnd (nB v) 1 = 0
      · rw [if_pos hb] at hgp
        rw [hgp, if_neg (by decide)] at hC
        have hz := hC h2 H2
        (repeat' (first | with_reducible assumption | (refine And.intro ?_ ?_) | (with_reducible intro _) | (simp [wp_eq, wpE, mk_X11_go, mg, mc_X11_go, lget, lset, popN, cats, rcv, entL, isArr, kC_s, kC_n, st1, st2, st3, st4, st5, st6, st7, st8, st9, st10, st11, st12, st13, st14, st15, st16, st17, st18, st19, st20, st21, st22, st23, st24, st25, st26, st27, st28, st29, st30, st31, st32, st33, st34, st35, st36, st37, st38, st39, st40, st41, st42, st43, st44, st45, st46, st47, st48, st49, st50, st51, st52, st53, st54, st55, st56, st57, st58, st59, st60, st61, st62, st63, st64, st65, st66, st67, st68, st69, st70, st71, st72, st73, st74, st75, st76, st77, st78, st79, st80, st81, st82, st83, st84, st85, st86, st87, st88, st89, st90, st91, R0, R_kinds, R_bitsOf, hn0, gk, hk, f5, hb]))) <;> (try (first | omega | exact hz))
      · rw [if_neg hb] at hgp
        rw [hgp, if_pos (by omega), Int.toNat_natCast] at hC
        have q3 : chJ (sR r [113]) h2 (hsetI h2 r 13 (n : Int)) := chJ_set (by simp [sR])
        have H3 : RS r (hsetI h2 r 13 (n : Int)) Es L T n O cp bad := by
          obtain ⟨h1, h2', h3, h4, h5, h6, h7, h8⟩ := H2
          refine ⟨RN_ch q3 h1, RP_ch q3 (by simp) (by simp) (by simp) h2', h3, ⟨by simp [hty_I, hvi_I, hvr_I, hvl_I, hsz_I, hty_R, hvi_R, hvr_R, hvl_R, hsz_R, hty_L, hvi_L, hvr_L, hvl_L, hsz_L, hty_P, hvi_P, hvr_P, hvl_P, hsz_P, hty_C, hvi_C, hvr_C, hvl_C, hsz_C], fun m hm => by rw [chJ_row q3 (by omega) (by simp)]; exact h4.2.1 m hm, fun m w hm hTm => ?_⟩, fun j => by rw [chJ_row q3 (by omega) (by simp)]; exact h5 j, RO_ch q3 (by simp) h6, by rw [chJ_fld q3 (by simp) (by simp)]; exact h7, by rw [chJ_fld q3 (by simp) (by simp)]; exact h8⟩
          obtain ⟨f1, f2, f3, f4, f5⟩ := h4.2.2 m w hm hTm
          refine ⟨by rw [chJ_row q3 (by omega) (by simp)]; exact f1, by rw [chJ_row q3 (by omega) (by simp)]; exact f2, by rw [chJ_row q3 (by omega) (by simp)]; exact f3, fun hk => ?_, fun hk => ?_⟩
          · obtain ⟨e1, e2, e3, e4⟩ := f4 hk
            exact ⟨by rw [chJ_row q3 (by omega) (by simp)]; exact e1, by rw [chJ_row q3 (by omega) (by simp)]; exact e2, RE_ch q3 (by simp) e3, e4⟩
          · obtain ⟨e1, e2, e3⟩ := f5 hk
            exact ⟨by rw [chJ_row q3 (by omega) (by simp)]; exact e1, fun i hi => by rw [chJ_row q3 (by omega) (by simp)]; exact e2 i hi, e3⟩
        have hz := hC _ H3
        (repeat' (first | with_reducible assumption | (refine And.intro ?_ ?_) | (with_reducible intro _) | (simp [wp_eq, wpE, mk_X11_go, mg, mc_X11_go, lget, lset, popN, cats, rcv, entL, isArr, kC_s, kC_n, st1, st2, st3, st4, st5, st6, st7, st8, st9, st10, st11, st12, st13, st14, st15, st16, st17, st18, st19, st20, st21, st22, st23, st24, st25, st26, st27, st28, st29, st30, st31, st32, st33, st34, st35, st36, st37, st38, st39, st40, st41, st42, st43, st44, st45, st46, st47, st48, st49, st50, st51, st52, st53, st54, st55, st56, st57, st58, st59, st60, st61, st62, st63, st64, st65, st66, st67, st68, st69, st70, st71, st72, st73, st74, st75, st76, st77, st78, st79, st80, st81, st82, st83, st84, st85, st86, st87, st88, st89, st90, st91, R0, R_kinds, R_bitsOf, hn0, gk, hk, f5, hb]))) <;> (try (first | omega | exact hz))
    · rw [if_pos hk] at hgp
      rw [hgp, if_neg (by decide)] at hC
      have hz := hC h2 H2
      (repeat' (first | with_reducible assumption | (refine And.intro ?_ ?_) | (with_reducible intro _) | (simp [wp_eq, wpE, mk_X11_go, mg, mc_X11_go, lget, lset, popN, cats, rcv, entL, isArr, kC_s, kC_n, st1, st2, st3, st4, st5, st6, st7, st8, st9, st10, st11, st12, st13, st14, st15, st16, st17, st18, st19, st20, st21, st22, st23, st24, st25, st26, st27, st28, st29, st30, st31, st32, st33, st34, st35, st36, st37, st38, st39, st40, st41, st42, st43, st44, st45, st46, st47, st48, st49, st50, st51, st52, st53, st54, st55, st56, st57, st58, st59, st60, st61, st62, st63, st64, st65, st66, st67, st68, st69, st70, st71, st72, st73, st74, st75, st76, st77, st78, st79, st80, st81, st82, st83, st84, st85, st86, st87, st88, st89, st90, st91, R0, R_kinds, R_bitsOf, hn0, gk, hk]))) <;> (try (first | omega | exact hz))
theorem q_bits {G : Nat → Nat} {d r : Nat} {h : mH} {C : mQ} {X : mX} {Es : Nat → List aE} {L : List Int} {T : aT} {here : Nat} {O : List Int} {cp bad b : Int} (hd : 6 ≤ d) (H : RS r h Es L T here O cp bad) (hw : wf T here)
    (hC1 : (0 ≤ b ∧ b ≤ 7) → ∀ h', RS r h' Es L (biT T here L b) here O cp bad → hvi h' r 0 = 0 → C (some (.inl (biR T here L))) h')
    (hC2 : ¬ (0 ≤ b ∧ b ≤ 7) → ∀ h', RS r h' Es L T here O cp bad → hvi h' r 0 = 1 → C (some (.inl 0)) h') :
    callG (wp G) d 117 0 0 4 [.inr (.inl (some r)), .inl b] h C X := by
  have R0 := H.1.1
  refine cg 5 (by omega) (fun d hd => ?_)
  have hd0 : (0 < d) = True := eq_true (by omega)
  by_cases hb : 0 ≤ b ∧ b ≤ 7
  · have hC := hC1 hb
    have q0 : chJ (sR r [100]) h (hsetI h r 0 0) := chJ_set (by simp [sR])
    have H0 := RS_ch q0 (by simp) H
    have R00 : hty (hsetI h r 0 0) r = some (11, 54) := R0
    (repeat' (first | with_reducible assumption | (refine r_refused H.1 ?_) | (refine And.intro ?_ ?_) | (with_reducible intro _) | (simp [wp_eq, wpE, mk_X11_bits, mg, mc_X11_bits, lget, lset, popN, cats, rcv, entL, isArr, kC_s, kC_n, st1, st2, st3, st4, st5, st6, st7, st8, st9, st10, st11, st12, st13, st14, st15, st16, st17, st18, st19, st20, st21, st22, st23, st24, st25, st26, st27, st28, st29, st30, st31, st32, st33, st34, st35, st36, st37, st38, st39, st40, st41, st42, st43, st44, st45, st46, st47, st48, st49, st50, st51, st52, st53, st54, st55, st56, st57, st58, st59, st60, st61, st62, st63, st64, st65, st66, st67, st68, st69, st70, st71, st72, st73, st74, st75, st76, st77, st78, st79, st80, st81, st82, st83, st84, st85, st86, st87, st88, st89, st90, st91, R0, R00, hd0]))) <;> (try (first | omega | exact hz))
    refine r_cut H0.1 H0.2.2.1.1 H0.2.1 (fun h1 z1 z2 z3 z4 => ?_)
    have H1 := RS_ch z4 (by simp) H0
    have R1 := H1.1.1
    simp [wp_eq, wpE, mk_X11_bits, mg, mc_X11_bits, lget, lset, popN, cats, rcv, entL, isArr, kC_s, kC_n, st1, st2, st3, st4, st5, st6, st7, st8, st9, st10, st11, st12, st13, st14, st15, st16, st17, st18, st19, st20, st21, st22, st23, st24, st25, st26, st27, st28, st29, st30, st31, st32, st33, st34, st35, st36, st37, st38, st39, st40, st41, st42, st43, st44, st45, st46, st47, st48, st49, st50, st51, st52, st53, st54, st55, st56, st57, st58, st59, st60, st61, st62, st63, st64, st65, st66, st67, st68, st69, st70, st71, st72, st73, st74, st75, st76, st77, st78, st79, st80, st81, st82, st83, st84, st85, st86, st87, st88, st89, st90, st91, R1, hd0]
    refine r_wwR (k := 0) (fol := true) (by omega) H1 z3 hw (fun h2 p1 H2 _ => ?_)
    have HR2 := H2.1
    have hr2 : hvi h2 r 0 = 0 := by rw [chJ_fld p1 (by simp) (by simp), chJ_fld z4 (by simp) (by simp)]; simp [hty_I, hvi_I, hvr_I, hvl_I, hsz_I, hty_R, hvi_R, hvr_R, hvl_R, hsz_R, hty_L, hvi_L, hvr_L, hvl_L, hsz_L, hty_P, hvi_P, hvr_P, hvl_P, hsz_P, hty_C, hvi_C, hvr_C, hvl_C, hsz_C]
    have R0 := HR2.1; have R_kinds := rn_kinds HR2; have R_bitsOf := rn_bitsOf HR2
    obtain ⟨g1, g2, g3⟩ := H2.2.2.2.1
    rcases nwR_res (L := L) (k := 0) (fol := true) hw with hn | ⟨n, hn, he⟩
    · rw [(biR_n (b := b) hn).1, (biR_n (b := b) hn).2] at hC
      have hz := hC h2 H2 hr2
      (repeat' (first | with_reducible assumption | (refine And.intro ?_ ?_) | (with_reducible intro _) | (simp [wp_eq, wpE, mk_X11_bits, mg, mc_X11_bits, lget, lset, popN, cats, rcv, entL, isArr, kC_s, kC_n, st1, st2, st3, st4, st5, st6, st7, st8, st9, st10, st11, st12, st13, st14, st15, st16, st17, st18, st19, st20, st21, st22, st23, st24, st25, st26, st27, st28, st29, st30, st31, st32, st33, st34, st35, st36, st37, st38, st39, st40, st41, st42, st43, st44, st45, st46, st47, st48, st49, st50, st51, st52, st53, st54, st55, st56, st57, st58, st59, st60, st61, st62, st63, st64, st65, st66, st67, st68, st69, st70, st71, st72, st73, st74, st75, st76, st77, st78, st79, st80, st81, st82, st83, st84, st85, st86, st87, st88, st89, st90, st91, R0, R_kinds, R_bitsOf, hn]))) <;> (try (first | omega | exact hz))
    · have hgp := biR_p he
      rw [he]
      have hn0 : ¬ (n : Int) < 0 := by omega
      have gk := g2 n hn
      obtain ⟨v, hT⟩ := nwR_live hw he
      by_cases hk : tK T n = 0
      · have hkv : nK v = 0 := by rw [tK_some hT] at hk; exact hk
        obtain ⟨f5, -⟩ := (g3 n v hn hT).2.2.2.1 hkv
        rw [if_neg (fun q => q hk), tB_some hT] at hgp
        rw [hgp, biT_s he hT, if_pos hkv] at hC
        have q3 : chJ (sR r [5]) h2 (hsetI h2 (r + 5) n b) := chJ_set (by simp [sR])
        have H3 : RS r (hsetI h2 (r + 5) n b) Es L (ud T n (some (vB v b))) here O cp bad := by
          obtain ⟨h1, h2', h3, h4, h5, h6, h7, h8⟩ := H2
          refine ⟨RN_ch q3 h1, RP_ch q3 (by simp) (by simp) (by simp) h2', h3, ⟨by simp [hty_I, hvi_I, hvr_I, hvl_I, hsz_I, hty_R, hvi_R, hvr_R, hvl_R, hsz_R, hty_L, hvi_L, hvr_L, hvl_L, hsz_L, hty_P, hvi_P, hvr_P, hvl_P, hsz_P, hty_C, hvi_C, hvr_C, hvl_C, hsz_C]; exact h4.1, fun m hm => ?_, fun m w hm hTm => ?_⟩, fun j => by rw [chJ_row q3 (by omega) (by simp)]; exact h5 j, RO_ch q3 (by simp) h6, by rw [chJ_fld q3 (by simp) (by simp)]; exact h7, by rw [chJ_fld q3 (by simp) (by simp)]; exact h8⟩
          · rw [chJ_row q3 (by omega) (by simp), h4.2.1 m hm]
            by_cases hmn : m = n
            · rw [hmn, tK_some hT, tK_some ud_s]; rfl
            · simp only [tK]; rw [ud_n hmn]
          · have key : ∀ w', T m = some w' → nZ w' = nZ w → nD w' = nD w → nT w' = nT w → nK w' = nK w → nA w' = nA w → nE w' = nE w → nX w' = nX w → (nK w = 0 → hvi (hsetI h2 (r + 5) n b) (r + 5) m = nB w) → hvi (hsetI h2 (r + 5) n b) (r + 2) m = nZ w ∧ hvi (hsetI h2 (r + 5) n b) (r + 3) m = nD w ∧ hvi (hsetI h2 (r + 5) n b) (r + 4) m = nT w ∧ (nK w = 0 → hvi (hsetI h2 (r + 5) n b) (r + 5) m = nB w ∧ hvi (hsetI h2 (r + 5) n b) (r + 6) m = (nA w : Int) ∧ RE r (hsetI h2 (r + 5) n b) m (Es m) ∧ (Es m).Perm (nE w)) ∧ (nK w = 2 → hvi (hsetI h2 (r + 5) n b) (r + 7) m = ((nX w).length : Int) ∧ ro (hsetI h2 (r + 5) n b) (r + 8) (40 * m) (nX w) ∧ bd (nX w) ∧ (nX w).length ≤ 40) := by
              intro w' hw' k1 k2 k3 k4 k5 k6 k7 k8
              obtain ⟨f1, f2, f3, f4, f5⟩ := h4.2.2 m w' hm hw'
              rw [k1] at f1; rw [k2] at f2; rw [k3] at f3; rw [k4, k5, k6] at f4; rw [k4, k7] at f5
              refine ⟨by rw [chJ_row q3 (by omega) (by simp)]; exact f1, by rw [chJ_row q3 (by omega) (by simp)]; exact f2, by rw [chJ_row q3 (by omega) (by simp)]; exact f3, fun hk => ?_, fun hk => ?_⟩
              · obtain ⟨e1, e2, e3, e4⟩ := f4 hk
                exact ⟨k8 hk, by rw [chJ_row q3 (by omega) (by simp)]; exact e2, RE_ch q3 (by simp) e3, e4⟩
              · obtain ⟨e1, e2, e3⟩ := f5 hk
                exact ⟨by rw [chJ_row q3 (by omega) (by simp)]; exact e1, fun i hi => by rw [chJ_row q3 (by omega) (by simp)]; exact e2 i hi, e3⟩
            by_cases hmn : m = n
            · subst hmn
              rw [ud_s] at hTm; cases hTm
              exact key v hT rfl rfl rfl rfl rfl rfl rfl (fun _ => by simp [hty_I, hvi_I, hvr_I, hvl_I, hsz_I, hty_R, hvi_R, hvr_R, hvl_R, hsz_R, hty_L, hvi_L, hvr_L, hvl_L, hsz_L, hty_P, hvi_P, hvr_P, hvl_P, hsz_P, hty_C, hvi_C, hvr_C, hvl_C, hsz_C]; rfl)
            · rw [ud_n hmn] at hTm
              refine key w hTm rfl rfl rfl rfl rfl rfl rfl (fun hk => ?_)
              simp [hty_I, hvi_I, hvr_I, hvl_I, hsz_I, hty_R, hvi_R, hvr_R, hvl_R, hsz_R, hty_L, hvi_L, hvr_L, hvl_L, hsz_L, hty_P, hvi_P, hvr_P, hvl_P, hsz_P, hty_C, hvi_C, hvr_C, hvl_C, hsz_C, hmn]; exact ((h4.2.2 m w hm hTm).2.2.2.1 hk).1
        have hz := hC _ H3 (by simp [hty_I, hvi_I, hvr_I, hvl_I, hsz_I, hty_R, hvi_R, hvr_R, hvl_R, hsz_R, hty_L, hvi_L, hvr_L, hvl_L, hsz_L, hty_P, hvi_P, hvr_P, hvl_P, hsz_P, hty_C, hvi_C, hvr_C, hvl_C, hsz_C, hr2])
        (repeat' (first | with_reducible assumption | (refine And.intro ?_ ?_) | (with_reducible intro _) | (simp [wp_eq, wpE, mk_X11_bits, mg, mc_X11_bits, lget, lset, popN, cats, rcv, entL, isArr, kC_s, kC_n, st1, st2, st3, st4, st5, st6, st7, st8, st9, st10, st11, st12, st13, st14, st15, st16, st17, st18, st19, st20, st21, st22, st23, st24, st25, st26, st27, st28, st29, st30, st31, st32, st33, st34, st35, st36, st37, st38, st39, st40, st41, st42, st43, st44, st45, st46, st47, st48, st49, st50, st51, st52, st53, st54, st55, st56, st57, st58, st59, st60, st61, st62, st63, st64, st65, st66, st67, st68, st69, st70, st71, st72, st73, st74, st75, st76, st77, st78, st79, st80, st81, st82, st83, st84, st85, st86, st87, st88, st89, st90, st91, R0, R_kinds, R_bitsOf, hn0, gk, hk, f5, hty_I, hvi_I, hvr_I, hvl_I, hsz_I, hty_R, hvi_R, hvr_R, hvl_R, hsz_R, hty_L, hvi_L, hvr_L, hvl_L, hsz_L, hty_P, hvi_P, hvr_P, hvl_P, hsz_P, hty_C, hvi_C, hvr_C, hvl_C, hsz_C]))) <;> (try (first | omega | exact hz))
      · have hkv : ¬ nK v = 0 := by rw [tK_some hT] at hk; exact hk
        rw [if_pos hk] at hgp
        rw [hgp, biT_s he hT, if_neg hkv] at hC
        have hz := hC h2 H2 hr2
        (repeat' (first | with_reducible assumption | (refine And.intro ?_ ?_) | (with_reducible intro _) | (simp [wp_eq, wpE, mk_X11_bits, mg, mc_X11_bits, lget, lset, popN, cats, rcv, entL, isArr, kC_s, kC_n, st1, st2, st3, st4, st5, st6, st7, st8, st9, st10, st11, st12, st13, st14, st15, st16, st17, st18, st19, st20, st21, st22, st23, st24, st25, st26, st27, st28, st29, st30, st31, st32, st33, st34, st35, st36, st37, st38, st39, st40, st41, st42, st43, st44, st45, st46, st47, st48, st49, st50, st51, st52, st53, st54, st55, st56, st57, st58, st59, st60, st61, st62, st63, st64, st65, st66, st67, st68, st69, st70, st71, st72, st73, st74, st75, st76, st77, st78, st79, st80, st81, st82, st83, st84, st85, st86, st87, st88, st89, st90, st91, R0, R_kinds, R_bitsOf, hn0, gk, hk]))) <;> (try (first | omega | exact hz))
  · have q0 : chJ (sR r [100]) h (hsetI h r 0 1) := chJ_set (by simp [sR])
    have hz := hC2 hb _ (RS_ch q0 (by simp) H) (by simp [hty_I, hvi_I, hvr_I, hvl_I, hsz_I, hty_R, hvi_R, hvr_R, hvl_R, hsz_R, hty_L, hvi_L, hvr_L, hvl_L, hsz_L, hty_P, hvi_P, hvr_P, hvl_P, hsz_P, hty_C, hvi_C, hvr_C, hvl_C, hsz_C])
    (repeat' (first | with_reducible assumption | (refine r_refused H.1 ?_) | (refine And.intro ?_ ?_) | (with_reducible intro _) | (simp [wp_eq, wpE, mk_X11_bits, mg, mc_X11_bits, lget, lset, popN, cats, rcv, entL, isArr, kC_s, kC_n, st1, st2, st3, st4, st5, st6, st7, st8, st9, st10, st11, st12, st13, st14, st15, st16, st17, st18, st19, st20, st21, st22, st23, st24, st25, st26, st27, st28, st29, st30, st31, st32, st33, st34, st35, st36, st37, st38, st39, st40, st41, st42, st43, st44, st45, st46, st47, st48, st49, st50, st51, st52, st53, st54, st55, st56, st57, st58, st59, st60, st61, st62, st63, st64, st65, st66, st67, st68, st69, st70, st71, st72, st73, st74, st75, st76, st77, st78, st79, st80, st81, st82, st83, st84, st85, st86, st87, st88, st89, st90, st91, R0, hd0]))) <;> (try (first | omega | exact hz))
theorem q_place {G : Nat → Nat} {d r : Nat} {h : mH} {C : mQ} {X : mX} {Es : Nat → List aE} {L : List Int} {T : aT} {here : Nat} {O : List Int} {cp bad : Int} (H : RS r h Es L T here O cp bad) (hC : ∀ h', RS r h' Es L T here O cp bad → C (some (.inl bad)) h') : callG (wp G) d 144 0 0 1 [.inr (.inl (some r))] h C X := by
  have R0 := H.1.1
  have x2 := H.2.2.2.2.2.2.2
  have q0 : chJ (sR r [100]) h (hsetI h r 0 0) := chJ_set (by simp [sR])
  have hz := hC _ (RS_ch q0 (by simp) H)
  refine ⟨C, fun _ _ => False, ?_, fun _ _ q => q, fun _ _ q => q.elim⟩
  (repeat' (first | with_reducible assumption | (refine And.intro ?_ ?_) | (with_reducible intro _) | (simp [wp_eq, wpE, mk_X11_place, mg, mc_X11_place, lget, lset, popN, cats, rcv, entL, isArr, kC_s, kC_n, st1, st2, st3, st4, st5, st6, st7, st8, st9, st10, st11, st12, st13, st14, st15, st16, st17, st18, st19, st20, st21, st22, st23, st24, st25, st26, st27, st28, st29, st30, st31, st32, st33, st34, st35, st36, st37, st38, st39, st40, st41, st42, st43, st44, st45, st46, st47, st48, st49, st50, st51, st52, st53, st54, st55, st56, st57, st58, st59, st60, st61, st62, st63, st64, st65, st66, st67, st68, st69, st70, st71, st72, st73, st74, st75, st76, st77, st78, st79, st80, st81, st82, st83, st84, st85, st86, st87, st88, st89, st90, st91, R0, x2, hty_I, hvi_I, hvr_I, hvl_I, hsz_I, hty_R, hvi_R, hvr_R, hvl_R, hsz_R, hty_L, hvi_L, hvr_L, hvl_L, hsz_L, hty_P, hvi_P, hvr_P, hvl_P, hsz_P, hty_C, hvi_C, hvr_C, hvl_C, hsz_C]))) <;> (try (first | omega | exact hz))
theorem q_output {G : Nat → Nat} {d r : Nat} {h : mH} {C : mQ} {X : mX} {Es : Nat → List aE} {L : List Int} {T : aT} {here : Nat} {O : List Int} {cp bad z : Int} (H : RS r h Es L T here O cp bad) (hC : ∀ h', RS r h' Es L T here O cp bad → C (some (.inl (outR O z))) h') : callG (wp G) d 145 0 0 2 [.inr (.inl (some r)), .inl z] h C X := by
  have HR := H.1
  have R0 := HR.1; have R_out := rn_out HR
  obtain ⟨o1, o2, o3, o4⟩ := H.2.2.2.2.2.1
  have q0 : chJ (sR r [100]) h (hsetI h r 0 0) := chJ_set (by simp [sR])
  have hC := hC _ (RS_ch q0 (by simp) H)
  unfold outR at hC
  refine ⟨C, fun _ _ => False, ?_, fun _ _ q => q, fun _ _ q => q.elim⟩
  by_cases hz : 0 ≤ z ∧ z < (O.length : Int)
  · rw [if_pos hz] at hC
    have hc : hvi h (r + 16) z.toNat = lf O z.toNat := by have := o3 z.toNat (by omega); simpa using this
    have hb := lf_b o4 z.toNat
    (repeat' (first | with_reducible assumption | (refine And.intro ?_ ?_) | (with_reducible intro _) | (simp [wp_eq, wpE, mk_X11_output, mg, mc_X11_output, lget, lset, popN, cats, rcv, entL, isArr, kC_s, kC_n, st1, st2, st3, st4, st5, st6, st7, st8, st9, st10, st11, st12, st13, st14, st15, st16, st17, st18, st19, st20, st21, st22, st23, st24, st25, st26, st27, st28, st29, st30, st31, st32, st33, st34, st35, st36, st37, st38, st39, st40, st41, st42, st43, st44, st45, st46, st47, st48, st49, st50, st51, st52, st53, st54, st55, st56, st57, st58, st59, st60, st61, st62, st63, st64, st65, st66, st67, st68, st69, st70, st71, st72, st73, st74, st75, st76, st77, st78, st79, st80, st81, st82, st83, st84, st85, st86, st87, st88, st89, st90, st91, R0, R_out, o1, hc, hty_I, hvi_I, hvr_I, hvl_I, hsz_I, hty_R, hvi_R, hvr_R, hvl_R, hsz_R, hty_L, hvi_L, hvr_L, hvl_L, hsz_L, hty_P, hvi_P, hvr_P, hvl_P, hsz_P, hty_C, hvi_C, hvr_C, hvl_C, hsz_C]))) <;> (try (first | omega | exact hz))
  · rw [if_neg hz] at hC
    (repeat' (first | with_reducible assumption | (refine And.intro ?_ ?_) | (with_reducible intro _) | (simp [wp_eq, wpE, mk_X11_output, mg, mc_X11_output, lget, lset, popN, cats, rcv, entL, isArr, kC_s, kC_n, st1, st2, st3, st4, st5, st6, st7, st8, st9, st10, st11, st12, st13, st14, st15, st16, st17, st18, st19, st20, st21, st22, st23, st24, st25, st26, st27, st28, st29, st30, st31, st32, st33, st34, st35, st36, st37, st38, st39, st40, st41, st42, st43, st44, st45, st46, st47, st48, st49, st50, st51, st52, st53, st54, st55, st56, st57, st58, st59, st60, st61, st62, st63, st64, st65, st66, st67, st68, st69, st70, st71, st72, st73, st74, st75, st76, st77, st78, st79, st80, st81, st82, st83, st84, st85, st86, st87, st88, st89, st90, st91, R0, R_out, o1, hty_I, hvi_I, hvr_I, hvl_I, hsz_I, hty_R, hvi_R, hvr_R, hvl_R, hsz_R, hty_L, hvi_L, hvr_L, hvl_L, hsz_L, hty_P, hvi_P, hvr_P, hvl_P, hsz_P, hty_C, hvi_C, hvr_C, hvl_C, hsz_C]))) <;> (try (first | omega | exact hz))
theorem count_loop {G : Nat → Nat} {d r : Nat} {h : mH} {C : mQ} {X : mX} {T : aT} {x1 : Option mV} (HR : RN r h) (g2 : ∀ n, n < 48 → hvi h (r + 1) n = tK T n) (hp : ∀ n v, n < 48 → T n = some v → 0 ≤ nK v) (hC : ∀ x3, wp G d 147 38 [some (.inr (.inl (some r))), x1, some (.inl (cnt T 48 : Int)), x3] [] h 0 0 C X) :
    ∀ m i, m + i = 48 → wp G d 147 100009 [some (.inr (.inl (some r))), x1, some (.inl (cnt T i : Int)), some (.inl (i : Int))] [] h 0 0 C X := by
  have R0 := HR.1; have R_kinds := rn_kinds HR
  intro m
  induction m with
  | zero =>
    intro i hi
    have : i = 48 := by omega
    subst this
    rw [wp_hd]
    have hz := hC (some (.inl ((48 : Nat) : Int)))
    (repeat' (first | with_reducible assumption | (refine And.intro ?_ ?_) | (with_reducible intro _) | (simp [wp_ne 38, wpE, mk_X11_count, mg, mc_X11_count, lget, lset, popN, cats, rcv, entL, isArr, kC_s, kC_n, st1, st2, st3, st4, st5, st6, st7, st8, st9, st10, st11, st12, st13, st14, st15, st16, st17, st18, st19, st20, st21, st22, st23, st24, st25, st26, st27, st28, st29, st30, st31, st32, st33, st34, st35, st36, st37, st38, st39, st40, st41, st42, st43, st44, st45, st46, st47, st48, st49, st50, st51, st52, st53, st54, st55, st56, st57, st58, st59, st60, st61, st62, st63, st64, st65, st66, st67, st68, st69, st70, st71, st72, st73, st74, st75, st76, st77, st78, st79, st80, st81, st82, st83, st84, st85, st86, st87, st88, st89, st90, st91, R0, R_kinds]))) <;> (try (first | omega | exact hz))
  | succ m ih =>
    intro i hi
    have gk := g2 i (by omega)
    have hz := ih (i + 1) (by omega)
    have hcl := cnt_le T i
    simp only [cnt] at hz
    rw [wp_hd]
    have hi48 : i < 48 := by omega
    cases hT : T i with
    | none =>
      have hk : tK T i = -1 := by simp [tK, hT]
      rw [hT] at hz
      simp at hz
      (repeat' (first | with_reducible assumption | (refine And.intro ?_ ?_) | (with_reducible intro _) | (simp [wp_ne 38, wpE, mk_X11_count, mg, mc_X11_count, lget, lset, popN, cats, rcv, entL, isArr, kC_s, kC_n, st1, st2, st3, st4, st5, st6, st7, st8, st9, st10, st11, st12, st13, st14, st15, st16, st17, st18, st19, st20, st21, st22, st23, st24, st25, st26, st27, st28, st29, st30, st31, st32, st33, st34, st35, st36, st37, st38, st39, st40, st41, st42, st43, st44, st45, st46, st47, st48, st49, st50, st51, st52, st53, st54, st55, st56, st57, st58, st59, st60, st61, st62, st63, st64, st65, st66, st67, st68, st69, st70, st71, st72, st73, st74, st75, st76, st77, st78, st79, st80, st81, st82, st83, st84, st85, st86, st87, st88, st89, st90, st91, R0, R_kinds, gk, hk, hi48, inR]))) <;> (try (first | omega | exact hz))
    | some v =>
      have hk : tK T i = nK v := by simp [tK, hT]
      have hk2 : ¬ nK v < 0 := by have := hp i v (by omega) hT; omega
      rw [hT] at hz
      simp at hz
      (repeat' (first | with_reducible assumption | (refine And.intro ?_ ?_) | (with_reducible intro _) | (simp [wp_ne 38, wpE, mk_X11_count, mg, mc_X11_count, lget, lset, popN, cats, rcv, entL, isArr, kC_s, kC_n, st1, st2, st3, st4, st5, st6, st7, st8, st9, st10, st11, st12, st13, st14, st15, st16, st17, st18, st19, st20, st21, st22, st23, st24, st25, st26, st27, st28, st29, st30, st31, st32, st33, st34, st35, st36, st37, st38, st39, st40, st41, st42, st43, st44, st45, st46, st47, st48, st49, st50, st51, st52, st53, st54, st55, st56, st57, st58, st59, st60, st61, st62, st63, st64, st65, st66, st67, st68, st69, st70, st71, st72, st73, st74, st75, st76, st77, st78, st79, st80, st81, st82, st83, st84, st85, st86, st87, st88, st89, st90, st91, R0, R_kinds, gk, hk, hk2, hi48, inR]))) <;> (try (first | omega | exact hz))
theorem q_count {G : Nat → Nat} {d r : Nat} {h : mH} {C : mQ} {X : mX} {Es : Nat → List aE} {L : List Int} {T : aT} {here : Nat} {O : List Int} {cp bad w : Int} (H : RS r h Es L T here O cp bad) (hw : wf T here) (hC : ∀ h', RS r h' Es L T here O cp bad → C (some (.inl (couR T O cp w))) h') :
    callG (wp G) d 147 0 0 4 [.inr (.inl (some r)), .inl w] h C X := by
  have q0 : chJ (sR r [100]) h (hsetI h r 0 0) := chJ_set (by simp [sR])
  have H0 := RS_ch q0 (by simp) H
  have hC := hC _ H0
  have R0 := H.1.1
  have R00 := H0.1.1
  have g2 := H0.2.2.2.1.2.1
  have o1 := H0.2.2.2.2.2.1.1
  have c1 := H0.2.2.2.2.2.2.1
  have hpos : ∀ n v, n < 48 → T n = some v → 0 ≤ nK v := fun n v _ hT => by have := (hw.2.2.2.1 n v hT).1; omega
  unfold couR at hC
  refine ⟨C, fun _ _ => False, ?_, fun _ _ q => q, fun _ _ q => q.elim⟩
  simp [wp_eq, wpE, mk_X11_count, mg, mc_X11_count, lget, lset, popN, cats, rcv, entL, isArr, kC_s, kC_n, st1, st2, st3, st4, st5, st6, st7, st8, st9, st10, st11, st12, st13, st14, st15, st16, st17, st18, st19, st20, st21, st22, st23, st24, st25, st26, st27, st28, st29, st30, st31, st32, st33, st34, st35, st36, st37, st38, st39, st40, st41, st42, st43, st44, st45, st46, st47, st48, st49, st50, st51, st52, st53, st54, st55, st56, st57, st58, st59, st60, st61, st62, st63, st64, st65, st66, st67, st68, st69, st70, st71, st72, st73, st74, st75, st76, st77, st78, st79, st80, st81, st82, st83, st84, st85, st86, st87, st88, st89, st90, st91, R0]
  generalize hsetI h r 0 0 = h1 at *
  refine count_loop H0.1 g2 hpos (fun x3 => ?_) 48 0 (by omega)
  by_cases w0 : w = 0
  · rw [if_pos w0] at hC
    (repeat' (first | with_reducible assumption | (refine And.intro ?_ ?_) | (with_reducible intro _) | (simp [wp_eq, wpE, mk_X11_count, mg, mc_X11_count, lget, lset, popN, cats, rcv, entL, isArr, kC_s, kC_n, st1, st2, st3, st4, st5, st6, st7, st8, st9, st10, st11, st12, st13, st14, st15, st16, st17, st18, st19, st20, st21, st22, st23, st24, st25, st26, st27, st28, st29, st30, st31, st32, st33, st34, st35, st36, st37, st38, st39, st40, st41, st42, st43, st44, st45, st46, st47, st48, st49, st50, st51, st52, st53, st54, st55, st56, st57, st58, st59, st60, st61, st62, st63, st64, st65, st66, st67, st68, st69, st70, st71, st72, st73, st74, st75, st76, st77, st78, st79, st80, st81, st82, st83, st84, st85, st86, st87, st88, st89, st90, st91, w0]))) <;> (try (first | omega | exact hz))
  rw [if_neg w0] at hC
  by_cases w1 : w = 1
  · rw [if_pos w1] at hC
    (repeat' (first | with_reducible assumption | (refine And.intro ?_ ?_) | (with_reducible intro _) | (simp [wp_eq, wpE, mk_X11_count, mg, mc_X11_count, lget, lset, popN, cats, rcv, entL, isArr, kC_s, kC_n, st1, st2, st3, st4, st5, st6, st7, st8, st9, st10, st11, st12, st13, st14, st15, st16, st17, st18, st19, st20, st21, st22, st23, st24, st25, st26, st27, st28, st29, st30, st31, st32, st33, st34, st35, st36, st37, st38, st39, st40, st41, st42, st43, st44, st45, st46, st47, st48, st49, st50, st51, st52, st53, st54, st55, st56, st57, st58, st59, st60, st61, st62, st63, st64, st65, st66, st67, st68, st69, st70, st71, st72, st73, st74, st75, st76, st77, st78, st79, st80, st81, st82, st83, st84, st85, st86, st87, st88, st89, st90, st91, R00, c1, w1]))) <;> (try (first | omega | exact hz))
  rw [if_neg w1] at hC
  by_cases w2 : w = 2
  · rw [if_pos w2] at hC
    (repeat' (first | with_reducible assumption | (refine And.intro ?_ ?_) | (with_reducible intro _) | (simp [wp_eq, wpE, mk_X11_count, mg, mc_X11_count, lget, lset, popN, cats, rcv, entL, isArr, kC_s, kC_n, st1, st2, st3, st4, st5, st6, st7, st8, st9, st10, st11, st12, st13, st14, st15, st16, st17, st18, st19, st20, st21, st22, st23, st24, st25, st26, st27, st28, st29, st30, st31, st32, st33, st34, st35, st36, st37, st38, st39, st40, st41, st42, st43, st44, st45, st46, st47, st48, st49, st50, st51, st52, st53, st54, st55, st56, st57, st58, st59, st60, st61, st62, st63, st64, st65, st66, st67, st68, st69, st70, st71, st72, st73, st74, st75, st76, st77, st78, st79, st80, st81, st82, st83, st84, st85, st86, st87, st88, st89, st90, st91, R00, o1, w2]))) <;> (try (first | omega | exact hz))
  rw [if_neg w2] at hC
  (repeat' (first | with_reducible assumption | (refine And.intro ?_ ?_) | (with_reducible intro _) | (simp [wp_eq, wpE, mk_X11_count, mg, mc_X11_count, lget, lset, popN, cats, rcv, entL, isArr, kC_s, kC_n, st1, st2, st3, st4, st5, st6, st7, st8, st9, st10, st11, st12, st13, st14, st15, st16, st17, st18, st19, st20, st21, st22, st23, st24, st25, st26, st27, st28, st29, st30, st31, st32, st33, st34, st35, st36, st37, st38, st39, st40, st41, st42, st43, st44, st45, st46, st47, st48, st49, st50, st51, st52, st53, st54, st55, st56, st57, st58, st59, st60, st61, st62, st63, st64, st65, st66, st67, st68, st69, st70, st71, st72, st73, st74, st75, st76, st77, st78, st79, st80, st81, st82, st83, st84, st85, st86, st87, st88, st89, st90, st91, w0, w1, w2]))) <;> (try (first | omega | exact hz))
theorem q_tell {G : Nat → Nat} {d r : Nat} {h : mH} {C : mQ} {X : mX} {Es : Nat → List aE} {L : List Int} {T : aT} {here : Nat} {O : List Int} {cp bad z w : Int} (hd : 2 ≤ d) (H : RS r h Es L T here O cp bad) (hw : wf T here)
    (hC1 : ∀ v, tlN T z = some v → ∀ h', RS r h' Es L T here O cp bad → hvi h' r 0 = 0 → C (some (.inl (telR v w))) h')
    (hC2 : tlN T z = none → ∀ h', RS r h' Es L T here O cp bad → hvi h' r 0 = 1 → C (some (.inl 0)) h') :
    callG (wp G) d 146 0 0 3 [.inr (.inl (some r)), .inl z, .inl w] h C X := by
  have HR := H.1
  have R0 := HR.1; have R_kinds := rn_kinds HR; have R_sizes := rn_sizes HR; have R_days := rn_days HR; have R_ties := rn_ties HR; have R_bitsOf := rn_bitsOf HR; have R_textSizes := rn_textSizes HR; have R_many := rn_many HR
  obtain ⟨g1, g2, g3⟩ := H.2.2.2.1
  refine cg 1 (by omega) (fun d hd => ?_)
  have hd0 : (0 < d) = True := eq_true (by omega)
  cases hv : tlN T z with
  | none =>
    have q0 : chJ (sR r [100]) h (hsetI h r 0 1) := chJ_set (by simp [sR])
    have hz := hC2 hv _ (RS_ch q0 (by simp) H) (by simp [hty_I, hvi_I, hvr_I, hvl_I, hsz_I, hty_R, hvi_R, hvr_R, hvl_R, hsz_R, hty_L, hvi_L, hvr_L, hvl_L, hsz_L, hty_P, hvi_P, hvr_P, hvl_P, hsz_P, hty_C, hvi_C, hvr_C, hvl_C, hsz_C])
    by_cases hz0 : 0 ≤ z ∧ z < 48
    · have hT : T z.toNat = none := by unfold tlN at hv; rw [if_pos hz0] at hv; exact hv
      have gk := g2 z.toNat (by omega)
      have hk : tK T z.toNat = -1 := by simp [tK, hT]
      (repeat' (first | with_reducible assumption | (refine r_refused H.1 ?_) | (refine And.intro ?_ ?_) | (with_reducible intro _) | (simp [wp_eq, wpE, mk_X11_tell, mg, mc_X11_tell, lget, lset, popN, cats, rcv, entL, isArr, kC_s, kC_n, st1, st2, st3, st4, st5, st6, st7, st8, st9, st10, st11, st12, st13, st14, st15, st16, st17, st18, st19, st20, st21, st22, st23, st24, st25, st26, st27, st28, st29, st30, st31, st32, st33, st34, st35, st36, st37, st38, st39, st40, st41, st42, st43, st44, st45, st46, st47, st48, st49, st50, st51, st52, st53, st54, st55, st56, st57, st58, st59, st60, st61, st62, st63, st64, st65, st66, st67, st68, st69, st70, st71, st72, st73, st74, st75, st76, st77, st78, st79, st80, st81, st82, st83, st84, st85, st86, st87, st88, st89, st90, st91, R0, R_kinds, R_sizes, R_days, R_ties, R_bitsOf, R_textSizes, R_many, hd0, gk, hk]))) <;> (try (first | omega | exact hz))
    · (repeat' (first | with_reducible assumption | (refine r_refused H.1 ?_) | (refine And.intro ?_ ?_) | (with_reducible intro _) | (simp [wp_eq, wpE, mk_X11_tell, mg, mc_X11_tell, lget, lset, popN, cats, rcv, entL, isArr, kC_s, kC_n, st1, st2, st3, st4, st5, st6, st7, st8, st9, st10, st11, st12, st13, st14, st15, st16, st17, st18, st19, st20, st21, st22, st23, st24, st25, st26, st27, st28, st29, st30, st31, st32, st33, st34, st35, st36, st37, st38, st39, st40, st41, st42, st43, st44, st45, st46, st47, st48, st49, st50, st51, st52, st53, st54, st55, st56, st57, st58, st59, st60, st61, st62, st63, st64, st65, st66, st67, st68, st69, st70, st71, st72, st73, st74, st75, st76, st77, st78, st79, st80, st81, st82, st83, st84, st85, st86, st87, st88, st89, st90, st91, R0, R_kinds, R_sizes, R_days, R_ties, R_bitsOf, R_textSizes, R_many, hd0]))) <;> (try (first | omega | exact hz))
  | some v =>
    have hT : T z.toNat = some v ∧ 0 ≤ z ∧ z < 48 := by
      unfold tlN at hv
      by_cases hz : 0 ≤ z ∧ z < 48
      · rw [if_pos hz] at hv; exact ⟨hv, hz⟩
      · rw [if_neg hz] at hv; cases hv
    obtain ⟨hT, hz1, hz2⟩ := hT
    obtain ⟨n, rfl⟩ : ∃ n : Nat, z = (n : Int) := ⟨z.toNat, by omega⟩
    rw [Int.toNat_natCast] at hT
    have hn : n < 48 := by omega
    have gk := g2 n hn
    rw [tK_some hT] at gk
    have hN := hw.2.2.2.1 n v hT
    have hk0 : ¬ nK v < 0 := by have := hN.1; omega
    obtain ⟨f1, f2, f3, f4, f5⟩ := g3 n v hn hT
    have q0 : chJ (sR r [100]) h (hsetI h r 0 0) := chJ_set (by simp [sR])
    have hC := hC1 v hv _ (RS_ch q0 (by simp) H) (by simp [hty_I, hvi_I, hvr_I, hvl_I, hsz_I, hty_R, hvi_R, hvr_R, hvl_R, hsz_R, hty_L, hvi_L, hvr_L, hvl_L, hsz_L, hty_P, hvi_P, hvr_P, hvl_P, hsz_P, hty_C, hvi_C, hvr_C, hvl_C, hsz_C])
    unfold telR at hC
    by_cases w0 : w = 0
    · rw [if_pos w0] at hC
      (repeat' (first | with_reducible assumption | (refine r_refused H.1 ?_) | (refine And.intro ?_ ?_) | (with_reducible intro _) | (simp [wp_eq, wpE, mk_X11_tell, mg, mc_X11_tell, lget, lset, popN, cats, rcv, entL, isArr, kC_s, kC_n, st1, st2, st3, st4, st5, st6, st7, st8, st9, st10, st11, st12, st13, st14, st15, st16, st17, st18, st19, st20, st21, st22, st23, st24, st25, st26, st27, st28, st29, st30, st31, st32, st33, st34, st35, st36, st37, st38, st39, st40, st41, st42, st43, st44, st45, st46, st47, st48, st49, st50, st51, st52, st53, st54, st55, st56, st57, st58, st59, st60, st61, st62, st63, st64, st65, st66, st67, st68, st69, st70, st71, st72, st73, st74, st75, st76, st77, st78, st79, st80, st81, st82, st83, st84, st85, st86, st87, st88, st89, st90, st91, R0, R_kinds, R_sizes, R_days, R_ties, R_bitsOf, R_textSizes, R_many, hd0, gk, hk0, w0, swl, hty_I, hvi_I, hvr_I, hvl_I, hsz_I, hty_R, hvi_R, hvr_R, hvl_R, hsz_R, hty_L, hvi_L, hvr_L, hvl_L, hsz_L, hty_P, hvi_P, hvr_P, hvl_P, hsz_P, hty_C, hvi_C, hvr_C, hvl_C, hsz_C]))) <;> (try (first | omega | exact hz))
    rw [if_neg w0] at hC
    by_cases w1 : w = 1
    · rw [if_pos w1] at hC
      (repeat' (first | with_reducible assumption | (refine r_refused H.1 ?_) | (refine And.intro ?_ ?_) | (with_reducible intro _) | (simp [wp_eq, wpE, mk_X11_tell, mg, mc_X11_tell, lget, lset, popN, cats, rcv, entL, isArr, kC_s, kC_n, st1, st2, st3, st4, st5, st6, st7, st8, st9, st10, st11, st12, st13, st14, st15, st16, st17, st18, st19, st20, st21, st22, st23, st24, st25, st26, st27, st28, st29, st30, st31, st32, st33, st34, st35, st36, st37, st38, st39, st40, st41, st42, st43, st44, st45, st46, st47, st48, st49, st50, st51, st52, st53, st54, st55, st56, st57, st58, st59, st60, st61, st62, st63, st64, st65, st66, st67, st68, st69, st70, st71, st72, st73, st74, st75, st76, st77, st78, st79, st80, st81, st82, st83, st84, st85, st86, st87, st88, st89, st90, st91, R0, R_kinds, R_sizes, R_days, R_ties, R_bitsOf, R_textSizes, R_many, hd0, gk, hk0, f1, w1, swl, hty_I, hvi_I, hvr_I, hvl_I, hsz_I, hty_R, hvi_R, hvr_R, hvl_R, hsz_R, hty_L, hvi_L, hvr_L, hvl_L, hsz_L, hty_P, hvi_P, hvr_P, hvl_P, hsz_P, hty_C, hvi_C, hvr_C, hvl_C, hsz_C]))) <;> (try (first | omega | exact hz))
    rw [if_neg w1] at hC
    by_cases w2 : w = 2
    · rw [if_pos w2] at hC
      (repeat' (first | with_reducible assumption | (refine r_refused H.1 ?_) | (refine And.intro ?_ ?_) | (with_reducible intro _) | (simp [wp_eq, wpE, mk_X11_tell, mg, mc_X11_tell, lget, lset, popN, cats, rcv, entL, isArr, kC_s, kC_n, st1, st2, st3, st4, st5, st6, st7, st8, st9, st10, st11, st12, st13, st14, st15, st16, st17, st18, st19, st20, st21, st22, st23, st24, st25, st26, st27, st28, st29, st30, st31, st32, st33, st34, st35, st36, st37, st38, st39, st40, st41, st42, st43, st44, st45, st46, st47, st48, st49, st50, st51, st52, st53, st54, st55, st56, st57, st58, st59, st60, st61, st62, st63, st64, st65, st66, st67, st68, st69, st70, st71, st72, st73, st74, st75, st76, st77, st78, st79, st80, st81, st82, st83, st84, st85, st86, st87, st88, st89, st90, st91, R0, R_kinds, R_sizes, R_days, R_ties, R_bitsOf, R_textSizes, R_many, hd0, gk, hk0, f2, w2, swl, hty_I, hvi_I, hvr_I, hvl_I, hsz_I, hty_R, hvi_R, hvr_R, hvl_R, hsz_R, hty_L, hvi_L, hvr_L, hvl_L, hsz_L, hty_P, hvi_P, hvr_P, hvl_P, hsz_P, hty_C, hvi_C, hvr_C, hvl_C, hsz_C]))) <;> (try (first | omega | exact hz))
    rw [if_neg w2] at hC
    by_cases w3 : w = 3
    · rw [if_pos w3] at hC
      (repeat' (first | with_reducible assumption | (refine r_refused H.1 ?_) | (refine And.intro ?_ ?_) | (with_reducible intro _) | (simp [wp_eq, wpE, mk_X11_tell, mg, mc_X11_tell, lget, lset, popN, cats, rcv, entL, isArr, kC_s, kC_n, st1, st2, st3, st4, st5, st6, st7, st8, st9, st10, st11, st12, st13, st14, st15, st16, st17, st18, st19, st20, st21, st22, st23, st24, st25, st26, st27, st28, st29, st30, st31, st32, st33, st34, st35, st36, st37, st38, st39, st40, st41, st42, st43, st44, st45, st46, st47, st48, st49, st50, st51, st52, st53, st54, st55, st56, st57, st58, st59, st60, st61, st62, st63, st64, st65, st66, st67, st68, st69, st70, st71, st72, st73, st74, st75, st76, st77, st78, st79, st80, st81, st82, st83, st84, st85, st86, st87, st88, st89, st90, st91, R0, R_kinds, R_sizes, R_days, R_ties, R_bitsOf, R_textSizes, R_many, hd0, gk, hk0, f3, w3, swl, hty_I, hvi_I, hvr_I, hvl_I, hsz_I, hty_R, hvi_R, hvr_R, hvl_R, hsz_R, hty_L, hvi_L, hvr_L, hvl_L, hsz_L, hty_P, hvi_P, hvr_P, hvl_P, hsz_P, hty_C, hvi_C, hvr_C, hvl_C, hsz_C]))) <;> (try (first | omega | exact hz))
    rw [if_neg w3] at hC
    by_cases w4 : w = 4
    · rw [if_pos w4] at hC
      by_cases hk2 : nK v = 2
      · rw [if_pos hk2] at hC
        have y1 := (f5 hk2).1
        (repeat' (first | with_reducible assumption | (refine r_refused H.1 ?_) | (refine And.intro ?_ ?_) | (with_reducible intro _) | (simp [wp_eq, wpE, mk_X11_tell, mg, mc_X11_tell, lget, lset, popN, cats, rcv, entL, isArr, kC_s, kC_n, st1, st2, st3, st4, st5, st6, st7, st8, st9, st10, st11, st12, st13, st14, st15, st16, st17, st18, st19, st20, st21, st22, st23, st24, st25, st26, st27, st28, st29, st30, st31, st32, st33, st34, st35, st36, st37, st38, st39, st40, st41, st42, st43, st44, st45, st46, st47, st48, st49, st50, st51, st52, st53, st54, st55, st56, st57, st58, st59, st60, st61, st62, st63, st64, st65, st66, st67, st68, st69, st70, st71, st72, st73, st74, st75, st76, st77, st78, st79, st80, st81, st82, st83, st84, st85, st86, st87, st88, st89, st90, st91, R0, R_kinds, R_sizes, R_days, R_ties, R_bitsOf, R_textSizes, R_many, hd0, gk, hk2, y1, w4, swl, hty_I, hvi_I, hvr_I, hvl_I, hsz_I, hty_R, hvi_R, hvr_R, hvl_R, hsz_R, hty_L, hvi_L, hvr_L, hvl_L, hsz_L, hty_P, hvi_P, hvr_P, hvl_P, hsz_P, hty_C, hvi_C, hvr_C, hvl_C, hsz_C]))) <;> (try (first | omega | exact hz))
      · rw [if_neg hk2] at hC
        by_cases hk00 : nK v = 0
        · have y1 := (f4 hk00).2.2.1.1
          have y2 := (f4 hk00).2.2.2.length_eq
          rw [← y2] at hC
          (repeat' (first | with_reducible assumption | (refine r_refused H.1 ?_) | (refine And.intro ?_ ?_) | (with_reducible intro _) | (simp [wp_eq, wpE, mk_X11_tell, mg, mc_X11_tell, lget, lset, popN, cats, rcv, entL, isArr, kC_s, kC_n, st1, st2, st3, st4, st5, st6, st7, st8, st9, st10, st11, st12, st13, st14, st15, st16, st17, st18, st19, st20, st21, st22, st23, st24, st25, st26, st27, st28, st29, st30, st31, st32, st33, st34, st35, st36, st37, st38, st39, st40, st41, st42, st43, st44, st45, st46, st47, st48, st49, st50, st51, st52, st53, st54, st55, st56, st57, st58, st59, st60, st61, st62, st63, st64, st65, st66, st67, st68, st69, st70, st71, st72, st73, st74, st75, st76, st77, st78, st79, st80, st81, st82, st83, st84, st85, st86, st87, st88, st89, st90, st91, R0, R_kinds, R_sizes, R_days, R_ties, R_bitsOf, R_textSizes, R_many, hd0, gk, hk00, y1, w4, swl, hty_I, hvi_I, hvr_I, hvl_I, hsz_I, hty_R, hvi_R, hvr_R, hvl_R, hsz_R, hty_L, hvi_L, hvr_L, hvl_L, hsz_L, hty_P, hvi_P, hvr_P, hvl_P, hsz_P, hty_C, hvi_C, hvr_C, hvl_C, hsz_C]))) <;> (try (first | omega | exact hz))
        · rw [(hN.2.1 hk00).1] at hC
          simp at hC
          (repeat' (first | with_reducible assumption | (refine r_refused H.1 ?_) | (refine And.intro ?_ ?_) | (with_reducible intro _) | (simp [wp_eq, wpE, mk_X11_tell, mg, mc_X11_tell, lget, lset, popN, cats, rcv, entL, isArr, kC_s, kC_n, st1, st2, st3, st4, st5, st6, st7, st8, st9, st10, st11, st12, st13, st14, st15, st16, st17, st18, st19, st20, st21, st22, st23, st24, st25, st26, st27, st28, st29, st30, st31, st32, st33, st34, st35, st36, st37, st38, st39, st40, st41, st42, st43, st44, st45, st46, st47, st48, st49, st50, st51, st52, st53, st54, st55, st56, st57, st58, st59, st60, st61, st62, st63, st64, st65, st66, st67, st68, st69, st70, st71, st72, st73, st74, st75, st76, st77, st78, st79, st80, st81, st82, st83, st84, st85, st86, st87, st88, st89, st90, st91, R0, R_kinds, R_sizes, R_days, R_ties, R_bitsOf, R_textSizes, R_many, hd0, gk, hk0, hk00, hk2, w4, swl, hty_I, hvi_I, hvr_I, hvl_I, hsz_I, hty_R, hvi_R, hvr_R, hvl_R, hsz_R, hty_L, hvi_L, hvr_L, hvl_L, hsz_L, hty_P, hvi_P, hvr_P, hvl_P, hsz_P, hty_C, hvi_C, hvr_C, hvl_C, hsz_C]))) <;> (try (first | omega | exact hz))
    rw [if_neg w4] at hC
    by_cases w5 : w = 5
    · rw [if_pos w5] at hC
      by_cases hk00 : nK v = 0
      · have y1 := (f4 hk00).1
        (repeat' (first | with_reducible assumption | (refine r_refused H.1 ?_) | (refine And.intro ?_ ?_) | (with_reducible intro _) | (simp [wp_eq, wpE, mk_X11_tell, mg, mc_X11_tell, lget, lset, popN, cats, rcv, entL, isArr, kC_s, kC_n, st1, st2, st3, st4, st5, st6, st7, st8, st9, st10, st11, st12, st13, st14, st15, st16, st17, st18, st19, st20, st21, st22, st23, st24, st25, st26, st27, st28, st29, st30, st31, st32, st33, st34, st35, st36, st37, st38, st39, st40, st41, st42, st43, st44, st45, st46, st47, st48, st49, st50, st51, st52, st53, st54, st55, st56, st57, st58, st59, st60, st61, st62, st63, st64, st65, st66, st67, st68, st69, st70, st71, st72, st73, st74, st75, st76, st77, st78, st79, st80, st81, st82, st83, st84, st85, st86, st87, st88, st89, st90, st91, R0, R_kinds, R_sizes, R_days, R_ties, R_bitsOf, R_textSizes, R_many, hd0, gk, hk00, y1, w5, swl, hty_I, hvi_I, hvr_I, hvl_I, hsz_I, hty_R, hvi_R, hvr_R, hvl_R, hsz_R, hty_L, hvi_L, hvr_L, hvl_L, hsz_L, hty_P, hvi_P, hvr_P, hvl_P, hsz_P, hty_C, hvi_C, hvr_C, hvl_C, hsz_C]))) <;> (try (first | omega | exact hz))
      · rw [(hN.2.1 hk00).2] at hC
        (repeat' (first | with_reducible assumption | (refine r_refused H.1 ?_) | (refine And.intro ?_ ?_) | (with_reducible intro _) | (simp [wp_eq, wpE, mk_X11_tell, mg, mc_X11_tell, lget, lset, popN, cats, rcv, entL, isArr, kC_s, kC_n, st1, st2, st3, st4, st5, st6, st7, st8, st9, st10, st11, st12, st13, st14, st15, st16, st17, st18, st19, st20, st21, st22, st23, st24, st25, st26, st27, st28, st29, st30, st31, st32, st33, st34, st35, st36, st37, st38, st39, st40, st41, st42, st43, st44, st45, st46, st47, st48, st49, st50, st51, st52, st53, st54, st55, st56, st57, st58, st59, st60, st61, st62, st63, st64, st65, st66, st67, st68, st69, st70, st71, st72, st73, st74, st75, st76, st77, st78, st79, st80, st81, st82, st83, st84, st85, st86, st87, st88, st89, st90, st91, R0, R_kinds, R_sizes, R_days, R_ties, R_bitsOf, R_textSizes, R_many, hd0, gk, hk0, hk00, w5, swl, hty_I, hvi_I, hvr_I, hvl_I, hsz_I, hty_R, hvi_R, hvr_R, hvl_R, hsz_R, hty_L, hvi_L, hvr_L, hvl_L, hsz_L, hty_P, hvi_P, hvr_P, hvl_P, hsz_P, hty_C, hvi_C, hvr_C, hvl_C, hsz_C]))) <;> (try (first | omega | exact hz))
    rw [if_neg w5] at hC
    (repeat' (first | with_reducible assumption | (refine r_refused H.1 ?_) | (refine And.intro ?_ ?_) | (with_reducible intro _) | (simp [wp_eq, wpE, mk_X11_tell, mg, mc_X11_tell, lget, lset, popN, cats, rcv, entL, isArr, kC_s, kC_n, st1, st2, st3, st4, st5, st6, st7, st8, st9, st10, st11, st12, st13, st14, st15, st16, st17, st18, st19, st20, st21, st22, st23, st24, st25, st26, st27, st28, st29, st30, st31, st32, st33, st34, st35, st36, st37, st38, st39, st40, st41, st42, st43, st44, st45, st46, st47, st48, st49, st50, st51, st52, st53, st54, st55, st56, st57, st58, st59, st60, st61, st62, st63, st64, st65, st66, st67, st68, st69, st70, st71, st72, st73, st74, st75, st76, st77, st78, st79, st80, st81, st82, st83, st84, st85, st86, st87, st88, st89, st90, st91, R0, R_kinds, R_sizes, R_days, R_ties, R_bitsOf, R_textSizes, R_many, hd0, gk, hk0, w0, w1, w2, w3, w4, w5, swl, hty_I, hvi_I, hvr_I, hvl_I, hsz_I, hty_R, hvi_R, hvr_R, hvl_R, hsz_R, hty_L, hvi_L, hvr_L, hvl_L, hsz_L, hty_P, hvi_P, hvr_P, hvl_P, hsz_P, hty_C, hvi_C, hvr_C, hvl_C, hsz_C]))) <;> (try (first | omega | exact hz))
