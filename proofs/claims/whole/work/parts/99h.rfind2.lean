/-- from the reading on -/
theorem rf_105 {G : Nat → Nat} {d r here : Nat} {h : mH} {C : mQ} {X : mX} {Es : Nat → List aE} {L : List Int} {T : aT} {pr : Int} {x1 : Option mV} (hd : 10 ≤ d) (hw : wf T here) (hb : 0 ≤ pr ∧ pr ≤ 999999) (HB : FB r h Es L T here pr)
    (hC : ∀ h', RS r h' Es L T here (fiO T here L pr) (fiC T here L pr) (fdK L).1 → hvi h' r 0 = 0 → C (some (.inl (fiR T here L pr))) h') :
    wp G d 142 105 [some (.inr (.inl (some r))), x1, none, none, none, none] [.inl (b01 (isPth L))] h 0 0 C X := by
  have hd0 : (0 < d) = True := eq_true (by omega)
  have HB0 := HB
  obtain ⟨⟨s1, s2, s3, s4, s5, s6, s7, s8⟩, HW, g38, g39, g40, g0⟩ := HB0
  have R0 := s1.1
  have h50 := wds_len s3.1
  obtain ⟨bP, hP1, hP2⟩ := fdP_b s3.1 s3.2
  have hfle : fdX L ≤ (wds L).length := by
    unfold fdX
    by_cases hp : isPth L = true
    · rw [if_pos hp]; have := isPth_0 hp; omega
    · rw [if_neg hp]; omega
  -- behind the way's text
  have s182 : ∀ (h5 : mH) (N p0 : Nat) (x2 x3 x4 : Option mV), FB r h5 Es L T here pr → (fdK L).1 = -1 → lkN T here L (fdK L).2 = 0 → RG r h5 L T Es here pr (fdK L).2 N p0 → hvi h5 r 25 = ((fdP L).length : Int) → ro h5 (r + 17) 0 (fdP L) → wp G d 142 182 [some (.inr (.inl (some r))), x1, x2, x3, x4, none] [] h5 0 0 C X := by
    intro h5 N p0 x2 x3 x4 B5 k1 k2 G5 m25 m17
    have HR5 := G5.1.1
    have R05 := HR5.1
    have q6 : chJ (sR r [143]) h5 (hsetI h5 r 43 ((fdP L).length : Int)) := chJ_set (by simp [sR])
    have hz := rf_cp (G := G) (d := d) (C := C) (X := X) (r := r) (u := fdP L) (x1 := x1) (x2 := x2) (x3 := x3) (x4 := x4) bP hP2 (fdP L).length 0 (hsetI h5 r 43 ((fdP L).length : Int)) (by omega) (RN_ch q6 HR5) (by rw [chJ_fld q6 (by simp) (by simp)]; exact m25) (fun i hi => by rw [chJ_row q6 (by omega) (by simp)]; exact m17 i hi) (fun i hi => by simp at hi) (fun h7 x5 q7 m26 => by
      have q67 := chJ_trans (chJ_sub (m := [26, 143]) q6 (by simp)) (chJ_sub q7 (by simp))
      refine rf_222 hd hw hb k1 k2 (FB_ch q67 (by simp) B5) (RG_ch q67 (by simp) G5) (by rw [chJ_fld q67 (by simp) (by simp)]; exact m25) (fun i hi => by rw [chJ_row q67 (by omega) (by simp)]; exact m17 i hi) (by rw [chJ_fld q7 (by simp) (by simp), hvi_I, if_pos ⟨rfl, rfl⟩]) m26 hC)
    (repeat' (first | with_reducible assumption | (refine And.intro ?_ ?_) | (with_reducible intro _) | (simp [wp_eq, wpE, mk_X11_find, mg, mc_X11_find, lget, lset, popN, cats, rcv, entL, isArr, kC_s, kC_n, st1, st2, st3, st4, st5, st6, st7, st8, st9, st10, st11, st12, st13, st14, st15, st16, st17, st18, st19, st20, st21, st22, st23, st24, st25, st26, st27, st28, st29, st30, st31, st32, st33, st34, st35, st36, st37, st38, st39, st40, st41, st42, st43, st44, st45, st46, st47, st48, st49, st50, st51, st52, st53, st54, st55, st56, st57, st58, st59, st60, st61, st62, st63, st64, st65, st66, st67, st68, st69, st70, st71, st72, st73, st74, st75, st76, st77, st78, st79, st80, st81, st82, st83, st84, st85, st86, st87, st88, st89, st90, st91, R05, m25, hty_I, hvi_I, hvr_I, hvl_I, hsz_I, hty_R, hvi_R, hvr_R, hvl_R, hsz_R, hty_L, hvi_L, hvr_L, hvl_L, hsz_L, hty_P, hvi_P, hvr_P, hvl_P, hsz_P, hty_C, hvi_C, hvr_C, hvl_C, hsz_C]))) <;> (try (first | omega | exact hz))
  -- behind the look up
  have s146 : ∀ (h4 : mH) (N p0 : Nat) (x3 x4 : Option mV), FB r h4 Es L T here pr → (fdK L).1 = -1 → lkN T here L (fdK L).2 = 0 → RG r h4 L T Es here pr (fdK L).2 N p0 → wp G d 142 146 [some (.inr (.inl (some r))), x1, some (.inl (b01 (isPth L))), x3, x4, none] [] h4 0 0 C X := by
    intro h4 N p0 x3 x4 B4 k1 k2 G4
    have HR4 := G4.1.1
    have R0 := HR4.1; have R_line := rn_line HR4; have R_begins := rn_begins HR4; have R_ends := rn_ends HR4; have R_way := rn_way HR4; have R_path := rn_path HR4
    have HW4 := B4.2.1
    cases hp : isPth L with
    | true =>
      have h0 := isPth_0 hp
      have hP : fdP L = wd L 0 := by unfold fdP; rw [hp]; rfl
      have hat := wds_at h0
      have hwl := wd_len L 0
      have b1 := (HW4.2 0 h0).1
      have b2 := (HW4.2 0 h0).2
      have HP4 := G4.1.2.1
      have cl : ∀ {C : mQ} {X : mX}, (∀ h', chJ (sR r [17, 125]) h4 h' → hvi h' r 25 = ((wd L 0).length : Int) → ro h' (r + 17) 0 (wd L 0) → C none h') → callG (wp G) d 105 0 0 4 [.inr (.inl (some r)), .inl (wS L 0 : Int), .inl (wE L 0 : Int)] h4 C X := fun {C X} z => r_layWayZ (o := wS L 0) (w := wd L 0) (by omega) HR4 (wd_b s3.2 0) (by omega) (fun i hi => by rw [wd_get (by omega)]; exact HP4.2 _ (by omega) (by omega)) z
      simp only [b01, if_true]
      simp [wp_ne 182, wpE, mk_X11_find, mg, mc_X11_find, lget, lset, popN, cats, rcv, entL, isArr, kC_s, kC_n, st1, st2, st3, st4, st5, st6, st7, st8, st9, st10, st11, st12, st13, st14, st15, st16, st17, st18, st19, st20, st21, st22, st23, st24, st25, st26, st27, st28, st29, st30, st31, st32, st33, st34, st35, st36, st37, st38, st39, st40, st41, st42, st43, st44, st45, st46, st47, st48, st49, st50, st51, st52, st53, st54, st55, st56, st57, st58, st59, st60, st61, st62, st63, st64, st65, st66, st67, st68, st69, st70, st71, st72, st73, st74, st75, st76, st77, st78, st79, st80, st81, st82, st83, st84, st85, st86, st87, st88, st89, st90, st91, R0, R_begins, R_ends, b1, b2, hd0]
      refine cl (fun zzh zz1 zz2 zz3 => ?_)
      have hz := fun x2 => s182 zzh N p0 x2 x3 x4 (FB_ch zz1 (by simp) B4) k1 k2 (RG_ch zz1 (by simp) G4) (by rw [hP]; exact zz2) (by rw [hP]; exact zz3)
      (repeat' (first | with_reducible assumption | (refine And.intro ?_ ?_) | (with_reducible intro _) | (simp [wp_ne 182, wpE, mk_X11_find, mg, mc_X11_find, lget, lset, popN, cats, rcv, entL, isArr, kC_s, kC_n, st1, st2, st3, st4, st5, st6, st7, st8, st9, st10, st11, st12, st13, st14, st15, st16, st17, st18, st19, st20, st21, st22, st23, st24, st25, st26, st27, st28, st29, st30, st31, st32, st33, st34, st35, st36, st37, st38, st39, st40, st41, st42, st43, st44, st45, st46, st47, st48, st49, st50, st51, st52, st53, st54, st55, st56, st57, st58, st59, st60, st61, st62, st63, st64, st65, st66, st67, st68, st69, st70, st71, st72, st73, st74, st75, st76, st77, st78, st79, st80, st81, st82, st83, st84, st85, st86, st87, st88, st89, st90, st91]))) <;> (try (first | omega | exact hz))
      all_goals exact hz _
    | false =>
      have hP : fdP L = [46] := by unfold fdP; rw [hp]; rfl
      have q5 : chJ (sR r [17, 125]) h4 (hsetI (hsetI h4 (r + 17) 0 46) r 25 1) := chJ_trans (chJ_set (by simp [sR])) (chJ_set (by simp [sR]))
      have hz := fun x2 => s182 (hsetI (hsetI h4 (r + 17) 0 46) r 25 1) N p0 x2 x3 x4 (FB_ch q5 (by simp) B4) k1 k2 (RG_ch q5 (by simp) G4) (by rw [hP]; simp [hty_I, hvi_I, hvr_I, hvl_I, hsz_I, hty_R, hvi_R, hvr_R, hvl_R, hsz_R, hty_L, hvi_L, hvr_L, hvl_L, hsz_L, hty_P, hvi_P, hvr_P, hvl_P, hsz_P, hty_C, hvi_C, hvr_C, hvl_C, hsz_C]) (by
        rw [hP]
        intro i hi
        simp at hi
        subst hi
        simp [hty_I, hvi_I, hvr_I, hvl_I, hsz_I, hty_R, hvi_R, hvr_R, hvl_R, hsz_R, hty_L, hvi_L, hvr_L, hvl_L, hsz_L, hty_P, hvi_P, hvr_P, hvl_P, hsz_P, hty_C, hvi_C, hvr_C, hvl_C, hsz_C, lf])
      simp only [b01, Bool.false_eq_true, if_false]
      (repeat' (first | with_reducible assumption | (refine And.intro ?_ ?_) | (with_reducible intro _) | (simp [wp_ne 182, wpE, mk_X11_find, mg, mc_X11_find, lget, lset, popN, cats, rcv, entL, isArr, kC_s, kC_n, st1, st2, st3, st4, st5, st6, st7, st8, st9, st10, st11, st12, st13, st14, st15, st16, st17, st18, st19, st20, st21, st22, st23, st24, st25, st26, st27, st28, st29, st30, st31, st32, st33, st34, st35, st36, st37, st38, st39, st40, st41, st42, st43, st44, st45, st46, st47, st48, st49, st50, st51, st52, st53, st54, st55, st56, st57, st58, st59, st60, st61, st62, st63, st64, st65, st66, st67, st68, st69, st70, st71, st72, st73, st74, st75, st76, st77, st78, st79, st80, st81, st82, st83, st84, st85, st86, st87, st88, st89, st90, st91, R0, R_line, R_begins, R_ends, R_way, R_path, hty_I, hvi_I, hvr_I, hvl_I, hsz_I, hty_R, hvi_R, hvr_R, hvl_R, hsz_R, hty_L, hvi_L, hvr_L, hvl_L, hsz_L, hty_P, hvi_P, hvr_P, hvl_P, hsz_P, hty_C, hvi_C, hvr_C, hvl_C, hsz_C]))) <;> (try (first | omega | exact hz))
      all_goals exact hz _
  -- the reading
  have go : ∀ {C' : mQ} {X' : mX}, (∀ h4, chJ (sR r sPR) h h4 → ((fdK L).1 = -1 → ppo r h4 (fdK L).2) → C' (some (.inl (fdK L).1)) h4) → callG (wp G) d 127 0 0 9 [.inr (.inl (some r)), .inl (fdX L : Int)] h C' X' := fun {C' X'} z => r_parse (by omega) s3.1 s1 s2 HW hfle z
  have behind : ∀ h4, chJ (sR r sPR) h h4 → ((fdK L).1 = -1 → ppo r h4 (fdK L).2) → wp G d 142 119 [some (.inr (.inl (some r))), x1, some (.inl (b01 (isPth L))), none, none, none] [.inl (fdK L).1] h4 0 0 C X := by
    intro h4 q4 P4
    have B4 := FB_ch q4 (by simp [sPR]) HB
    have HR4 := RN_ch q4 s1
    have R04 := HR4.1
    rcases fdK_ge L with k1 | k1
    · obtain ⟨N, p0, n1, n2, n3, n4, n5, n6, n7⟩ := P4 k1
      have cl : ∀ {C : mQ} {X : mX}, (∀ h', chJ (sR r [17, 18, 22, 125, 126]) h4 h' → (lkN T here L (fdK L).2 = 0 → ∀ q, q < N → hvi h' (r + 19) q = 5 → hvi h' (r + 22) q = dyW T here L (hvi h' (r + 20) q).toNat) → C (some (.inl (lkN T here L (fdK L).2))) h') → callG (wp G) d 141 0 0 3 [.inr (.inl (some r))] h4 C X := fun {C X} z => r_lookUp (by omega) hw n2 s3.1 s3.2 HR4 B4.1.2.1 B4.2.1 B4.1.2.2.2.1 n1 z
      rw [k1]
      simp [wp_ne 146, wpE, mk_X11_find, mg, mc_X11_find, lget, lset, popN, cats, rcv, entL, isArr, kC_s, kC_n, st1, st2, st3, st4, st5, st6, st7, st8, st9, st10, st11, st12, st13, st14, st15, st16, st17, st18, st19, st20, st21, st22, st23, st24, st25, st26, st27, st28, st29, st30, st31, st32, st33, st34, st35, st36, st37, st38, st39, st40, st41, st42, st43, st44, st45, st46, st47, st48, st49, st50, st51, st52, st53, st54, st55, st56, st57, st58, st59, st60, st61, st62, st63, st64, st65, st66, st67, st68, st69, st70, st71, st72, st73, st74, st75, st76, st77, st78, st79, st80, st81, st82, st83, st84, st85, st86, st87, st88, st89, st90, st91, R04, hd0]
      refine cl (fun h5 q5 D5 => ?_)
      have B5 := FB_ch q5 (by simp) B4
      rcases lkW_le (T := T) (here := here) (L := L) (nwK (fdK L).2) with hl0 | hl0
      · rw [← lkN_W] at hl0
        have G5 : RG r h5 L T Es here pr (fdK L).2 N p0 := ⟨⟨RN_ch q5 HR4, B5.1.2.1, B5.2.1, B5.1.2.2.2.1, B5.2.2.1, s3.1⟩, D5 hl0, by rw [chJ_fld q5 (by simp) (by simp)]; exact n4, PH_ch q5 (by simp) n5, ⟨n3, n2⟩, by rw [chJ_fld q5 (by simp) (by simp)]; exact n6, by rw [chJ_fld q5 (by simp) (by simp)]; exact n7⟩
        have hz := fun x3 x4 => s146 h5 N p0 x3 x4 B5 k1 hl0 G5
        rw [hl0]
        generalize b01 (isPth L) = zb at *
        (repeat' (first | with_reducible assumption | (refine And.intro ?_ ?_) | (with_reducible intro _) | (simp [wp_ne 146, wpE, mk_X11_find, mg, mc_X11_find, lget, lset, popN, cats, rcv, entL, isArr, kC_s, kC_n, st1, st2, st3, st4, st5, st6, st7, st8, st9, st10, st11, st12, st13, st14, st15, st16, st17, st18, st19, st20, st21, st22, st23, st24, st25, st26, st27, st28, st29, st30, st31, st32, st33, st34, st35, st36, st37, st38, st39, st40, st41, st42, st43, st44, st45, st46, st47, st48, st49, st50, st51, st52, st53, st54, st55, st56, st57, st58, st59, st60, st61, st62, st63, st64, st65, st66, st67, st68, st69, st70, st71, st72, st73, st74, st75, st76, st77, st78, st79, st80, st81, st82, st83, st84, st85, st86, st87, st88, st89, st90, st91]))) <;> (try (first | omega | exact hz))
        all_goals exact hz _ _
      · rw [← lkN_W] at hl0
        have hng : ¬ fdG T here L := fun q => by have := q.2.1; omega
        have eR : fiR T here L pr = lkN T here L (fdK L).2 := by unfold fiR; rw [if_neg (by rw [k1]; simp), if_pos (by omega)]
        have hz := hC h5 (by unfold fiO fiC; rw [if_neg hng, if_neg hng, k1]; exact B5.1) B5.2.2.2.2.2
        rw [eR] at hz
        generalize lkN T here L (fdK L).2 = zz at *
        (repeat' (first | with_reducible assumption | (refine And.intro ?_ ?_) | (with_reducible intro _) | (simp [wp_ne 146, wpE, mk_X11_find, mg, mc_X11_find, lget, lset, popN, cats, rcv, entL, isArr, kC_s, kC_n, st1, st2, st3, st4, st5, st6, st7, st8, st9, st10, st11, st12, st13, st14, st15, st16, st17, st18, st19, st20, st21, st22, st23, st24, st25, st26, st27, st28, st29, st30, st31, st32, st33, st34, st35, st36, st37, st38, st39, st40, st41, st42, st43, st44, st45, st46, st47, st48, st49, st50, st51, st52, st53, st54, st55, st56, st57, st58, st59, st60, st61, st62, st63, st64, st65, st66, st67, st68, st69, st70, st71, st72, st73, st74, st75, st76, st77, st78, st79, st80, st81, st82, st83, st84, st85, st86, st87, st88, st89, st90, st91, hl0, show ¬ 0 ≤ zz by omega]))) <;> (try (first | omega | exact hz))
    · have hng : ¬ fdG T here L := fun q => by have := q.1; omega
      have eR : fiR T here L pr = -12 := by unfold fiR; rw [if_pos (by omega)]
      obtain ⟨t1, t2, t3, t4, t5, t6, t7, t8⟩ := B4.1
      have q5 : chJ (sR r [122]) h4 (hsetI h4 r 22 (fdK L).1) := chJ_set (by simp [sR])
      have hz := hC (hsetI h4 r 22 (fdK L).1) (by
        unfold fiO fiC
        rw [if_neg hng, if_neg hng]
        exact ⟨RN_ch q5 t1, RP_ch q5 (by simp) (by simp) (by simp) t2, t3, RT_ch q5 (by simp) t4, fun j => by rw [chJ_row q5 (by omega) (by simp)]; exact t5 j, RO_ch q5 (by simp) t6, by rw [chJ_fld q5 (by simp) (by simp)]; exact t7, by rw [hvi_I, if_pos ⟨rfl, rfl⟩]⟩) (by rw [chJ_fld q5 (by simp) (by simp)]; exact B4.2.2.2.2.2)
      rw [eR] at hz
      generalize (fdK L).1 = zz at *
      (repeat' (first | with_reducible assumption | (refine And.intro ?_ ?_) | (with_reducible intro _) | (simp [wp_eq, wpE, mk_X11_find, mg, mc_X11_find, lget, lset, popN, cats, rcv, entL, isArr, kC_s, kC_n, st1, st2, st3, st4, st5, st6, st7, st8, st9, st10, st11, st12, st13, st14, st15, st16, st17, st18, st19, st20, st21, st22, st23, st24, st25, st26, st27, st28, st29, st30, st31, st32, st33, st34, st35, st36, st37, st38, st39, st40, st41, st42, st43, st44, st45, st46, st47, st48, st49, st50, st51, st52, st53, st54, st55, st56, st57, st58, st59, st60, st61, st62, st63, st64, st65, st66, st67, st68, st69, st70, st71, st72, st73, st74, st75, st76, st77, st78, st79, st80, st81, st82, st83, st84, st85, st86, st87, st88, st89, st90, st91, R04, k1, hty_I, hvi_I, hvr_I, hvl_I, hsz_I, hty_R, hvi_R, hvr_R, hvl_R, hsz_R, hty_L, hvi_L, hvr_L, hvl_L, hsz_L, hty_P, hvi_P, hvr_P, hvl_P, hsz_P, hty_C, hvi_C, hvr_C, hvl_C, hsz_C, show ¬ zz < 0 by omega]))) <;> (try (first | omega | exact hz))
  cases hp : isPth L with
  | true =>
    have eX : (fdX L : Int) = 1 := by unfold fdX; rw [hp]; rfl
    rw [eX] at go
    rw [hp] at behind
    simp only [b01, if_true] at behind ⊢
    simp [wp_ne 119, wpE, mk_X11_find, mg, mc_X11_find, lget, lset, popN, cats, rcv, entL, isArr, kC_s, kC_n, st1, st2, st3, st4, st5, st6, st7, st8, st9, st10, st11, st12, st13, st14, st15, st16, st17, st18, st19, st20, st21, st22, st23, st24, st25, st26, st27, st28, st29, st30, st31, st32, st33, st34, st35, st36, st37, st38, st39, st40, st41, st42, st43, st44, st45, st46, st47, st48, st49, st50, st51, st52, st53, st54, st55, st56, st57, st58, st59, st60, st61, st62, st63, st64, st65, st66, st67, st68, st69, st70, st71, st72, st73, st74, st75, st76, st77, st78, st79, st80, st81, st82, st83, st84, st85, st86, st87, st88, st89, st90, st91, R0, hd0]
    refine go (fun h4 q4 P4 => ?_)
    have hz := behind h4 q4 P4
    (repeat' (first | with_reducible assumption | (refine And.intro ?_ ?_) | (with_reducible intro _) | (simp [wp_ne 119, wpE, mk_X11_find, mg, mc_X11_find, lget, lset, popN, cats, rcv, entL, isArr, kC_s, kC_n, st1, st2, st3, st4, st5, st6, st7, st8, st9, st10, st11, st12, st13, st14, st15, st16, st17, st18, st19, st20, st21, st22, st23, st24, st25, st26, st27, st28, st29, st30, st31, st32, st33, st34, st35, st36, st37, st38, st39, st40, st41, st42, st43, st44, st45, st46, st47, st48, st49, st50, st51, st52, st53, st54, st55, st56, st57, st58, st59, st60, st61, st62, st63, st64, st65, st66, st67, st68, st69, st70, st71, st72, st73, st74, st75, st76, st77, st78, st79, st80, st81, st82, st83, st84, st85, st86, st87, st88, st89, st90, st91]))) <;> (try (first | omega | exact hz))
  | false =>
    have eX : (fdX L : Int) = 0 := by unfold fdX; rw [hp]; rfl
    rw [eX] at go
    rw [hp] at behind
    simp only [b01, Bool.false_eq_true, if_false] at behind ⊢
    simp [wp_ne 119, wpE, mk_X11_find, mg, mc_X11_find, lget, lset, popN, cats, rcv, entL, isArr, kC_s, kC_n, st1, st2, st3, st4, st5, st6, st7, st8, st9, st10, st11, st12, st13, st14, st15, st16, st17, st18, st19, st20, st21, st22, st23, st24, st25, st26, st27, st28, st29, st30, st31, st32, st33, st34, st35, st36, st37, st38, st39, st40, st41, st42, st43, st44, st45, st46, st47, st48, st49, st50, st51, st52, st53, st54, st55, st56, st57, st58, st59, st60, st61, st62, st63, st64, st65, st66, st67, st68, st69, st70, st71, st72, st73, st74, st75, st76, st77, st78, st79, st80, st81, st82, st83, st84, st85, st86, st87, st88, st89, st90, st91, R0, hd0]
    refine go (fun h4 q4 P4 => ?_)
    have hz := behind h4 q4 P4
    (repeat' (first | with_reducible assumption | (refine And.intro ?_ ?_) | (with_reducible intro _) | (simp [wp_ne 119, wpE, mk_X11_find, mg, mc_X11_find, lget, lset, popN, cats, rcv, entL, isArr, kC_s, kC_n, st1, st2, st3, st4, st5, st6, st7, st8, st9, st10, st11, st12, st13, st14, st15, st16, st17, st18, st19, st20, st21, st22, st23, st24, st25, st26, st27, st28, st29, st30, st31, st32, st33, st34, st35, st36, st37, st38, st39, st40, st41, st42, st43, st44, st45, st46, st47, st48, st49, st50, st51, st52, st53, st54, st55, st56, st57, st58, st59, st60, st61, st62, st63, st64, st65, st66, st67, st68, st69, st70, st71, st72, st73, st74, st75, st76, st77, st78, st79, st80, st81, st82, st83, st84, st85, st86, st87, st88, st89, st90, st91]))) <;> (try (first | omega | exact hz))
theorem q_find {G : Nat → Nat} {d r here : Nat} {h : mH} {C : mQ} {X : mX} {Es : Nat → List aE} {L : List Int} {T : aT} {O : List Int} {cp bad pr : Int} (hd : 11 ≤ d) (H : RS r h Es L T here O cp bad) (hw : wf T here)
    (hC1 : (0 ≤ pr ∧ pr ≤ 999999) → ∀ h', RS r h' Es L T here (fiO T here L pr) (fiC T here L pr) (fdK L).1 → hvi h' r 0 = 0 → C (some (.inl (fiR T here L pr))) h')
    (hC2 : ¬ (0 ≤ pr ∧ pr ≤ 999999) → ∀ h', RS r h' Es L T here O cp bad → hvi h' r 0 = 1 → C (some (.inl 0)) h') :
    callG (wp G) d 142 0 0 6 [.inr (.inl (some r)), .inl pr] h C X := by
  have R0 := H.1.1
  have HR := H.1
  refine cg 10 (by omega) (fun d hd => ?_)
  have hd0 : (0 < d) = True := eq_true (by omega)
  by_cases hb : 0 ≤ pr ∧ pr ≤ 999999
  · have hC := hC1 hb
    simp [wp_eq, wpE, mk_X11_find, mg, mc_X11_find, lget, lset, popN, cats, rcv, entL, isArr, kC_s, kC_n, st1, st2, st3, st4, st5, st6, st7, st8, st9, st10, st11, st12, st13, st14, st15, st16, st17, st18, st19, st20, st21, st22, st23, st24, st25, st26, st27, st28, st29, st30, st31, st32, st33, st34, st35, st36, st37, st38, st39, st40, st41, st42, st43, st44, st45, st46, st47, st48, st49, st50, st51, st52, st53, st54, st55, st56, st57, st58, st59, st60, st61, st62, st63, st64, st65, st66, st67, st68, st69, st70, st71, st72, st73, st74, st75, st76, st77, st78, st79, st80, st81, st82, st83, st84, st85, st86, st87, st88, st89, st90, st91, R0, hd0]
    refine r_isIn ?_
    rw [if_pos hb]
    simp [wp_eq, wpE, mk_X11_find, mg, mc_X11_find, lget, lset, popN, cats, rcv, entL, isArr, kC_s, kC_n, st1, st2, st3, st4, st5, st6, st7, st8, st9, st10, st11, st12, st13, st14, st15, st16, st17, st18, st19, st20, st21, st22, st23, st24, st25, st26, st27, st28, st29, st30, st31, st32, st33, st34, st35, st36, st37, st38, st39, st40, st41, st42, st43, st44, st45, st46, st47, st48, st49, st50, st51, st52, st53, st54, st55, st56, st57, st58, st59, st60, st61, st62, st63, st64, st65, st66, st67, st68, st69, st70, st71, st72, st73, st74, st75, st76, st77, st78, st79, st80, st81, st82, st83, st84, st85, st86, st87, st88, st89, st90, st91, R0, hd0]
    refine r_refused HR ?_
    have q1 : chJ (sR r [100]) h (hsetI h r 0 0) := chJ_set (by simp [sR])
    have H1 := RS_ch q1 (by simp) H
    have z0 : hvi (hsetI h r 0 0) r 0 = 0 := by rw [hvi_I, if_pos ⟨rfl, rfl⟩]
    generalize hsetI h r 0 0 = h1 at *
    have R01 := H1.1.1
    simp [wp_eq, wpE, mk_X11_find, mg, mc_X11_find, lget, lset, popN, cats, rcv, entL, isArr, kC_s, kC_n, st1, st2, st3, st4, st5, st6, st7, st8, st9, st10, st11, st12, st13, st14, st15, st16, st17, st18, st19, st20, st21, st22, st23, st24, st25, st26, st27, st28, st29, st30, st31, st32, st33, st34, st35, st36, st37, st38, st39, st40, st41, st42, st43, st44, st45, st46, st47, st48, st49, st50, st51, st52, st53, st54, st55, st56, st57, st58, st59, st60, st61, st62, st63, st64, st65, st66, st67, st68, st69, st70, st71, st72, st73, st74, st75, st76, st77, st78, st79, st80, st81, st82, st83, st84, st85, st86, st87, st88, st89, st90, st91, R01, hd0]
    refine r_cut H1.1 H1.2.2.1.1 H1.2.1 (fun h2 a1 a2 a3 q2 => ?_)
    have H2 := RS_ch q2 (by simp) H1
    have R02 := H2.1.1
    have q3 : chJ (sR r [120, 121, 122, 138, 139, 140]) h2 (hsetI (hsetI (hsetI (hsetI (hsetI (hsetI h2 r 20 0) r 21 0) r 22 (-1)) r 39 0) r 40 0) r 38 pr) := chJ_trans (chJ_trans (chJ_trans (chJ_trans (chJ_trans (chJ_set (by simp [sR])) (chJ_set (by simp [sR]))) (chJ_set (by simp [sR]))) (chJ_set (by simp [sR]))) (chJ_set (by simp [sR]))) (chJ_set (by simp [sR]))
    obtain ⟨t1, t2, t3, t4, t5, t6, t7, t8⟩ := H2
    have B3 : FB r (hsetI (hsetI (hsetI (hsetI (hsetI (hsetI h2 r 20 0) r 21 0) r 22 (-1)) r 39 0) r 40 0) r 38 pr) Es L T here pr := ⟨⟨RN_ch q3 t1, RP_ch q3 (by simp) (by simp) (by simp) t2, t3, RT_ch q3 (by simp) t4, fun j => by rw [chJ_row q3 (by omega) (by simp)]; exact t5 j, ⟨by simp [hty_I, hvi_I, hvr_I, hvl_I, hsz_I, hty_R, hvi_R, hvr_R, hvl_R, hsz_R, hty_L, hvi_L, hvr_L, hvl_L, hsz_L, hty_P, hvi_P, hvr_P, hvl_P, hsz_P, hty_C, hvi_C, hvr_C, hvl_C, hsz_C], by simp, fun i hi => by simp at hi, fun x hx => by simp at hx⟩, by simp [hty_I, hvi_I, hvr_I, hvl_I, hsz_I, hty_R, hvi_R, hvr_R, hvl_R, hsz_R, hty_L, hvi_L, hvr_L, hvl_L, hsz_L, hty_P, hvi_P, hvr_P, hvl_P, hsz_P, hty_C, hvi_C, hvr_C, hvl_C, hsz_C], by simp [hty_I, hvi_I, hvr_I, hvl_I, hsz_I, hty_R, hvi_R, hvr_R, hvl_R, hsz_R, hty_L, hvi_L, hvr_L, hvl_L, hsz_L, hty_P, hvi_P, hvr_P, hvl_P, hsz_P, hty_C, hvi_C, hvr_C, hvl_C, hsz_C]⟩, RW_ch q3 (by simp) a3, by simp [hty_I, hvi_I, hvr_I, hvl_I, hsz_I, hty_R, hvi_R, hvr_R, hvl_R, hsz_R, hty_L, hvi_L, hvr_L, hvl_L, hsz_L, hty_P, hvi_P, hvr_P, hvl_P, hsz_P, hty_C, hvi_C, hvr_C, hvl_C, hsz_C], by simp [hty_I, hvi_I, hvr_I, hvl_I, hsz_I, hty_R, hvi_R, hvr_R, hvl_R, hsz_R, hty_L, hvi_L, hvr_L, hvl_L, hsz_L, hty_P, hvi_P, hvr_P, hvl_P, hsz_P, hty_C, hvi_C, hvr_C, hvl_C, hsz_C], by simp [hty_I, hvi_I, hvr_I, hvl_I, hsz_I, hty_R, hvi_R, hvr_R, hvl_R, hsz_R, hty_L, hvi_L, hvr_L, hvl_L, hsz_L, hty_P, hvi_P, hvr_P, hvl_P, hsz_P, hty_C, hvi_C, hvr_C, hvl_C, hsz_C], by rw [chJ_fld q3 (by simp) (by simp), chJ_fld q2 (by simp) (by simp)]; exact z0⟩
    have hz105 := fun x1 => rf_105 (G := G) (d := d) (C := C) (X := fun _ _ => False) (x1 := x1) (by omega) hw hb B3 hC
    have W3 := B3.2.1
    have P3 := B3.1.2.1
    have HR3 := B3.1.1
    generalize hh3 : hsetI (hsetI (hsetI (hsetI (hsetI (hsetI h2 r 20 0) r 21 0) r 22 (-1)) r 39 0) r 40 0) r 38 pr = h3 at *
    have R0 := HR3.1; have R_line := rn_line HR3; have R_begins := rn_begins HR3; have R_ends := rn_ends HR3; have R_way := rn_way HR3; have R_path := rn_path HR3
    have c16 := W3.1
    have st55 : ∀ x1, wp G d 142 55 [some (.inr (.inl (some r))), x1, none, none, none, none] [] h3 0 0 C (fun _ _ => False) := by
      intro x1
      have hz := hz105 x1
      by_cases h0 : 0 < (wds L).length
      · have b1 := (W3.2 0 h0).1
        have hat := wds_at h0
        have hwl := wd_len L 0
        have c0 := RP_wd (k := 0) (i := 0) t3.1 P3 (by omega)
        simp only [Nat.add_zero] at c0
        have iw : ∀ {a : Int} {C : mQ} {X : mX}, C (some (.inl (b01 (wd L 0 == [a])))) h3 → callG (wp G) d 98 0 0 5 [.inr (.inl (some r)), .inl 0, .inl a, .inl 0] h3 C X := fun {a C X} z => r_isWord (k := 0) (b := 0) (by omega) HR3 t3.1 P3 W3 h0 z
        have hnil : ¬ wds L = [] := fun q => by rw [q] at h0; simp at h0
        have iw40 := @iw 40
        have iw33 := @iw 33
        have hpe : isPth L = (!(lf (wd L 0) 0 == 45) && !(wd L 0 == [40]) && !(wd L 0 == [33])) := by unfold isPth; simp [h0]
        have h0i : ¬ ((wds L).length : Int) ≤ 0 := by omega
        by_cases c45 : lf (wd L 0) 0 = 45
        · have hpv : isPth L = false := by rw [hpe, beq_iff_eq.mpr c45]; rfl
          rw [hpv] at hz
          simp only [b01, Bool.false_eq_true, if_false] at hz
          (repeat' (first | with_reducible assumption | (refine And.intro ?_ ?_) | (with_reducible intro _) | (simp [wp_ne 105, wpE, mk_X11_find, mg, mc_X11_find, lget, lset, popN, cats, rcv, entL, isArr, kC_s, kC_n, st1, st2, st3, st4, st5, st6, st7, st8, st9, st10, st11, st12, st13, st14, st15, st16, st17, st18, st19, st20, st21, st22, st23, st24, st25, st26, st27, st28, st29, st30, st31, st32, st33, st34, st35, st36, st37, st38, st39, st40, st41, st42, st43, st44, st45, st46, st47, st48, st49, st50, st51, st52, st53, st54, st55, st56, st57, st58, st59, st60, st61, st62, st63, st64, st65, st66, st67, st68, st69, st70, st71, st72, st73, st74, st75, st76, st77, st78, st79, st80, st81, st82, st83, st84, st85, st86, st87, st88, st89, st90, st91, R0, R_line, R_begins, R_ends, R_way, R_path, c16, b1, c0, c45, h0i]))) <;> (try (first | omega | exact hz))
        · cases c40 : (wd L 0 == [40])
          · cases c33 : (wd L 0 == [33])
            · have hpv : isPth L = true := by rw [hpe, c40, c33, beq_eq_false_iff_ne.mpr c45]; rfl
              rw [hpv] at hz
              rw [c40] at iw40
              rw [c33] at iw33
              simp only [b01, if_true, Bool.false_eq_true, if_false] at hz iw40 iw33
              (repeat' (first | with_reducible assumption | (refine iw40 ?_) | (refine iw33 ?_) | (refine And.intro ?_ ?_) | (with_reducible intro _) | (simp [wp_ne 105, wpE, mk_X11_find, mg, mc_X11_find, lget, lset, popN, cats, rcv, entL, isArr, kC_s, kC_n, st1, st2, st3, st4, st5, st6, st7, st8, st9, st10, st11, st12, st13, st14, st15, st16, st17, st18, st19, st20, st21, st22, st23, st24, st25, st26, st27, st28, st29, st30, st31, st32, st33, st34, st35, st36, st37, st38, st39, st40, st41, st42, st43, st44, st45, st46, st47, st48, st49, st50, st51, st52, st53, st54, st55, st56, st57, st58, st59, st60, st61, st62, st63, st64, st65, st66, st67, st68, st69, st70, st71, st72, st73, st74, st75, st76, st77, st78, st79, st80, st81, st82, st83, st84, st85, st86, st87, st88, st89, st90, st91, R0, R_line, R_begins, R_ends, R_way, R_path, c16, b1, c0, c45, h0i, hnil, hd0]))) <;> (try (first | omega | exact hz))
            · have hpv : isPth L = false := by rw [hpe, c33]; simp
              rw [hpv] at hz
              rw [c40] at iw40
              rw [c33] at iw33
              simp only [b01, if_true, Bool.false_eq_true, if_false] at hz iw40 iw33
              (repeat' (first | with_reducible assumption | (refine iw40 ?_) | (refine iw33 ?_) | (refine And.intro ?_ ?_) | (with_reducible intro _) | (simp [wp_ne 105, wpE, mk_X11_find, mg, mc_X11_find, lget, lset, popN, cats, rcv, entL, isArr, kC_s, kC_n, st1, st2, st3, st4, st5, st6, st7, st8, st9, st10, st11, st12, st13, st14, st15, st16, st17, st18, st19, st20, st21, st22, st23, st24, st25, st26, st27, st28, st29, st30, st31, st32, st33, st34, st35, st36, st37, st38, st39, st40, st41, st42, st43, st44, st45, st46, st47, st48, st49, st50, st51, st52, st53, st54, st55, st56, st57, st58, st59, st60, st61, st62, st63, st64, st65, st66, st67, st68, st69, st70, st71, st72, st73, st74, st75, st76, st77, st78, st79, st80, st81, st82, st83, st84, st85, st86, st87, st88, st89, st90, st91, R0, R_line, R_begins, R_ends, R_way, R_path, c16, b1, c0, c45, h0i, hnil, hd0]))) <;> (try (first | omega | exact hz))
          · have hpv : isPth L = false := by rw [hpe, c40]; simp
            rw [hpv] at hz
            rw [c40] at iw40
            simp only [b01, if_true, Bool.false_eq_true, if_false] at hz iw40
            (repeat' (first | with_reducible assumption | (refine iw40 ?_) | (refine And.intro ?_ ?_) | (with_reducible intro _) | (simp [wp_ne 105, wpE, mk_X11_find, mg, mc_X11_find, lget, lset, popN, cats, rcv, entL, isArr, kC_s, kC_n, st1, st2, st3, st4, st5, st6, st7, st8, st9, st10, st11, st12, st13, st14, st15, st16, st17, st18, st19, st20, st21, st22, st23, st24, st25, st26, st27, st28, st29, st30, st31, st32, st33, st34, st35, st36, st37, st38, st39, st40, st41, st42, st43, st44, st45, st46, st47, st48, st49, st50, st51, st52, st53, st54, st55, st56, st57, st58, st59, st60, st61, st62, st63, st64, st65, st66, st67, st68, st69, st70, st71, st72, st73, st74, st75, st76, st77, st78, st79, st80, st81, st82, st83, st84, st85, st86, st87, st88, st89, st90, st91, R0, R_line, R_begins, R_ends, R_way, R_path, c16, b1, c0, c45, h0i, hnil, hd0]))) <;> (try (first | omega | exact hz))
      · have hpe : isPth L = false := by unfold isPth; simp [h0]
        rw [hpe] at hz
        simp [b01] at hz
        (repeat' (first | with_reducible assumption | (refine And.intro ?_ ?_) | (with_reducible intro _) | (simp [wp_ne 105, wpE, mk_X11_find, mg, mc_X11_find, lget, lset, popN, cats, rcv, entL, isArr, kC_s, kC_n, st1, st2, st3, st4, st5, st6, st7, st8, st9, st10, st11, st12, st13, st14, st15, st16, st17, st18, st19, st20, st21, st22, st23, st24, st25, st26, st27, st28, st29, st30, st31, st32, st33, st34, st35, st36, st37, st38, st39, st40, st41, st42, st43, st44, st45, st46, st47, st48, st49, st50, st51, st52, st53, st54, st55, st56, st57, st58, st59, st60, st61, st62, st63, st64, st65, st66, st67, st68, st69, st70, st71, st72, st73, st74, st75, st76, st77, st78, st79, st80, st81, st82, st83, st84, st85, st86, st87, st88, st89, st90, st91, R0, R_line, R_begins, R_ends, R_way, R_path, c16, show ((wds L).length : Int) ≤ 0 by omega]))) <;> (try (first | omega | exact hz))
    have hz := st55
    (repeat' (first | with_reducible assumption | (refine And.intro ?_ ?_) | (with_reducible intro _) | (simp [wp_ne 55, wpE, mk_X11_find, mg, mc_X11_find, lget, lset, popN, cats, rcv, entL, isArr, kC_s, kC_n, st1, st2, st3, st4, st5, st6, st7, st8, st9, st10, st11, st12, st13, st14, st15, st16, st17, st18, st19, st20, st21, st22, st23, st24, st25, st26, st27, st28, st29, st30, st31, st32, st33, st34, st35, st36, st37, st38, st39, st40, st41, st42, st43, st44, st45, st46, st47, st48, st49, st50, st51, st52, st53, st54, st55, st56, st57, st58, st59, st60, st61, st62, st63, st64, st65, st66, st67, st68, st69, st70, st71, st72, st73, st74, st75, st76, st77, st78, st79, st80, st81, st82, st83, st84, st85, st86, st87, st88, st89, st90, st91, hh3, R02, hty_I, hvi_I, hvr_I, hvl_I, hsz_I, hty_R, hvi_R, hvr_R, hvl_R, hsz_R, hty_L, hvi_L, hvr_L, hvl_L, hsz_L, hty_P, hvi_P, hvr_P, hvl_P, hsz_P, hty_C, hvi_C, hvr_C, hvl_C, hsz_C]))) <;> (try (first | omega | exact hz))
    all_goals exact hz _
  · have hC := hC2 hb
    simp [wp_eq, wpE, mk_X11_find, mg, mc_X11_find, lget, lset, popN, cats, rcv, entL, isArr, kC_s, kC_n, st1, st2, st3, st4, st5, st6, st7, st8, st9, st10, st11, st12, st13, st14, st15, st16, st17, st18, st19, st20, st21, st22, st23, st24, st25, st26, st27, st28, st29, st30, st31, st32, st33, st34, st35, st36, st37, st38, st39, st40, st41, st42, st43, st44, st45, st46, st47, st48, st49, st50, st51, st52, st53, st54, st55, st56, st57, st58, st59, st60, st61, st62, st63, st64, st65, st66, st67, st68, st69, st70, st71, st72, st73, st74, st75, st76, st77, st78, st79, st80, st81, st82, st83, st84, st85, st86, st87, st88, st89, st90, st91, R0, hd0]
    refine r_isIn ?_
    rw [if_neg hb]
    simp [wp_eq, wpE, mk_X11_find, mg, mc_X11_find, lget, lset, popN, cats, rcv, entL, isArr, kC_s, kC_n, st1, st2, st3, st4, st5, st6, st7, st8, st9, st10, st11, st12, st13, st14, st15, st16, st17, st18, st19, st20, st21, st22, st23, st24, st25, st26, st27, st28, st29, st30, st31, st32, st33, st34, st35, st36, st37, st38, st39, st40, st41, st42, st43, st44, st45, st46, st47, st48, st49, st50, st51, st52, st53, st54, st55, st56, st57, st58, st59, st60, st61, st62, st63, st64, st65, st66, st67, st68, st69, st70, st71, st72, st73, st74, st75, st76, st77, st78, st79, st80, st81, st82, st83, st84, st85, st86, st87, st88, st89, st90, st91, R0, hd0]
    refine r_refused HR ?_
    have q1 : chJ (sR r [100]) h (hsetI h r 0 1) := chJ_set (by simp [sR])
    have hz := hC _ (RS_ch q1 (by simp) H) (by rw [hvi_I, if_pos ⟨rfl, rfl⟩])
    (repeat' (first | with_reducible assumption | (refine And.intro ?_ ?_) | (with_reducible intro _) | (simp [wp_eq, wpE, mk_X11_find, mg, mc_X11_find, lget, lset, popN, cats, rcv, entL, isArr, kC_s, kC_n, st1, st2, st3, st4, st5, st6, st7, st8, st9, st10, st11, st12, st13, st14, st15, st16, st17, st18, st19, st20, st21, st22, st23, st24, st25, st26, st27, st28, st29, st30, st31, st32, st33, st34, st35, st36, st37, st38, st39, st40, st41, st42, st43, st44, st45, st46, st47, st48, st49, st50, st51, st52, st53, st54, st55, st56, st57, st58, st59, st60, st61, st62, st63, st64, st65, st66, st67, st68, st69, st70, st71, st72, st73, st74, st75, st76, st77, st78, st79, st80, st81, st82, st83, st84, st85, st86, st87, st88, st89, st90, st91]))) <;> (try (first | omega | exact hz))
