theorem pst_drop {Q : List (List Int)} {m : Nat} {s : List Int} (h : Q[m]? = some s) : pst (Q.drop m) = pst (Q.drop (m + 1)) ++ 47 :: s := by
  obtain ⟨h1, h2⟩ := List.getElem?_eq_some_iff.mp h
  rw [List.drop_eq_getElem_cons h1, h2]; rfl
theorem rr_loop2 {G : Nat → Nat} {d r : Nat} {C : mQ} {X : mX} {Q : List (List Int)} {x1 x2 x3 : Option mV} (hd : 1 ≤ d) (hQ : Q.length ≤ 90) (hs : ∀ s ∈ Q, s.length ≤ 14) : ∀ (m : Nat) (h : mH) (x5 : Option mV), m ≤ Q.length → RN r h → RO r h (pst (Q.drop m)) → PL r h Q →
    (∀ h' x4 x5, chJ (sR r [16, 120]) h h' → RO r h' (pst Q) → wp G d 121 159 [some (.inr (.inl (some r))), x1, x2, x3, x4, x5] [] h' 0 0 C X) →
    wp G d 121 100094 [some (.inr (.inl (some r))), x1, x2, x3, some (.inl ((m : Int) - 1)), x5] [] h 0 0 C X := by
  have hd0 : (0 < d) = True := eq_true (by omega)
  intro m
  induction m with
  | zero =>
    intro h x5 hm HR HO HP hC
    have R0 := HR.1
    have hz := hC h (some (.inl (-1))) x5 chJ_refl (by simpa using HO)
    rw [wp_hd]
    (repeat' (first | with_reducible assumption | (refine And.intro ?_ ?_) | (with_reducible intro _) | (simp [wp_ne 159, wpE, mk_X11_real, mg, mc_X11_real, lget, lset, popN, cats, rcv, entL, isArr, kC_s, kC_n, st1, st2, st3, st4, st5, st6, st7, st8, st9, st10, st11, st12, st13, st14, st15, st16, st17, st18, st19, st20, st21, st22, st23, st24, st25, st26, st27, st28, st29, st30, st31, st32, st33, st34, st35, st36, st37, st38, st39, st40, st41, st42, st43, st44, st45, st46, st47, st48, st49, st50, st51, st52, st53, st54, st55, st56, st57, st58, st59, st60, st61, st62, st63, st64, st65, st66, st67, st68, st69, st70, st71, st72, st73, st74, st75, st76, st77, st78, st79, st80, st81, st82, st83, st84, st85, st86, st87, st88, st89, st90, st91, R0]))) <;> (try (first | omega | exact hz))
  | succ m ih =>
    intro h x5 hm HR HO HP hC
    have R0 := HR.1
    have hq : Q[m]? = some (Q[m]'(by omega)) := List.getElem?_eq_getElem (by omega)
    obtain ⟨e, p1, p2⟩ := HP m _ hq
    have hps := pst_drop hq
    have hpl := pst_len (Q.drop m) (fun s hx => hs s (List.mem_of_mem_drop hx))
    rw [hps] at hpl
    simp at hpl
    have hs14 := p2.2.2.2.2
    generalize hsv : Q[m]'(by omega) = s at *
    have e1 : ((m + 1 : Nat) : Int) - 1 = (m : Int) := by omega
    have e2 : (m : Int) + -1 = (m : Int) - 1 := by omega
    have hm0 : ¬ (m : Int) < 0 := by omega
    rw [e1, wp_hd]
    have hcw : ∀ {C : mQ} {X : mX}, (∀ h', chJ (sR r [16, 120]) h h' → RO r h' (pst (Q.drop (m + 1)) ++ [47]) → C none h') → callG (wp G) d 122 0 0 2 [.inr (.inl (some r)), .inl 47] h C X := fun {C X} q => r_write HR HO (by omega) (by omega) q
    (repeat' (first | with_reducible assumption | (refine hcw ?_) | (refine And.intro ?_ ?_) | (with_reducible intro _) | (simp [wp_ne 159, wpE, mk_X11_real, mg, mc_X11_real, lget, lset, popN, cats, rcv, entL, isArr, kC_s, kC_n, st1, st2, st3, st4, st5, st6, st7, st8, st9, st10, st11, st12, st13, st14, st15, st16, st17, st18, st19, st20, st21, st22, st23, st24, st25, st26, st27, st28, st29, st30, st31, st32, st33, st34, st35, st36, st37, st38, st39, st40, st41, st42, st43, st44, st45, st46, st47, st48, st49, st50, st51, st52, st53, st54, st55, st56, st57, st58, st59, st60, st61, st62, st63, st64, st65, st66, st67, st68, st69, st70, st71, st72, st73, st74, st75, st76, st77, st78, st79, st80, st81, st82, st83, st84, st85, st86, st87, st88, st89, st90, st91, R0, hd0, hm0]))) <;> (try (first | omega | exact hz))
    all_goals
      rename_i zzh zz1 zz2
      have HRz := RN_ch zz1 HR
      have R0z := HRz.1
      have hin := fun x1 x2 x3 => rr_in (G := G) (d := d) (r := r) (k := m) (e := e) (C := C) (X := X) (s := s) (x1 := x1) (x2 := x2) (x3 := x3) hd (by omega) s.length 0 zzh (pst (Q.drop (m + 1)) ++ [47]) (by omega) HRz (by simpa using zz2) (by simp; omega) (by rw [chJ_row zz1 (by omega) (by simp)]; exact p1) (nmE_ch zz1 (by simp) p2)
      have hz := hin x1 x2 x3 (fun h' x5 y1 y2 => by
        have y1' := chJ_trans zz1 y1
        have R0y := (RN_ch y1 HRz).1
        have hz := fun x5 => ih h' x5 (by omega) (RN_ch y1' HR) (by rw [hps]; simpa using y2) (fun i s' hi => by
          obtain ⟨e', a1, a2⟩ := HP i s' hi
          exact ⟨e', by rw [chJ_row y1' (by omega) (by simp)]; exact a1, nmE_ch y1' (by simp) a2⟩) (fun h'' x4 x5 b1 b2 => hC h'' x4 x5 (chJ_trans y1' b1) b2)
        (repeat' (first | with_reducible assumption | (refine And.intro ?_ ?_) | (with_reducible intro _) | (simp [wp_ne 159, wpE, mk_X11_real, mg, mc_X11_real, lget, lset, popN, cats, rcv, entL, isArr, kC_s, kC_n, st1, st2, st3, st4, st5, st6, st7, st8, st9, st10, st11, st12, st13, st14, st15, st16, st17, st18, st19, st20, st21, st22, st23, st24, st25, st26, st27, st28, st29, st30, st31, st32, st33, st34, st35, st36, st37, st38, st39, st40, st41, st42, st43, st44, st45, st46, st47, st48, st49, st50, st51, st52, st53, st54, st55, st56, st57, st58, st59, st60, st61, st62, st63, st64, st65, st66, st67, st68, st69, st70, st71, st72, st73, st74, st75, st76, st77, st78, st79, st80, st81, st82, st83, st84, st85, st86, st87, st88, st89, st90, st91, R0y, e2, inR]))) <;> (try (first | omega | exact hz))
        all_goals exact hz _)
      (repeat' (first | with_reducible assumption | (refine And.intro ?_ ?_) | (with_reducible intro _) | (simp [wp_ne 159, wpE, mk_X11_real, mg, mc_X11_real, lget, lset, popN, cats, rcv, entL, isArr, kC_s, kC_n, st1, st2, st3, st4, st5, st6, st7, st8, st9, st10, st11, st12, st13, st14, st15, st16, st17, st18, st19, st20, st21, st22, st23, st24, st25, st26, st27, st28, st29, st30, st31, st32, st33, st34, st35, st36, st37, st38, st39, st40, st41, st42, st43, st44, st45, st46, st47, st48, st49, st50, st51, st52, st53, st54, st55, st56, st57, st58, st59, st60, st61, st62, st63, st64, st65, st66, st67, st68, st69, st70, st71, st72, st73, st74, st75, st76, st77, st78, st79, st80, st81, st82, st83, st84, st85, st86, st87, st88, st89, st90, st91, R0z]))) <;> (try (first | omega | exact hz))
theorem q_real {G : Nat → Nat} {d r : Nat} {h : mH} {C : mQ} {X : mX} {Es : Nat → List aE} {L : List Int} {T : aT} {here : Nat} {O : List Int} {cp bad : Int} (hd : 6 ≤ d) (H : RS r h Es L T here O cp bad) (hw : wf T here) (hC : ∀ h', RS r h' Es L T here (reO T here L O) cp bad → C (some (.inl (reR T here L))) h') :
    callG (wp G) d 121 0 0 6 [.inr (.inl (some r))] h C X := by
  have R0 := H.1.1
  have q0 : chJ (sR r [100]) h (hsetI h r 0 0) := chJ_set (by simp [sR])
  have H0 := RS_ch q0 (by simp) H
  refine cg 5 (by omega) (fun d hd => ?_)
  have hd0 : (0 < d) = True := eq_true (by omega)
  simp [wp_eq, wpE, mk_X11_real, mg, mc_X11_real, lget, lset, popN, cats, rcv, entL, isArr, kC_s, kC_n, st1, st2, st3, st4, st5, st6, st7, st8, st9, st10, st11, st12, st13, st14, st15, st16, st17, st18, st19, st20, st21, st22, st23, st24, st25, st26, st27, st28, st29, st30, st31, st32, st33, st34, st35, st36, st37, st38, st39, st40, st41, st42, st43, st44, st45, st46, st47, st48, st49, st50, st51, st52, st53, st54, st55, st56, st57, st58, st59, st60, st61, st62, st63, st64, st65, st66, st67, st68, st69, st70, st71, st72, st73, st74, st75, st76, st77, st78, st79, st80, st81, st82, st83, st84, st85, st86, st87, st88, st89, st90, st91, R0, hd0, hty_I, hvi_I, hvr_I, hvl_I, hsz_I, hty_R, hvi_R, hvr_R, hvl_R, hsz_R, hty_L, hvi_L, hvr_L, hvl_L, hsz_L, hty_P, hvi_P, hvr_P, hvl_P, hsz_P, hty_C, hvi_C, hvr_C, hvl_C, hsz_C]
  refine r_cut H0.1 H0.2.2.1.1 H0.2.1 (fun h1 z1 z2 z3 z4 => ?_)
  have H1 := RS_ch z4 (by simp) H0
  have R1 := H1.1.1
  simp [wp_eq, wpE, mk_X11_real, mg, mc_X11_real, lget, lset, popN, cats, rcv, entL, isArr, kC_s, kC_n, st1, st2, st3, st4, st5, st6, st7, st8, st9, st10, st11, st12, st13, st14, st15, st16, st17, st18, st19, st20, st21, st22, st23, st24, st25, st26, st27, st28, st29, st30, st31, st32, st33, st34, st35, st36, st37, st38, st39, st40, st41, st42, st43, st44, st45, st46, st47, st48, st49, st50, st51, st52, st53, st54, st55, st56, st57, st58, st59, st60, st61, st62, st63, st64, st65, st66, st67, st68, st69, st70, st71, st72, st73, st74, st75, st76, st77, st78, st79, st80, st81, st82, st83, st84, st85, st86, st87, st88, st89, st90, st91, R1, hd0]
  refine r_wwR (k := 0) (fol := true) (by omega) H1 z3 hw (fun h2 p1 H2 hcm => ?_)
  have HR2 := H2.1
  have R0 := HR2.1; have R_kinds := rn_kinds HR2; have R_parents := rn_parents HR2; have R_nameSizes := rn_nameSizes HR2; have R_names := rn_names HR2; have R_pile := rn_pile HR2
  obtain ⟨g1, g2, g3⟩ := H2.2.2.2.1
  have hres := nwR_res (L := L) (k := 0) (fol := true) hw
  have hlive := fun n => nwR_live (n := n) (L := L) (k := 0) (fol := true) hw
  have hdir := fun n => nwR_dir (n := n) (L := L) (k := 0) (fol := true) hw
  have hncm := fun n d s => nwR_cm (n := n) (L := L) (k := 0) (fol := true) (d := d) (s := s) hw
  unfold reR reO at hC
  generalize hq : nwR T here L 0 true = q at *
  obtain ⟨z, cm⟩ := q
  simp only at hC hres hlive ⊢
  rcases hres with hn | ⟨n, hn, he⟩
  · simp only [hn, if_true] at hC
    have hz := hC h2 H2
    (repeat' (first | with_reducible assumption | (refine And.intro ?_ ?_) | (with_reducible intro _) | (simp [wp_eq, wpE, mk_X11_real, mg, mc_X11_real, lget, lset, popN, cats, rcv, entL, isArr, kC_s, kC_n, st1, st2, st3, st4, st5, st6, st7, st8, st9, st10, st11, st12, st13, st14, st15, st16, st17, st18, st19, st20, st21, st22, st23, st24, st25, st26, st27, st28, st29, st30, st31, st32, st33, st34, st35, st36, st37, st38, st39, st40, st41, st42, st43, st44, st45, st46, st47, st48, st49, st50, st51, st52, st53, st54, st55, st56, st57, st58, st59, st60, st61, st62, st63, st64, st65, st66, st67, st68, st69, st70, st71, st72, st73, st74, st75, st76, st77, st78, st79, st80, st81, st82, st83, st84, st85, st86, st87, st88, st89, st90, st91, R0, R_kinds, R_parents, R_nameSizes, R_names, R_pile, hn]))) <;> (try (first | omega | exact hz))
  · subst he
    have hn0 : ¬ (n : Int) < 0 := by omega
    simp only [hn0, if_false, Int.toNat_natCast] at hC
    obtain ⟨v, hT⟩ := hlive n rfl
    have hcm := (hcm n cm rfl).2
    have gk := g2 n hn
    rw [tK_some hT] at gk
    have hend : ∀ (Q : List (List Int)) h' x1 x3 x4 x5, chJ (sR r [23]) h2 h' → RS r h' Es L T here O cp bad → PL r h' Q → Q.length ≤ 90 → (∀ s ∈ Q, s.length ≤ 14) → pst Q = rePth T n cm → wp G d 121 84 [some (.inr (.inl (some r))), x1, some (.inl (Q.length : Int)), x3, x4, x5] [] h' 0 0 C (fun _ _ => False) := by
      intro Q h' x1 x3 x4 x5 r1 r2 r3 r4 r5 r6
      have R0' := r2.1.1
      have q5 : chJ (sR r [16, 120]) h' (hsetI h' r 20 0) := chJ_set (by simp [sR])
      have hO : RO r (hsetI h' r 20 0) (pst (Q.drop Q.length)) := by
        rw [List.drop_length]
        exact ⟨by simp [hty_I, hvi_I, hvr_I, hvl_I, hsz_I, hty_R, hvi_R, hvr_R, hvl_R, hsz_R, hty_L, hvi_L, hvr_L, hvl_L, hsz_L, hty_P, hvi_P, hvr_P, hvl_P, hsz_P, hty_C, hvi_C, hvr_C, hvl_C, hsz_C, pst], by simp [pst], fun i hi => by simp [pst] at hi, fun c hc => by simp [pst] at hc⟩
      have hz := fun x5 => rr_loop2 (G := G) (d := d) (r := r) (C := C) (X := fun _ _ => False) (Q := Q) (x1 := x1) (x2 := some (.inl (Q.length : Int))) (x3 := x3) (by omega) r4 r5 Q.length (hsetI h' r 20 0) x5 (Nat.le_refl _) (RN_ch q5 r2.1) hO (fun i s' hi => by
          obtain ⟨e', a1, a2⟩ := r3 i s' hi
          exact ⟨e', by rw [chJ_row q5 (by omega) (by simp)]; exact a1, nmE_ch q5 (by simp) a2⟩) (fun h'' x4 x5 b1 b2 => by
        have q6 := chJ_trans q5 b1
        have HR6 := RN_ch q6 r2.1
        have R06 := HR6.1
        have key : ∀ h3 (O' : List Int), chJ (sR r [16, 120]) h' h3 → RO r h3 O' → RS r h3 Es L T here O' cp bad := fun h3 O' s1 s2 => by
          obtain ⟨t1, t2, t3, t4, t5, t6, t7, t8⟩ := r2
          exact ⟨RN_ch s1 t1, RP_ch s1 (by simp) (by simp) (by simp) t2, t3, RT_ch s1 (by simp) t4, fun j => by rw [chJ_row s1 (by omega) (by simp)]; exact t5 j, s2, by rw [chJ_fld s1 (by simp) (by simp)]; exact t7, by rw [chJ_fld s1 (by simp) (by simp)]; exact t8⟩
        rw [r6] at b2
        by_cases hQ0 : Q.length = 0
        · have hQe : Q = [] := List.length_eq_zero_iff.mp hQ0
          have hpe : rePth T n cm = [] := by rw [← r6, hQe]; rfl
          rw [if_pos hpe] at hC
          rw [hpe] at b2
          have hQi : (Q.length : Int) = 0 := by omega
          have hcw : ∀ {C : mQ} {X : mX}, (∀ h3, chJ (sR r [16, 120]) h'' h3 → RO r h3 ([] ++ [47]) → C none h3) → callG (wp G) d 122 0 0 2 [.inr (.inl (some r)), .inl 47] h'' C X := fun {C X} q => r_write HR6 b2 (by simp) (by omega) q
          (repeat' (first | with_reducible assumption | (refine hcw ?_) | (refine And.intro ?_ ?_) | (with_reducible intro _) | (simp [wp_eq, wpE, mk_X11_real, mg, mc_X11_real, lget, lset, popN, cats, rcv, entL, isArr, kC_s, kC_n, st1, st2, st3, st4, st5, st6, st7, st8, st9, st10, st11, st12, st13, st14, st15, st16, st17, st18, st19, st20, st21, st22, st23, st24, st25, st26, st27, st28, st29, st30, st31, st32, st33, st34, st35, st36, st37, st38, st39, st40, st41, st42, st43, st44, st45, st46, st47, st48, st49, st50, st51, st52, st53, st54, st55, st56, st57, st58, st59, st60, st61, st62, st63, st64, st65, st66, st67, st68, st69, st70, st71, st72, st73, st74, st75, st76, st77, st78, st79, st80, st81, st82, st83, st84, st85, st86, st87, st88, st89, st90, st91, R06, hd0, hQ0]))) <;> (try (first | omega | exact hz))
          all_goals
            rename_i zzh zz1 zz2
            have R0z := (RN_ch zz1 HR6).1
            have o1 := zz2.1
            have hz := hC zzh (key zzh _ (chJ_trans q6 zz1) zz2)
            simp at o1 hz
            (repeat' (first | with_reducible assumption | (refine And.intro ?_ ?_) | (with_reducible intro _) | (simp [wp_eq, wpE, mk_X11_real, mg, mc_X11_real, lget, lset, popN, cats, rcv, entL, isArr, kC_s, kC_n, st1, st2, st3, st4, st5, st6, st7, st8, st9, st10, st11, st12, st13, st14, st15, st16, st17, st18, st19, st20, st21, st22, st23, st24, st25, st26, st27, st28, st29, st30, st31, st32, st33, st34, st35, st36, st37, st38, st39, st40, st41, st42, st43, st44, st45, st46, st47, st48, st49, st50, st51, st52, st53, st54, st55, st56, st57, st58, st59, st60, st61, st62, st63, st64, st65, st66, st67, st68, st69, st70, st71, st72, st73, st74, st75, st76, st77, st78, st79, st80, st81, st82, st83, st84, st85, st86, st87, st88, st89, st90, st91, R0z, o1]))) <;> (try (first | omega | exact hz))
        · have hpe : ¬ rePth T n cm = [] := by
            rw [← r6]
            cases Q with
            | nil => simp at hQ0
            | cons s Q => simp [pst]
          rw [if_neg hpe] at hC
          have o1 := b2.1
          have hz := hC h'' (key h'' _ q6 b2)
          (repeat' (first | with_reducible assumption | (refine And.intro ?_ ?_) | (with_reducible intro _) | (simp [wp_eq, wpE, mk_X11_real, mg, mc_X11_real, lget, lset, popN, cats, rcv, entL, isArr, kC_s, kC_n, st1, st2, st3, st4, st5, st6, st7, st8, st9, st10, st11, st12, st13, st14, st15, st16, st17, st18, st19, st20, st21, st22, st23, st24, st25, st26, st27, st28, st29, st30, st31, st32, st33, st34, st35, st36, st37, st38, st39, st40, st41, st42, st43, st44, st45, st46, st47, st48, st49, st50, st51, st52, st53, st54, st55, st56, st57, st58, st59, st60, st61, st62, st63, st64, st65, st66, st67, st68, st69, st70, st71, st72, st73, st74, st75, st76, st77, st78, st79, st80, st81, st82, st83, st84, st85, st86, st87, st88, st89, st90, st91, R06, o1, hQ0]))) <;> (try (first | omega | exact hz)))
      (repeat' (first | with_reducible assumption | (refine And.intro ?_ ?_) | (with_reducible intro _) | (simp [wp_eq, wpE, mk_X11_real, mg, mc_X11_real, lget, lset, popN, cats, rcv, entL, isArr, kC_s, kC_n, st1, st2, st3, st4, st5, st6, st7, st8, st9, st10, st11, st12, st13, st14, st15, st16, st17, st18, st19, st20, st21, st22, st23, st24, st25, st26, st27, st28, st29, st30, st31, st32, st33, st34, st35, st36, st37, st38, st39, st40, st41, st42, st43, st44, st45, st46, st47, st48, st49, st50, st51, st52, st53, st54, st55, st56, st57, st58, st59, st60, st61, st62, st63, st64, st65, st66, st67, st68, st69, st70, st71, st72, st73, st74, st75, st76, st77, st78, st79, st80, st81, st82, st83, st84, st85, st86, st87, st88, st89, st90, st91, R0', inR]))) <;> (try (first | omega | exact hz))
      all_goals exact hz _
    by_cases hk : nK v = 0
    · have hkT : tK T n = 0 := by rw [tK_some hT]; exact hk
      have hrp : ups T 47 n = rePth T n cm := by
        cases cm with
        | none => rfl
        | some p =>
          obtain ⟨di, s⟩ := p
          have hlk := hncm n di s rfl
          have hm := lkE_mem hlk
          have hn00 : ¬ n = 0 := fun q => by
            cases hTd : T di with
            | none => simp [tE, hTd] at hm
            | some vd =>
              rw [tE_some hTd] at hm
              exact ((hw.2.2.2.1 di vd hTd).2.2.2.2.2.2.1 _ hm).2.1 q
          exact (rePth_d hw hT hk hn00 hm).symm
      have hz := rr_loop1 (G := G) (d := d) (r := r) (C := C) (X := fun _ _ => False) (x1 := some (.inl (n : Int))) (x4 := none) (x5 := none) (by omega) hw 47 n [] h2 (rch_all hw n hkT) hkT H2 (fun i s hi => by simp at hi) (by simp) (fun h' y1 y2 y3 => by
        have hl := upl_len T 47 n
        refine hend (upl T 47 n) h' _ _ _ _ y1 y2 (by simpa using y3) (by omega) (fun s hs => ?_) (by rw [pst_upl]; exact hrp)
        obtain ⟨i, hi⟩ := List.mem_iff_getElem?.mp hs
        obtain ⟨e, a1, a2⟩ := y3 i s (by simpa using hi)
        exact a2.2.2.2.2)
      (repeat' (first | with_reducible assumption | (refine And.intro ?_ ?_) | (with_reducible intro _) | (simp [wp_eq, wpE, mk_X11_real, mg, mc_X11_real, lget, lset, popN, cats, rcv, entL, isArr, kC_s, kC_n, st1, st2, st3, st4, st5, st6, st7, st8, st9, st10, st11, st12, st13, st14, st15, st16, st17, st18, st19, st20, st21, st22, st23, st24, st25, st26, st27, st28, st29, st30, st31, st32, st33, st34, st35, st36, st37, st38, st39, st40, st41, st42, st43, st44, st45, st46, st47, st48, st49, st50, st51, st52, st53, st54, st55, st56, st57, st58, st59, st60, st61, st62, st63, st64, st65, st66, st67, st68, st69, st70, st71, st72, st73, st74, st75, st76, st77, st78, st79, st80, st81, st82, st83, st84, st85, st86, st87, st88, st89, st90, st91, R0, R_kinds, R_parents, R_nameSizes, R_names, R_pile, hn0, gk, hk]))) <;> (try (first | omega | exact hz))
    · cases cm with
      | none => exact absurd (by have := hdir n rfl; rw [tK_some hT] at this; exact this) hk
      | some p =>
        obtain ⟨di, s⟩ := p
        obtain ⟨k, hdi, hk12, hca, hke⟩ := hcm
        have hlk := hncm n di s rfl
        cases hTd : T di with
        | none => simp [tE, hTd, lkE] at hlk
        | some vd =>
          rw [tE_some hTd] at hlk
          have hm : (s, n) ∈ nE vd := lkE_mem hlk
          have hNd := hw.2.2.2.1 di vd hTd
          have hkd : nK vd = 0 := by
            by_cases q : nK vd = 0
            · exact q
            · rw [(hNd.2.1 q).1] at hm; simp at hm
          have hkdT : tK T di = 0 := by rw [tK_some hTd]; exact hkd
          obtain ⟨b1, b2, b3, b4⟩ := (g3 di vd hdi hTd).2.2.2.1 hkd
          obtain ⟨y1, y2, y3, y4, y5, y6⟩ := b3.2.2 k _ hke
          have hnm : nmE r h2 (12 * di + k) s := ⟨by omega, y2, y3, y4, y5⟩
          have q7 : chJ (sR r [23]) h2 (hsetI h2 (r + 23) 0 ((12 * di + k : Nat) : Int)) := chJ_set (by simp [sR])
          have hPL : PL r (hsetI h2 (r + 23) 0 ((12 * di + k : Nat) : Int)) [s] := by
            have := PL_push (r := r) (h := h2) (Q := []) (s := s) (e := 12 * di + k) (fun i s hi => by simp at hi) hnm
            simpa using this
          have e12 : ((12 * di + k : Nat) : Int) / 12 = (di : Int) := by omega
          have hz := rr_loop1 (G := G) (d := d) (r := r) (C := C) (X := fun _ _ => False) (x1 := some (.inl (n : Int))) (x4 := none) (x5 := none) (by omega) hw 47 di [s] _ (rch_all hw di hkdT) hkdT (RS_ch q7 (by simp) H2) hPL (by simp) (fun h' w1 w2 w3 => by
            have hl := upl_len T 47 di
            refine hend ([s] ++ upl T 47 di) h' _ _ _ _ (chJ_trans q7 w1) w2 w3 (by simp; omega) (fun s' hs => ?_) (by rw [pst_app, pst_upl]; rfl)
            obtain ⟨i, hi⟩ := List.mem_iff_getElem?.mp hs
            obtain ⟨e, a1, a2⟩ := w3 i s' hi
            exact a2.2.2.2.2)
          (repeat' (first | with_reducible assumption | (refine And.intro ?_ ?_) | (with_reducible intro _) | (simp [wp_eq, wpE, mk_X11_real, mg, mc_X11_real, lget, lset, popN, cats, rcv, entL, isArr, kC_s, kC_n, st1, st2, st3, st4, st5, st6, st7, st8, st9, st10, st11, st12, st13, st14, st15, st16, st17, st18, st19, st20, st21, st22, st23, st24, st25, st26, st27, st28, st29, st30, st31, st32, st33, st34, st35, st36, st37, st38, st39, st40, st41, st42, st43, st44, st45, st46, st47, st48, st49, st50, st51, st52, st53, st54, st55, st56, st57, st58, st59, st60, st61, st62, st63, st64, st65, st66, st67, st68, st69, st70, st71, st72, st73, st74, st75, st76, st77, st78, st79, st80, st81, st82, st83, st84, st85, st86, st87, st88, st89, st90, st91, R0, R_kinds, R_parents, R_nameSizes, R_names, R_pile, -Int.natCast_add, -Int.natCast_mul, hn0, gk, hk, hca, e12, hty_I, hvi_I, hvr_I, hvl_I, hsz_I, hty_R, hvi_R, hvr_R, hvl_R, hsz_R, hty_L, hvi_L, hvr_L, hvl_L, hsz_L, hty_P, hvi_P, hvr_P, hvl_P, hsz_P, hty_C, hvi_C, hvr_C, hvl_C, hsz_C, inR]))) <;> (try (first | omega | exact hz))
