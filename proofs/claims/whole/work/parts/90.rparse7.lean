theorem zK_0 : pileZ (zK []) = [] ∧ opsZ (zK []) = [] ∧ pnd (zK []) = 0 := ⟨rfl, rfl, rfl⟩
theorem r_parse {G : Nat → Nat} {d r fst : Nat} {C : mQ} {X : mX} {L : List Int} {h : mH} (hd : 6 ≤ d) (hl : L.length ≤ 100) (HR : RN r h) (HP : RP r h L) (HW : RW r h L) (hf : fst ≤ (wds L).length)
    (hC : ∀ h', chJ (sR r sPR) h h' → ((rdE L fst).1 = -1 → ppo r h' (rdE L fst).2) → C (some (.inl (rdE L fst).1)) h') :
    callG (wp G) d 127 0 0 9 [.inr (.inl (some r)), .inl (fst : Int)] h C X := by
  unfold rdE at hC
  have q1 : chJ (sR r sPR) h (hsetI (hsetI (hsetI h r 27 0) r 36 0) r 37 0) := chJ_trans (chJ_trans (chJ_set (by simp [sR, sPR])) (chJ_set (by simp [sR, sPR]))) (chJ_set (by simp [sR, sPR]))
  have HR1 := RN_ch q1 HR
  have HP1 := RP_ch q1 (by simp [sPR]) (by simp [sPR]) (by simp [sPR]) HP
  have HW1 := RW_ch q1 (by simp [sPR]) HW
  have N1 : NW r (hsetI (hsetI (hsetI h r 27 0) r 36 0) r 37 0) 0 [] := ⟨by simp [hty_I, hvi_I, hvr_I, hvl_I, hsz_I, hty_R, hvi_R, hvr_R, hvl_R, hsz_R, hty_L, hvi_L, hvr_L, hvl_L, hsz_L, hty_P, hvi_P, hvr_P, hvl_P, hsz_P, hty_C, hvi_C, hvr_C, hvl_C, hsz_C], rfl⟩
  have f36 : hvi (hsetI (hsetI (hsetI h r 27 0) r 36 0) r 37 0) r 36 = 0 := by simp [hty_I, hvi_I, hvr_I, hvl_I, hsz_I, hty_R, hvi_R, hvr_R, hvl_R, hsz_R, hty_L, hvi_L, hvr_L, hvl_L, hsz_L, hty_P, hvi_P, hvr_P, hvl_P, hsz_P, hty_C, hvi_C, hvr_C, hvl_C, hsz_C]
  have f37 : hvi (hsetI (hsetI (hsetI h r 27 0) r 36 0) r 37 0) r 37 = 0 := by simp [hty_I, hvi_I, hvr_I, hvl_I, hsz_I, hty_R, hvi_R, hvr_R, hvl_R, hsz_R, hty_L, hvi_L, hvr_L, hvl_L, hsz_L, hty_P, hvi_P, hvr_P, hvl_P, hsz_P, hty_C, hvi_C, hvr_C, hvl_C, hsz_C]
  have c16 := HW1.1
  have R0 := HR.1; have R_pile := rn_pile HR; have R_operands := rn_operands HR
  have R0z : hty (hsetI (hsetI (hsetI h r 27 0) r 36 0) r 37 0) r = some (11, 54) := HR1.1
  refine cg 5 (by omega) (fun d hd => ?_)
  have hd0 : (0 < d) = True := eq_true (by omega)
  by_cases hw : fst < (wds L).length
  · rw [if_neg (fun q => q hw)] at hC
    have hz := fun x6 x7 x8 x1 => parse_loop (G := G) (d := d) (C := C) (X := fun _ _ => False) (x1 := x1) (by omega) hl 60 fst 0 true [] (hsetI (hsetI (hsetI h r 27 0) r 36 0) r 37 0) 0 x6 x7 x8 (by have := wds_len hl; omega) hf ⟨rfl, rfl, fun q => absurd rfl q⟩ HR1 HP1 HW1 N1 (fun i y hi => by simp [zK_0.1] at hi) (fun i e hi => by simp [zK_0.2.1] at hi) (by unfold bnz; rw [zK_0.2.1, zK_0.2.2]; simp) (by omega) (by rw [f36]; rfl) (by rw [f37]; rfl) (fun h' s1 s2 => hC h' (chJ_trans q1 s1) s2)
    rw [zK_0.1, zK_0.2.1] at hz
    simp only [List.length_nil, b01, if_true] at hz
    have hwi : (fst : Int) < ((wds L).length : Int) := by omega
    generalize hg : hsetI (hsetI (hsetI h r 27 0) r 36 0) r 37 0 = zg at *
    (repeat' (first | with_reducible assumption | (refine And.intro ?_ ?_) | (with_reducible intro _) | (simp [wp_eq, wpE, mk_X11_parse, mg, mc_X11_parse, lget, lset, popN, cats, rcv, entL, isArr, kC_s, kC_n, st1, st2, st3, st4, st5, st6, st7, st8, st9, st10, st11, st12, st13, st14, st15, st16, st17, st18, st19, st20, st21, st22, st23, st24, st25, st26, st27, st28, st29, st30, st31, st32, st33, st34, st35, st36, st37, st38, st39, st40, st41, st42, st43, st44, st45, st46, st47, st48, st49, st50, st51, st52, st53, st54, st55, st56, st57, st58, st59, st60, st61, st62, st63, st64, st65, st66, st67, st68, st69, st70, st71, st72, st73, st74, st75, st76, st77, st78, st79, st80, st81, st82, st83, st84, st85, st86, st87, st88, st89, st90, st91, R0, R_pile, R_operands, hg, R0z, c16, hwi, hw, hty_I, hvi_I, hvr_I, hvl_I, hsz_I, hty_R, hvi_R, hvr_R, hvl_R, hsz_R, hty_L, hvi_L, hvr_L, hvl_L, hsz_L, hty_P, hvi_P, hvr_P, hvl_P, hsz_P, hty_C, hvi_C, hvr_C, hvl_C, hsz_C]))) <;> (try (first | omega | exact hz))
    all_goals first | omega | exact hz _ _ _ _
  · rw [if_pos hw] at hC
    have hwi : ¬ (fst : Int) < ((wds L).length : Int) := by omega
    obtain ⟨v1, v2, v3, v4, v5⟩ := aP_v (r := r) (N := 0) (h := hsetI (hsetI (hsetI h r 27 0) r 36 0) r 37 0) (k := 7) (a := 0) (b := 0)
    have q2 : chJ (sR r sPR) h (hsetI (hsetI (aP r 0 (hsetI (hsetI (hsetI h r 27 0) r 36 0) r 37 0) 7 0 0) r 35 0) r 36 1) := chJ_trans q1 (chJ_trans (chJ_trans (chJ_sub aP_ch (by simp [sPR])) (chJ_set (by simp [sR, sPR]))) (chJ_set (by simp [sR, sPR])))
    have hNW := NW_aP (k := 7) (a := 0) (b := 0) N1
    have hz := hC _ q2 (fun _ => ⟨1, 0, NW_ch (l := [135, 136]) (chJ_trans (chJ_set (by simp [sR])) (chJ_set (by simp [sR]))) (by simp) hNW, by omega, by omega, by simp [hty_I, hvi_I, hvr_I, hvl_I, hsz_I, hty_R, hvi_R, hvr_R, hvl_R, hsz_R, hty_L, hvi_L, hvr_L, hvl_L, hsz_L, hty_P, hvi_P, hvr_P, hvl_P, hsz_P, hty_C, hvi_C, hvr_C, hvl_C, hsz_C], pT_mono _ 0 (fun i _ => ⟨by rw [hvi_I, if_neg (by omega), hvi_I, if_neg (by omega)], by rw [hvi_I, if_neg (by omega), hvi_I, if_neg (by omega)], by rw [hvi_I, if_neg (by omega), hvi_I, if_neg (by omega)]⟩) (show pT _ _ _ (bTt (13, 0, 0, 0)) 0 from ⟨by rw [v1]; simp [lfD], by simp [lfD], fun q => by simp [lfD] at q⟩), by simp [hty_I, hvi_I, hvr_I, hvl_I, hsz_I, hty_R, hvi_R, hvr_R, hvl_R, hsz_R, hty_L, hvi_L, hvr_L, hvl_L, hsz_L, hty_P, hvi_P, hvr_P, hvl_P, hsz_P, hty_C, hvi_C, hvr_C, hvl_C, hsz_C, b01], by rw [hvi_I, if_neg (by omega), hvi_I, if_neg (by omega), v5 _ _ (by omega) (by omega), f37]; rfl⟩)
    have cadd : ∀ {C : mQ} {X : mX}, C (some (.inl 0)) (aP r 0 (hsetI (hsetI (hsetI h r 27 0) r 36 0) r 37 0) 7 0 0) → callG (wp G) d 126 0 0 4 [.inr (.inl (some r)), .inl 7, .inl 0, .inl 0] (hsetI (hsetI (hsetI h r 27 0) r 36 0) r 37 0) C X := fun {C X} z => r_addPart (N := 0) HR1 (by simpa using N1.1) (by omega) z
    have R0y : hty (aP r 0 (hsetI (hsetI (hsetI h r 27 0) r 36 0) r 37 0) 7 0 0) r = some (11, 54) := HR1.1
    generalize hg : hsetI (hsetI (hsetI h r 27 0) r 36 0) r 37 0 = zg at *
    generalize aP r 0 zg 7 0 0 = zy at *
    simp only at hz
    (repeat' (first | with_reducible assumption | (refine cadd ?_) | (refine And.intro ?_ ?_) | (with_reducible intro _) | (simp [wp_eq, wpE, mk_X11_parse, mg, mc_X11_parse, lget, lset, popN, cats, rcv, entL, isArr, kC_s, kC_n, st1, st2, st3, st4, st5, st6, st7, st8, st9, st10, st11, st12, st13, st14, st15, st16, st17, st18, st19, st20, st21, st22, st23, st24, st25, st26, st27, st28, st29, st30, st31, st32, st33, st34, st35, st36, st37, st38, st39, st40, st41, st42, st43, st44, st45, st46, st47, st48, st49, st50, st51, st52, st53, st54, st55, st56, st57, st58, st59, st60, st61, st62, st63, st64, st65, st66, st67, st68, st69, st70, st71, st72, st73, st74, st75, st76, st77, st78, st79, st80, st81, st82, st83, st84, st85, st86, st87, st88, st89, st90, st91, R0, R_pile, R_operands, hg, R0z, R0y, c16, hwi, hw, hd0, hty_I, hvi_I, hvr_I, hvl_I, hsz_I, hty_R, hvi_R, hvr_R, hvl_R, hsz_R, hty_L, hvi_L, hvr_L, hvl_L, hsz_L, hty_P, hvi_P, hvr_P, hvl_P, hsz_P, hty_C, hvi_C, hvr_C, hvl_C, hsz_C]))) <;> (try (first | omega | exact hz))
