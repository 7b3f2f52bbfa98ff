theorem c_read {G : Nat → Nat} {d x l n0 fst : Nat} {h : mH} {C : mQ} {X : mX} {L : List Int} (hd : 10 ≤ d) (hxl : l + 4 ≤ x) (HX : XC x l h n0) (H : LI l h L) (hf : fst ≤ (wds L).length)
    (hC : ∀ h', chI (S5 x) h h' → XC x l h' (rdE L fst).2.length → EP x h' (rdE L fst).2 → C (some (.inl (rdE L fst).1)) h') :
    callG (wp G) d 4 0 0 6 [.inr (.inl (some x)), .inl (fst : Int)] h C X := by
  obtain ⟨e1, e2, e3, e4, e5, e6, e7, e8, e9, e10, e11⟩ := HX
  have a1 := H.1.1
  have hnS : ∀ j, j < 4 → ¬ S5 x (l + j) := fun j hj q => by unfold S5 at q; omega
  have q1 : chI (S5 x) h (hsetI (hsetI (hsetI h x 5 0) x 6 0) x 7 0) := chI_trans (chI_trans (chI_set (Or.inl rfl)) (chI_set (Or.inl rfl))) (chI_set (Or.inl rfl))
  have H1 := LI_cI q1 (hnS 0 (by omega)) (hnS 1 (by omega)) (hnS 2 (by omega)) (hnS 3 (by omega)) H
  have HX1 : XC x l (hsetI (hsetI (hsetI h x 5 0) x 6 0) x 7 0) ([] : List aK).length := ⟨e1, e2, e3, e4, e5, e6, e7, e8, e9, e10, by simp [hty_I, hvi_I, hvr_I, hvl_I, hsz_I, hty_R, hvi_R, hvr_R, hvl_R, hsz_R, hty_L, hvi_L, hvr_L, hvl_L, hsz_L, hty_P, hvi_P, hvr_P, hvl_P, hsz_P, hty_C, hvi_C, hvr_C, hvl_C, hsz_C]⟩
  have HE1 : EP x (hsetI (hsetI (hsetI h x 5 0) x 6 0) x 7 0) [] := ⟨by simp, by simp [hty_I, hvi_I, hvr_I, hvl_I, hsz_I, hty_R, hvi_R, hvr_R, hvl_R, hsz_R, hty_L, hvi_L, hvr_L, hvl_L, hsz_L, hty_P, hvi_P, hvr_P, hvl_P, hsz_P, hty_C, hvi_C, hvr_C, hvl_C, hsz_C], by simp [hty_I, hvi_I, hvr_I, hvl_I, hsz_I, hty_R, hvi_R, hvr_R, hvl_R, hsz_R, hty_L, hvi_L, hvr_L, hvl_L, hsz_L, hty_P, hvi_P, hvr_P, hvl_P, hsz_P, hty_C, hvi_C, hvr_C, hvl_C, hsz_C, b01], by simp [hty_I, hvi_I, hvr_I, hvl_I, hsz_I, hty_R, hvi_R, hvr_R, hvl_R, hsz_R, hty_L, hvi_L, hvr_L, hvl_L, hsz_L, hty_P, hvi_P, hvr_P, hvl_P, hsz_P, hty_C, hvi_C, hvr_C, hvl_C, hsz_C, b01], fun i t hi => by simp at hi⟩
  have h50 := wds_len H.2.1.1
  unfold rdE at hC
  refine cg 9 (by omega) (fun d hd => ?_)
  have hd0 : (0 < d) = True := eq_true (by omega)
  have u1 : hty (hsetI (hsetI (hsetI h x 5 0) x 6 0) x 7 0) x = some (1, 8) := e1
  have u2 : hvr (hsetI (hsetI (hsetI h x 5 0) x 6 0) x 7 0) x 0 = some l := e2
  have u3 : hty (hsetI (hsetI (hsetI h x 5 0) x 6 0) x 7 0) l = some (4, 5) := a1
  have hgo : ∀ h1, h1 = hsetI (hsetI (hsetI h x 5 0) x 6 0) x 7 0 → wp G d 4 15 [some (.inr (.inl (some x))), some (.inl (fst : Int)), none, none, none, none] [] h1 0 0 C (fun _ _ => False) := by
    intro h1 he
    rw [← he] at u1 u2 u3 HX1 HE1 H1 q1
    have b4 : hvi h1 l 4 = ((wds L).length : Int) := H1.2.1.2.2.2.1
    by_cases hw : fst < (wds L).length
    · rw [if_neg (fun q => q hw)] at hC
      have hz := fun x5 => read_loop (G := G) (d := d) (C := C) (X := fun _ _ => False) (x1 := some (.inl (fst : Int))) (by omega) hxl 60 fst 0 true [] h1 x5 (by omega) (by omega) (by simp) HX1 HE1 H1 (fun h' z1 z2 z3 => hC h' (chI_trans q1 z1) z2 z3) hf
      have hwi : ¬ ((wds L).length : Int) ≤ (fst : Int) := by omega
      simp [wp_eq, wpE, mk_X1_read, mg, mc_X1_read, lget, lset, popN, cats, rcv, entL, isArr, kC_s, kC_n, st1, st2, st3, st4, st5, st6, st7, st8, st9, st10, st11, st12, st13, st14, st15, st16, st17, st18, st19, st20, st21, st22, st23, st24, st25, st26, st27, st28, st29, st30, st31, st32, st33, st34, st35, st36, st37, st38, st39, st40, st41, st42, st43, st44, st45, st46, st47, st48, st49, st50, st51, st52, st53, st54, st55, st56, st57, st58, st59, st60, st61, st62, st63, st64, st65, st66, st67, st68, st69, st70, st71, st72, st73, st74, st75, st76, st77, st78, st79, st80, st81, st82, st83, st84, st85, st86, st87, st88, st89, st90, st91, u1, u2, u3, b4, hw, show ¬ (wds L).length ≤ fst by omega]
      exact hz _
    · rw [if_pos hw] at hC
      have cap : ∀ {C : mQ} {X : mX}, (∀ h', chI (fun a => a = x ∨ a = x + 1) h1 h' → XC x l h' ([] ++ [((13, 0, 0, 0) : aK)]).length → EP x h' ([] ++ [((13, 0, 0, 0) : aK)]) → C none h') → callG (wp G) d 5 0 0 2 [.inr (.inl (some x)), .inl 13] h1 C X := fun {C X} q => c_addPart (t := (13, 0, 0, 0)) HX1 HE1 (by simp) (fun z => by simp at z) (fun z => by simp at z) (fun z => by simp at z) q
      simp [wp_eq, wpE, mk_X1_read, mg, mc_X1_read, lget, lset, popN, cats, rcv, entL, isArr, kC_s, kC_n, st1, st2, st3, st4, st5, st6, st7, st8, st9, st10, st11, st12, st13, st14, st15, st16, st17, st18, st19, st20, st21, st22, st23, st24, st25, st26, st27, st28, st29, st30, st31, st32, st33, st34, st35, st36, st37, st38, st39, st40, st41, st42, st43, st44, st45, st46, st47, st48, st49, st50, st51, st52, st53, st54, st55, st56, st57, st58, st59, st60, st61, st62, st63, st64, st65, st66, st67, st68, st69, st70, st71, st72, st73, st74, st75, st76, st77, st78, st79, st80, st81, st82, st83, st84, st85, st86, st87, st88, st89, st90, st91, u1, u2, u3, b4, hw, hd0, show (wds L).length ≤ fst by omega]
      refine cap (fun zzh zz1 zz2 zz3 => ?_)
      have hz := hC zzh (chI_trans q1 (chI_mono (fun a z => by rcases z with z | z; exact Or.inl z; exact Or.inr (Or.inl z)) zz1)) zz2 zz3
      (repeat' (first | with_reducible assumption | (refine And.intro ?_ ?_) | (with_reducible intro _) | (simp [wp_eq, wpE, mk_X1_read, mg, mc_X1_read, lget, lset, popN, cats, rcv, entL, isArr, kC_s, kC_n, st1, st2, st3, st4, st5, st6, st7, st8, st9, st10, st11, st12, st13, st14, st15, st16, st17, st18, st19, st20, st21, st22, st23, st24, st25, st26, st27, st28, st29, st30, st31, st32, st33, st34, st35, st36, st37, st38, st39, st40, st41, st42, st43, st44, st45, st46, st47, st48, st49, st50, st51, st52, st53, st54, st55, st56, st57, st58, st59, st60, st61, st62, st63, st64, st65, st66, st67, st68, st69, st70, st71, st72, st73, st74, st75, st76, st77, st78, st79, st80, st81, st82, st83, st84, st85, st86, st87, st88, st89, st90, st91]))) <;> (try (first | omega | exact hz))
  have hz := hgo _ rfl
  simp [wp_ne 15, wpE, mk_X1_read, mg, mc_X1_read, lget, lset, popN, cats, rcv, entL, isArr, kC_s, kC_n, st1, st2, st3, st4, st5, st6, st7, st8, st9, st10, st11, st12, st13, st14, st15, st16, st17, st18, st19, st20, st21, st22, st23, st24, st25, st26, st27, st28, st29, st30, st31, st32, st33, st34, st35, st36, st37, st38, st39, st40, st41, st42, st43, st44, st45, st46, st47, st48, st49, st50, st51, st52, st53, st54, st55, st56, st57, st58, st59, st60, st61, st62, st63, st64, st65, st66, st67, st68, st69, st70, st71, st72, st73, st74, st75, st76, st77, st78, st79, st80, st81, st82, st83, st84, st85, st86, st87, st88, st89, st90, st91, e1, hty_I]
  exact hz
