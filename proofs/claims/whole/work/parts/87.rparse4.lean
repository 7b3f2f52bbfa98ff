/-! the reference: a test is read -/
def sPQ : List Nat := [19, 20, 21, 23, 24, 127, 136, 137]
theorem p164 {G : Nat → Nat} {d r w N tn : Nat} {x1 x7 x8 : Option mV} {C : mQ} {X : mX} {h : mH} {M : List Int} {z : aZ} {t : aK} {pB dB : Bool} (hd : 4 ≤ d) (hc : z.2.2 = none) (HR : RN r h) (HN : NW r h N M) (HL : PIL r h (pileZ z)) (HO : OP r h N (opsZ z)) (hb : bnz z N ≤ 51) (hl : z.1.length ≤ 50) (hw : w ≤ 100) (ht : t.1 = tn + 6) (htn : tn ≤ 8) (ht2 : t.1 < 12 → t.2.1 = w) (f36 : hvi h r 36 = b01 pB) (f37 : hvi h r 37 = b01 dB)
    (hC : ∀ h' N' x7 x8, chJ (sR r sPQ) h h' → NW r h' N' (M ++ (if t.1 = 11 then [(w : Int)] else [])) → PIL r h' (pileZ (shT t z)) → OP r h' N' (opsZ (shT t z)) → bnz (shT t z) N' = bnz z N + 2 → hvi h' r 36 = b01 (pB || t.1 == 13) → hvi h' r 37 = b01 (dB || t.1 == 14) → wp G d 127 100053 [some (.inr (.inl (some r))), x1, some (.inl ((pileZ (shT t z)).length : Int)), some (.inl ((opsZ (shT t z)).length : Int)), some (.inl 0), some (.inl ((w + 1 : Nat) : Int)), some (.inl (tn : Int)), x7, x8] [] h' 0 0 C X) :
    wp G d 127 164 [some (.inr (.inl (some r))), x1, some (.inl ((pileZ z).length : Int)), some (.inl ((opsZ z).length : Int)), some (.inl 1), some (.inl (w : Int)), some (.inl (tn : Int)), x7, x8] [] h 0 0 C X := by
  have hd0 : (0 < d) = True := eq_true (by omega)
  have hpl := pileZ_len z
  obtain ⟨Ls, ⟨o, a, k⟩, cu⟩ := z
  simp only at hc hl
  subst hc
  simp only [Option.toList, List.length_nil, Nat.add_zero] at hpl
  have hb' : N + (opsZ (Ls, (o, a, k), none)).length + (pndL Ls + k) ≤ 51 := hb
  have hpn : pnd (Ls, (o, a, k), none) = pndL Ls + k := rfl
  rw [hpn] at hpl
  -- flags
  have s2 : ∀ h2, chJ (sR r [136, 137]) h h2 → hvi h2 r 36 = b01 (pB || t.1 == 13) → hvi h2 r 37 = b01 (dB || t.1 == 14) → wp G d 127 210 [some (.inr (.inl (some r))), x1, some (.inl ((pileZ (Ls, (o, a, k), none)).length : Int)), some (.inl ((opsZ (Ls, (o, a, k), none)).length : Int)), some (.inl 1), some (.inl (w : Int)), some (.inl (tn : Int)), x7, x8] [] h2 0 0 C X := by
    intro h2 q2 g36 g37
    have HR2 := RN_ch q2 HR
    have R0 := HR2.1; have R_pile := rn_pile HR2; have R_operands := rn_operands HR2
    have HN2 : NW r h2 N M := NW_ch q2 (by simp) HN
    have HL2 : PIL r h2 (pileZ (Ls, (o, a, k), none)) := PIL_ch q2 (by simp) HL
    have HO2 : OP r h2 N (opsZ (Ls, (o, a, k), none)) := OP_ch q2 (by simp) HO
    have hPH : PH r (aP r N h2 (tn : Int) (w : Int) 0) (bTt t) N := by
      obtain ⟨v1, v2, v3, -, -⟩ := aP_v (r := r) (N := N) (h := h2) (k := (tn : Int)) (a := (w : Int)) (b := 0)
      refine ⟨?_, ?_, fun hh => ?_⟩
      · rw [v1]; simp [lfD]; omega
      · simp [lfD]; omega
      · simp [lfD] at hh ⊢; rw [v2, ht2 hh]
    have HO3 := OP_last HO2 rfl hPH
    have q3 : chJ (sR r sAP) h2 (hsetI (aP r N h2 (tn : Int) (w : Int) 0) (r + 24) (opsZ (Ls, (o, a, k), none)).length (N : Int)) := chJ_trans (chJ_sub aP_ch (by simp [sAP])) (chJ_set (by simp [sR, sAP]))
    have HN3 : NW r (hsetI (aP r N h2 (tn : Int) (w : Int) 0) (r + 24) (opsZ (Ls, (o, a, k), none)).length (N : Int)) (N + 1) (M ++ (if t.1 = 11 then [(w : Int)] else [])) := by
      have := NW_aP (k := (tn : Int)) (a := (w : Int)) (b := 0) HN2
      have e5 : ((tn : Int) = 5) = (t.1 = 11) := by rw [ht]; apply propext; omega
      simp only [e5] at this
      exact NW_ch (l := [24]) (chJ_set (by simp [sR])) (by simp) this
    have e1 : pileZ (Ls, (o, a, k), none) = (pileL Ls ++ pileV (o, a, 0)) ++ List.replicate k 9 := by cases o <;> cases a <;> simp [pileZ, pileV]
    have HL3 : PIL r (hsetI (aP r N h2 (tn : Int) (w : Int) 0) (r + 24) (opsZ (Ls, (o, a, k), none)).length (N : Int)) ((pileL Ls ++ pileV (o, a, 0)) ++ List.replicate k 9) := by rw [← e1]; exact PIL_ch q3 (by simp [sAP]) HL2
    have HR3 := RN_ch q3 HR2
    have cadd : ∀ {C : mQ} {X : mX}, C (some (.inl (N : Int))) (aP r N h2 (tn : Int) (w : Int) 0) → callG (wp G) d 126 0 0 4 [.inr (.inl (some r)), .inl (tn : Int), .inl (w : Int), .inl 0] h2 C X := fun {C X} z => r_addPart HR2 HN2.1 (by omega) z
    have lY : (pileL Ls ++ pileV (o, a, 0)).length + k = (pileZ (Ls, (o, a, k), none)).length := by rw [e1]; simp only [List.length_append, List.length_replicate]
    have cn : ∀ {C : mQ} {X : mX} {y zz : Int}, y = ((pileZ (Ls, (o, a, k), none)).length : Int) → zz = (((opsZ (Ls, (o, a, k), none)).length : Int) + 1) → (∀ h', chJ (sR r sAP) (hsetI (aP r N h2 (tn : Int) (w : Int) 0) (r + 24) (opsZ (Ls, (o, a, k), none)).length (N : Int)) h' → NW r h' (N + 1 + k) (M ++ (if t.1 = 11 then [(w : Int)] else [])) → OP r h' (N + 1 + k) (opsZ (Ls, (o, a, k), none) ++ [nts k (bTt t)]) → C (some (.inl ((pileL Ls ++ pileV (o, a, 0)).length : Int))) h') → callG (wp G) d 129 0 0 4 [.inr (.inl (some r)), .inl y, .inl zz] (hsetI (aP r N h2 (tn : Int) (w : Int) 0) (r + 24) (opsZ (Ls, (o, a, k), none)).length (N : Int)) C X := fun {C X y zz} hy hzz z => r_applyNots (by omega) (by omega) (by omega) (by omega) HR3 HN3 HO3 HL3 (fun i hi => pileV_top hi) (by rw [hy, ← lY]) (by rw [hzz]; omega) z
    have eT1 : pileZ (shT t (Ls, (o, a, k), none)) = pileL Ls ++ pileV (o, a, 0) := rfl
    have eT2 : opsZ (shT t (Ls, (o, a, k), none)) = opsZ (Ls, (o, a, k), none) ++ [nts k (bTt t)] := by simp [shT, opsZ, opsV]
    have nb : bnz (shT t (Ls, (o, a, k), none)) (N + 1 + k) = bnz (Ls, (o, a, k), none) N + 2 := by
      unfold bnz
      rw [eT2]
      simp only [List.length_append, List.length_cons, List.length_nil]
      show N + 1 + k + ((opsZ (Ls, (o, a, k), none)).length + 1) + (pndL Ls + 0) = N + (opsZ (Ls, (o, a, k), none)).length + (pndL Ls + k) + 2
      omega
    have hfin := fun h' x7 x8 (q4 : chJ (sR r sAP) (hsetI (aP r N h2 (tn : Int) (w : Int) 0) (r + 24) (opsZ (Ls, (o, a, k), none)).length (N : Int)) h') n4 o4 => hC h' (N + 1 + k) x7 x8 (chJ_trans (chJ_sub q2 (by simp [sPQ])) (chJ_trans (chJ_sub q3 (by simp [sAP, sPQ])) (chJ_sub q4 (by simp [sAP, sPQ])))) n4 (by rw [eT1]; exact PIL_ch q4 (by simp [sAP]) (PIL_pre HL3)) (by rw [eT2]; exact o4) nb (by rw [chJ_fld q4 (by simp [sAP]) (by simp [sAP]), chJ_fld q3 (by simp [sAP]) (by simp [sAP])]; exact g36) (by rw [chJ_fld q4 (by simp [sAP]) (by simp [sAP]), chJ_fld q3 (by simp [sAP]) (by simp [sAP])]; exact g37)
    rw [eT1, eT2] at hfin
    rw [show ((opsZ (Ls, (o, a, k), none) ++ [nts k (bTt t)]).length : Int) = ((opsZ (Ls, (o, a, k), none)).length : Int) + 1 by simp] at hfin
    have R24 : hty (aP r N h2 (tn : Int) (w : Int) 0) (r + 24) = some (20, 60) := R_operands.2
    have R0z : hty (hsetI (aP r N h2 (tn : Int) (w : Int) 0) (r + 24) (opsZ (Ls, (o, a, k), none)).length (N : Int)) r = some (11, 54) := HR3.1
    generalize hgg : hsetI (aP r N h2 (tn : Int) (w : Int) 0) (r + 24) (opsZ (Ls, (o, a, k), none)).length (N : Int) = zg2 at *
    generalize aP r N h2 (tn : Int) (w : Int) 0 = zg at *
    have hol : (opsZ (Ls, (o, a, k), none)).length < 60 := by omega
    generalize (opsZ (Ls, (o, a, k), none)).length = by2 at *
    generalize (pileZ (Ls, (o, a, k), none)).length = by1 at *
    generalize (pileL Ls ++ pileV (o, a, 0)).length = by3 at *
    have hz := hfin
    (repeat' (first | with_reducible assumption | (refine cadd ?_) | (refine cn rfl rfl ?_) | (refine And.intro ?_ ?_) | (with_reducible intro _) | (simp [wp_eq, wpE, mk_X11_parse, mg, mc_X11_parse, lget, lset, popN, cats, rcv, entL, isArr, kC_s, kC_n, st1, st2, st3, st4, st5, st6, st7, st8, st9, st10, st11, st12, st13, st14, st15, st16, st17, st18, st19, st20, st21, st22, st23, st24, st25, st26, st27, st28, st29, st30, st31, st32, st33, st34, st35, st36, st37, st38, st39, st40, st41, st42, st43, st44, st45, st46, st47, st48, st49, st50, st51, st52, st53, st54, st55, st56, st57, st58, st59, st60, st61, st62, st63, st64, st65, st66, st67, st68, st69, st70, st71, st72, st73, st74, st75, st76, st77, st78, st79, st80, st81, st82, st83, st84, st85, st86, st87, st88, st89, st90, st91, R0, R_pile, R_operands, -Int.natCast_add, hgg, R24, R0z, hd0, inR, show (w : Int) + 1 = ((w + 1 : Nat) : Int) by omega]))) <;> (try (first | omega | exact hz))
    all_goals first | omega | exact hz _ _ _ (by assumption) (by assumption) (by assumption)
  have R0 := HR.1; have R_pile := rn_pile HR; have R_operands := rn_operands HR
  have q2 : chJ (sR r [136, 137]) h (hsetI (hsetI h r 36 (b01 (pB || t.1 == 13))) r 37 (b01 (dB || t.1 == 14))) := chJ_trans (chJ_set (by simp [sR])) (chJ_set (by simp [sR]))
  have hz := s2 _ q2 (by simp [hty_I, hvi_I, hvr_I, hvl_I, hsz_I, hty_R, hvi_R, hvr_R, hvl_R, hsz_R, hty_L, hvi_L, hvr_L, hvl_L, hsz_L, hty_P, hvi_P, hvr_P, hvl_P, hsz_P, hty_C, hvi_C, hvr_C, hvl_C, hsz_C]) (by simp [hty_I, hvi_I, hvr_I, hvl_I, hsz_I, hty_R, hvi_R, hvr_R, hvl_R, hsz_R, hty_L, hvi_L, hvr_L, hvl_L, hsz_L, hty_P, hvi_P, hvr_P, hvl_P, hsz_P, hty_C, hvi_C, hvr_C, hvl_C, hsz_C])
  have t13 : (t.1 == 13) = decide (tn = 7) := by rw [ht]; by_cases q : tn = 7 <;> simp [q] <;> omega
  have t14 : (t.1 == 14) = decide (tn = 8) := by rw [ht]; by_cases q : tn = 8 <;> simp [q] <;> omega
  rw [t13, t14] at hz
  generalize (pileZ (Ls, (o, a, k), none)).length = by1 at *
  generalize (opsZ (Ls, (o, a, k), none)).length = by2 at *
  by_cases n7 : tn = 7
  · subst n7
    cases pB <;> cases dB
    all_goals
      simp [b01] at hz f36 f37
      (repeat' (first | with_reducible assumption | (refine And.intro ?_ ?_) | (with_reducible intro _) | (simp [wp_ne 210, wpE, mk_X11_parse, mg, mc_X11_parse, lget, lset, popN, cats, rcv, entL, isArr, kC_s, kC_n, st1, st2, st3, st4, st5, st6, st7, st8, st9, st10, st11, st12, st13, st14, st15, st16, st17, st18, st19, st20, st21, st22, st23, st24, st25, st26, st27, st28, st29, st30, st31, st32, st33, st34, st35, st36, st37, st38, st39, st40, st41, st42, st43, st44, st45, st46, st47, st48, st49, st50, st51, st52, st53, st54, st55, st56, st57, st58, st59, st60, st61, st62, st63, st64, st65, st66, st67, st68, st69, st70, st71, st72, st73, st74, st75, st76, st77, st78, st79, st80, st81, st82, st83, st84, st85, st86, st87, st88, st89, st90, st91, R0, R_pile, R_operands, f36, f37, hty_I, hvi_I, hvr_I, hvl_I, hsz_I, hty_R, hvi_R, hvr_R, hvl_R, hsz_R, hty_L, hvi_L, hvr_L, hvl_L, hsz_L, hty_P, hvi_P, hvr_P, hvl_P, hsz_P, hty_C, hvi_C, hvr_C, hvl_C, hsz_C]))) <;> (try (first | omega | exact hz))
  · by_cases n8 : tn = 8
    · subst n8
      cases pB <;> cases dB
      all_goals
        simp [b01] at hz f36 f37
        (repeat' (first | with_reducible assumption | (refine And.intro ?_ ?_) | (with_reducible intro _) | (simp [wp_ne 210, wpE, mk_X11_parse, mg, mc_X11_parse, lget, lset, popN, cats, rcv, entL, isArr, kC_s, kC_n, st1, st2, st3, st4, st5, st6, st7, st8, st9, st10, st11, st12, st13, st14, st15, st16, st17, st18, st19, st20, st21, st22, st23, st24, st25, st26, st27, st28, st29, st30, st31, st32, st33, st34, st35, st36, st37, st38, st39, st40, st41, st42, st43, st44, st45, st46, st47, st48, st49, st50, st51, st52, st53, st54, st55, st56, st57, st58, st59, st60, st61, st62, st63, st64, st65, st66, st67, st68, st69, st70, st71, st72, st73, st74, st75, st76, st77, st78, st79, st80, st81, st82, st83, st84, st85, st86, st87, st88, st89, st90, st91, R0, R_pile, R_operands, f36, f37, hty_I, hvi_I, hvr_I, hvl_I, hsz_I, hty_R, hvi_R, hvr_R, hvl_R, hsz_R, hty_L, hvi_L, hvr_L, hvl_L, hsz_L, hty_P, hvi_P, hvr_P, hvl_P, hsz_P, hty_C, hvi_C, hvr_C, hvl_C, hsz_C]))) <;> (try (first | omega | exact hz))
    · have n7i : ¬ (tn : Int) = 7 := by omega
      have n8i : ¬ (tn : Int) = 8 := by omega
      cases pB <;> cases dB
      all_goals
        simp [b01, n7, n8] at hz f36 f37
        (repeat' (first | with_reducible assumption | (refine And.intro ?_ ?_) | (with_reducible intro _) | (simp [wp_ne 210, wpE, mk_X11_parse, mg, mc_X11_parse, lget, lset, popN, cats, rcv, entL, isArr, kC_s, kC_n, st1, st2, st3, st4, st5, st6, st7, st8, st9, st10, st11, st12, st13, st14, st15, st16, st17, st18, st19, st20, st21, st22, st23, st24, st25, st26, st27, st28, st29, st30, st31, st32, st33, st34, st35, st36, st37, st38, st39, st40, st41, st42, st43, st44, st45, st46, st47, st48, st49, st50, st51, st52, st53, st54, st55, st56, st57, st58, st59, st60, st61, st62, st63, st64, st65, st66, st67, st68, st69, st70, st71, st72, st73, st74, st75, st76, st77, st78, st79, st80, st81, st82, st83, st84, st85, st86, st87, st88, st89, st90, st91, R0, R_pile, R_operands, f36, f37, n7i, n8i, hty_I, hvi_I, hvr_I, hvl_I, hsz_I, hty_R, hvi_R, hvr_R, hvl_R, hsz_R, hty_L, hvi_L, hvr_L, hvl_L, hsz_L, hty_P, hvi_P, hvr_P, hvl_P, hsz_P, hty_C, hvi_C, hvr_C, hvl_C, hsz_C]))) <;> (try (first | omega | exact hz))
