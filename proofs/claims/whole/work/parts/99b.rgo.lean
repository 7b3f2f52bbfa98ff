/-! THE REFERENCE goes through the tree -/
def sGT : List Nat := [16, 23, 25, 26, 27, 28, 29, 30, 31, 120, 121, 139, 140, 141, 143, 144, 145]
def FR (r : Nat) (h : mH) (D n : Nat) (zl : Int) (ln st : Nat) : Prop := hvi h (r + 27) D = (n : Int) ∧ hvi h (r + 28) D = zl ∧ hvi h (r + 29) D = (ln : Int) ∧ hvi h (r + 30) D = (st : Int)
def lowS (r D : Nat) (h h' : mH) : Prop := ∀ i, i < D → hvi h' (r + 27) i = hvi h (r + 27) i ∧ hvi h' (r + 28) i = hvi h (r + 28) i ∧ hvi h' (r + 29) i = hvi h (r + 29) i ∧ hvi h' (r + 30) i = hvi h (r + 30) i
theorem low_tr {r D : Nat} {h1 h2 h3 : mH} (p : lowS r D h1 h2) (q : lowS r D h2 h3) : lowS r D h1 h3 := fun i hi => ⟨(q i hi).1.trans (p i hi).1, (q i hi).2.1.trans (p i hi).2.1, (q i hi).2.2.1.trans (p i hi).2.2.1, (q i hi).2.2.2.trans (p i hi).2.2.2⟩
theorem low_ch {r D : Nat} {h h' : mH} {l : List Nat} (q : chJ (sR r l) h h') (hl : ∀ c ∈ [27, 28, 29, 30], ¬ c ∈ l) : lowS r D h h' := fun i _ => ⟨chJ_row q (by omega) (hl _ (by simp)) i, chJ_row q (by omega) (hl _ (by simp)) i, chJ_row q (by omega) (hl _ (by simp)) i, chJ_row q (by omega) (hl _ (by simp)) i⟩
theorem FR_low {r D D' n ln st : Nat} {zl : Int} {h h' : mH} (q : lowS r D' h h') (hD : D < D') (H : FR r h D n zl ln st) : FR r h' D n zl ln st := ⟨by rw [(q D hD).1]; exact H.1, by rw [(q D hD).2.1]; exact H.2.1, by rw [(q D hD).2.2.1]; exact H.2.2.1, by rw [(q D hD).2.2.2]; exact H.2.2.2⟩
theorem gt_cp {G : Nat → Nat} {d r e : Nat} {C : mQ} {X : mX} {Q s : List Int} {x1 x2 x3 x4 : Option mV} (bs : bd s) (he : e < 576) (hs : s.length ≤ 14) (hQ : Q.length ≤ 900) : ∀ (m j : Nat) (h : mH), j + m = s.length → RN r h → hvi h r 43 = ((Q.length + j : Nat) : Int) → ro h (r + 26) 0 (Q ++ s.take j) → hvi h (r + 11) e = (s.length : Int) → ro h (r + 12) (14 * e) s →
    (∀ h' x6, chJ (sR r [26, 143]) h h' → hvi h' r 43 = ((Q ++ s).length : Int) → ro h' (r + 26) 0 (Q ++ s) → wp G d 139 270 [some (.inr (.inl (some r))), x1, x2, x3, x4, some (.inl (e : Int)), x6] [] h' 0 0 C X) →
    wp G d 139 100220 [some (.inr (.inl (some r))), x1, x2, x3, x4, some (.inl (e : Int)), some (.inl (j : Int))] [] h 0 0 C X := by
  intro m
  induction m with
  | zero =>
    intro j h hj HR h43 hr h11 h12 hC
    have R0 := HR.1; have R_targets := rn_targets HR; have R_nameSizes := rn_nameSizes HR; have R_names := rn_names HR; have R_path := rn_path HR; have R_dirs := rn_dirs HR; have R_lasts := rn_lasts HR; have R_lengths := rn_lengths HR; have R_starts := rn_starts HR
    have hjs : j = s.length := by omega
    rw [List.take_of_length_le (by omega)] at hr
    have hz := fun x6 => hC h x6 chJ_refl (by rw [h43, hjs, List.length_append]) hr
    rw [wp_hd]
    (repeat' (first | with_reducible assumption | (refine And.intro ?_ ?_) | (with_reducible intro _) | (simp [wp_ne 270, wpE, mk_X11_goThrough, mg, mc_X11_goThrough, lget, lset, popN, cats, rcv, entL, isArr, kC_s, kC_n, st1, st2, st3, st4, st5, st6, st7, st8, st9, st10, st11, st12, st13, st14, st15, st16, st17, st18, st19, st20, st21, st22, st23, st24, st25, st26, st27, st28, st29, st30, st31, st32, st33, st34, st35, st36, st37, st38, st39, st40, st41, st42, st43, st44, st45, st46, st47, st48, st49, st50, st51, st52, st53, st54, st55, st56, st57, st58, st59, st60, st61, st62, st63, st64, st65, st66, st67, st68, st69, st70, st71, st72, st73, st74, st75, st76, st77, st78, st79, st80, st81, st82, st83, st84, st85, st86, st87, st88, st89, st90, st91, R0, R_targets, R_nameSizes, R_names, R_path, R_dirs, R_lasts, R_lengths, R_starts, h11, show (s.length : Int) ≤ (j : Int) by omega]))) <;> (try (first | omega | exact hz))
    all_goals exact hz _
  | succ m ih =>
    intro j h hj HR h43 hr h11 h12 hC
    have R0 := HR.1; have R_targets := rn_targets HR; have R_nameSizes := rn_nameSizes HR; have R_names := rn_names HR; have R_path := rn_path HR; have R_dirs := rn_dirs HR; have R_lasts := rn_lasts HR; have R_lengths := rn_lengths HR; have R_starts := rn_starts HR
    have hjs : j < s.length := by omega
    have cj := h12 j hjs
    have e1 : (14 * (e : Int) + (j : Int)).toNat = 14 * e + j := by omega
    have hbj : 0 ≤ lf s j ∧ lf s j < 256 := bs _ (by
      have : lf s j = s[j] := by simp [lf, List.getElem?_eq_getElem hjs]
      rw [this]; exact List.getElem_mem _)
    have htk : Q ++ s.take (j + 1) = (Q ++ s.take j) ++ [lf s j] := by
      rw [List.take_succ, List.getElem?_eq_getElem hjs, List.append_assoc]
      simp [lf, List.getElem?_eq_getElem hjs]
    have hql : (Q ++ s.take j).length = Q.length + j := by simp; omega
    have q1 : chJ (sR r [26, 143]) h (hsetI (hsetI h (r + 26) (Q.length + j) (lf s j)) r 43 (((Q.length + j : Nat) : Int) + 1)) := chJ_trans (chJ_set (by simp [sR])) (chJ_set (by simp [sR]))
    have hz := ih (j + 1) (hsetI (hsetI h (r + 26) (Q.length + j) (lf s j)) r 43 (((Q.length + j : Nat) : Int) + 1)) (by omega) (RN_ch q1 HR) (by rw [hvi_I, if_pos ⟨rfl, rfl⟩]; omega) (by
      rw [htk]
      intro i hi
      simp only [List.length_append, List.length_cons, List.length_nil] at hi
      rw [hvi_I, if_neg (by omega), hvi_I]
      by_cases hi2 : i < (Q ++ s.take j).length
      · rw [if_neg (by omega), lf_app_l hi2]; exact hr i hi2
      · rw [if_pos (by simp only [List.length_append] at hi2; have := hql; simp only [List.length_append] at this; omega), lf_app_r (by omega)]
        have hi3 : i - (Q ++ s.take j).length = 0 := by simp only [List.length_append] at hi2 ⊢; omega
        rw [hi3]; rfl) (by rw [chJ_row q1 (by omega) (by simp)]; exact h11) (fun i hi => by rw [chJ_row q1 (by omega) (by simp)]; exact h12 i hi) (fun h' x6 s1 s2 s3 => hC h' x6 (chJ_trans q1 s1) s2 s3)
    rw [wp_hd]
    have e2 : (((Q.length + j : Nat) : Int)).toNat = Q.length + j := by omega
    generalize lf s j = z at *
    generalize hqj : Q.length + j = qj at *
    (repeat' (first | with_reducible assumption | (refine And.intro ?_ ?_) | (with_reducible intro _) | (simp [wp_ne 270, wpE, mk_X11_goThrough, mg, mc_X11_goThrough, lget, lset, popN, cats, rcv, entL, isArr, kC_s, kC_n, st1, st2, st3, st4, st5, st6, st7, st8, st9, st10, st11, st12, st13, st14, st15, st16, st17, st18, st19, st20, st21, st22, st23, st24, st25, st26, st27, st28, st29, st30, st31, st32, st33, st34, st35, st36, st37, st38, st39, st40, st41, st42, st43, st44, st45, st46, st47, st48, st49, st50, st51, st52, st53, st54, st55, st56, st57, st58, st59, st60, st61, st62, st63, st64, st65, st66, st67, st68, st69, st70, st71, st72, st73, st74, st75, st76, st77, st78, st79, st80, st81, st82, st83, st84, st85, st86, st87, st88, st89, st90, st91, R0, R_targets, R_nameSizes, R_names, R_path, R_dirs, R_lasts, R_lengths, R_starts, h11, h43, cj, e1, e2, hty_I, hvi_I, hvr_I, hvl_I, hsz_I, hty_R, hvi_R, hvr_R, hvl_R, hsz_R, hty_L, hvi_L, hvr_L, hvl_L, hsz_L, hty_P, hvi_P, hvr_P, hvl_P, hsz_P, hty_C, hvi_C, hvr_C, hvl_C, hsz_C, inR, show ¬ (s.length : Int) ≤ (j : Int) by omega, show (14 * (e : Int) + (j : Int)) < 8064 by omega, show (0 : Int) ≤ 14 * (e : Int) + (j : Int) by omega, show (qj : Int) < 1000 by omega]))) <;> (try (first | omega | exact hz))
/-- a directory is at its end -/
theorem gt_fin {G : Nat → Nat} {d r n fr N p0 here D : Nat} {h : mH} {C : mQ} {X : mX} {L : List Int} {T : aT} {Es : Nat → List aE} {pr : Int} {K : List aK} {v : aN} {w P : List Int} {u : aU} {x1 x3 x5 x6 : Option mV} (hd : 7 ≤ d) (E : EV L T here K pr) (hK : ∀ t ∈ K, 6 ≤ t.1 → tkO L t) (HG : RG r h L T Es here pr K N p0) (hT : T n = some v) (hD : D < 58) (h43 : hvi h r 43 = (P.length : Int)) (hr : ro h (r + 26) 0 P) (hsg : ∀ i, i < w.length → lf w i = lf P (fr + i)) (hnn : w.length ≤ 14) (hfn : fr + w.length ≤ P.length) (bP : bd P) (hPl : P.length ≤ 1000) (HU : RU r h u) (h30 : hvi h (r + 30) D = (fr : Int)) (h53 : D = 0 → hvi h r 53 = ((fr + w.length : Nat) : Int)) (hE : 0 < D → fr + w.length = P.length)
    (hC : ∀ h', chJ (sR r sGT) h h' → lowS r D h h' → ro h' (r + 26) 0 P → RU r h' (vs3 L T here K pr v w P u) → (D = 0 → C none h') ∧ (0 < D → ∀ x4 x5 x6, wp G d 139 100042 [some (.inr (.inl (some r))), x1, some (.inl (D : Int)), some (.inl 0), x4, x5, x6] [] h' 0 0 C X)) :
    wp G d 139 98 [some (.inr (.inl (some r))), x1, some (.inl (D : Int)), x3, some (.inl (n : Int)), x5, x6] [.inl (-1)] h 0 0 C X := by
  have hd0 : (0 < d) = True := eq_true (by omega)
  have HR := HG.1.1
  have R0 := HR.1; have R_targets := rn_targets HR; have R_nameSizes := rn_nameSizes HR; have R_names := rn_names HR; have R_path := rn_path HR; have R_dirs := rn_dirs HR; have R_lasts := rn_lasts HR; have R_lengths := rn_lengths HR; have R_starts := rn_starts HR
  have f37 := HG.2.2.2.2.2.2
  have last : ∀ (h2 : mH) (x5 : Option mV), ((D = 0 → C none h2) ∧ (0 < D → ∀ x4 x5 x6, wp G d 139 100042 [some (.inr (.inl (some r))), x1, some (.inl (D : Int)), some (.inl 0), x4, x5, x6] [] h2 0 0 C X)) → wp G d 139 154 [some (.inr (.inl (some r))), x1, some (.inl (D : Int)), x3, some (.inl (n : Int)), x5, x6] [] h2 0 0 C X := by
    intro h2 x5 ⟨k1, k2⟩
    by_cases hD0 : D = 0
    · subst hD0
      have hz := k1 rfl
      (repeat' (first | with_reducible assumption | (refine And.intro ?_ ?_) | (with_reducible intro _) | (simp [wp_eq, wpE, mk_X11_goThrough, mg, mc_X11_goThrough, lget, lset, popN, cats, rcv, entL, isArr, kC_s, kC_n, st1, st2, st3, st4, st5, st6, st7, st8, st9, st10, st11, st12, st13, st14, st15, st16, st17, st18, st19, st20, st21, st22, st23, st24, st25, st26, st27, st28, st29, st30, st31, st32, st33, st34, st35, st36, st37, st38, st39, st40, st41, st42, st43, st44, st45, st46, st47, st48, st49, st50, st51, st52, st53, st54, st55, st56, st57, st58, st59, st60, st61, st62, st63, st64, st65, st66, st67, st68, st69, st70, st71, st72, st73, st74, st75, st76, st77, st78, st79, st80, st81, st82, st83, st84, st85, st86, st87, st88, st89, st90, st91]))) <;> (try (first | omega | exact hz))
    · have hz := k2 (by omega)
      have hDi : ¬ (D : Int) = 0 := by omega
      (repeat' (first | with_reducible assumption | (refine And.intro ?_ ?_) | (with_reducible intro _) | (simp [wp_eq, wpE, mk_X11_goThrough, mg, mc_X11_goThrough, lget, lset, popN, cats, rcv, entL, isArr, kC_s, kC_n, st1, st2, st3, st4, st5, st6, st7, st8, st9, st10, st11, st12, st13, st14, st15, st16, st17, st18, st19, st20, st21, st22, st23, st24, st25, st26, st27, st28, st29, st30, st31, st32, st33, st34, st35, st36, st37, st38, st39, st40, st41, st42, st43, st44, st45, st46, st47, st48, st49, st50, st51, st52, st53, st54, st55, st56, st57, st58, st59, st60, st61, st62, st63, st64, st65, st66, st67, st68, st69, st70, st71, st72, st73, st74, st75, st76, st77, st78, st79, st80, st81, st82, st83, st84, st85, st86, st87, st88, st89, st90, st91, hD0, hDi]))) <;> (try (first | omega | exact hz))
      all_goals first | omega | exact hz _ _ _
  obtain ⟨HA, c21⟩ := HU
  have f40 := HA.2.2.1
  unfold vs3 at hC
  cases hdp : dpK K with
  | false =>
    rw [hdp] at f37
    rw [hdp, if_neg (by simp)] at hC
    simp [b01] at f37
    have hz := fun x5 => last h x5 (hC h chJ_refl (fun _ _ => ⟨rfl, rfl, rfl, rfl⟩) hr ⟨HA, c21⟩)
    (repeat' (first | with_reducible assumption | (refine And.intro ?_ ?_) | (with_reducible intro _) | (simp [wp_ne 154, wpE, mk_X11_goThrough, mg, mc_X11_goThrough, lget, lset, popN, cats, rcv, entL, isArr, kC_s, kC_n, st1, st2, st3, st4, st5, st6, st7, st8, st9, st10, st11, st12, st13, st14, st15, st16, st17, st18, st19, st20, st21, st22, st23, st24, st25, st26, st27, st28, st29, st30, st31, st32, st33, st34, st35, st36, st37, st38, st39, st40, st41, st42, st43, st44, st45, st46, st47, st48, st49, st50, st51, st52, st53, st54, st55, st56, st57, st58, st59, st60, st61, st62, st63, st64, st65, st66, st67, st68, st69, st70, st71, st72, st73, st74, st75, st76, st77, st78, st79, st80, st81, st82, st83, st84, st85, st86, st87, st88, st89, st90, st91, R0, R_targets, R_nameSizes, R_names, R_path, R_dirs, R_lasts, R_lengths, R_starts, f37]))) <;> (try (first | omega | exact hz))
    all_goals exact hz _
  | true =>
    rw [hdp] at f37
    simp [b01] at f37
    cases hfu : u.1.2.2.2 with
    | true =>
      simp only [hfu] at f40
      rw [hdp, hfu, if_neg (by simp)] at hC
      simp [b01] at f40
      have hz := fun x5 => last h x5 (hC h chJ_refl (fun _ _ => ⟨rfl, rfl, rfl, rfl⟩) hr ⟨HA, c21⟩)
      (repeat' (first | with_reducible assumption | (refine And.intro ?_ ?_) | (with_reducible intro _) | (simp [wp_ne 154, wpE, mk_X11_goThrough, mg, mc_X11_goThrough, lget, lset, popN, cats, rcv, entL, isArr, kC_s, kC_n, st1, st2, st3, st4, st5, st6, st7, st8, st9, st10, st11, st12, st13, st14, st15, st16, st17, st18, st19, st20, st21, st22, st23, st24, st25, st26, st27, st28, st29, st30, st31, st32, st33, st34, st35, st36, st37, st38, st39, st40, st41, st42, st43, st44, st45, st46, st47, st48, st49, st50, st51, st52, st53, st54, st55, st56, st57, st58, st59, st60, st61, st62, st63, st64, st65, st66, st67, st68, st69, st70, st71, st72, st73, st74, st75, st76, st77, st78, st79, st80, st81, st82, st83, st84, st85, st86, st87, st88, st89, st90, st91, R0, R_targets, R_nameSizes, R_names, R_path, R_dirs, R_lasts, R_lengths, R_starts, f37, f40]))) <;> (try (first | omega | exact hz))
      all_goals exact hz _
    | false =>
      simp only [hfu] at f40
      rw [hdp, hfu, if_pos (by simp)] at hC
      simp [b01] at f40
      have q1 : chJ (sR r [144, 145]) h (hsetI (hsetI h r 44 (fr : Int)) r 45 ((fr + w.length : Nat) : Int)) := chJ_trans (chJ_set (by simp [sR])) (chJ_set (by simp [sR]))
      have G1 := RG_ch q1 (by simp) HG
      have A1 := RAw_ch q1 (by simp) HA
      have hr1 : ro (hsetI (hsetI h r 44 (fr : Int)) r 45 ((fr + w.length : Nat) : Int)) (r + 26) 0 P := fun i hi => by rw [chJ_row q1 (by omega) (by simp)]; exact hr i hi
      have Q1 : RQ r (hsetI (hsetI h r 44 (fr : Int)) r 45 ((fr + w.length : Nat) : Int)) P fr w.length := ⟨by rw [chJ_fld q1 (by simp) (by simp)]; exact h43, by rw [hvi_I, if_neg (by omega), hvi_I, if_pos ⟨rfl, rfl⟩], by rw [hvi_I, if_pos ⟨rfl, rfl⟩], hr1⟩
      have c21' : hvi (hsetI (hsetI h r 44 (fr : Int)) r 45 ((fr + w.length : Nat) : Int)) r 21 = u.2 := by rw [chJ_fld q1 (by simp) (by simp)]; exact c21
      have R01 := G1.1.1.1
      have st148 : ∀ x5, wp G d 139 148 [some (.inr (.inl (some r))), x1, some (.inl (D : Int)), x3, some (.inl (n : Int)), x5, x6] [] (hsetI (hsetI h r 44 (fr : Int)) r 45 ((fr + w.length : Nat) : Int)) 0 0 C X := by
        intro x5
        generalize hsetI (hsetI h r 44 (fr : Int)) r 45 ((fr + w.length : Nat) : Int) = h1 at *
        simp [wp_ne 154, wpE, mk_X11_goThrough, mg, mc_X11_goThrough, lget, lset, popN, cats, rcv, entL, isArr, kC_s, kC_n, st1, st2, st3, st4, st5, st6, st7, st8, st9, st10, st11, st12, st13, st14, st15, st16, st17, st18, st19, st20, st21, st22, st23, st24, st25, st26, st27, st28, st29, st30, st31, st32, st33, st34, st35, st36, st37, st38, st39, st40, st41, st42, st43, st44, st45, st46, st47, st48, st49, st50, st51, st52, st53, st54, st55, st56, st57, st58, st59, st60, st61, st62, st63, st64, st65, st66, st67, st68, st69, st70, st71, st72, st73, st74, st75, st76, st77, st78, st79, st80, st81, st82, st83, st84, st85, st86, st87, st88, st89, st90, st91, R01, hd0]
        refine r_ask (by omega) E hK G1 hT Q1 rfl hsg hnn hfn bP hPl A1 (fun zzh zz1 zz2 => ?_)
        have c3 : chJ (sR r sGT) h zzh := chJ_trans (chJ_sub q1 (by simp [sGT])) (chJ_sub zz1 (by simp [sAS, sGT]))
        have hz := last zzh x5 (hC zzh c3 (low_tr (low_ch q1 (by simp)) (low_ch zz1 (by simp [sAS]))) (fun i hi => by rw [chJ_row zz1 (by omega) (by simp [sAS])]; exact hr1 i hi) ⟨by
          have e1 := asN_ind (L := L) (T := T) (here := here) (K := K) (pr := pr) (v := v) (w := w) (P := P) u.1.1 u.1.2
          show RAw r zzh (asN L T here K pr v w P u.1).2
          rw [show u.1 = (u.1.1, u.1.2) from rfl, e1]
          exact zz2.2, by
          show hvi zzh r 21 = u.2
          rw [chJ_fld zz1 (by simp [sAS]) (by simp [sAS])]; exact c21'⟩)
        (repeat' (first | with_reducible assumption | (refine And.intro ?_ ?_) | (with_reducible intro _) | (simp [wp_ne 154, wpE, mk_X11_goThrough, mg, mc_X11_goThrough, lget, lset, popN, cats, rcv, entL, isArr, kC_s, kC_n, st1, st2, st3, st4, st5, st6, st7, st8, st9, st10, st11, st12, st13, st14, st15, st16, st17, st18, st19, st20, st21, st22, st23, st24, st25, st26, st27, st28, st29, st30, st31, st32, st33, st34, st35, st36, st37, st38, st39, st40, st41, st42, st43, st44, st45, st46, st47, st48, st49, st50, st51, st52, st53, st54, st55, st56, st57, st58, st59, st60, st61, st62, st63, st64, st65, st66, st67, st68, st69, st70, st71, st72, st73, st74, st75, st76, st77, st78, st79, st80, st81, st82, st83, st84, st85, st86, st87, st88, st89, st90, st91]))) <;> (try (first | omega | exact hz))
      have hz := st148
      by_cases hD0 : D = 0
      · subst hD0
        have h53 := h53 rfl
        generalize hh1 : hsetI (hsetI h r 44 (fr : Int)) r 45 ((fr + w.length : Nat) : Int) = h1 at *
        (repeat' (first | with_reducible assumption | (refine And.intro ?_ ?_) | (with_reducible intro _) | (simp [wp_ne 148, wpE, mk_X11_goThrough, mg, mc_X11_goThrough, lget, lset, popN, cats, rcv, entL, isArr, kC_s, kC_n, st1, st2, st3, st4, st5, st6, st7, st8, st9, st10, st11, st12, st13, st14, st15, st16, st17, st18, st19, st20, st21, st22, st23, st24, st25, st26, st27, st28, st29, st30, st31, st32, st33, st34, st35, st36, st37, st38, st39, st40, st41, st42, st43, st44, st45, st46, st47, st48, st49, st50, st51, st52, st53, st54, st55, st56, st57, st58, st59, st60, st61, st62, st63, st64, st65, st66, st67, st68, st69, st70, st71, st72, st73, st74, st75, st76, st77, st78, st79, st80, st81, st82, st83, st84, st85, st86, st87, st88, st89, st90, st91, R0, R_targets, R_nameSizes, R_names, R_path, R_dirs, R_lasts, R_lengths, R_starts, -Int.natCast_add, hh1, f37, f40, h30, h53, hty_I, hvi_I, hvr_I, hvl_I, hsz_I, hty_R, hvi_R, hvr_R, hvl_R, hsz_R, hty_L, hvi_L, hvr_L, hvl_L, hsz_L, hty_P, hvi_P, hvr_P, hvl_P, hsz_P, hty_C, hvi_C, hvr_C, hvl_C, hsz_C]))) <;> (try (first | omega | exact hz))
        all_goals exact hz _
      · have hDi : ¬ (D : Int) = 0 := by omega
        have hE := hE (by omega)
        rw [hE] at hz
        generalize hh1 : hsetI (hsetI h r 44 (fr : Int)) r 45 ((P.length : Nat) : Int) = h1 at *
        (repeat' (first | with_reducible assumption | (refine And.intro ?_ ?_) | (with_reducible intro _) | (simp [wp_ne 148, wpE, mk_X11_goThrough, mg, mc_X11_goThrough, lget, lset, popN, cats, rcv, entL, isArr, kC_s, kC_n, st1, st2, st3, st4, st5, st6, st7, st8, st9, st10, st11, st12, st13, st14, st15, st16, st17, st18, st19, st20, st21, st22, st23, st24, st25, st26, st27, st28, st29, st30, st31, st32, st33, st34, st35, st36, st37, st38, st39, st40, st41, st42, st43, st44, st45, st46, st47, st48, st49, st50, st51, st52, st53, st54, st55, st56, st57, st58, st59, st60, st61, st62, st63, st64, st65, st66, st67, st68, st69, st70, st71, st72, st73, st74, st75, st76, st77, st78, st79, st80, st81, st82, st83, st84, st85, st86, st87, st88, st89, st90, st91, R0, R_targets, R_nameSizes, R_names, R_path, R_dirs, R_lasts, R_lengths, R_starts, -Int.natCast_add, hh1, f37, f40, h30, h43, hD0, hDi, hty_I, hvi_I, hvr_I, hvl_I, hsz_I, hty_R, hvi_R, hvr_R, hvl_R, hsz_R, hty_L, hvi_L, hvr_L, hvl_L, hsz_L, hty_P, hvi_P, hvr_P, hvl_P, hsz_P, hty_C, hvi_C, hvr_C, hvl_C, hsz_C]))) <;> (try (first | omega | exact hz))
        all_goals exact hz _
