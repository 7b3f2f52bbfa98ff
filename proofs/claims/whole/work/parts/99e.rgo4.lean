theorem vis_s {L : List Int} {T : aT} {here : Nat} {K : List aK} {pr : Int} {n : Nat} {v : aN} {w P : List Int} {u : aU} (f : Nat) (hT : T n = some v) (hfu : u.1.2.2.2 = false) : vis L T here K pr (f + 1) n w P u = vs3 L T here K pr v w P (vs2 (fun n w P u => vis L T here K pr f n w P u) K v P (vs1 L T here K pr v w P u.1, u.2)) := by
  simp only [vis]
  rw [hT]
  simp only
  rw [if_neg (by rw [hfu]; simp)]
theorem r_goThrough {G : Nat → Nat} {d r N p0 here n fr : Nat} {h : mH} {C : mQ} {X : mX} {L : List Int} {T : aT} {Es : Nat → List aE} {pr : Int} {K : List aK} {v : aN} {w P : List Int} {u : aU} (hd : 9 ≤ d) (E : EV L T here K pr) (hK : ∀ t ∈ K, 6 ≤ t.1 → tkO L t) (HG : RG r h L T Es here pr K N p0) (hT : T n = some v) (HQ : RQ r h P fr w.length) (h53 : hvi h r 53 = ((fr + w.length : Nat) : Int)) (hsg : ∀ i, i < w.length → lf w i = lf P (fr + i)) (hnn : w.length ≤ 14) (hfn : fr + w.length ≤ P.length) (bP : bd P) (hP1 : 1 ≤ P.length) (hPl : P.length ≤ 100) (HU : RU r h u) (hu : u.2 = 0) (hfu : u.1.2.2.2 = false)
    (hC : ∀ h', chJ (sR r sGT) h h' → RU r h' (vis L T here K pr 48 n w P u) → C none h') :
    callG (wp G) d 139 0 0 7 [.inr (.inl (some r)), .inl (n : Int)] h C X := by
  have hn := wf_lt E.1 hT
  have HR := HG.1.1
  obtain ⟨q43, q44, q45, qr⟩ := HQ
  obtain ⟨ρ, hρ⟩ := E.1.2.2.2.2
  have R0 := HR.1; have R_targets := rn_targets HR; have R_nameSizes := rn_nameSizes HR; have R_names := rn_names HR; have R_path := rn_path HR; have R_dirs := rn_dirs HR; have R_lasts := rn_lasts HR; have R_lengths := rn_lengths HR; have R_starts := rn_starts HR
  have hw48 := wt_48 T n
  have hvis : vis L T here K pr 48 n w P u = vs3 L T here K pr v w P (vs2 (fun n w P u => vis L T here K pr 47 n w P u) K v P (vs1 L T here K pr v w P u.1, u.2)) := by
    exact vis_s 47 hT hfu
  rw [hvis] at hC
  have q1 : chJ (sR r [27, 28, 29, 30]) h (hsetI (hsetI (hsetI (hsetI h (r + 27) 0 (n : Int)) (r + 28) 0 (-1)) (r + 29) 0 (P.length : Int)) (r + 30) 0 (fr : Int)) := chJ_trans (chJ_trans (chJ_trans (chJ_set (by simp [sR])) (chJ_set (by simp [sR]))) (chJ_set (by simp [sR]))) (chJ_set (by simp [sR]))
  have F1 : FR r (hsetI (hsetI (hsetI (hsetI h (r + 27) 0 (n : Int)) (r + 28) 0 (-1)) (r + 29) 0 (P.length : Int)) (r + 30) 0 (fr : Int)) 0 n (-1) P.length fr := ⟨by rw [hvi_I, if_neg (by omega), hvi_I, if_neg (by omega), hvi_I, if_neg (by omega), hvi_I, if_pos ⟨rfl, rfl⟩], by rw [hvi_I, if_neg (by omega), hvi_I, if_neg (by omega), hvi_I, if_pos ⟨rfl, rfl⟩], by rw [hvi_I, if_neg (by omega), hvi_I, if_pos ⟨rfl, rfl⟩], by rw [hvi_I, if_pos ⟨rfl, rfl⟩]⟩
  refine cg 8 (by omega) (fun d hd => ?_)
  have hd0 : (0 < d) = True := eq_true (by omega)
  have st36 : wp G d 139 36 [some (.inr (.inl (some r))), some (.inl (n : Int)), some (.inl 0), none, none, none, none] [] (hsetI (hsetI (hsetI (hsetI h (r + 27) 0 (n : Int)) (r + 28) 0 (-1)) (r + 29) 0 (P.length : Int)) (r + 30) 0 (fr : Int)) 0 0 C (fun _ _ => False) := by
    generalize hsetI (hsetI (hsetI (hsetI h (r + 27) 0 (n : Int)) (r + 28) 0 (-1)) (r + 29) 0 (P.length : Int)) (r + 30) 0 (fr : Int) = h1 at *
    have G1 := RG_ch q1 (by simp) HG
    have R01 := G1.1.1.1
    have Q1 : RQ r h1 P fr w.length := RQ_ch q1 (by simp) ⟨q43, q44, q45, qr⟩
    have U1 := RU_ch q1 (by simp) HU
    have h53' : hvi h1 r 53 = ((fr + w.length : Nat) : Int) := by rw [chJ_fld q1 (by simp) (by simp)]; exact h53
    simp [wp_eq, wpE, mk_X11_goThrough, mg, mc_X11_goThrough, lget, lset, popN, cats, rcv, entL, isArr, kC_s, kC_n, st1, st2, st3, st4, st5, st6, st7, st8, st9, st10, st11, st12, st13, st14, st15, st16, st17, st18, st19, st20, st21, st22, st23, st24, st25, st26, st27, st28, st29, st30, st31, st32, st33, st34, st35, st36, st37, st38, st39, st40, st41, st42, st43, st44, st45, st46, st47, st48, st49, st50, st51, st52, st53, st54, st55, st56, st57, st58, st59, st60, st61, st62, st63, st64, st65, st66, st67, st68, st69, st70, st71, st72, st73, st74, st75, st76, st77, st78, st79, st80, st81, st82, st83, st84, st85, st86, st87, st88, st89, st90, st91, R01, hd0]
    refine r_enter (V := fun n w P u => vis L T here K pr 47 n w P u) (by omega) E hK G1 hT Q1 rfl hsg hnn hfn bP (by omega) U1 (by omega) hfu (fun k1 k2 k3 h4 q4 U4 => ?_) (fun h4 q4 U4 => ?_)
    · have c4 : chJ (sR r sGT) h h4 := chJ_trans (chJ_sub q1 (by simp [sGT])) (chJ_sub q4 (by simp [sEN, sGT]))
      rw [k3] at hC
      have hwb := wt_bel E.1 hT k1
      have hz : ∀ x3 x4 x5 x6, wp G d 139 57 [some (.inr (.inl (some r))), some (.inl (n : Int)), some (.inl ((0 : Nat) : Int)), x3, x4, x5, x6] [] h4 0 0 C (fun _ _ => False) := fun x3 x4 x5 x6 => gt_main (by omega) E hK hρ 47 (nE v) 0 n v w P fr (-1) [] [n] (vs1 L T here K pr v w P u.1, u.2) h4 x3 x4 x5 x6 (by omega) hT k1 rfl (Or.inl ⟨rfl, rfl⟩) (by simp) rfl (fun a ha => by
        simp at ha
        subst ha
        exact ⟨hn, by rw [tK_some hT]; exact k1, Nat.le_refl _⟩) (RG_ch c4 (by simp [sGT]) HG) U4 (by simp only; omega) (fun i hi => by rw [chJ_row q4 (by omega) (by simp [sEN])]; exact Q1.2.2.2 i hi) bP hP1 (by omega) hsg hnn hfn (FR_low (low_ch (D := 1) q4 (by simp [sEN])) (by omega) F1) (fun _ => by rw [chJ_fld q4 (by simp [sEN]) (by simp [sEN])]; exact h53') (fun q => by omega) (fun h' e1 e2 e3 e4 => ⟨fun _ => hC h' (chJ_trans c4 e1) e4, fun q => by omega⟩)
      have hz := fun x4 x5 x6 => gt_hd1 (hz (some (.inl 1)) x4 x5 x6)
      simp only [Int.natCast_zero] at hz
      (repeat' (first | with_reducible assumption | (refine And.intro ?_ ?_) | (with_reducible intro _) | (simp [wp_eq, wpE, mk_X11_goThrough, mg, mc_X11_goThrough, lget, lset, popN, cats, rcv, entL, isArr, kC_s, kC_n, st1, st2, st3, st4, st5, st6, st7, st8, st9, st10, st11, st12, st13, st14, st15, st16, st17, st18, st19, st20, st21, st22, st23, st24, st25, st26, st27, st28, st29, st30, st31, st32, st33, st34, st35, st36, st37, st38, st39, st40, st41, st42, st43, st44, st45, st46, st47, st48, st49, st50, st51, st52, st53, st54, st55, st56, st57, st58, st59, st60, st61, st62, st63, st64, st65, st66, st67, st68, st69, st70, st71, st72, st73, st74, st75, st76, st77, st78, st79, st80, st81, st82, st83, st84, st85, st86, st87, st88, st89, st90, st91]))) <;> (try (first | omega | exact hz))
      all_goals exact hz _ _ _
    · have c4 : chJ (sR r sGT) h h4 := chJ_trans (chJ_sub q1 (by simp [sGT])) (chJ_sub q4 (by simp [sEN, sGT]))
      have hz := hC h4 c4 U4
      have hz2 : ∀ x4 x5 x6, wp G d 139 100042 [some (.inr (.inl (some r))), some (.inl (n : Int)), some (.inl 0), some (.inl 0), x4, x5, x6] [] h4 0 0 C (fun _ _ => False) := by
        intro x4 x5 x6
        rw [wp_hd]
        (repeat' (first | with_reducible assumption | (refine And.intro ?_ ?_) | (with_reducible intro _) | (simp [wp_eq, wpE, mk_X11_goThrough, mg, mc_X11_goThrough, lget, lset, popN, cats, rcv, entL, isArr, kC_s, kC_n, st1, st2, st3, st4, st5, st6, st7, st8, st9, st10, st11, st12, st13, st14, st15, st16, st17, st18, st19, st20, st21, st22, st23, st24, st25, st26, st27, st28, st29, st30, st31, st32, st33, st34, st35, st36, st37, st38, st39, st40, st41, st42, st43, st44, st45, st46, st47, st48, st49, st50, st51, st52, st53, st54, st55, st56, st57, st58, st59, st60, st61, st62, st63, st64, st65, st66, st67, st68, st69, st70, st71, st72, st73, st74, st75, st76, st77, st78, st79, st80, st81, st82, st83, st84, st85, st86, st87, st88, st89, st90, st91]))) <;> (try (first | omega | exact hz))
      have hz := hz2
      (repeat' (first | with_reducible assumption | (refine And.intro ?_ ?_) | (with_reducible intro _) | (simp [wp_eq, wpE, mk_X11_goThrough, mg, mc_X11_goThrough, lget, lset, popN, cats, rcv, entL, isArr, kC_s, kC_n, st1, st2, st3, st4, st5, st6, st7, st8, st9, st10, st11, st12, st13, st14, st15, st16, st17, st18, st19, st20, st21, st22, st23, st24, st25, st26, st27, st28, st29, st30, st31, st32, st33, st34, st35, st36, st37, st38, st39, st40, st41, st42, st43, st44, st45, st46, st47, st48, st49, st50, st51, st52, st53, st54, st55, st56, st57, st58, st59, st60, st61, st62, st63, st64, st65, st66, st67, st68, st69, st70, st71, st72, st73, st74, st75, st76, st77, st78, st79, st80, st81, st82, st83, st84, st85, st86, st87, st88, st89, st90, st91]))) <;> (try (first | omega | exact hz))
      all_goals exact hz _ _ _
  have hz := st36
  generalize hh1 : hsetI (hsetI (hsetI (hsetI h (r + 27) 0 (n : Int)) (r + 28) 0 (-1)) (r + 29) 0 (P.length : Int)) (r + 30) 0 (fr : Int) = h1 at *
  (repeat' (first | with_reducible assumption | (refine And.intro ?_ ?_) | (with_reducible intro _) | (simp [wp_ne 36, wpE, mk_X11_goThrough, mg, mc_X11_goThrough, lget, lset, popN, cats, rcv, entL, isArr, kC_s, kC_n, st1, st2, st3, st4, st5, st6, st7, st8, st9, st10, st11, st12, st13, st14, st15, st16, st17, st18, st19, st20, st21, st22, st23, st24, st25, st26, st27, st28, st29, st30, st31, st32, st33, st34, st35, st36, st37, st38, st39, st40, st41, st42, st43, st44, st45, st46, st47, st48, st49, st50, st51, st52, st53, st54, st55, st56, st57, st58, st59, st60, st61, st62, st63, st64, st65, st66, st67, st68, st69, st70, st71, st72, st73, st74, st75, st76, st77, st78, st79, st80, st81, st82, st83, st84, st85, st86, st87, st88, st89, st90, st91, R0, R_targets, R_nameSizes, R_names, R_path, R_dirs, R_lasts, R_lengths, R_starts, hh1, q43, q44, hty_I, hvi_I, hvr_I, hvl_I, hsz_I, hty_R, hvi_R, hvr_R, hvl_R, hsz_R, hty_L, hvi_L, hvr_L, hvl_L, hsz_L, hty_P, hvi_P, hvr_P, hvl_P, hsz_P, hty_C, hvi_C, hvr_C, hvl_C, hsz_C]))) <;> (try (first | omega | exact hz))
/-! the name at the top -/
theorem nt_1 {G : Nat → Nat} {d r : Nat} {h : mH} {C : mQ} {X : mX} {P : List Int} {x2 : Option mV} (HR : RN r h) (hr : ro h (r + 26) 0 P) (hl : P.length ≤ 900) : ∀ k, k ≤ P.length → wp G d 143 28 [some (.inr (.inl (some r))), some (.inl (lsE (lf P) 0 k : Int)), x2] [] h 0 0 C X →
    wp G d 143 100005 [some (.inr (.inl (some r))), some (.inl (k : Int)), x2] [] h 0 0 C X := by
  have R0 := HR.1; have R_path := rn_path HR
  intro k
  induction k with
  | zero =>
    intro hk hz
    simp only [lsE] at hz
    rw [wp_hd]
    (repeat' (first | with_reducible assumption | (refine And.intro ?_ ?_) | (with_reducible intro _) | (simp [wp_ne 28, wpE, mk_X11_nameTop, mg, mc_X11_nameTop, lget, lset, popN, cats, rcv, entL, isArr, kC_s, kC_n, st1, st2, st3, st4, st5, st6, st7, st8, st9, st10, st11, st12, st13, st14, st15, st16, st17, st18, st19, st20, st21, st22, st23, st24, st25, st26, st27, st28, st29, st30, st31, st32, st33, st34, st35, st36, st37, st38, st39, st40, st41, st42, st43, st44, st45, st46, st47, st48, st49, st50, st51, st52, st53, st54, st55, st56, st57, st58, st59, st60, st61, st62, st63, st64, st65, st66, st67, st68, st69, st70, st71, st72, st73, st74, st75, st76, st77, st78, st79, st80, st81, st82, st83, st84, st85, st86, st87, st88, st89, st90, st91, R0, R_path]))) <;> (try (first | omega | exact hz))
  | succ k ih =>
    intro hk hz
    simp only [lsE] at hz
    have ck : hvi h (r + 26) k = lf P k := by have := hr k (by omega); simpa using this
    rw [wp_hd]
    by_cases h47 : lf P k = 47
    · rw [if_pos ⟨by omega, h47⟩] at hz
      have hz := ih (by omega) hz
      (repeat' (first | with_reducible assumption | (refine And.intro ?_ ?_) | (with_reducible intro _) | (simp [wp_ne 28, wpE, mk_X11_nameTop, mg, mc_X11_nameTop, lget, lset, popN, cats, rcv, entL, isArr, kC_s, kC_n, st1, st2, st3, st4, st5, st6, st7, st8, st9, st10, st11, st12, st13, st14, st15, st16, st17, st18, st19, st20, st21, st22, st23, st24, st25, st26, st27, st28, st29, st30, st31, st32, st33, st34, st35, st36, st37, st38, st39, st40, st41, st42, st43, st44, st45, st46, st47, st48, st49, st50, st51, st52, st53, st54, st55, st56, st57, st58, st59, st60, st61, st62, st63, st64, st65, st66, st67, st68, st69, st70, st71, st72, st73, st74, st75, st76, st77, st78, st79, st80, st81, st82, st83, st84, st85, st86, st87, st88, st89, st90, st91, R0, R_path, ck, h47, inR, show (k : Int) + 1 + -1 = (k : Int) by omega]))) <;> (try (first | omega | exact hz))
    · rw [if_neg (fun q => h47 q.2)] at hz
      (repeat' (first | with_reducible assumption | (refine And.intro ?_ ?_) | (with_reducible intro _) | (simp [wp_ne 28, wpE, mk_X11_nameTop, mg, mc_X11_nameTop, lget, lset, popN, cats, rcv, entL, isArr, kC_s, kC_n, st1, st2, st3, st4, st5, st6, st7, st8, st9, st10, st11, st12, st13, st14, st15, st16, st17, st18, st19, st20, st21, st22, st23, st24, st25, st26, st27, st28, st29, st30, st31, st32, st33, st34, st35, st36, st37, st38, st39, st40, st41, st42, st43, st44, st45, st46, st47, st48, st49, st50, st51, st52, st53, st54, st55, st56, st57, st58, st59, st60, st61, st62, st63, st64, st65, st66, st67, st68, st69, st70, st71, st72, st73, st74, st75, st76, st77, st78, st79, st80, st81, st82, st83, st84, st85, st86, st87, st88, st89, st90, st91, R0, R_path, ck, h47, inR]))) <;> (try (first | omega | exact hz))
theorem nt_2 {G : Nat → Nat} {d r : Nat} {h : mH} {C : mQ} {X : mX} {P : List Int} {x1 : Option mV} (HR : RN r h) (hr : ro h (r + 26) 0 P) (hl : P.length ≤ 900) : ∀ k, k ≤ P.length → wp G d 143 53 [some (.inr (.inl (some r))), x1, some (.inl (lsS (lf P) 0 k : Int))] [] h 0 0 C X →
    wp G d 143 100030 [some (.inr (.inl (some r))), x1, some (.inl (k : Int))] [] h 0 0 C X := by
  have R0 := HR.1; have R_path := rn_path HR
  intro k
  induction k with
  | zero =>
    intro hk hz
    simp only [lsS] at hz
    rw [wp_hd]
    (repeat' (first | with_reducible assumption | (refine And.intro ?_ ?_) | (with_reducible intro _) | (simp [wp_ne 53, wpE, mk_X11_nameTop, mg, mc_X11_nameTop, lget, lset, popN, cats, rcv, entL, isArr, kC_s, kC_n, st1, st2, st3, st4, st5, st6, st7, st8, st9, st10, st11, st12, st13, st14, st15, st16, st17, st18, st19, st20, st21, st22, st23, st24, st25, st26, st27, st28, st29, st30, st31, st32, st33, st34, st35, st36, st37, st38, st39, st40, st41, st42, st43, st44, st45, st46, st47, st48, st49, st50, st51, st52, st53, st54, st55, st56, st57, st58, st59, st60, st61, st62, st63, st64, st65, st66, st67, st68, st69, st70, st71, st72, st73, st74, st75, st76, st77, st78, st79, st80, st81, st82, st83, st84, st85, st86, st87, st88, st89, st90, st91, R0, R_path]))) <;> (try (first | omega | exact hz))
  | succ k ih =>
    intro hk hz
    simp only [lsS] at hz
    have ck : hvi h (r + 26) k = lf P k := by have := hr k (by omega); simpa using this
    rw [wp_hd]
    by_cases h47 : lf P k = 47
    · rw [if_neg (fun q => q.2 h47)] at hz
      (repeat' (first | with_reducible assumption | (refine And.intro ?_ ?_) | (with_reducible intro _) | (simp [wp_ne 53, wpE, mk_X11_nameTop, mg, mc_X11_nameTop, lget, lset, popN, cats, rcv, entL, isArr, kC_s, kC_n, st1, st2, st3, st4, st5, st6, st7, st8, st9, st10, st11, st12, st13, st14, st15, st16, st17, st18, st19, st20, st21, st22, st23, st24, st25, st26, st27, st28, st29, st30, st31, st32, st33, st34, st35, st36, st37, st38, st39, st40, st41, st42, st43, st44, st45, st46, st47, st48, st49, st50, st51, st52, st53, st54, st55, st56, st57, st58, st59, st60, st61, st62, st63, st64, st65, st66, st67, st68, st69, st70, st71, st72, st73, st74, st75, st76, st77, st78, st79, st80, st81, st82, st83, st84, st85, st86, st87, st88, st89, st90, st91, R0, R_path, ck, h47, inR]))) <;> (try (first | omega | exact hz))
    · rw [if_pos ⟨by omega, h47⟩] at hz
      have hz := ih (by omega) hz
      (repeat' (first | with_reducible assumption | (refine And.intro ?_ ?_) | (with_reducible intro _) | (simp [wp_ne 53, wpE, mk_X11_nameTop, mg, mc_X11_nameTop, lget, lset, popN, cats, rcv, entL, isArr, kC_s, kC_n, st1, st2, st3, st4, st5, st6, st7, st8, st9, st10, st11, st12, st13, st14, st15, st16, st17, st18, st19, st20, st21, st22, st23, st24, st25, st26, st27, st28, st29, st30, st31, st32, st33, st34, st35, st36, st37, st38, st39, st40, st41, st42, st43, st44, st45, st46, st47, st48, st49, st50, st51, st52, st53, st54, st55, st56, st57, st58, st59, st60, st61, st62, st63, st64, st65, st66, st67, st68, st69, st70, st71, st72, st73, st74, st75, st76, st77, st78, st79, st80, st81, st82, st83, st84, st85, st86, st87, st88, st89, st90, st91, R0, R_path, ck, h47, inR, show (k : Int) + 1 + -1 = (k : Int) by omega]))) <;> (try (first | omega | exact hz))
theorem r_nameTop {G : Nat → Nat} {d r : Nat} {h : mH} {C : mQ} {X : mX} {P : List Int} (HR : RN r h) (hr : ro h (r + 26) 0 P) (hl : P.length ≤ 900) (h43 : hvi h r 43 = (P.length : Int)) (hC : C none (hsetI (hsetI (hsetI h r 44 (tpF P : Int)) r 45 (tpE P : Int)) r 53 (tpE P : Int))) :
    callG (wp G) d 143 0 0 3 [.inr (.inl (some r))] h C X := by
  have R0 := HR.1; have R_path := rn_path HR
  have a := lsE_b (lf P) 0 P.length (by omega)
  have b : tpL P ≤ P.length := a.2
  refine ⟨C, fun _ _ => False, ?_, fun _ _ q => q, fun _ _ q => q.elim⟩
  have s53 : wp G (d - 1) 143 53 [some (.inr (.inl (some r))), some (.inl (tpL P : Int)), some (.inl (tpF P : Int))] [] h 0 0 C (fun _ _ => False) := by
    have hz := hC
    by_cases h0 : tpL P = 0
    · have e1 : tpF P = 0 := by unfold tpF; rw [h0]; rfl
      have e2 : tpE P = 1 := by unfold tpE; rw [if_neg (by omega)]
      rw [e1, e2] at hz
      rw [h0, e1]
      simp at hz ⊢
      (repeat' (first | with_reducible assumption | (refine And.intro ?_ ?_) | (with_reducible intro _) | (simp [wp_eq, wpE, mk_X11_nameTop, mg, mc_X11_nameTop, lget, lset, popN, cats, rcv, entL, isArr, kC_s, kC_n, st1, st2, st3, st4, st5, st6, st7, st8, st9, st10, st11, st12, st13, st14, st15, st16, st17, st18, st19, st20, st21, st22, st23, st24, st25, st26, st27, st28, st29, st30, st31, st32, st33, st34, st35, st36, st37, st38, st39, st40, st41, st42, st43, st44, st45, st46, st47, st48, st49, st50, st51, st52, st53, st54, st55, st56, st57, st58, st59, st60, st61, st62, st63, st64, st65, st66, st67, st68, st69, st70, st71, st72, st73, st74, st75, st76, st77, st78, st79, st80, st81, st82, st83, st84, st85, st86, st87, st88, st89, st90, st91, R0, R_path, hty_I, hvi_I, hvr_I, hvl_I, hsz_I, hty_R, hvi_R, hvr_R, hvl_R, hsz_R, hty_L, hvi_L, hvr_L, hvl_L, hsz_L, hty_P, hvi_P, hvr_P, hvl_P, hsz_P, hty_C, hvi_C, hvr_C, hvl_C, hsz_C]))) <;> (try (first | omega | exact hz))
    · have e2 : tpE P = tpL P := by unfold tpE; split <;> omega
      rw [e2] at hz
      have h0i : ¬ (tpL P : Int) = 0 := by omega
      generalize tpL P = y1 at *
      generalize tpF P = y2 at *
      (repeat' (first | with_reducible assumption | (refine And.intro ?_ ?_) | (with_reducible intro _) | (simp [wp_eq, wpE, mk_X11_nameTop, mg, mc_X11_nameTop, lget, lset, popN, cats, rcv, entL, isArr, kC_s, kC_n, st1, st2, st3, st4, st5, st6, st7, st8, st9, st10, st11, st12, st13, st14, st15, st16, st17, st18, st19, st20, st21, st22, st23, st24, st25, st26, st27, st28, st29, st30, st31, st32, st33, st34, st35, st36, st37, st38, st39, st40, st41, st42, st43, st44, st45, st46, st47, st48, st49, st50, st51, st52, st53, st54, st55, st56, st57, st58, st59, st60, st61, st62, st63, st64, st65, st66, st67, st68, st69, st70, st71, st72, st73, st74, st75, st76, st77, st78, st79, st80, st81, st82, st83, st84, st85, st86, st87, st88, st89, st90, st91, R0, R_path, h0, h0i, hty_I, hvi_I, hvr_I, hvl_I, hsz_I, hty_R, hvi_R, hvr_R, hvl_R, hsz_R, hty_L, hvi_L, hvr_L, hvl_L, hsz_L, hty_P, hvi_P, hvr_P, hvl_P, hsz_P, hty_C, hvi_C, hvr_C, hvl_C, hsz_C]))) <;> (try (first | omega | exact hz))
  have s28 : wp G (d - 1) 143 28 [some (.inr (.inl (some r))), some (.inl (tpL P : Int)), none] [] h 0 0 C (fun _ _ => False) := by
    have hz := nt_2 (G := G) (d := d - 1) (C := C) (X := fun _ _ => False) (x1 := some (.inl (tpL P : Int))) HR hr hl (tpL P) b s53
    (repeat' (first | with_reducible assumption | (refine And.intro ?_ ?_) | (with_reducible intro _) | (simp [wp_eq, wpE, mk_X11_nameTop, mg, mc_X11_nameTop, lget, lset, popN, cats, rcv, entL, isArr, kC_s, kC_n, st1, st2, st3, st4, st5, st6, st7, st8, st9, st10, st11, st12, st13, st14, st15, st16, st17, st18, st19, st20, st21, st22, st23, st24, st25, st26, st27, st28, st29, st30, st31, st32, st33, st34, st35, st36, st37, st38, st39, st40, st41, st42, st43, st44, st45, st46, st47, st48, st49, st50, st51, st52, st53, st54, st55, st56, st57, st58, st59, st60, st61, st62, st63, st64, st65, st66, st67, st68, st69, st70, st71, st72, st73, st74, st75, st76, st77, st78, st79, st80, st81, st82, st83, st84, st85, st86, st87, st88, st89, st90, st91, R0, R_path]))) <;> (try (first | omega | exact hz))
  have hz := nt_1 (G := G) (d := d - 1) (C := C) (X := fun _ _ => False) (x2 := none) HR hr hl P.length (Nat.le_refl _) s28
  (repeat' (first | with_reducible assumption | (refine And.intro ?_ ?_) | (with_reducible intro _) | (simp [wp_eq, wpE, mk_X11_nameTop, mg, mc_X11_nameTop, lget, lset, popN, cats, rcv, entL, isArr, kC_s, kC_n, st1, st2, st3, st4, st5, st6, st7, st8, st9, st10, st11, st12, st13, st14, st15, st16, st17, st18, st19, st20, st21, st22, st23, st24, st25, st26, st27, st28, st29, st30, st31, st32, st33, st34, st35, st36, st37, st38, st39, st40, st41, st42, st43, st44, st45, st46, st47, st48, st49, st50, st51, st52, st53, st54, st55, st56, st57, st58, st59, st60, st61, st62, st63, st64, st65, st66, st67, st68, st69, st70, st71, st72, st73, st74, st75, st76, st77, st78, st79, st80, st81, st82, st83, st84, st85, st86, st87, st88, st89, st90, st91, R0, R_path, h43]))) <;> (try (first | omega | exact hz))
