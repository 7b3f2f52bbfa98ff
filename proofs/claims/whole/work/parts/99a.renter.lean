/-! THE REFERENCE enters a node -/
def RU (r : Nat) (h : mH) (u : aU) : Prop := RAw r h u.1.2 ∧ hvi h r 21 = u.2
def sEN : List Nat := [16, 23, 25, 31, 120, 121, 139, 140, 141]
theorem bits5 {b : Int} (h : 0 ≤ b ∧ b ≤ 7) : bAnd b 5 = 5 ↔ ¬ (bAnd b 4 = 0 ∨ bAnd b 1 = 0) := by
  have : b = 0 ∨ b = 1 ∨ b = 2 ∨ b = 3 ∨ b = 4 ∨ b = 5 ∨ b = 6 ∨ b = 7 := by omega
  rcases this with rfl | rfl | rfl | rfl | rfl | rfl | rfl | rfl <;> decide
theorem RU_ch {r : Nat} {h h' : mH} {u : aU} {l : List Nat} (q : chJ (sR r l) h h') (hl : ∀ c ∈ [0, 16, 120, 121, 139, 140, 141], ¬ c ∈ l) (H : RU r h u) : RU r h' u := by
  obtain ⟨hx, h2⟩ := H
  exact ⟨RAw_ch q (fun c hc => hl c (by simp at hc ⊢; omega)) hx, by rw [chJ_fld q (hl _ (by simp)) (hl _ (by simp))]; exact h2⟩
theorem r_enter {G : Nat → Nat} {d r n fr nn N p0 here : Nat} {h : mH} {C : mQ} {X : mX} {L : List Int} {T : aT} {Es : Nat → List aE} {pr : Int} {K : List aK} {v : aN} {w P : List Int} {u : aU} {V : Nat → List Int → List Int → aU → aU} (hd : 7 ≤ d) (E : EV L T here K pr) (hK : ∀ t ∈ K, 6 ≤ t.1 → tkO L t) (HG : RG r h L T Es here pr K N p0) (hT : T n = some v) (HQ : RQ r h P fr nn) (hw : w.length = nn) (hsg : ∀ i, i < w.length → lf w i = lf P (fr + i)) (hnn : nn ≤ 14) (hfn : fr + nn ≤ P.length) (bP : bd P) (hPl : P.length ≤ 1000) (HU : RU r h u) (hcp : 0 ≤ u.2 ∧ u.2 ≤ 1000) (hfu : u.1.2.2.2 = false)
    (hC1 : nK v = 0 → ¬ nrt v → vs2 V K v P (vs1 L T here K pr v w P u.1, u.2) = fld V (sl P) (nE v) (vs1 L T here K pr v w P u.1, u.2) → ∀ h', chJ (sR r sEN) h h' → RU r h' (vs1 L T here K pr v w P u.1, u.2) → C (some (.inl 1)) h')
    (hC0 : ∀ h', chJ (sR r sEN) h h' → RU r h' (vs3 L T here K pr v w P (vs2 V K v P (vs1 L T here K pr v w P u.1, u.2))) → C (some (.inl 0)) h') :
    callG (wp G) d 140 0 0 3 [.inr (.inl (some r)), .inl (n : Int)] h C X := by
  have hn := wf_lt E.1 hT
  have HR := HG.1.1
  have hB := (E.1.2.2.2.1 n v hT).2.2.2.2.2.2.2.2.1
  have R0 := HR.1; have R_kinds := rn_kinds HR; have R_bitsOf := rn_bitsOf HR
  refine cg 6 (by omega) (fun d hd => ?_)
  have hd0 : (0 < d) = True := eq_true (by omega)
  -- the last stage
  have s3 : ∀ (h3 : mH) (u3 : aU), chJ (sR r sEN) h h3 → RU r h3 u3 → (∀ h', chJ (sR r sEN) h h' → RU r h' (vs3 L T here K pr v w P u3) → C (some (.inl 0)) h') → wp G d 140 76 [some (.inr (.inl (some r))), some (.inl (n : Int)), some (.inl 0)] [] h3 0 0 C (fun _ _ => False) := by
    intro h3 u3 q3 U3 hC3
    have G3 := RG_ch q3 (by simp [sEN]) HG
    have Q3 := RQ_ch q3 (by simp [sEN]) HQ
    have R03 := G3.1.1.1
    have f37 := G3.2.2.2.2.2.2
    obtain ⟨A3, c21⟩ := U3
    have f40 := A3.2.2.1
    unfold vs3 at hC3
    cases hdp : dpK K with
    | false =>
      rw [hdp] at f37
      rw [hdp, if_neg (by simp)] at hC3
      simp [b01] at f37
      have hz := hC3 h3 q3 ⟨A3, c21⟩
      (repeat' (first | with_reducible assumption | (refine And.intro ?_ ?_) | (with_reducible intro _) | (simp [wp_eq, wpE, mk_X11_enter, mg, mc_X11_enter, lget, lset, popN, cats, rcv, entL, isArr, kC_s, kC_n, st1, st2, st3, st4, st5, st6, st7, st8, st9, st10, st11, st12, st13, st14, st15, st16, st17, st18, st19, st20, st21, st22, st23, st24, st25, st26, st27, st28, st29, st30, st31, st32, st33, st34, st35, st36, st37, st38, st39, st40, st41, st42, st43, st44, st45, st46, st47, st48, st49, st50, st51, st52, st53, st54, st55, st56, st57, st58, st59, st60, st61, st62, st63, st64, st65, st66, st67, st68, st69, st70, st71, st72, st73, st74, st75, st76, st77, st78, st79, st80, st81, st82, st83, st84, st85, st86, st87, st88, st89, st90, st91, R03, f37]))) <;> (try (first | omega | exact hz))
    | true =>
      rw [hdp] at f37
      simp [b01] at f37
      cases hf3 : u3.1.2.2.2 with
      | true =>
        simp only [hf3] at f40
        rw [hdp, hf3, if_neg (by simp)] at hC3
        simp [b01] at f40
        have hz := hC3 h3 q3 ⟨A3, c21⟩
        (repeat' (first | with_reducible assumption | (refine And.intro ?_ ?_) | (with_reducible intro _) | (simp [wp_eq, wpE, mk_X11_enter, mg, mc_X11_enter, lget, lset, popN, cats, rcv, entL, isArr, kC_s, kC_n, st1, st2, st3, st4, st5, st6, st7, st8, st9, st10, st11, st12, st13, st14, st15, st16, st17, st18, st19, st20, st21, st22, st23, st24, st25, st26, st27, st28, st29, st30, st31, st32, st33, st34, st35, st36, st37, st38, st39, st40, st41, st42, st43, st44, st45, st46, st47, st48, st49, st50, st51, st52, st53, st54, st55, st56, st57, st58, st59, st60, st61, st62, st63, st64, st65, st66, st67, st68, st69, st70, st71, st72, st73, st74, st75, st76, st77, st78, st79, st80, st81, st82, st83, st84, st85, st86, st87, st88, st89, st90, st91, R03, f37, f40]))) <;> (try (first | omega | exact hz))
      | false =>
        simp only [hf3] at f40
        rw [hdp, hf3, if_pos (by simp)] at hC3
        simp [b01] at f40
        simp [wp_eq, wpE, mk_X11_enter, mg, mc_X11_enter, lget, lset, popN, cats, rcv, entL, isArr, kC_s, kC_n, st1, st2, st3, st4, st5, st6, st7, st8, st9, st10, st11, st12, st13, st14, st15, st16, st17, st18, st19, st20, st21, st22, st23, st24, st25, st26, st27, st28, st29, st30, st31, st32, st33, st34, st35, st36, st37, st38, st39, st40, st41, st42, st43, st44, st45, st46, st47, st48, st49, st50, st51, st52, st53, st54, st55, st56, st57, st58, st59, st60, st61, st62, st63, st64, st65, st66, st67, st68, st69, st70, st71, st72, st73, st74, st75, st76, st77, st78, st79, st80, st81, st82, st83, st84, st85, st86, st87, st88, st89, st90, st91, R03, f37, f40, hd0]
        refine r_ask (by omega) E hK G3 hT Q3 hw hsg hnn hfn bP hPl A3 (fun zzh zz1 zz2 => ?_)
        have hz := hC3 zzh (chJ_trans q3 (chJ_sub zz1 (by simp [sAS, sEN]))) ⟨by
          have e1 := asN_ind (L := L) (T := T) (here := here) (K := K) (pr := pr) (v := v) (w := w) (P := P) u3.1.1 u3.1.2
          show RAw r zzh (asN L T here K pr v w P u3.1).2
          rw [show u3.1 = (u3.1.1, u3.1.2) from rfl, e1]
          exact zz2.2, by
          show hvi zzh r 21 = u3.2
          rw [chJ_fld zz1 (by simp [sAS]) (by simp [sAS])]; exact c21⟩
        (repeat' (first | with_reducible assumption | (refine And.intro ?_ ?_) | (with_reducible intro _) | (simp [wp_eq, wpE, mk_X11_enter, mg, mc_X11_enter, lget, lset, popN, cats, rcv, entL, isArr, kC_s, kC_n, st1, st2, st3, st4, st5, st6, st7, st8, st9, st10, st11, st12, st13, st14, st15, st16, st17, st18, st19, st20, st21, st22, st23, st24, st25, st26, st27, st28, st29, st30, st31, st32, st33, st34, st35, st36, st37, st38, st39, st40, st41, st42, st43, st44, st45, st46, st47, st48, st49, st50, st51, st52, st53, st54, st55, st56, st57, st58, st59, st60, st61, st62, st63, st64, st65, st66, st67, st68, st69, st70, st71, st72, st73, st74, st75, st76, st77, st78, st79, st80, st81, st82, st83, st84, st85, st86, st87, st88, st89, st90, st91]))) <;> (try (first | omega | exact hz))
  -- the stage in the middle
  have s2 : ∀ (h2 : mH), chJ (sR r sEN) h h2 → RAw r h2 (vs1 L T here K pr v w P u.1).2 → (dpK K = false → hvi h2 r 41 = b01 (vs1 L T here K pr v w P u.1).1) → hvi h2 r 21 = u.2 → wp G d 140 12 [some (.inr (.inl (some r))), some (.inl (n : Int)), none] [] h2 0 0 C (fun _ _ => False) := by
    intro h2 q2 A2 hx c21
    have G2 := RG_ch q2 (by simp [sEN]) HG
    have HR2 := G2.1.1
    have R0 := HR2.1; have R_kinds := rn_kinds HR2; have R_bitsOf := rn_bitsOf HR2
    have f37 := G2.2.2.2.2.2.2
    have f40 := A2.2.2.1
    have HT2 := G2.1.2.2.2.1
    have k1 : hvi h2 (r + 1) n = nK v := by rw [HT2.2.1 n hn, tK_some hT]
    have U2 : RU r h2 (vs1 L T here K pr v w P u.1, u.2) := ⟨A2, c21⟩
    have fin : ¬ (nK v = 0 ∧ ¬ ((vs1 L T here K pr v w P u.1).1 = true ∧ dpK K = false) ∧ (vs1 L T here K pr v w P u.1).2.2.2 = false) → wp G d 140 76 [some (.inr (.inl (some r))), some (.inl (n : Int)), some (.inl 0)] [] h2 0 0 C (fun _ _ => False) := fun hno => s3 h2 _ q2 U2 (fun h' p1 p2 => hC0 h' p1 (by unfold vs2; rw [if_neg hno]; exact p2))
    by_cases hk : nK v = 0
    · have k5 : hvi h2 (r + 5) n = nB v := ((HT2.2.2 n v hn hT).2.2.2.1 hk).1
      cases hf2 : (vs1 L T here K pr v w P u.1).2.2.2 with
      | true =>
        have hz := fin (fun q => by rw [hf2] at q; simp at q)
        simp only [hf2] at f40
        simp [b01] at f40
        cases hdp : dpK K with
        | true =>
          rw [hdp] at f37
          simp [b01] at f37
          (repeat' (first | with_reducible assumption | (refine And.intro ?_ ?_) | (with_reducible intro _) | (simp [wp_ne 76, wpE, mk_X11_enter, mg, mc_X11_enter, lget, lset, popN, cats, rcv, entL, isArr, kC_s, kC_n, st1, st2, st3, st4, st5, st6, st7, st8, st9, st10, st11, st12, st13, st14, st15, st16, st17, st18, st19, st20, st21, st22, st23, st24, st25, st26, st27, st28, st29, st30, st31, st32, st33, st34, st35, st36, st37, st38, st39, st40, st41, st42, st43, st44, st45, st46, st47, st48, st49, st50, st51, st52, st53, st54, st55, st56, st57, st58, st59, st60, st61, st62, st63, st64, st65, st66, st67, st68, st69, st70, st71, st72, st73, st74, st75, st76, st77, st78, st79, st80, st81, st82, st83, st84, st85, st86, st87, st88, st89, st90, st91, R0, R_kinds, R_bitsOf, k1, hk, f37, f40]))) <;> (try (first | omega | exact hz))
        | false =>
          have f41 := hx hdp
          rw [hdp] at f37
          simp [b01] at f37
          cases hp1 : (vs1 L T here K pr v w P u.1).1
          all_goals
            rw [hp1] at f41
            simp [b01] at f41
            (repeat' (first | with_reducible assumption | (refine And.intro ?_ ?_) | (with_reducible intro _) | (simp [wp_ne 76, wpE, mk_X11_enter, mg, mc_X11_enter, lget, lset, popN, cats, rcv, entL, isArr, kC_s, kC_n, st1, st2, st3, st4, st5, st6, st7, st8, st9, st10, st11, st12, st13, st14, st15, st16, st17, st18, st19, st20, st21, st22, st23, st24, st25, st26, st27, st28, st29, st30, st31, st32, st33, st34, st35, st36, st37, st38, st39, st40, st41, st42, st43, st44, st45, st46, st47, st48, st49, st50, st51, st52, st53, st54, st55, st56, st57, st58, st59, st60, st61, st62, st63, st64, st65, st66, st67, st68, st69, st70, st71, st72, st73, st74, st75, st76, st77, st78, st79, st80, st81, st82, st83, st84, st85, st86, st87, st88, st89, st90, st91, R0, R_kinds, R_bitsOf, k1, hk, f37, f40, f41]))) <;> (try (first | omega | exact hz))
      | false =>
        simp only [hf2] at f40
        simp [b01] at f40
        by_cases hgo : (vs1 L T here K pr v w P u.1).1 = true ∧ dpK K = false
        · have f41 := hx hgo.2
          have hz := fin (fun q => q.2.1 hgo)
          rw [hgo.2] at f37
          rw [hgo.1] at f41
          simp [b01] at f37 f41
          (repeat' (first | with_reducible assumption | (refine And.intro ?_ ?_) | (with_reducible intro _) | (simp [wp_ne 76, wpE, mk_X11_enter, mg, mc_X11_enter, lget, lset, popN, cats, rcv, entL, isArr, kC_s, kC_n, st1, st2, st3, st4, st5, st6, st7, st8, st9, st10, st11, st12, st13, st14, st15, st16, st17, st18, st19, st20, st21, st22, st23, st24, st25, st26, st27, st28, st29, st30, st31, st32, st33, st34, st35, st36, st37, st38, st39, st40, st41, st42, st43, st44, st45, st46, st47, st48, st49, st50, st51, st52, st53, st54, st55, st56, st57, st58, st59, st60, st61, st62, st63, st64, st65, st66, st67, st68, st69, st70, st71, st72, st73, st74, st75, st76, st77, st78, st79, st80, st81, st82, st83, st84, st85, st86, st87, st88, st89, st90, st91, R0, R_kinds, R_bitsOf, k1, hk, f37, f40, f41]))) <;> (try (first | omega | exact hz))
        · have hyes : nK v = 0 ∧ ¬ ((vs1 L T here K pr v w P u.1).1 = true ∧ dpK K = false) ∧ (vs1 L T here K pr v w P u.1).2.2.2 = false := ⟨hk, hgo, hf2⟩
          have st49 : wp G d 140 47 [some (.inr (.inl (some r))), some (.inl (n : Int)), none] [.inl 1] h2 0 0 C (fun _ _ => False) := by
            by_cases hnr : nrt v
            · have b5 : ¬ bAnd (nB v) 5 = 5 := fun q => (bits5 hB).mp q hnr
              have q3 : chJ (sR r sEN) h (hsetI h2 r 21 (u.2 + 1)) := chJ_trans q2 (chJ_set (by simp [sR, sEN]))
              have hz := s3 (hsetI h2 r 21 (u.2 + 1)) (vs1 L T here K pr v w P u.1, u.2 + 1) q3 ⟨RAw_ch (l := [121]) (chJ_set (by simp [sR])) (by simp) A2, by rw [hvi_I, if_pos ⟨rfl, rfl⟩]⟩ (fun h' p1 p2 => hC0 h' p1 (by unfold vs2; rw [if_pos hyes]; unfold bel; rw [if_pos hnr]; exact p2))
              (repeat' (first | with_reducible assumption | (refine And.intro ?_ ?_) | (with_reducible intro _) | (simp [wp_ne 76, wpE, mk_X11_enter, mg, mc_X11_enter, lget, lset, popN, cats, rcv, entL, isArr, kC_s, kC_n, st1, st2, st3, st4, st5, st6, st7, st8, st9, st10, st11, st12, st13, st14, st15, st16, st17, st18, st19, st20, st21, st22, st23, st24, st25, st26, st27, st28, st29, st30, st31, st32, st33, st34, st35, st36, st37, st38, st39, st40, st41, st42, st43, st44, st45, st46, st47, st48, st49, st50, st51, st52, st53, st54, st55, st56, st57, st58, st59, st60, st61, st62, st63, st64, st65, st66, st67, st68, st69, st70, st71, st72, st73, st74, st75, st76, st77, st78, st79, st80, st81, st82, st83, st84, st85, st86, st87, st88, st89, st90, st91, R0, R_kinds, R_bitsOf, k5, b5, c21, hty_I, hvi_I, hvr_I, hvl_I, hsz_I, hty_R, hvi_R, hvr_R, hvl_R, hsz_R, hty_L, hvi_L, hvr_L, hvl_L, hsz_L, hty_P, hvi_P, hvr_P, hvl_P, hsz_P, hty_C, hvi_C, hvr_C, hvl_C, hsz_C, inR]))) <;> (try (first | omega | exact hz))
            · have b5 : bAnd (nB v) 5 = 5 := (bits5 hB).mpr hnr
              have hz := hC1 hk hnr (by unfold vs2; rw [if_pos hyes]; unfold bel; rw [if_neg hnr]) h2 q2 U2
              (repeat' (first | with_reducible assumption | (refine And.intro ?_ ?_) | (with_reducible intro _) | (simp [wp_eq, wpE, mk_X11_enter, mg, mc_X11_enter, lget, lset, popN, cats, rcv, entL, isArr, kC_s, kC_n, st1, st2, st3, st4, st5, st6, st7, st8, st9, st10, st11, st12, st13, st14, st15, st16, st17, st18, st19, st20, st21, st22, st23, st24, st25, st26, st27, st28, st29, st30, st31, st32, st33, st34, st35, st36, st37, st38, st39, st40, st41, st42, st43, st44, st45, st46, st47, st48, st49, st50, st51, st52, st53, st54, st55, st56, st57, st58, st59, st60, st61, st62, st63, st64, st65, st66, st67, st68, st69, st70, st71, st72, st73, st74, st75, st76, st77, st78, st79, st80, st81, st82, st83, st84, st85, st86, st87, st88, st89, st90, st91, R0, R_kinds, R_bitsOf, k5, b5]))) <;> (try (first | omega | exact hz))
          have hz := st49
          cases hdp : dpK K with
          | true =>
            rw [hdp] at f37
            simp [b01] at f37
            (repeat' (first | with_reducible assumption | (refine And.intro ?_ ?_) | (with_reducible intro _) | (simp [wp_ne 47, wpE, mk_X11_enter, mg, mc_X11_enter, lget, lset, popN, cats, rcv, entL, isArr, kC_s, kC_n, st1, st2, st3, st4, st5, st6, st7, st8, st9, st10, st11, st12, st13, st14, st15, st16, st17, st18, st19, st20, st21, st22, st23, st24, st25, st26, st27, st28, st29, st30, st31, st32, st33, st34, st35, st36, st37, st38, st39, st40, st41, st42, st43, st44, st45, st46, st47, st48, st49, st50, st51, st52, st53, st54, st55, st56, st57, st58, st59, st60, st61, st62, st63, st64, st65, st66, st67, st68, st69, st70, st71, st72, st73, st74, st75, st76, st77, st78, st79, st80, st81, st82, st83, st84, st85, st86, st87, st88, st89, st90, st91, R0, R_kinds, R_bitsOf, k1, hk, f37, f40]))) <;> (try (first | omega | exact hz))
          | false =>
            have hxf : (vs1 L T here K pr v w P u.1).1 = false := by
              cases hp1 : (vs1 L T here K pr v w P u.1).1 with
              | false => rfl
              | true => exact absurd ⟨hp1, hdp⟩ hgo
            have f41 := hx hdp
            rw [hdp] at f37
            rw [hxf] at f41
            simp [b01] at f37 f41
            (repeat' (first | with_reducible assumption | (refine And.intro ?_ ?_) | (with_reducible intro _) | (simp [wp_ne 47, wpE, mk_X11_enter, mg, mc_X11_enter, lget, lset, popN, cats, rcv, entL, isArr, kC_s, kC_n, st1, st2, st3, st4, st5, st6, st7, st8, st9, st10, st11, st12, st13, st14, st15, st16, st17, st18, st19, st20, st21, st22, st23, st24, st25, st26, st27, st28, st29, st30, st31, st32, st33, st34, st35, st36, st37, st38, st39, st40, st41, st42, st43, st44, st45, st46, st47, st48, st49, st50, st51, st52, st53, st54, st55, st56, st57, st58, st59, st60, st61, st62, st63, st64, st65, st66, st67, st68, st69, st70, st71, st72, st73, st74, st75, st76, st77, st78, st79, st80, st81, st82, st83, st84, st85, st86, st87, st88, st89, st90, st91, R0, R_kinds, R_bitsOf, k1, hk, f37, f40, f41]))) <;> (try (first | omega | exact hz))
    · have hz := fin (fun q => hk q.1)
      (repeat' (first | with_reducible assumption | (refine And.intro ?_ ?_) | (with_reducible intro _) | (simp [wp_ne 76, wpE, mk_X11_enter, mg, mc_X11_enter, lget, lset, popN, cats, rcv, entL, isArr, kC_s, kC_n, st1, st2, st3, st4, st5, st6, st7, st8, st9, st10, st11, st12, st13, st14, st15, st16, st17, st18, st19, st20, st21, st22, st23, st24, st25, st26, st27, st28, st29, st30, st31, st32, st33, st34, st35, st36, st37, st38, st39, st40, st41, st42, st43, st44, st45, st46, st47, st48, st49, st50, st51, st52, st53, st54, st55, st56, st57, st58, st59, st60, st61, st62, st63, st64, st65, st66, st67, st68, st69, st70, st71, st72, st73, st74, st75, st76, st77, st78, st79, st80, st81, st82, st83, st84, st85, st86, st87, st88, st89, st90, st91, R0, R_kinds, R_bitsOf, k1, hk]))) <;> (try (first | omega | exact hz))
  obtain ⟨HA, c21⟩ := HU
  have f37 := HG.2.2.2.2.2.2
  cases hdp : dpK K with
  | true =>
    rw [hdp] at f37
    simp [b01] at f37
    have e1 : (vs1 L T here K pr v w P u.1).2 = u.1.2 := by unfold vs1; rw [hdp, if_pos rfl]
    have hz := s2 h chJ_refl (by rw [e1]; exact HA) (fun q => by rw [hdp] at q; cases q) c21
    (repeat' (first | with_reducible assumption | (refine And.intro ?_ ?_) | (with_reducible intro _) | (simp [wp_ne 12, wpE, mk_X11_enter, mg, mc_X11_enter, lget, lset, popN, cats, rcv, entL, isArr, kC_s, kC_n, st1, st2, st3, st4, st5, st6, st7, st8, st9, st10, st11, st12, st13, st14, st15, st16, st17, st18, st19, st20, st21, st22, st23, st24, st25, st26, st27, st28, st29, st30, st31, st32, st33, st34, st35, st36, st37, st38, st39, st40, st41, st42, st43, st44, st45, st46, st47, st48, st49, st50, st51, st52, st53, st54, st55, st56, st57, st58, st59, st60, st61, st62, st63, st64, st65, st66, st67, st68, st69, st70, st71, st72, st73, st74, st75, st76, st77, st78, st79, st80, st81, st82, st83, st84, st85, st86, st87, st88, st89, st90, st91, R0, R_kinds, R_bitsOf, f37]))) <;> (try (first | omega | exact hz))
  | false =>
    rw [hdp] at f37
    simp [b01] at f37
    have e1 : vs1 L T here K pr v w P u.1 = asN L T here K pr v w P (false, u.1.2) := by unfold vs1; rw [hdp, if_neg (by simp)]
    simp [wp_ne 12, wpE, mk_X11_enter, mg, mc_X11_enter, lget, lset, popN, cats, rcv, entL, isArr, kC_s, kC_n, st1, st2, st3, st4, st5, st6, st7, st8, st9, st10, st11, st12, st13, st14, st15, st16, st17, st18, st19, st20, st21, st22, st23, st24, st25, st26, st27, st28, st29, st30, st31, st32, st33, st34, st35, st36, st37, st38, st39, st40, st41, st42, st43, st44, st45, st46, st47, st48, st49, st50, st51, st52, st53, st54, st55, st56, st57, st58, st59, st60, st61, st62, st63, st64, st65, st66, st67, st68, st69, st70, st71, st72, st73, st74, st75, st76, st77, st78, st79, st80, st81, st82, st83, st84, st85, st86, st87, st88, st89, st90, st91, R0, f37, hd0]
    refine r_ask (by omega) E hK HG hT HQ hw hsg hnn hfn bP hPl HA (fun zzh zz1 zz2 => ?_)
    have hz := s2 zzh (chJ_sub zz1 (by simp [sAS, sEN])) (by rw [e1]; exact zz2.2) (fun _ => by rw [e1]; exact zz2.1) (by rw [chJ_fld zz1 (by simp [sAS]) (by simp [sAS])]; exact c21)
    (repeat' (first | with_reducible assumption | (refine And.intro ?_ ?_) | (with_reducible intro _) | (simp [wp_ne 12, wpE, mk_X11_enter, mg, mc_X11_enter, lget, lset, popN, cats, rcv, entL, isArr, kC_s, kC_n, st1, st2, st3, st4, st5, st6, st7, st8, st9, st10, st11, st12, st13, st14, st15, st16, st17, st18, st19, st20, st21, st22, st23, st24, st25, st26, st27, st28, st29, st30, st31, st32, st33, st34, st35, st36, st37, st38, st39, st40, st41, st42, st43, st44, st45, st46, st47, st48, st49, st50, st51, st52, st53, st54, st55, st56, st57, st58, st59, st60, st61, st62, st63, st64, st65, st66, st67, st68, st69, st70, st71, st72, st73, st74, st75, st76, st77, st78, st79, st80, st81, st82, st83, st84, st85, st86, st87, st88, st89, st90, st91]))) <;> (try (first | omega | exact hz))
