theorem r_compares {G : Nat → Nat} {d r k : Nat} {h : mH} {L : List Int} {C : mQ} {X : mX} {v nm sg : Int} (HR : RN r h) (hl : L.length ≤ 100) (HP : RP r h L) (H : RW r h L) (hk : k < (wds L).length) (hnb : nbr (wd L k) = some (nm, sg)) (hC : C (some (.inl (b01 (cmpS sg v nm)))) h) :
    callG (wp G) d 134 0 0 7 [.inr (.inl (some r)), .inl v, .inl (k : Int)] h C X := by
  have R0 := HR.1; have R_line := rn_line HR; have R_begins := rn_begins HR; have R_ends := rn_ends HR
  have h1 := (H.2 k hk).1
  have h2 := (H.2 k hk).2
  have h3 := wS_le L k
  have h4 := wd_len L k
  have h5 := wds_len hl
  have hw := wds_at hk
  have c0 := RP_wd (k := k) (i := 0) hl HP (by omega)
  simp only [Nat.add_zero] at c0
  unfold nbr at hnb
  refine ⟨C, fun _ _ => False, ?_, fun _ _ q => q, fun _ _ q => q.elim⟩
  have go : ∀ (i : Nat) (x3 : Option mV), i ≤ (wd L k).length → i = (if sgd (wd L k) then 1 else 0) → wp G (d - 1) 134 100043 [some (.inr (.inl (some r))), some (.inl v), some (.inl (k : Int)), x3, some (.inl (lf (wd L k) 0)), some (.inl 0), some (.inl ((wS L k : Int) + (i : Int)))] [] h 0 0 C (fun _ _ => False) := by
    intro i x3 hi he
    rw [← he] at hnb
    by_cases hq : 1 ≤ ((wd L k).drop i).length ∧ ((wd L k).drop i).length ≤ 6 ∧ ((wd L k).drop i).all dig = true
    · rw [if_pos hq] at hnb
      injection hnb with hnb
      injection hnb with e1 e2
      have hdl : ((wd L k).drop i).length = (wd L k).length - i := by simp
      refine rc_loop HR hl HP H hk ((wd L k).length - i) i 0 (by omega) (by omega) (by omega) (Bm_0 _ (by omega)) hq.2.2 (fun x6 => ?_)
      rw [e1]
      by_cases s1 : lf (wd L k) 0 = 43
      · have hsg : sg = 43 := by rw [← e2]; simp [sgd, s1]
        unfold cmpS at hC
        rw [if_pos hsg] at hC
        by_cases hv : nm < v
        · simp [hv, b01] at hC
          (repeat' (first | with_reducible assumption | (refine And.intro ?_ ?_) | (with_reducible intro _) | (simp [wp_eq, wpE, mk_X11_compares, mg, mc_X11_compares, lget, lset, popN, cats, rcv, entL, isArr, kC_s, kC_n, st1, st2, st3, st4, st5, st6, st7, st8, st9, st10, st11, st12, st13, st14, st15, st16, st17, st18, st19, st20, st21, st22, st23, st24, st25, st26, st27, st28, st29, st30, st31, st32, st33, st34, st35, st36, st37, st38, st39, st40, st41, st42, st43, st44, st45, st46, st47, st48, st49, st50, st51, st52, st53, st54, st55, st56, st57, st58, st59, st60, st61, st62, st63, st64, st65, st66, st67, st68, st69, st70, st71, st72, st73, st74, st75, st76, st77, st78, st79, st80, st81, st82, st83, st84, st85, st86, st87, st88, st89, st90, st91, R0, R_line, R_begins, R_ends, s1, hv]))) <;> (try (first | omega | exact hz))
        · simp [hv, b01] at hC
          (repeat' (first | with_reducible assumption | (refine And.intro ?_ ?_) | (with_reducible intro _) | (simp [wp_eq, wpE, mk_X11_compares, mg, mc_X11_compares, lget, lset, popN, cats, rcv, entL, isArr, kC_s, kC_n, st1, st2, st3, st4, st5, st6, st7, st8, st9, st10, st11, st12, st13, st14, st15, st16, st17, st18, st19, st20, st21, st22, st23, st24, st25, st26, st27, st28, st29, st30, st31, st32, st33, st34, st35, st36, st37, st38, st39, st40, st41, st42, st43, st44, st45, st46, st47, st48, st49, st50, st51, st52, st53, st54, st55, st56, st57, st58, st59, st60, st61, st62, st63, st64, st65, st66, st67, st68, st69, st70, st71, st72, st73, st74, st75, st76, st77, st78, st79, st80, st81, st82, st83, st84, st85, st86, st87, st88, st89, st90, st91, R0, R_line, R_begins, R_ends, s1, hv]))) <;> (try (first | omega | exact hz))
      · by_cases s2 : lf (wd L k) 0 = 45
        · have hsg : sg = 45 := by rw [← e2]; simp [sgd, s2]
          unfold cmpS at hC
          rw [if_neg (by omega), if_pos hsg] at hC
          by_cases hv : v < nm
          · simp [hv, b01] at hC
            (repeat' (first | with_reducible assumption | (refine And.intro ?_ ?_) | (with_reducible intro _) | (simp [wp_eq, wpE, mk_X11_compares, mg, mc_X11_compares, lget, lset, popN, cats, rcv, entL, isArr, kC_s, kC_n, st1, st2, st3, st4, st5, st6, st7, st8, st9, st10, st11, st12, st13, st14, st15, st16, st17, st18, st19, st20, st21, st22, st23, st24, st25, st26, st27, st28, st29, st30, st31, st32, st33, st34, st35, st36, st37, st38, st39, st40, st41, st42, st43, st44, st45, st46, st47, st48, st49, st50, st51, st52, st53, st54, st55, st56, st57, st58, st59, st60, st61, st62, st63, st64, st65, st66, st67, st68, st69, st70, st71, st72, st73, st74, st75, st76, st77, st78, st79, st80, st81, st82, st83, st84, st85, st86, st87, st88, st89, st90, st91, R0, R_line, R_begins, R_ends, s2, hv]))) <;> (try (first | omega | exact hz))
          · simp [hv, b01] at hC
            (repeat' (first | with_reducible assumption | (refine And.intro ?_ ?_) | (with_reducible intro _) | (simp [wp_eq, wpE, mk_X11_compares, mg, mc_X11_compares, lget, lset, popN, cats, rcv, entL, isArr, kC_s, kC_n, st1, st2, st3, st4, st5, st6, st7, st8, st9, st10, st11, st12, st13, st14, st15, st16, st17, st18, st19, st20, st21, st22, st23, st24, st25, st26, st27, st28, st29, st30, st31, st32, st33, st34, st35, st36, st37, st38, st39, st40, st41, st42, st43, st44, st45, st46, st47, st48, st49, st50, st51, st52, st53, st54, st55, st56, st57, st58, st59, st60, st61, st62, st63, st64, st65, st66, st67, st68, st69, st70, st71, st72, st73, st74, st75, st76, st77, st78, st79, st80, st81, st82, st83, st84, st85, st86, st87, st88, st89, st90, st91, R0, R_line, R_begins, R_ends, s2, hv]))) <;> (try (first | omega | exact hz))
        · have hsg : sg = 61 := by rw [← e2]; simp [sgd, s1, s2]
          unfold cmpS at hC
          rw [if_neg (by omega), if_neg (by omega)] at hC
          by_cases hv : v = nm
          · simp [hv, b01] at hC
            (repeat' (first | with_reducible assumption | (refine And.intro ?_ ?_) | (with_reducible intro _) | (simp [wp_eq, wpE, mk_X11_compares, mg, mc_X11_compares, lget, lset, popN, cats, rcv, entL, isArr, kC_s, kC_n, st1, st2, st3, st4, st5, st6, st7, st8, st9, st10, st11, st12, st13, st14, st15, st16, st17, st18, st19, st20, st21, st22, st23, st24, st25, st26, st27, st28, st29, st30, st31, st32, st33, st34, st35, st36, st37, st38, st39, st40, st41, st42, st43, st44, st45, st46, st47, st48, st49, st50, st51, st52, st53, st54, st55, st56, st57, st58, st59, st60, st61, st62, st63, st64, st65, st66, st67, st68, st69, st70, st71, st72, st73, st74, st75, st76, st77, st78, st79, st80, st81, st82, st83, st84, st85, st86, st87, st88, st89, st90, st91, R0, R_line, R_begins, R_ends, s1, s2, hv]))) <;> (try (first | omega | exact hz))
          · simp [hv, b01] at hC
            (repeat' (first | with_reducible assumption | (refine And.intro ?_ ?_) | (with_reducible intro _) | (simp [wp_eq, wpE, mk_X11_compares, mg, mc_X11_compares, lget, lset, popN, cats, rcv, entL, isArr, kC_s, kC_n, st1, st2, st3, st4, st5, st6, st7, st8, st9, st10, st11, st12, st13, st14, st15, st16, st17, st18, st19, st20, st21, st22, st23, st24, st25, st26, st27, st28, st29, st30, st31, st32, st33, st34, st35, st36, st37, st38, st39, st40, st41, st42, st43, st44, st45, st46, st47, st48, st49, st50, st51, st52, st53, st54, st55, st56, st57, st58, st59, st60, st61, st62, st63, st64, st65, st66, st67, st68, st69, st70, st71, st72, st73, st74, st75, st76, st77, st78, st79, st80, st81, st82, st83, st84, st85, st86, st87, st88, st89, st90, st91, R0, R_line, R_begins, R_ends, s1, s2, hv]))) <;> (try (first | omega | exact hz))
    · rw [if_neg hq] at hnb; cases hnb
  by_cases s1 : lf (wd L k) 0 = 43
  · have hz := fun x3 => go 1 x3 (by omega) (by simp [sgd, s1])
    simp [s1] at hz
    (repeat' (first | with_reducible assumption | (refine And.intro ?_ ?_) | (with_reducible intro _) | (simp [wp_eq, wpE, mk_X11_compares, mg, mc_X11_compares, lget, lset, popN, cats, rcv, entL, isArr, kC_s, kC_n, st1, st2, st3, st4, st5, st6, st7, st8, st9, st10, st11, st12, st13, st14, st15, st16, st17, st18, st19, st20, st21, st22, st23, st24, st25, st26, st27, st28, st29, st30, st31, st32, st33, st34, st35, st36, st37, st38, st39, st40, st41, st42, st43, st44, st45, st46, st47, st48, st49, st50, st51, st52, st53, st54, st55, st56, st57, st58, st59, st60, st61, st62, st63, st64, st65, st66, st67, st68, st69, st70, st71, st72, st73, st74, st75, st76, st77, st78, st79, st80, st81, st82, st83, st84, st85, st86, st87, st88, st89, st90, st91, R0, R_line, R_begins, R_ends, h1, h2, c0, s1, inR]))) <;> (try (first | omega | exact hz))
    all_goals exact hz _
  · by_cases s2 : lf (wd L k) 0 = 45
    · have hz := fun x3 => go 1 x3 (by omega) (by simp [sgd, s2])
      simp [s2] at hz
      (repeat' (first | with_reducible assumption | (refine And.intro ?_ ?_) | (with_reducible intro _) | (simp [wp_eq, wpE, mk_X11_compares, mg, mc_X11_compares, lget, lset, popN, cats, rcv, entL, isArr, kC_s, kC_n, st1, st2, st3, st4, st5, st6, st7, st8, st9, st10, st11, st12, st13, st14, st15, st16, st17, st18, st19, st20, st21, st22, st23, st24, st25, st26, st27, st28, st29, st30, st31, st32, st33, st34, st35, st36, st37, st38, st39, st40, st41, st42, st43, st44, st45, st46, st47, st48, st49, st50, st51, st52, st53, st54, st55, st56, st57, st58, st59, st60, st61, st62, st63, st64, st65, st66, st67, st68, st69, st70, st71, st72, st73, st74, st75, st76, st77, st78, st79, st80, st81, st82, st83, st84, st85, st86, st87, st88, st89, st90, st91, R0, R_line, R_begins, R_ends, h1, h2, c0, s2, inR]))) <;> (try (first | omega | exact hz))
      all_goals exact hz _
    · have hz := fun x3 => go 0 x3 (by omega) (by simp [sgd, s1, s2])
      simp at hz
      (repeat' (first | with_reducible assumption | (refine And.intro ?_ ?_) | (with_reducible intro _) | (simp [wp_eq, wpE, mk_X11_compares, mg, mc_X11_compares, lget, lset, popN, cats, rcv, entL, isArr, kC_s, kC_n, st1, st2, st3, st4, st5, st6, st7, st8, st9, st10, st11, st12, st13, st14, st15, st16, st17, st18, st19, st20, st21, st22, st23, st24, st25, st26, st27, st28, st29, st30, st31, st32, st33, st34, st35, st36, st37, st38, st39, st40, st41, st42, st43, st44, st45, st46, st47, st48, st49, st50, st51, st52, st53, st54, st55, st56, st57, st58, st59, st60, st61, st62, st63, st64, st65, st66, st67, st68, st69, st70, st71, st72, st73, st74, st75, st76, st77, st78, st79, st80, st81, st82, st83, st84, st85, st86, st87, st88, st89, st90, st91, R0, R_line, R_begins, R_ends, h1, h2, c0, s1, s2, inR]))) <;> (try (first | omega | exact hz))
      all_goals exact hz _
def RA (r : Nat) (h : mH) (s : aS) : Prop := hvi h r 41 = b01 s.1 ∧ RO r h s.2.1 ∧ hvi h r 39 = (s.2.2.1 : Int) ∧ hvi h r 40 = b01 s.2.2.2 ∧ s.2.2.1 ≤ s.2.1.length
def sPt : List Nat := [16, 120, 139, 140]
theorem rpr_loop {G : Nat → Nat} {d r : Nat} {C : mQ} {X : mX} {P O : List Int} (hd : 1 ≤ d) (bP : bd P) (hO : O.length + P.length + 1 ≤ 1500) : ∀ (m j : Nat) (h : mH), j + m = P.length → RN r h → hvi h r 43 = (P.length : Int) → ro h (r + 26) 0 P → P.length ≤ 1000 → RO r h (O ++ P.take j) → 
    (∀ h' x1, chJ (sR r [16, 120]) h h' → RO r h' (O ++ P) → wp G d 135 56 [some (.inr (.inl (some r))), x1] [] h' 0 0 C X) →
    wp G d 135 100032 [some (.inr (.inl (some r))), some (.inl (j : Int))] [] h 0 0 C X := by
  have hd0 : (0 < d) = True := eq_true (by omega)
  intro m
  induction m with
  | zero =>
    intro j h hj HR h43 hr hP HO hC
    have R0 := HR.1; have R_path := rn_path HR
    rw [List.take_of_length_le (by omega)] at HO
    have hz := fun x1 => hC h x1 chJ_refl HO
    rw [wp_hd]
    (repeat' (first | with_reducible assumption | (refine And.intro ?_ ?_) | (with_reducible intro _) | (simp [wp_ne 56, wpE, mk_X11_print, mg, mc_X11_print, lget, lset, popN, cats, rcv, entL, isArr, kC_s, kC_n, st1, st2, st3, st4, st5, st6, st7, st8, st9, st10, st11, st12, st13, st14, st15, st16, st17, st18, st19, st20, st21, st22, st23, st24, st25, st26, st27, st28, st29, st30, st31, st32, st33, st34, st35, st36, st37, st38, st39, st40, st41, st42, st43, st44, st45, st46, st47, st48, st49, st50, st51, st52, st53, st54, st55, st56, st57, st58, st59, st60, st61, st62, st63, st64, st65, st66, st67, st68, st69, st70, st71, st72, st73, st74, st75, st76, st77, st78, st79, st80, st81, st82, st83, st84, st85, st86, st87, st88, st89, st90, st91, R0, R_path, h43, show (P.length : Int) ≤ (j : Int) by omega]))) <;> (try (first | omega | exact hz))
    all_goals exact hz _
  | succ m ih =>
    intro j h hj HR h43 hr hP HO hC
    have R0 := HR.1; have R_path := rn_path HR
    have cj : hvi h (r + 26) j = lf P j := by have := hr j (by omega); simpa using this
    have htk : P.take (j + 1) = P.take j ++ [lf P j] := by
      rw [List.take_succ, List.getElem?_eq_getElem (show j < P.length by omega)]
      simp [lf, List.getElem?_eq_getElem (show j < P.length by omega)]
    have hbj : 0 ≤ lf P j ∧ lf P j < 256 := bP _ (by
      have : lf P j = P[j] := by simp [lf, List.getElem?_eq_getElem (show j < P.length by omega)]
      rw [this]; exact List.getElem_mem _)
    have cw : ∀ {C : mQ} {X : mX}, (∀ h', chJ (sR r [16, 120]) h h' → RO r h' (O ++ P.take (j + 1)) → C none h') → callG (wp G) d 122 0 0 2 [.inr (.inl (some r)), .inl (lf P j)] h C X := fun {C X} z => r_write HR HO (by simp; omega) hbj (fun h' q1 q2 => z h' q1 (by rw [htk, ← List.append_assoc]; exact q2))
    rw [wp_hd]
    simp [wp_ne 56, wpE, mk_X11_print, mg, mc_X11_print, lget, lset, popN, cats, rcv, entL, isArr, kC_s, kC_n, st1, st2, st3, st4, st5, st6, st7, st8, st9, st10, st11, st12, st13, st14, st15, st16, st17, st18, st19, st20, st21, st22, st23, st24, st25, st26, st27, st28, st29, st30, st31, st32, st33, st34, st35, st36, st37, st38, st39, st40, st41, st42, st43, st44, st45, st46, st47, st48, st49, st50, st51, st52, st53, st54, st55, st56, st57, st58, st59, st60, st61, st62, st63, st64, st65, st66, st67, st68, st69, st70, st71, st72, st73, st74, st75, st76, st77, st78, st79, st80, st81, st82, st83, st84, st85, st86, st87, st88, st89, st90, st91, R0, R_path, h43, cj, hd0, show ¬ (P.length : Int) ≤ (j : Int) by omega, show (j : Int) < 1000 by omega, show (j : Int) < (P.length : Int) by omega, show j < P.length by omega, show ¬ P.length ≤ j by omega]
    refine cw (fun zzh zz1 zz2 => ?_)
    have hz := ih (j + 1) zzh (by omega) (RN_ch zz1 HR) (by rw [chJ_fld zz1 (by simp) (by simp)]; exact h43) (fun i hi => by rw [chJ_row zz1 (by omega) (by simp)]; exact hr i hi) hP zz2 (fun h' x1 s1 s2 => hC h' x1 (chJ_trans zz1 s1) s2)
    (repeat' (first | with_reducible assumption | (refine And.intro ?_ ?_) | (with_reducible intro _) | (simp [wp_ne 56, wpE, mk_X11_print, mg, mc_X11_print, lget, lset, popN, cats, rcv, entL, isArr, kC_s, kC_n, st1, st2, st3, st4, st5, st6, st7, st8, st9, st10, st11, st12, st13, st14, st15, st16, st17, st18, st19, st20, st21, st22, st23, st24, st25, st26, st27, st28, st29, st30, st31, st32, st33, st34, st35, st36, st37, st38, st39, st40, st41, st42, st43, st44, st45, st46, st47, st48, st49, st50, st51, st52, st53, st54, st55, st56, st57, st58, st59, st60, st61, st62, st63, st64, st65, st66, st67, st68, st69, st70, st71, st72, st73, st74, st75, st76, st77, st78, st79, st80, st81, st82, st83, st84, st85, st86, st87, st88, st89, st90, st91, inR]))) <;> (try (first | omega | exact hz))
theorem r_print {G : Nat → Nat} {d r : Nat} {h : mH} {C : mQ} {X : mX} {P : List Int} {s : aS} (hd : 2 ≤ d) (HR : RN r h) (h43 : hvi h r 43 = (P.length : Int)) (hr : ro h (r + 26) 0 P) (bP : bd P) (hP : P.length ≤ 1000) (HA : RA r h s)
    (hC : ∀ h', chJ (sR r sPt) h h' → RA r h' (prt P s) → C none h') :
    callG (wp G) d 135 0 0 2 [.inr (.inl (some r))] h C X := by
  have R0 := HR.1; have R_path := rn_path HR
  obtain ⟨a1, a2, a3, a4, a5⟩ := HA
  have o1 := a2.1
  have o2 := a2.2.1
  unfold prt at hC
  have q40 : chJ (sR r sPt) h (hsetI h r 40 1) := chJ_set (by simp [sR, sPt])
  have k40 : ∀ s', s'.2.2.2 = true → s'.1 = s.1 → s'.2.1 = s.2.1 → s'.2.2.1 = s.2.2.1 → RA r (hsetI h r 40 1) s' := fun s' e1 e2 e3 e4 => ⟨by rw [hvi_I, if_neg (by omega), e2]; exact a1, by rw [e3]; exact RO_ch (l := [140]) (chJ_set (by simp [sR])) (by simp) a2, by rw [hvi_I, if_neg (by omega), e4]; exact a3, by rw [hvi_I, if_pos ⟨rfl, rfl⟩, e1]; rfl, by rw [e3, e4]; exact a5⟩
  refine cg 1 (by omega) (fun d hd => ?_)
  have hd0 : (0 < d) = True := eq_true (by omega)
  by_cases hfull : s.2.2.2 = true
  · rw [if_pos hfull] at hC
    rw [hfull] at a4
    simp [b01] at a4
    have hz := hC _ q40 (k40 s hfull rfl rfl rfl)
    (repeat' (first | with_reducible assumption | (refine And.intro ?_ ?_) | (with_reducible intro _) | (simp [wp_eq, wpE, mk_X11_print, mg, mc_X11_print, lget, lset, popN, cats, rcv, entL, isArr, kC_s, kC_n, st1, st2, st3, st4, st5, st6, st7, st8, st9, st10, st11, st12, st13, st14, st15, st16, st17, st18, st19, st20, st21, st22, st23, st24, st25, st26, st27, st28, st29, st30, st31, st32, st33, st34, st35, st36, st37, st38, st39, st40, st41, st42, st43, st44, st45, st46, st47, st48, st49, st50, st51, st52, st53, st54, st55, st56, st57, st58, st59, st60, st61, st62, st63, st64, st65, st66, st67, st68, st69, st70, st71, st72, st73, st74, st75, st76, st77, st78, st79, st80, st81, st82, st83, st84, st85, st86, st87, st88, st89, st90, st91, R0, R_path, a4, hty_I, hvi_I, hvr_I, hvl_I, hsz_I, hty_R, hvi_R, hvr_R, hvl_R, hsz_R, hty_L, hvi_L, hvr_L, hvl_L, hsz_L, hty_P, hvi_P, hvr_P, hvl_P, hsz_P, hty_C, hvi_C, hvr_C, hvl_C, hsz_C]))) <;> (try (first | omega | exact hz))
  · rw [if_neg hfull] at hC
    have hff : s.2.2.2 = false := by simpa using hfull
    rw [hff] at a4
    simp [b01] at a4
    by_cases hroom : s.2.1.length + P.length + 1 ≤ 1500
    · rw [if_pos hroom] at hC
      have hz := rpr_loop (G := G) (d := d) (C := C) (X := fun _ _ => False) (P := P) (O := s.2.1) (by omega) bP hroom P.length 0 h (by omega) HR h43 hr hP (by simpa using a2) (fun h1 x1 q1 O1 => by
        have HR1 := RN_ch q1 HR
        have R01 := HR1.1
        have cw : ∀ {C : mQ} {X : mX}, (∀ h', chJ (sR r [16, 120]) h1 h' → RO r h' (s.2.1 ++ P ++ [10]) → C none h') → callG (wp G) d 122 0 0 2 [.inr (.inl (some r)), .inl 10] h1 C X := fun {C X} z => r_write HR1 O1 (by simp; omega) (by omega) z
        simp [wp_eq, wpE, mk_X11_print, mg, mc_X11_print, lget, lset, popN, cats, rcv, entL, isArr, kC_s, kC_n, st1, st2, st3, st4, st5, st6, st7, st8, st9, st10, st11, st12, st13, st14, st15, st16, st17, st18, st19, st20, st21, st22, st23, st24, st25, st26, st27, st28, st29, st30, st31, st32, st33, st34, st35, st36, st37, st38, st39, st40, st41, st42, st43, st44, st45, st46, st47, st48, st49, st50, st51, st52, st53, st54, st55, st56, st57, st58, st59, st60, st61, st62, st63, st64, st65, st66, st67, st68, st69, st70, st71, st72, st73, st74, st75, st76, st77, st78, st79, st80, st81, st82, st83, st84, st85, st86, st87, st88, st89, st90, st91, R01, hd0]
        refine cw (fun zzh zz1 zz2 => ?_)
        have q2 := chJ_trans q1 zz1
        have R02 := (RN_ch q2 HR).1
        have l2 : hvi zzh r 39 = (s.2.2.1 : Int) := by rw [chJ_fld q2 (by simp) (by simp)]; exact a3
        have hz := hC (hsetI zzh r 39 ((s.2.2.1 : Int) + 1)) (chJ_trans (chJ_sub q2 (by simp [sPt])) (chJ_set (by simp [sR, sPt]))) ⟨by rw [hvi_I, if_neg (by omega), chJ_fld q2 (by simp) (by simp)]; exact a1, RO_ch (l := [139]) (chJ_set (by simp [sR])) (by simp) zz2, by rw [hvi_I, if_pos ⟨rfl, rfl⟩]; simp, by rw [hvi_I, if_neg (by omega), chJ_fld q2 (by simp) (by simp), a4]; rfl, by simp; omega⟩
        (repeat' (first | with_reducible assumption | (refine And.intro ?_ ?_) | (with_reducible intro _) | (simp [wp_eq, wpE, mk_X11_print, mg, mc_X11_print, lget, lset, popN, cats, rcv, entL, isArr, kC_s, kC_n, st1, st2, st3, st4, st5, st6, st7, st8, st9, st10, st11, st12, st13, st14, st15, st16, st17, st18, st19, st20, st21, st22, st23, st24, st25, st26, st27, st28, st29, st30, st31, st32, st33, st34, st35, st36, st37, st38, st39, st40, st41, st42, st43, st44, st45, st46, st47, st48, st49, st50, st51, st52, st53, st54, st55, st56, st57, st58, st59, st60, st61, st62, st63, st64, st65, st66, st67, st68, st69, st70, st71, st72, st73, st74, st75, st76, st77, st78, st79, st80, st81, st82, st83, st84, st85, st86, st87, st88, st89, st90, st91, R02, l2, inR]))) <;> (try (first | omega | exact hz)))
      (repeat' (first | with_reducible assumption | (refine And.intro ?_ ?_) | (with_reducible intro _) | (simp [wp_eq, wpE, mk_X11_print, mg, mc_X11_print, lget, lset, popN, cats, rcv, entL, isArr, kC_s, kC_n, st1, st2, st3, st4, st5, st6, st7, st8, st9, st10, st11, st12, st13, st14, st15, st16, st17, st18, st19, st20, st21, st22, st23, st24, st25, st26, st27, st28, st29, st30, st31, st32, st33, st34, st35, st36, st37, st38, st39, st40, st41, st42, st43, st44, st45, st46, st47, st48, st49, st50, st51, st52, st53, st54, st55, st56, st57, st58, st59, st60, st61, st62, st63, st64, st65, st66, st67, st68, st69, st70, st71, st72, st73, st74, st75, st76, st77, st78, st79, st80, st81, st82, st83, st84, st85, st86, st87, st88, st89, st90, st91, R0, R_path, a4, o1, h43, inR, show ((s.2.1.length : Int) + (P.length : Int)) + 1 ≤ 1500 by omega]))) <;> (try (first | omega | exact hz))
    · rw [if_neg hroom] at hC
      have hz := hC _ q40 (k40 _ rfl rfl rfl rfl)
      (repeat' (first | with_reducible assumption | (refine And.intro ?_ ?_) | (with_reducible intro _) | (simp [wp_eq, wpE, mk_X11_print, mg, mc_X11_print, lget, lset, popN, cats, rcv, entL, isArr, kC_s, kC_n, st1, st2, st3, st4, st5, st6, st7, st8, st9, st10, st11, st12, st13, st14, st15, st16, st17, st18, st19, st20, st21, st22, st23, st24, st25, st26, st27, st28, st29, st30, st31, st32, st33, st34, st35, st36, st37, st38, st39, st40, st41, st42, st43, st44, st45, st46, st47, st48, st49, st50, st51, st52, st53, st54, st55, st56, st57, st58, st59, st60, st61, st62, st63, st64, st65, st66, st67, st68, st69, st70, st71, st72, st73, st74, st75, st76, st77, st78, st79, st80, st81, st82, st83, st84, st85, st86, st87, st88, st89, st90, st91, R0, R_path, a4, o1, h43, hty_I, hvi_I, hvr_I, hvl_I, hsz_I, hty_R, hvi_R, hvr_R, hvl_R, hsz_R, hty_L, hvi_L, hvr_L, hvl_L, hsz_L, hty_P, hvi_P, hvr_P, hvl_P, hsz_P, hty_C, hvi_C, hvr_C, hvl_C, hsz_C, inR, show ¬ ((s.2.1.length : Int) + (P.length : Int)) + 1 ≤ 1500 by omega]))) <;> (try (first | omega | exact hz))
